theorem q_isSheet {k : Int32} (h : ¬ s_X12_isSheet k = 0) : 0 ≤ k.toInt ∧ k.toInt ≤ 3 := by
  unfold s_X12_isSheet at h; have := min_yes.mp h; rw [i32_w] at this; exact this
theorem q_isTray {k : Int32} (h : ¬ s_X12_isTray k = 0) : 0 ≤ k.toInt ∧ k.toInt ≤ 3 := by
  unfold s_X12_isTray at h; have := min_yes.mp h; rw [i32_w] at this; exact this
theorem q_isTwo {k : Int32} (h : ¬ s_X12_isTwo k = 0) : 0 ≤ k.toInt ∧ k.toInt ≤ 1 := by
  unfold s_X12_isTwo at h; have := min_yes.mp h; rw [i32_w] at this; exact this
theorem q_in {v lo hi : Int32} (h : ¬ s_X12_in v.toInt64 lo.toInt64 hi.toInt64 = 0) : lo.toInt ≤ v.toInt ∧ v.toInt ≤ hi.toInt := by
  have := min_yes.mp h; rw [i32_w, i32_w, i32_w] at this; exact this
theorem q_inL {v : Int32} {lo hi : Int64} (h : ¬ s_X12_in v.toInt64 lo hi = 0) : lo.toInt ≤ v.toInt ∧ v.toInt ≤ hi.toInt := by
  have := min_yes.mp h; rw [i32_w] at this; exact this
theorem in4 {k : Int32} (h : 0 ≤ k.toInt ∧ k.toInt ≤ 3) : vp_in k 4 := vin h.1 (by omega)
theorem in2 {k : Int32} (h : 0 ≤ k.toInt ∧ k.toInt ≤ 1) : vp_in k 2 := vin h.1 (by omega)
theorem cl4 {k : Int32} (h : 0 ≤ k.toInt ∧ k.toInt ≤ 3) : k.toNatClampNeg < 4 := by have := cl_toInt h.1; omega
theorem cl2 {k : Int32} (h : 0 ≤ k.toInt ∧ k.toInt ≤ 1) : k.toNatClampNeg < 2 := by have := cl_toInt h.1; omega
/-- a·s + i without overflow -/
theorem lin {a s i : Int32} (h0 : 0 ≤ a.toInt) (h1 : 0 ≤ s.toInt) (h2 : 0 ≤ i.toInt) (hb : a.toInt * s.toInt + i.toInt < 2147483648) : (a * s + i).toInt = a.toInt * s.toInt + i.toInt := by
  have h3 : 0 ≤ a.toInt * s.toInt := Int.mul_nonneg h0 h1
  have hm : (a * s).toInt = a.toInt * s.toInt := i32_mul (by omega) (by omega)
  rw [i32_add (by omega) (by omega), hm]
theorem in60 {s i : Int32} (hs : 0 ≤ s.toInt ∧ s.toInt ≤ 3) (h1 : 0 ≤ i.toInt) (h2 : i.toInt < 60) : vp_in (60 * s + i) 240 := by
  have e60 : (60 : Int32).toInt = 60 := rfl
  have h := lin (a := 60) (s := s) (i := i) (by omega) hs.1 h1 (by rw [e60]; omega)
  rw [e60] at h
  exact vin (by omega) (by omega)

set_option maxHeartbeats 1000000 in
set_option maxRecDepth 100000 in
theorem c_X12_finds {l : Launch} {D : va_G} {ca ss ad : Nat → Nat} {f : Nat → va_E} (v : Int32) (la : Int32) (dr : Int32) (go : Int32) (lo : Int32) (ma : Int32) (pa : Int32) (tu : Int32) (su : Int32) (hc0 : f 87 = .inr (11, mF ad la dr go lo ma pa tu su)) : gMi l D ca ss ad 108 yX12_finds cX12_finds 2 (some .int) 0 f [.ref (ad 87), .int v] (fun r u => r = (-10) - v ∧ u = va_up f 87 (.inr (11, mF ad v dr go lo ma pa tu su))) := by
  refine gMi_ofK (by decide +kernel) (Nat.le_of_ble_eq_true rfl) (lv0 := [(0, .ref (ad 87)), (1, .int v)]) rfl (fun pT eT sT mT aT below meth cT AT QT C RT => ?_)
  have C : gX pT sT mT aT meth cT AT D ca ss 2 RX12 cX12_finds (some .int) := C
  refine gj_aload_n C 0 dX12_finds_0 rfl 0 rfl ?_
  refine gj_iload_n C 1 dX12_finds_1 rfl 1 rfl ?_
  refine gj_putS C 87 (by decide) hc0 inX12 rfl 4 (by decide) tyX12 tyX12_ok nmX12 w_853 rfl (v := .int v) (fs' := [.ref (ad 88), .ref (ad 89), .ref (ad 90), .ref (ad 91), .int v, .ref (ad 92), .ref (ad 93), .ref (ad 94), .int dr, .int go, .int lo, .int ma, .ref (ad 95), .ref (ad 96), .ref (ad 97), .ref (ad 98), .int pa, .int tu, .ref (ad 99), .ref (ad 100), .ref (ad 101), .ref (ad 102), .ref (ad 103), .ref (ad 104), .int su, .ref (ad 105), .ref (ad 106), .ref (ad 107)]) rfl rfl (Nat.le_of_ble_eq_true rfl) rfl dX12_finds_2 ?_
  refine gj_bipush C (v := (-10)) (by decide) dX12_finds_5 ?_
  refine gj_iload_n C 1 dX12_finds_7 rfl 1 rfl ?_
  refine gj_isub C dX12_finds_8 ?_
  exact RT _ _ _ _ ⟨rfl, rfl⟩ dX12_finds_9
def s_X12_lacks (ad ca : Nat → Nat) (f : Nat → va_E)  (s : Int32) (q : Int32) (i : Int32) (la : Int32) (dr : Int32) (go : Int32) (lo : Int32) (ma : Int32) (pa : Int32) (tu : Int32) (su : Int32) (fo : Nat → Int32) (sz : Nat → Int32) : Int32 × (Nat → va_E) := if 0 ≤ (fo s.toNatClampNeg) then (if (fo s.toNatClampNeg) = q then (if (s_X12_in i.toInt64 (0 : Int64) (((sz s.toNatClampNeg) - 1).toInt64)) = 0 then (((-12), va_up f 87 (.inr (11, mF ad (2 : Int32) dr go lo ma pa tu su)))) else ((0, f))) else (((-13), va_up f 87 (.inr (11, mF ad (3 : Int32) dr go lo ma pa tu su))))) else (((-11), va_up f 87 (.inr (11, mF ad (1 : Int32) dr go lo ma pa tu su))))
set_option maxHeartbeats 1000000 in
set_option maxRecDepth 100000 in
theorem c_X12_lacks {l : Launch} {D : va_G} {ca ss ad : Nat → Nat} {f : Nat → va_E} (s : Int32) (q : Int32) (i : Int32) (la : Int32) (dr : Int32) (go : Int32) (lo : Int32) (ma : Int32) (pa : Int32) (tu : Int32) (su : Int32) (fo : Nat → Int32) (sz : Nat → Int32) (hc0 : f 87 = .inr (11, mF ad la dr go lo ma pa tu su)) (hc1 : f 88 = .inl (ca 0, 4, .inl fo)) (hc2 : f 89 = .inl (ca 0, 4, .inl sz)) (hs : 0 ≤ s.toInt ∧ s.toInt ≤ 3) : gMi l D ca ss ad 108 yX12_lacks cX12_lacks 4 (some .int) 1 f [.ref (ad 87), .int s, .int q, .int i] (fun r u => (r, u) = s_X12_lacks ad ca f  s q i la dr go lo ma pa tu su fo sz) := by
  refine gMi_ofK (by decide +kernel) (Nat.le_of_ble_eq_true rfl) (lv0 := [(0, .ref (ad 87)), (1, .int s), (2, .int q), (3, .int i)]) rfl (fun pT eT sT mT aT below meth cT AT QT C RT => ?_)
  have C : gX pT sT mT aT meth cT AT D ca ss 4 RX12 cX12_lacks (some .int) := C
  refine gj_aload_n C 0 dX12_lacks_0 rfl 0 rfl ?_
  refine gj_get C 87 (by decide) hc0 inX12 rfl 0 (by decide) w_849 (v := .ref (ad 88)) rfl dX12_lacks_1 ?_
  refine gj_iload_n C 1 dX12_lacks_4 rfl 1 rfl ?_
  refine gj_iald C 88 (by decide) hc1 (in4 hs) dX12_lacks_5 ?_
  refine gj_if_ge C 15 dX12_lacks_6 (by decide) (fun c_1 => ?_) (fun c_1 => ?_)
  · refine gj_aload_n C 0 dX12_lacks_15 rfl 0 rfl ?_
    refine gj_get C 87 (by decide) hc0 inX12 rfl 0 (by decide) w_849 (v := .ref (ad 88)) rfl dX12_lacks_16 ?_
    refine gj_iload_n C 1 dX12_lacks_19 rfl 1 rfl ?_
    refine gj_iald C 88 (by decide) hc1 (in4 hs) dX12_lacks_20 ?_
    refine gj_iload_n C 2 dX12_lacks_21 rfl 2 rfl ?_
    refine gj_icmp_eq C 31 dX12_lacks_22 (by decide) (fun c_2 => ?_) (fun c_2 => ?_)
    · refine gj_iload_n C 3 dX12_lacks_31 rfl 3 rfl ?_
      refine gj_i2l C dX12_lacks_32 ?_
      refine gj_lconst C (v := 0) rfl dX12_lacks_33 ?_
      refine gj_aload_n C 0 dX12_lacks_34 rfl 0 rfl ?_
      refine gj_get C 87 (by decide) hc0 inX12 rfl 1 (by decide) w_850 (v := .ref (ad 89)) rfl dX12_lacks_35 ?_
      refine gj_iload_n C 1 dX12_lacks_38 rfl 1 rfl ?_
      refine gj_iald C 89 (by decide) hc2 (in4 hs) dX12_lacks_39 ?_
      refine gj_iconst C (v := 1) (by decide) dX12_lacks_40 ?_
      refine gj_isub C dX12_lacks_41 ?_
      refine gj_i2l C dX12_lacks_42 ?_
      refine gj_callSi C w_944 w_943 (c_X12_in i.toInt64 (0 : Int64) (((sz s.toNatClampNeg) - 1).toInt64)) mc_X12_in ⟨Nat.le_of_ble_eq_true rfl, Nat.le_of_ble_eq_true rfl⟩ (rest := []) rfl (Nat.le_of_ble_eq_true rfl) dX12_lacks_43 (fun r u h => ?_)
      obtain ⟨rfl, rfl⟩ := h
      refine gj_if_eq C 53 dX12_lacks_46 (by decide) (fun c_3 => ?_) (fun c_3 => ?_)
      · refine gj_aload_n C 0 dX12_lacks_53 rfl 0 rfl ?_
        refine gj_iconst C (v := 2) (by decide) dX12_lacks_54 ?_
        refine gj_callVi C mi_X12_finds w_947 87 (by decide) hc0 rfl (c_X12_finds (2 : Int32) la dr go lo ma pa tu su hc0) mc_X12_finds ⟨Nat.le_of_ble_eq_true rfl, Nat.le_of_ble_eq_true rfl⟩ (rest := []) rfl (Nat.le_of_ble_eq_true rfl) dX12_lacks_55 (fun r u h => ?_)
        obtain ⟨rfl, rfl⟩ := h
        refine gj_seti (y := (-12)) (by decide) ?_
        exact RT _ _ _ _ (by unfold s_X12_lacks; rw [if_pos c_1, if_pos c_2, if_pos c_3]) dX12_lacks_58
      · refine gj_iconst C (v := 0) (by decide) dX12_lacks_49 ?_
        refine gj_goto C 58 dX12_lacks_50 (by decide) ?_
        exact RT _ _ _ _ (by unfold s_X12_lacks; rw [if_pos c_1, if_pos c_2, if_neg c_3]) dX12_lacks_58
    · refine gj_aload_n C 0 dX12_lacks_25 rfl 0 rfl ?_
      refine gj_iconst C (v := 3) (by decide) dX12_lacks_26 ?_
      refine gj_callVi C mi_X12_finds w_947 87 (by decide) hc0 rfl (c_X12_finds (3 : Int32) la dr go lo ma pa tu su hc0) mc_X12_finds ⟨Nat.le_of_ble_eq_true rfl, Nat.le_of_ble_eq_true rfl⟩ (rest := []) rfl (Nat.le_of_ble_eq_true rfl) dX12_lacks_27 (fun r u h => ?_)
      obtain ⟨rfl, rfl⟩ := h
      refine gj_seti (y := (-13)) (by decide) ?_
      exact RT _ _ _ _ (by unfold s_X12_lacks; rw [if_pos c_1, if_neg c_2]) dX12_lacks_30
  · refine gj_aload_n C 0 dX12_lacks_9 rfl 0 rfl ?_
    refine gj_iconst C (v := 1) (by decide) dX12_lacks_10 ?_
    refine gj_callVi C mi_X12_finds w_947 87 (by decide) hc0 rfl (c_X12_finds (1 : Int32) la dr go lo ma pa tu su hc0) mc_X12_finds ⟨Nat.le_of_ble_eq_true rfl, Nat.le_of_ble_eq_true rfl⟩ (rest := []) rfl (Nat.le_of_ble_eq_true rfl) dX12_lacks_11 (fun r u h => ?_)
    obtain ⟨rfl, rfl⟩ := h
    refine gj_seti (y := (-11)) (by decide) ?_
    exact RT _ _ _ _ (by unfold s_X12_lacks; rw [if_neg c_1]) dX12_lacks_14
def s_X12_lose (ad ca : Nat → Nat) (f : Nat → va_E)  (s : Int32) (la : Int32) (dr : Int32) (go : Int32) (lo : Int32) (ma : Int32) (pa : Int32) (tu : Int32) (su : Int32) (fo : Nat → Int32) (sz : Nat → Int32) : Int32 × (Nat → va_E) := if (s_X12_isSheet s) = 0 then (((-2), f)) else (if 0 ≤ (fo s.toNatClampNeg) then ((sz s.toNatClampNeg, va_up f 88 (.inl (ca 0, 4, .inl (upd fo s.toNatClampNeg (-1)))))) else (((-11), va_up f 87 (.inr (11, mF ad (1 : Int32) dr go lo ma pa tu su)))))
set_option maxHeartbeats 1000000 in
set_option maxRecDepth 100000 in
theorem c_X12_lose {l : Launch} {D : va_G} {ca ss ad : Nat → Nat} {f : Nat → va_E} (s : Int32) (la : Int32) (dr : Int32) (go : Int32) (lo : Int32) (ma : Int32) (pa : Int32) (tu : Int32) (su : Int32) (fo : Nat → Int32) (sz : Nat → Int32) (hc0 : f 87 = .inr (11, mF ad la dr go lo ma pa tu su)) (hc1 : f 88 = .inl (ca 0, 4, .inl fo)) (hc2 : f 89 = .inl (ca 0, 4, .inl sz)) : gMi l D ca ss ad 108 yX12_lose cX12_lose 2 (some .int) 2 f [.ref (ad 87), .int s] (fun r u => (r, u) = s_X12_lose ad ca f  s la dr go lo ma pa tu su fo sz) := by
  refine gMi_ofK (by decide +kernel) (Nat.le_of_ble_eq_true rfl) (lv0 := [(0, .ref (ad 87)), (1, .int s)]) rfl (fun pT eT sT mT aT below meth cT AT QT C RT => ?_)
  have C : gX pT sT mT aT meth cT AT D ca ss 2 RX12 cX12_lose (some .int) := C
  refine gj_iload_n C 1 dX12_lose_0 rfl 1 rfl ?_
  refine gj_callSi C w_940 w_939 (c_X12_isSheet s) mc_X12_isSheet ⟨Nat.le_of_ble_eq_true rfl, Nat.le_of_ble_eq_true rfl⟩ (rest := []) rfl (Nat.le_of_ble_eq_true rfl) dX12_lose_1 (fun r u h => ?_)
  obtain ⟨rfl, rfl⟩ := h
  refine gj_if_ne C 10 dX12_lose_4 (by decide) (fun c_1 => ?_) (fun c_1 => ?_)
  · refine gj_aload_n C 0 dX12_lose_10 rfl 0 rfl ?_
    refine gj_get C 87 (by decide) hc0 inX12 rfl 0 (by decide) w_849 (v := .ref (ad 88)) rfl dX12_lose_11 ?_
    refine gj_iload_n C 1 dX12_lose_14 rfl 1 rfl ?_
    refine gj_iald C 88 (by decide) hc1 (in4 (q_isSheet c_1)) dX12_lose_15 ?_
    refine gj_if_ge C 25 dX12_lose_16 (by decide) (fun c_2 => ?_) (fun c_2 => ?_)
    · refine gj_aload_n C 0 dX12_lose_25 rfl 0 rfl ?_
      refine gj_get C 87 (by decide) hc0 inX12 rfl 0 (by decide) w_849 (v := .ref (ad 88)) rfl dX12_lose_26 ?_
      refine gj_iload_n C 1 dX12_lose_29 rfl 1 rfl ?_
      refine gj_iconst C (v := (-1)) (by decide) dX12_lose_30 ?_
      refine gj_iast C 88 (by decide) hc1 (in4 (q_isSheet c_1)) dX12_lose_31 ?_
      refine gj_aload_n C 0 dX12_lose_32 rfl 0 rfl ?_
      refine gj_get C 87 (by decide) (up_nx (by decide) (hc0)) inX12 rfl 1 (by decide) w_850 (v := .ref (ad 89)) rfl dX12_lose_33 ?_
      refine gj_iload_n C 1 dX12_lose_36 rfl 1 rfl ?_
      refine gj_iald C 89 (by decide) (up_nx (by decide) (hc2)) (in4 (q_isSheet c_1)) dX12_lose_37 ?_
      exact RT _ _ _ _ (by unfold s_X12_lose; rw [if_neg c_1, if_pos c_2]) dX12_lose_38
    · refine gj_aload_n C 0 dX12_lose_19 rfl 0 rfl ?_
      refine gj_iconst C (v := 1) (by decide) dX12_lose_20 ?_
      refine gj_callVi C mi_X12_finds w_947 87 (by decide) hc0 rfl (c_X12_finds (1 : Int32) la dr go lo ma pa tu su hc0) mc_X12_finds ⟨Nat.le_of_ble_eq_true rfl, Nat.le_of_ble_eq_true rfl⟩ (rest := []) rfl (Nat.le_of_ble_eq_true rfl) dX12_lose_21 (fun r u h => ?_)
      obtain ⟨rfl, rfl⟩ := h
      refine gj_seti (y := (-11)) (by decide) ?_
      exact RT _ _ _ _ (by unfold s_X12_lose; rw [if_neg c_1, if_neg c_2]) dX12_lose_24
  · refine gj_bipush C (v := (-2)) (by decide) dX12_lose_7 ?_
    exact RT _ _ _ _ (by unfold s_X12_lose; rw [if_pos c_1]) dX12_lose_9
theorem q_lack {sz : Nat → Int32} {s i : Int32} (hsz : ∀ j, j < 4 → 0 ≤ (sz j).toInt ∧ (sz j).toInt ≤ 60) (hs : 0 ≤ s.toInt ∧ s.toInt ≤ 3) (h : ¬ s_X12_in i.toInt64 (0 : Int64) (sz s.toNatClampNeg - 1).toInt64 = 0) : 0 ≤ i.toInt ∧ i.toInt < 60 := by
  have h1 := min_yes.mp h
  have h2 := hsz _ (cl4 hs)
  have e1 : (1 : Int32).toInt = 1 := rfl
  have e0 : (0 : Int64).toInt = 0 := rfl
  rw [i32_w, i32_w, i32_sub (by omega) (by omega)] at h1
  omega
def s_X12_lay (ad ca : Nat → Nat) (f : Nat → va_E)  (s : Int32) (q : Int32) (i : Int32) (v : Int32) (la : Int32) (dr : Int32) (go : Int32) (lo : Int32) (ma : Int32) (pa : Int32) (tu : Int32) (su : Int32) (fo : Nat → Int32) (sz : Nat → Int32) (it : Nat → Int32) : Int32 × (Nat → va_E) := if (s_X12_isSheet s) = 0 then (((-2), f)) else (if (s_X12_in q.toInt64 (0 : Int64) (2 : Int64)) = 0 then (((-2), f)) else (if 0 ≤ (fo s.toNatClampNeg) then (if (fo s.toNatClampNeg) = q then (if (s_X12_in i.toInt64 (0 : Int64) (((sz s.toNatClampNeg) - 1).toInt64)) = 0 then (((-12), va_up f 87 (.inr (11, mF ad (2 : Int32) dr go lo ma pa tu su)))) else ((1, va_up f 90 (.inl (ca 0, 240, .inl (upd it ((60 * s) + i).toNatClampNeg (s_X12_cut q v))))))) else (((-13), va_up f 87 (.inr (11, mF ad (3 : Int32) dr go lo ma pa tu su))))) else (((-11), va_up f 87 (.inr (11, mF ad (1 : Int32) dr go lo ma pa tu su))))))
set_option maxHeartbeats 1000000 in
set_option maxRecDepth 100000 in
theorem c_X12_lay {l : Launch} {D : va_G} {ca ss ad : Nat → Nat} {f : Nat → va_E} (s : Int32) (q : Int32) (i : Int32) (v : Int32) (la : Int32) (dr : Int32) (go : Int32) (lo : Int32) (ma : Int32) (pa : Int32) (tu : Int32) (su : Int32) (fo : Nat → Int32) (sz : Nat → Int32) (it : Nat → Int32) (hc0 : f 87 = .inr (11, mF ad la dr go lo ma pa tu su)) (hc1 : f 88 = .inl (ca 0, 4, .inl fo)) (hc2 : f 89 = .inl (ca 0, 4, .inl sz)) (hc3 : f 90 = .inl (ca 0, 240, .inl it)) (hsz : ∀ j, j < 4 → 0 ≤ (sz j).toInt ∧ (sz j).toInt ≤ 60) : gMi l D ca ss ad 108 yX12_lay cX12_lay 6 (some .int) 2 f [.ref (ad 87), .int s, .int q, .int i, .int v] (fun r u => (r, u) = s_X12_lay ad ca f  s q i v la dr go lo ma pa tu su fo sz it) := by
  refine gMi_ofK (by decide +kernel) (Nat.le_of_ble_eq_true rfl) (lv0 := [(0, .ref (ad 87)), (1, .int s), (2, .int q), (3, .int i), (4, .int v)]) rfl (fun pT eT sT mT aT below meth cT AT QT C RT => ?_)
  have C : gX pT sT mT aT meth cT AT D ca ss 6 RX12 cX12_lay (some .int) := C
  refine gj_iload_n C 1 dX12_lay_0 rfl 1 rfl ?_
  refine gj_callSi C w_940 w_939 (c_X12_isSheet s) mc_X12_isSheet ⟨Nat.le_of_ble_eq_true rfl, Nat.le_of_ble_eq_true rfl⟩ (rest := []) rfl (Nat.le_of_ble_eq_true rfl) dX12_lay_1 (fun r u h => ?_)
  obtain ⟨rfl, rfl⟩ := h
  refine gj_if_eq C 19 dX12_lay_4 (by decide) (fun c_1 => ?_) (fun c_1 => ?_)
  · refine gj_bipush C (v := (-2)) (by decide) dX12_lay_19 ?_
    exact RT _ _ _ _ (by unfold s_X12_lay; rw [if_pos c_1]) dX12_lay_21
  · refine gj_iload_n C 2 dX12_lay_7 rfl 2 rfl ?_
    refine gj_i2l C dX12_lay_8 ?_
    refine gj_lconst C (v := 0) rfl dX12_lay_9 ?_
    refine gj_ldc2 C (v := 2) w_946 dX12_lay_10 ?_
    refine gj_callSi C w_944 w_943 (c_X12_in q.toInt64 (0 : Int64) (2 : Int64)) mc_X12_in ⟨Nat.le_of_ble_eq_true rfl, Nat.le_of_ble_eq_true rfl⟩ (rest := []) rfl (Nat.le_of_ble_eq_true rfl) dX12_lay_13 (fun r u h => ?_)
    obtain ⟨rfl, rfl⟩ := h
    refine gj_if_ne C 22 dX12_lay_16 (by decide) (fun c_2 => ?_) (fun c_2 => ?_)
    · refine gj_aload_n C 0 dX12_lay_22 rfl 0 rfl ?_
      refine gj_iload_n C 1 dX12_lay_23 rfl 1 rfl ?_
      refine gj_iload_n C 2 dX12_lay_24 rfl 2 rfl ?_
      refine gj_iload_n C 3 dX12_lay_25 rfl 3 rfl ?_
      refine gj_callVi C mi_X12_lacks w_959 87 (by decide) hc0 rfl (c_X12_lacks s q i la dr go lo ma pa tu su fo sz hc0 hc1 hc2 (q_isSheet c_1)) mc_X12_lacks ⟨Nat.le_of_ble_eq_true rfl, Nat.le_of_ble_eq_true rfl⟩ (rest := []) rfl (Nat.le_of_ble_eq_true rfl) dX12_lay_26 (fun r u h => ?_)
      unfold s_X12_lacks at h
      by_cases c_3 : 0 ≤ (fo s.toNatClampNeg)
      · rw [if_pos c_3] at h
        by_cases c_4 : (fo s.toNatClampNeg) = q
        · rw [if_pos c_4] at h
          by_cases c_5 : (s_X12_in i.toInt64 (0 : Int64) (((sz s.toNatClampNeg) - 1).toInt64)) = 0
          · rw [if_pos c_5] at h
            obtain ⟨rfl, rfl⟩ := Prod.mk.inj h
            refine gj_istore C (lv' := [(5, .int (-12)), (0, .ref (ad 87)), (1, .int s), (2, .int q), (3, .int i), (4, .int v)]) dX12_lay_29 (by decide) rfl ?_
            refine gj_iload C dX12_lay_31 0 rfl ?_
            refine gj_if_eq C 39 dX12_lay_33 (by decide) (fun c_6 => absurd c_6 (by decide)) (fun c_6 => ?_)
            refine gj_iload C dX12_lay_36 0 rfl ?_
            exact RT _ _ _ _ (by unfold s_X12_lay; rw [if_neg c_1, if_neg c_2, if_pos c_3, if_pos c_4, if_pos c_5]) dX12_lay_38
          · rw [if_neg c_5] at h
            obtain ⟨rfl, rfl⟩ := Prod.mk.inj h
            refine gj_istore C (lv' := [(5, .int 0), (0, .ref (ad 87)), (1, .int s), (2, .int q), (3, .int i), (4, .int v)]) dX12_lay_29 (by decide) rfl ?_
            refine gj_iload C dX12_lay_31 0 rfl ?_
            refine gj_if_eq C 39 dX12_lay_33 (by decide) (fun c_7 => ?_) (fun c_7 => absurd (by decide) c_7)
            refine gj_aload_n C 0 dX12_lay_39 rfl 1 rfl ?_
            refine gj_get C 87 (by decide) hc0 inX12 rfl 2 (by decide) w_851 (v := .ref (ad 90)) rfl dX12_lay_40 ?_
            refine gj_bipush C (v := 60) (by decide) dX12_lay_43 ?_
            refine gj_iload_n C 1 dX12_lay_45 rfl 2 rfl ?_
            refine gj_imul C dX12_lay_46 ?_
            refine gj_iload_n C 3 dX12_lay_47 rfl 4 rfl ?_
            refine gj_iadd C dX12_lay_48 ?_
            refine gj_iload_n C 2 dX12_lay_49 rfl 3 rfl ?_
            refine gj_iload C dX12_lay_50 5 rfl ?_
            refine gj_callSi C w_964 w_963 (c_X12_cut q v) mc_X12_cut ⟨Nat.le_of_ble_eq_true rfl, Nat.le_of_ble_eq_true rfl⟩ (rest := [.int ((60 * s) + i), .ref (ad 90)]) rfl (Nat.le_of_ble_eq_true rfl) dX12_lay_52 (fun r u h => ?_)
            obtain ⟨rfl, rfl⟩ := h
            refine gj_iast C 90 (by decide) hc3 (in60 (q_isSheet c_1) (q_lack hsz (q_isSheet c_1) c_5).1 (q_lack hsz (q_isSheet c_1) c_5).2) dX12_lay_55 ?_
            refine gj_iconst C (v := 1) (by decide) dX12_lay_56 ?_
            exact RT _ _ _ _ (by unfold s_X12_lay; rw [if_neg c_1, if_neg c_2, if_pos c_3, if_pos c_4, if_neg c_5]) dX12_lay_57
        · rw [if_neg c_4] at h
          obtain ⟨rfl, rfl⟩ := Prod.mk.inj h
          refine gj_istore C (lv' := [(5, .int (-13)), (0, .ref (ad 87)), (1, .int s), (2, .int q), (3, .int i), (4, .int v)]) dX12_lay_29 (by decide) rfl ?_
          refine gj_iload C dX12_lay_31 0 rfl ?_
          refine gj_if_eq C 39 dX12_lay_33 (by decide) (fun c_8 => absurd c_8 (by decide)) (fun c_8 => ?_)
          refine gj_iload C dX12_lay_36 0 rfl ?_
          exact RT _ _ _ _ (by unfold s_X12_lay; rw [if_neg c_1, if_neg c_2, if_pos c_3, if_neg c_4]) dX12_lay_38
      · rw [if_neg c_3] at h
        obtain ⟨rfl, rfl⟩ := Prod.mk.inj h
        refine gj_istore C (lv' := [(5, .int (-11)), (0, .ref (ad 87)), (1, .int s), (2, .int q), (3, .int i), (4, .int v)]) dX12_lay_29 (by decide) rfl ?_
        refine gj_iload C dX12_lay_31 0 rfl ?_
        refine gj_if_eq C 39 dX12_lay_33 (by decide) (fun c_9 => absurd c_9 (by decide)) (fun c_9 => ?_)
        refine gj_iload C dX12_lay_36 0 rfl ?_
        exact RT _ _ _ _ (by unfold s_X12_lay; rw [if_neg c_1, if_neg c_2, if_neg c_3]) dX12_lay_38
    · refine gj_bipush C (v := (-2)) (by decide) dX12_lay_19 ?_
      exact RT _ _ _ _ (by unfold s_X12_lay; rw [if_neg c_1, if_pos c_2]) dX12_lay_21
def s_X12_get (ad ca : Nat → Nat) (f : Nat → va_E)  (s : Int32) (q : Int32) (i : Int32) (la : Int32) (dr : Int32) (go : Int32) (lo : Int32) (ma : Int32) (pa : Int32) (tu : Int32) (su : Int32) (fo : Nat → Int32) (sz : Nat → Int32) (it : Nat → Int32) : Int32 × (Nat → va_E) := if (s_X12_isSheet s) = 0 then (((-2147483648), f)) else (if (s_X12_in q.toInt64 (0 : Int64) (2 : Int64)) = 0 then (((-2147483648), f)) else (if 0 ≤ (fo s.toNatClampNeg) then (if (fo s.toNatClampNeg) = q then (if (s_X12_in i.toInt64 (0 : Int64) (((sz s.toNatClampNeg) - 1).toInt64)) = 0 then (((-2147483648), va_up f 87 (.inr (11, mF ad (2 : Int32) dr go lo ma pa tu su)))) else ((it ((60 * s) + i).toNatClampNeg, f))) else (((-2147483648), va_up f 87 (.inr (11, mF ad (3 : Int32) dr go lo ma pa tu su))))) else (((-2147483648), va_up f 87 (.inr (11, mF ad (1 : Int32) dr go lo ma pa tu su))))))
set_option maxHeartbeats 1000000 in
set_option maxRecDepth 100000 in
theorem c_X12_get {l : Launch} {D : va_G} {ca ss ad : Nat → Nat} {f : Nat → va_E} (s : Int32) (q : Int32) (i : Int32) (la : Int32) (dr : Int32) (go : Int32) (lo : Int32) (ma : Int32) (pa : Int32) (tu : Int32) (su : Int32) (fo : Nat → Int32) (sz : Nat → Int32) (it : Nat → Int32) (hc0 : f 87 = .inr (11, mF ad la dr go lo ma pa tu su)) (hc1 : f 88 = .inl (ca 0, 4, .inl fo)) (hc2 : f 89 = .inl (ca 0, 4, .inl sz)) (hc3 : f 90 = .inl (ca 0, 240, .inl it)) (hsz : ∀ j, j < 4 → 0 ≤ (sz j).toInt ∧ (sz j).toInt ≤ 60) : gMi l D ca ss ad 108 yX12_get cX12_get 4 (some .int) 2 f [.ref (ad 87), .int s, .int q, .int i] (fun r u => (r, u) = s_X12_get ad ca f  s q i la dr go lo ma pa tu su fo sz it) := by
  refine gMi_ofK (by decide +kernel) (Nat.le_of_ble_eq_true rfl) (lv0 := [(0, .ref (ad 87)), (1, .int s), (2, .int q), (3, .int i)]) rfl (fun pT eT sT mT aT below meth cT AT QT C RT => ?_)
  have C : gX pT sT mT aT meth cT AT D ca ss 4 RX12 cX12_get (some .int) := C
  refine gj_iload_n C 1 dX12_get_0 rfl 1 rfl ?_
  refine gj_callSi C w_940 w_939 (c_X12_isSheet s) mc_X12_isSheet ⟨Nat.le_of_ble_eq_true rfl, Nat.le_of_ble_eq_true rfl⟩ (rest := []) rfl (Nat.le_of_ble_eq_true rfl) dX12_get_1 (fun r u h => ?_)
  obtain ⟨rfl, rfl⟩ := h
  refine gj_if_eq C 29 dX12_get_4 (by decide) (fun c_1 => ?_) (fun c_1 => ?_)
  · refine gj_ldc C (v := (-2147483648)) w_970 dX12_get_29 ?_
    exact RT _ _ _ _ (by unfold s_X12_get; rw [if_pos c_1]) dX12_get_31
  · refine gj_iload_n C 2 dX12_get_7 rfl 2 rfl ?_
    refine gj_i2l C dX12_get_8 ?_
    refine gj_lconst C (v := 0) rfl dX12_get_9 ?_
    refine gj_ldc2 C (v := 2) w_946 dX12_get_10 ?_
    refine gj_callSi C w_944 w_943 (c_X12_in q.toInt64 (0 : Int64) (2 : Int64)) mc_X12_in ⟨Nat.le_of_ble_eq_true rfl, Nat.le_of_ble_eq_true rfl⟩ (rest := []) rfl (Nat.le_of_ble_eq_true rfl) dX12_get_13 (fun r u h => ?_)
    obtain ⟨rfl, rfl⟩ := h
    refine gj_if_eq C 29 dX12_get_16 (by decide) (fun c_2 => ?_) (fun c_2 => ?_)
    · refine gj_ldc C (v := (-2147483648)) w_970 dX12_get_29 ?_
      exact RT _ _ _ _ (by unfold s_X12_get; rw [if_neg c_1, if_pos c_2]) dX12_get_31
    · refine gj_aload_n C 0 dX12_get_19 rfl 0 rfl ?_
      refine gj_iload_n C 1 dX12_get_20 rfl 1 rfl ?_
      refine gj_iload_n C 2 dX12_get_21 rfl 2 rfl ?_
      refine gj_iload_n C 3 dX12_get_22 rfl 3 rfl ?_
      refine gj_callVi C mi_X12_lacks w_959 87 (by decide) hc0 rfl (c_X12_lacks s q i la dr go lo ma pa tu su fo sz hc0 hc1 hc2 (q_isSheet c_1)) mc_X12_lacks ⟨Nat.le_of_ble_eq_true rfl, Nat.le_of_ble_eq_true rfl⟩ (rest := []) rfl (Nat.le_of_ble_eq_true rfl) dX12_get_23 (fun r u h => ?_)
      unfold s_X12_lacks at h
      by_cases c_3 : 0 ≤ (fo s.toNatClampNeg)
      · rw [if_pos c_3] at h
        by_cases c_4 : (fo s.toNatClampNeg) = q
        · rw [if_pos c_4] at h
          by_cases c_5 : (s_X12_in i.toInt64 (0 : Int64) (((sz s.toNatClampNeg) - 1).toInt64)) = 0
          · rw [if_pos c_5] at h
            obtain ⟨rfl, rfl⟩ := Prod.mk.inj h
            refine gj_if_eq C 32 dX12_get_26 (by decide) (fun c_6 => absurd c_6 (by decide)) (fun c_6 => ?_)
            refine gj_ldc C (v := (-2147483648)) w_970 dX12_get_29 ?_
            exact RT _ _ _ _ (by unfold s_X12_get; rw [if_neg c_1, if_neg c_2, if_pos c_3, if_pos c_4, if_pos c_5]) dX12_get_31
          · rw [if_neg c_5] at h
            obtain ⟨rfl, rfl⟩ := Prod.mk.inj h
            refine gj_if_eq C 32 dX12_get_26 (by decide) (fun c_7 => ?_) (fun c_7 => absurd (by decide) c_7)
            refine gj_aload_n C 0 dX12_get_32 rfl 0 rfl ?_
            refine gj_get C 87 (by decide) hc0 inX12 rfl 2 (by decide) w_851 (v := .ref (ad 90)) rfl dX12_get_33 ?_
            refine gj_bipush C (v := 60) (by decide) dX12_get_36 ?_
            refine gj_iload_n C 1 dX12_get_38 rfl 1 rfl ?_
            refine gj_imul C dX12_get_39 ?_
            refine gj_iload_n C 3 dX12_get_40 rfl 3 rfl ?_
            refine gj_iadd C dX12_get_41 ?_
            refine gj_iald C 90 (by decide) hc3 (in60 (q_isSheet c_1) (q_lack hsz (q_isSheet c_1) c_5).1 (q_lack hsz (q_isSheet c_1) c_5).2) dX12_get_42 ?_
            exact RT _ _ _ _ (by unfold s_X12_get; rw [if_neg c_1, if_neg c_2, if_pos c_3, if_pos c_4, if_neg c_5]) dX12_get_43
        · rw [if_neg c_4] at h
          obtain ⟨rfl, rfl⟩ := Prod.mk.inj h
          refine gj_if_eq C 32 dX12_get_26 (by decide) (fun c_8 => absurd c_8 (by decide)) (fun c_8 => ?_)
          refine gj_ldc C (v := (-2147483648)) w_970 dX12_get_29 ?_
          exact RT _ _ _ _ (by unfold s_X12_get; rw [if_neg c_1, if_neg c_2, if_pos c_3, if_neg c_4]) dX12_get_31
      · rw [if_neg c_3] at h
        obtain ⟨rfl, rfl⟩ := Prod.mk.inj h
        refine gj_if_eq C 32 dX12_get_26 (by decide) (fun c_9 => absurd c_9 (by decide)) (fun c_9 => ?_)
        refine gj_ldc C (v := (-2147483648)) w_970 dX12_get_29 ?_
        exact RT _ _ _ _ (by unfold s_X12_get; rw [if_neg c_1, if_neg c_2, if_neg c_3]) dX12_get_31
