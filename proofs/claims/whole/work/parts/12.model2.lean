/-- a kind and a number of a direction that may be read -/
def dIn (k i : Int32) : Prop := (0 ≤ k.toInt ∧ k.toInt ≤ 1) ∧ 0 ≤ i.toInt ∧ i.toInt < 12 ∧ (k.toInt = 1 → i.toInt < 8)
theorem dIn_ix {k i w : Int32} (h : dIn k i) (hw : 0 ≤ w.toInt ∧ w.toInt ≤ 2) : (36 * k + 3 * i + w).toInt = 36 * k.toInt + 3 * i.toInt + w.toInt ∧ 36 * k.toInt + 3 * i.toInt + w.toInt < 60 := by
  obtain ⟨⟨h1, h2⟩, h3, h4, h5⟩ := h
  have e36 : (36 : Int32).toInt = 36 := rfl
  have e3 : (3 : Int32).toInt = 3 := rfl
  have a1 : (36 * k).toInt = 36 * k.toInt := by rw [i32_mul (by rw [e36]; omega) (by rw [e36]; omega), e36]
  have a2 : (3 * i).toInt = 3 * i.toInt := by rw [i32_mul (by rw [e3]; omega) (by rw [e3]; omega), e3]
  have a3 : (36 * k + 3 * i).toInt = 36 * k.toInt + 3 * i.toInt := by rw [i32_add (by omega) (by omega), a1, a2]
  refine ⟨by rw [i32_add (by omega) (by omega), a3], ?_⟩
  rcases (show k.toInt = 0 ∨ k.toInt = 1 by omega) with q | q
  · omega
  · have := h5 q; omega
theorem dIn_in {k i w : Int32} (h : dIn k i) (hw : 0 ≤ w.toInt ∧ w.toInt ≤ 2) : vp_in (36 * k + 3 * i + w) 60 := by
  obtain ⟨e, h2⟩ := dIn_ix h hw
  obtain ⟨⟨h1, _⟩, h3, _⟩ := h
  exact vin (by omega) (by omega)
theorem w0 : 0 ≤ (0 : Int32).toInt ∧ (0 : Int32).toInt ≤ 2 := by decide
theorem w1 : 0 ≤ (1 : Int32).toInt ∧ (1 : Int32).toInt ≤ 2 := by decide
theorem w2 : 0 ≤ (2 : Int32).toInt ∧ (2 : Int32).toInt ≤ 2 := by decide
theorem dIn_in0 {k i : Int32} (h : dIn k i) : vp_in (36 * k + 3 * i) 60 := by
  have := dIn_in h w0
  rwa [Int32.add_zero] at this
theorem dIn_0 {i : Nat} (h : i < 12) : dIn 0 (nI i) := by
  have e : (0 : Int32).toInt = 0 := rfl
  have := nI_toInt (n := i) (by omega)
  exact ⟨⟨by omega, by omega⟩, by omega, by omega, by omega⟩
theorem dIn_1 {i : Nat} (h : i < 8) : dIn 1 (nI i) := by
  have e : (1 : Int32).toInt = 1 := rfl
  have := nI_toInt (n := i) (by omega)
  exact ⟨⟨by omega, by omega⟩, by omega, by omega, by omega⟩
/-- how many there are of a kind -/
def mnOk (mn : Nat → Int32) : Prop := (0 ≤ (mn 0).toInt ∧ (mn 0).toInt ≤ 12) ∧ 0 ≤ (mn 1).toInt ∧ (mn 1).toInt ≤ 8
theorem two_cl {k : Int32} (h : 0 ≤ k.toInt ∧ k.toInt ≤ 1) : (k = 0 ∧ k.toNatClampNeg = 0) ∨ (k = 1 ∧ k.toNatClampNeg = 1) := by
  have := cl_toInt h.1
  rcases (show k.toInt = 0 ∨ k.toInt = 1 by omega) with q | q
  · exact Or.inl ⟨(i32_eq _ _).mpr q, by omega⟩
  · exact Or.inr ⟨(i32_eq _ _).mpr q, by omega⟩
theorem dIn_there {mn : Nat → Int32} {k i : Int32} (hm : mnOk mn) (hk : ¬ s_X12_isTwo k = 0) (h : ¬ s_X12_in i.toInt64 (0 : Int64) (mn k.toNatClampNeg - 1).toInt64 = 0) : dIn k i := by
  have h0 := q_isTwo hk
  have h1 := min_yes.mp h
  have e1 : (1 : Int32).toInt = 1 := rfl
  have e0 : (0 : Int64).toInt = 0 := rfl
  obtain ⟨m0, m1⟩ := hm
  rcases two_cl h0 with ⟨hk1, hc⟩ | ⟨hk1, hc⟩
  · rw [hc, i32_w, i32_w, i32_sub (by omega) (by omega)] at h1
    subst hk1
    have e : (0 : Int32).toInt = 0 := rfl
    exact ⟨⟨by omega, by omega⟩, by omega, by omega, by omega⟩
  · rw [hc, i32_w, i32_w, i32_sub (by omega) (by omega)] at h1
    subst hk1
    have e : (1 : Int32).toInt = 1 := rfl
    exact ⟨⟨by omega, by omega⟩, by omega, by omega, by omega⟩
theorem dIn_add {mn : Nat → Int32} {k : Int32} (hm : mnOk mn) (hk : ¬ s_X12_isTwo k = 0) (h : ¬ mn k.toNatClampNeg = s_X12_most k) : dIn k (mn k.toNatClampNeg) := by
  have h0 := q_isTwo hk
  obtain ⟨m0, m1⟩ := hm
  rcases two_cl h0 with ⟨hk1, hc⟩ | ⟨hk1, hc⟩
  · rw [hc] at h ⊢
    subst hk1
    have e : (0 : Int32).toInt = 0 := rfl
    have h2 : ¬ (mn 0).toInt = 12 := fun q => h ((i32_eq _ _).mpr q)
    exact ⟨⟨by omega, by omega⟩, by omega, by omega, by omega⟩
  · rw [hc] at h ⊢
    subst hk1
    have e : (1 : Int32).toInt = 1 := rfl
    have h2 : ¬ (mn 1).toInt = 8 := fun q => h ((i32_eq _ _).mpr q)
    exact ⟨⟨by omega, by omega⟩, by omega, by omega, by omega⟩
theorem q_there {k i : Int32} {mn : Nat → Int32} (hm : mnOk mn) (h : ¬ (if s_X12_isTwo k = 0 then (0 : Int32) else if s_X12_in i.toInt64 (0 : Int64) (mn k.toNatClampNeg - 1).toInt64 = 0 then 0 else 1) = 0) : dIn k i := by
  by_cases h1 : s_X12_isTwo k = 0
  · rw [if_pos h1] at h; exact absurd rfl h
  · rw [if_neg h1] at h
    by_cases h2 : s_X12_in i.toInt64 (0 : Int64) (mn k.toNatClampNeg - 1).toInt64 = 0
    · rw [if_pos h2] at h; exact absurd rfl h
    · exact dIn_there hm h1 h2

def s_X12_of (k : Int32) (i : Int32) (w : Int32) (di : Nat → Int32) : Int32 := di (((36 * k) + (3 * i)) + w).toNatClampNeg
set_option maxHeartbeats 1000000 in
set_option maxRecDepth 100000 in
theorem c_X12_of {l : Launch} {D : va_G} {ca ss ad : Nat → Nat} {f : Nat → va_E}  (k : Int32) (i : Int32) (w : Int32) (la : Int32) (dr : Int32) (go : Int32) (lo : Int32) (ma : Int32) (pa : Int32) (tu : Int32) (su : Int32) (di : Nat → Int32) (hc0 : f 87 = .inr (11, mF ad la dr go lo ma pa tu su)) (hc1 : f 92 = .inl (ca 0, 60, .inl di)) (hd : dIn k i) (hw : 0 ≤ w.toInt ∧ w.toInt ≤ 2) : gMi l D ca ss ad 108 yX12_of cX12_of 4 (some .int) 0 f [.ref (ad 87), .int k, .int i, .int w] (fun r u => r = s_X12_of k i w di ∧ u = f) := by
  refine gMi_ofK (by decide +kernel) (Nat.le_of_ble_eq_true rfl) (lv0 := [(0, .ref (ad 87)), (1, .int k), (2, .int i), (3, .int w)]) rfl (fun pT eT sT mT aT below meth cT AT QT C RT => ?_)
  have C : gX pT sT mT aT meth cT AT D ca ss 4 RX12 cX12_of (some .int) := C
  refine gj_aload_n C 0 dX12_of_0 rfl 0 rfl ?_
  refine gj_get C 87 (by decide) hc0 inX12 rfl 5 (by decide) w_854 (v := .ref (ad 92)) rfl dX12_of_1 ?_
  refine gj_bipush C (v := 36) (by decide) dX12_of_4 ?_
  refine gj_iload_n C 1 dX12_of_6 rfl 1 rfl ?_
  refine gj_imul C dX12_of_7 ?_
  refine gj_iconst C (v := 3) (by decide) dX12_of_8 ?_
  refine gj_iload_n C 2 dX12_of_9 rfl 2 rfl ?_
  refine gj_imul C dX12_of_10 ?_
  refine gj_iadd C dX12_of_11 ?_
  refine gj_iload_n C 3 dX12_of_12 rfl 3 rfl ?_
  refine gj_iadd C dX12_of_13 ?_
  refine gj_iald C 92 (by decide) hc1 (dIn_in hd hw) dX12_of_14 ?_
  exact RT _ _ _ _ ⟨rfl, rfl⟩ dX12_of_15
set_option maxHeartbeats 1000000 in
set_option maxRecDepth 100000 in
theorem c_X12_lays {l : Launch} {D : va_G} {ca ss ad : Nat → Nat} {f : Nat → va_E}  (k : Int32) (i : Int32) (x : Int32) (y : Int32) (z : Int32) (la : Int32) (dr : Int32) (go : Int32) (lo : Int32) (ma : Int32) (pa : Int32) (tu : Int32) (su : Int32) (di : Nat → Int32) (hc0 : f 87 = .inr (11, mF ad la dr go lo ma pa tu su)) (hc1 : f 92 = .inl (ca 0, 60, .inl di)) (hd : dIn k i) : gMv l D ca ss ad 108 yX12_lays cX12_lays 6 none 0 f [.ref (ad 87), .int k, .int i, .int x, .int y, .int z] (fun u => u = va_up f 92 (.inl (ca 0, 60, .inl (upd (upd (upd di ((36 * k) + (3 * i)).toNatClampNeg x) (((36 * k) + (3 * i)) + 1).toNatClampNeg y) (((36 * k) + (3 * i)) + 2).toNatClampNeg z)))) := by
  refine gMv_ofK (by decide +kernel) (Nat.le_of_ble_eq_true rfl) (lv0 := [(0, .ref (ad 87)), (1, .int k), (2, .int i), (3, .int x), (4, .int y), (5, .int z)]) rfl (fun pT eT sT mT aT below meth cT AT QT C RT => ?_)
  have C : gX pT sT mT aT meth cT AT D ca ss 6 RX12 cX12_lays none := C
  refine gj_aload_n C 0 dX12_lays_0 rfl 0 rfl ?_
  refine gj_get C 87 (by decide) hc0 inX12 rfl 5 (by decide) w_854 (v := .ref (ad 92)) rfl dX12_lays_1 ?_
  refine gj_bipush C (v := 36) (by decide) dX12_lays_4 ?_
  refine gj_iload_n C 1 dX12_lays_6 rfl 1 rfl ?_
  refine gj_imul C dX12_lays_7 ?_
  refine gj_iconst C (v := 3) (by decide) dX12_lays_8 ?_
  refine gj_iload_n C 2 dX12_lays_9 rfl 2 rfl ?_
  refine gj_imul C dX12_lays_10 ?_
  refine gj_iadd C dX12_lays_11 ?_
  refine gj_iload_n C 3 dX12_lays_12 rfl 3 rfl ?_
  refine gj_iast C 92 (by decide) hc1 (dIn_in0 hd) dX12_lays_13 ?_
  refine gj_aload_n C 0 dX12_lays_14 rfl 0 rfl ?_
  refine gj_get C 87 (by decide) (up_nx (by decide) (hc0)) inX12 rfl 5 (by decide) w_854 (v := .ref (ad 92)) rfl dX12_lays_15 ?_
  refine gj_bipush C (v := 36) (by decide) dX12_lays_18 ?_
  refine gj_iload_n C 1 dX12_lays_20 rfl 1 rfl ?_
  refine gj_imul C dX12_lays_21 ?_
  refine gj_iconst C (v := 3) (by decide) dX12_lays_22 ?_
  refine gj_iload_n C 2 dX12_lays_23 rfl 2 rfl ?_
  refine gj_imul C dX12_lays_24 ?_
  refine gj_iadd C dX12_lays_25 ?_
  refine gj_iconst C (v := 1) (by decide) dX12_lays_26 ?_
  refine gj_iadd C dX12_lays_27 ?_
  refine gj_iload C dX12_lays_28 4 rfl ?_
  refine gj_iast C 92 (by decide) (va_up_self _ _ _) (dIn_in hd w1) dX12_lays_30 ?_
  refine gj_setf (bx_uu _ _ _ _) ?_
  refine gj_aload_n C 0 dX12_lays_31 rfl 0 rfl ?_
  refine gj_get C 87 (by decide) (up_nx (by decide) (hc0)) inX12 rfl 5 (by decide) w_854 (v := .ref (ad 92)) rfl dX12_lays_32 ?_
  refine gj_bipush C (v := 36) (by decide) dX12_lays_35 ?_
  refine gj_iload_n C 1 dX12_lays_37 rfl 1 rfl ?_
  refine gj_imul C dX12_lays_38 ?_
  refine gj_iconst C (v := 3) (by decide) dX12_lays_39 ?_
  refine gj_iload_n C 2 dX12_lays_40 rfl 2 rfl ?_
  refine gj_imul C dX12_lays_41 ?_
  refine gj_iadd C dX12_lays_42 ?_
  refine gj_iconst C (v := 2) (by decide) dX12_lays_43 ?_
  refine gj_iadd C dX12_lays_44 ?_
  refine gj_iload C dX12_lays_45 5 rfl ?_
  refine gj_iast C 92 (by decide) (va_up_self _ _ _) (dIn_in hd w2) dX12_lays_47 ?_
  refine gj_setf (bx_uu _ _ _ _) ?_
  exact RT _ _ _ rfl dX12_lays_48
def s_X12_isThere (k : Int32) (i : Int32) (mn : Nat → Int32) : Int32 := if (s_X12_isTwo k) = 0 then (0) else (if (s_X12_in i.toInt64 (0 : Int64) (((mn k.toNatClampNeg) - 1).toInt64)) = 0 then (0) else (1))
theorem b_X12_isThere (k : Int32) (i : Int32) (mn : Nat → Int32) : s_X12_isThere k i mn = 0 ∨ s_X12_isThere k i mn = 1 := by
  unfold s_X12_isThere
  repeat' split
  all_goals first | exact Or.inl rfl | exact Or.inr rfl | apply b_X12_in | apply b_X12_isTwo
set_option maxHeartbeats 1000000 in
set_option maxRecDepth 100000 in
theorem c_X12_isThere {l : Launch} {D : va_G} {ca ss ad : Nat → Nat} {f : Nat → va_E}  (k : Int32) (i : Int32) (la : Int32) (dr : Int32) (go : Int32) (lo : Int32) (ma : Int32) (pa : Int32) (tu : Int32) (su : Int32) (mn : Nat → Int32) (hc0 : f 87 = .inr (11, mF ad la dr go lo ma pa tu su)) (hc1 : f 93 = .inl (ca 0, 2, .inl mn))  : gMi l D ca ss ad 108 yX12_isThere cX12_isThere 3 (some .boolean) 2 f [.ref (ad 87), .int k, .int i] (fun r u => r = s_X12_isThere k i mn ∧ u = f) := by
  refine gMz_ofK (by decide +kernel) (Nat.le_of_ble_eq_true rfl) (lv0 := [(0, .ref (ad 87)), (1, .int k), (2, .int i)]) rfl (fun pT eT sT mT aT below meth cT AT QT C RT => ?_)
  have C : gX pT sT mT aT meth cT AT D ca ss 3 RX12 cX12_isThere (some .boolean) := C
  refine gj_iload_n C 1 dX12_isThere_0 rfl 1 rfl ?_
  refine gj_callSi C w_980 w_979 (c_X12_isTwo k) mc_X12_isTwo ⟨Nat.le_of_ble_eq_true rfl, Nat.le_of_ble_eq_true rfl⟩ (rest := []) rfl (Nat.le_of_ble_eq_true rfl) dX12_isThere_1 (fun r u h => ?_)
  obtain ⟨rfl, rfl⟩ := h
  refine gj_if_eq C 29 dX12_isThere_4 (by decide) (fun c_1 => ?_) (fun c_1 => ?_)
  · refine gj_iconst C (v := 0) (by decide) dX12_isThere_29 ?_
    exact RT _ _ _ _ (by decide) ⟨by unfold s_X12_isThere; rw [if_pos c_1], rfl⟩ dX12_isThere_30
  · refine gj_iload_n C 2 dX12_isThere_7 rfl 2 rfl ?_
    refine gj_i2l C dX12_isThere_8 ?_
    refine gj_lconst C (v := 0) rfl dX12_isThere_9 ?_
    refine gj_aload_n C 0 dX12_isThere_10 rfl 0 rfl ?_
    refine gj_get C 87 (by decide) hc0 inX12 rfl 6 (by decide) w_855 (v := .ref (ad 93)) rfl dX12_isThere_11 ?_
    refine gj_iload_n C 1 dX12_isThere_14 rfl 1 rfl ?_
    refine gj_iald C 93 (by decide) hc1 (in2 (q_isTwo c_1)) dX12_isThere_15 ?_
    refine gj_iconst C (v := 1) (by decide) dX12_isThere_16 ?_
    refine gj_isub C dX12_isThere_17 ?_
    refine gj_i2l C dX12_isThere_18 ?_
    refine gj_callSi C w_944 w_943 (c_X12_in i.toInt64 (0 : Int64) (((mn k.toNatClampNeg) - 1).toInt64)) mc_X12_in ⟨Nat.le_of_ble_eq_true rfl, Nat.le_of_ble_eq_true rfl⟩ (rest := []) rfl (Nat.le_of_ble_eq_true rfl) dX12_isThere_19 (fun r u h => ?_)
    obtain ⟨rfl, rfl⟩ := h
    refine gj_if_eq C 29 dX12_isThere_22 (by decide) (fun c_2 => ?_) (fun c_2 => ?_)
    · refine gj_iconst C (v := 0) (by decide) dX12_isThere_29 ?_
      exact RT _ _ _ _ (by decide) ⟨by unfold s_X12_isThere; rw [if_neg c_1, if_pos c_2], rfl⟩ dX12_isThere_30
    · refine gj_iconst C (v := 1) (by decide) dX12_isThere_25 ?_
      refine gj_goto C 30 dX12_isThere_26 (by decide) ?_
      exact RT _ _ _ _ (by decide) ⟨by unfold s_X12_isThere; rw [if_neg c_1, if_neg c_2], rfl⟩ dX12_isThere_30
def s_X12_add (ad ca : Nat → Nat) (f : Nat → va_E)  (k : Int32) (x : Int32) (y : Int32) (z : Int32) (la : Int32) (dr : Int32) (go : Int32) (lo : Int32) (ma : Int32) (pa : Int32) (tu : Int32) (su : Int32) (di : Nat → Int32) (mn : Nat → Int32) : Int32 × (Nat → va_E) := if (s_X12_isTwo k) = 0 then (((-2), f)) else (if (s_X12_isDirection x y z) = 0 then (((-2), f)) else (if (mn k.toNatClampNeg) = (s_X12_most k) then (((-4), f)) else (((upd mn k.toNatClampNeg ((mn k.toNatClampNeg) + 1)) k.toNatClampNeg, va_up (va_up f 92 (.inl (ca 0, 60, .inl (upd (upd (upd di ((36 * k) + (3 * (mn k.toNatClampNeg))).toNatClampNeg x) (((36 * k) + (3 * (mn k.toNatClampNeg))) + 1).toNatClampNeg y) (((36 * k) + (3 * (mn k.toNatClampNeg))) + 2).toNatClampNeg z)))) 93 (.inl (ca 0, 2, .inl (upd mn k.toNatClampNeg ((mn k.toNatClampNeg) + 1))))))))
set_option maxHeartbeats 1000000 in
set_option maxRecDepth 100000 in
theorem c_X12_add {l : Launch} {D : va_G} {ca ss ad : Nat → Nat} {f : Nat → va_E} (k : Int32) (x : Int32) (y : Int32) (z : Int32) (la : Int32) (dr : Int32) (go : Int32) (lo : Int32) (ma : Int32) (pa : Int32) (tu : Int32) (su : Int32) (di : Nat → Int32) (mn : Nat → Int32) (hc0 : f 87 = .inr (11, mF ad la dr go lo ma pa tu su)) (hc1 : f 92 = .inl (ca 0, 60, .inl di)) (hc2 : f 93 = .inl (ca 0, 2, .inl mn)) (hm : mnOk mn) : gMi l D ca ss ad 108 yX12_add cX12_add 5 (some .int) 2 f [.ref (ad 87), .int k, .int x, .int y, .int z] (fun r u => (r, u) = s_X12_add ad ca f  k x y z la dr go lo ma pa tu su di mn) := by
  refine gMi_ofK (by decide +kernel) (Nat.le_of_ble_eq_true rfl) (lv0 := [(0, .ref (ad 87)), (1, .int k), (2, .int x), (3, .int y), (4, .int z)]) rfl (fun pT eT sT mT aT below meth cT AT QT C RT => ?_)
  have C : gX pT sT mT aT meth cT AT D ca ss 5 RX12 cX12_add (some .int) := C
  refine gj_iload_n C 1 dX12_add_0 rfl 1 rfl ?_
  refine gj_callSi C w_980 w_979 (c_X12_isTwo k) mc_X12_isTwo ⟨Nat.le_of_ble_eq_true rfl, Nat.le_of_ble_eq_true rfl⟩ (rest := []) rfl (Nat.le_of_ble_eq_true rfl) dX12_add_1 (fun r u h => ?_)
  obtain ⟨rfl, rfl⟩ := h
  refine gj_if_eq C 17 dX12_add_4 (by decide) (fun c_1 => ?_) (fun c_1 => ?_)
  · refine gj_bipush C (v := (-2)) (by decide) dX12_add_17 ?_
    exact RT _ _ _ _ (by unfold s_X12_add; rw [if_pos c_1]) dX12_add_19
  · refine gj_iload_n C 2 dX12_add_7 rfl 2 rfl ?_
    refine gj_iload_n C 3 dX12_add_8 rfl 3 rfl ?_
    refine gj_iload C dX12_add_9 4 rfl ?_
    refine gj_callSi C w_983 w_982 (c_X12_isDirection x y z) mc_X12_isDirection ⟨Nat.le_of_ble_eq_true rfl, Nat.le_of_ble_eq_true rfl⟩ (rest := []) rfl (Nat.le_of_ble_eq_true rfl) dX12_add_11 (fun r u h => ?_)
    obtain ⟨rfl, rfl⟩ := h
    refine gj_if_ne C 20 dX12_add_14 (by decide) (fun c_2 => ?_) (fun c_2 => ?_)
    · refine gj_aload_n C 0 dX12_add_20 rfl 0 rfl ?_
      refine gj_get C 87 (by decide) hc0 inX12 rfl 6 (by decide) w_855 (v := .ref (ad 93)) rfl dX12_add_21 ?_
      refine gj_iload_n C 1 dX12_add_24 rfl 1 rfl ?_
      refine gj_iald C 93 (by decide) hc2 (in2 (q_isTwo c_1)) dX12_add_25 ?_
      refine gj_iload_n C 1 dX12_add_26 rfl 1 rfl ?_
      refine gj_callSi C w_988 w_987 (c_X12_most k) mc_X12_most ⟨Nat.le_of_ble_eq_true rfl, Nat.le_of_ble_eq_true rfl⟩ (rest := [.int (mn k.toNatClampNeg)]) rfl (Nat.le_of_ble_eq_true rfl) dX12_add_27 (fun r u h => ?_)
      obtain ⟨rfl, rfl⟩ := h
      refine gj_icmp_ne C 36 dX12_add_30 (by decide) (fun c_3 => ?_) (fun c_3 => ?_)
      · refine gj_aload_n C 0 dX12_add_36 rfl 0 rfl ?_
        refine gj_iload_n C 1 dX12_add_37 rfl 1 rfl ?_
        refine gj_aload_n C 0 dX12_add_38 rfl 0 rfl ?_
        refine gj_get C 87 (by decide) hc0 inX12 rfl 6 (by decide) w_855 (v := .ref (ad 93)) rfl dX12_add_39 ?_
        refine gj_iload_n C 1 dX12_add_42 rfl 1 rfl ?_
        refine gj_iald C 93 (by decide) hc2 (in2 (q_isTwo c_1)) dX12_add_43 ?_
        refine gj_iload_n C 2 dX12_add_44 rfl 2 rfl ?_
        refine gj_iload_n C 3 dX12_add_45 rfl 3 rfl ?_
        refine gj_iload C dX12_add_46 4 rfl ?_
        refine gj_callVv C mi_X12_lays w_990 87 (by decide) hc0 rfl (c_X12_lays k (mn k.toNatClampNeg) x y z la dr go lo ma pa tu su di hc0 hc1 (dIn_add hm c_1 c_3)) mc_X12_lays ⟨Nat.le_of_ble_eq_true rfl, Nat.le_of_ble_eq_true rfl⟩ (rest := []) rfl (Nat.le_of_ble_eq_true rfl) dX12_add_48 (fun u h => ?_)
        subst h
        refine gj_aload_n C 0 dX12_add_51 rfl 0 rfl ?_
        refine gj_get C 87 (by decide) (up_nx (by decide) (hc0)) inX12 rfl 6 (by decide) w_855 (v := .ref (ad 93)) rfl dX12_add_52 ?_
        refine gj_iload_n C 1 dX12_add_55 rfl 1 rfl ?_
        refine gj_dup2_11 C rfl rfl dX12_add_56 ?_
        refine gj_iald C 93 (by decide) (up_nx (by decide) (hc2)) (in2 (q_isTwo c_1)) dX12_add_57 ?_
        refine gj_iconst C (v := 1) (by decide) dX12_add_58 ?_
        refine gj_iadd C dX12_add_59 ?_
        refine gj_iast C 93 (by decide) (up_nx (by decide) (hc2)) (in2 (q_isTwo c_1)) dX12_add_60 ?_
        refine gj_aload_n C 0 dX12_add_61 rfl 0 rfl ?_
        refine gj_get C 87 (by decide) (up_nx (by decide) (up_nx (by decide) (hc0))) inX12 rfl 6 (by decide) w_855 (v := .ref (ad 93)) rfl dX12_add_62 ?_
        refine gj_iload_n C 1 dX12_add_65 rfl 1 rfl ?_
        refine gj_iald C 93 (by decide) (va_up_self _ _ _) (in2 (q_isTwo c_1)) dX12_add_66 ?_
        exact RT _ _ _ _ (by unfold s_X12_add; rw [if_neg c_1, if_neg c_2, if_neg c_3]) dX12_add_67
      · refine gj_bipush C (v := (-4)) (by decide) dX12_add_33 ?_
        exact RT _ _ _ _ (by unfold s_X12_add; rw [if_neg c_1, if_neg c_2, if_pos c_3]) dX12_add_35
    · refine gj_bipush C (v := (-2)) (by decide) dX12_add_17 ?_
      exact RT _ _ _ _ (by unfold s_X12_add; rw [if_neg c_1, if_pos c_2]) dX12_add_19
def s_X12_back (ad ca : Nat → Nat) (f : Nat → va_E)  (k : Int32) (la : Int32) (dr : Int32) (go : Int32) (lo : Int32) (ma : Int32) (pa : Int32) (tu : Int32) (su : Int32) (mn : Nat → Int32) : Int32 × (Nat → va_E) := if (s_X12_isTwo k) = 0 then (((-2), f)) else (if (mn k.toNatClampNeg) = 0 then (((-3), f)) else (((upd mn k.toNatClampNeg ((mn k.toNatClampNeg) - 1)) k.toNatClampNeg, va_up f 93 (.inl (ca 0, 2, .inl (upd mn k.toNatClampNeg ((mn k.toNatClampNeg) - 1)))))))
set_option maxHeartbeats 1000000 in
set_option maxRecDepth 100000 in
theorem c_X12_back {l : Launch} {D : va_G} {ca ss ad : Nat → Nat} {f : Nat → va_E} (k : Int32) (la : Int32) (dr : Int32) (go : Int32) (lo : Int32) (ma : Int32) (pa : Int32) (tu : Int32) (su : Int32) (mn : Nat → Int32) (hc0 : f 87 = .inr (11, mF ad la dr go lo ma pa tu su)) (hc1 : f 93 = .inl (ca 0, 2, .inl mn)) : gMi l D ca ss ad 108 yX12_back cX12_back 2 (some .int) 2 f [.ref (ad 87), .int k] (fun r u => (r, u) = s_X12_back ad ca f  k la dr go lo ma pa tu su mn) := by
  refine gMi_ofK (by decide +kernel) (Nat.le_of_ble_eq_true rfl) (lv0 := [(0, .ref (ad 87)), (1, .int k)]) rfl (fun pT eT sT mT aT below meth cT AT QT C RT => ?_)
  have C : gX pT sT mT aT meth cT AT D ca ss 2 RX12 cX12_back (some .int) := C
  refine gj_iload_n C 1 dX12_back_0 rfl 1 rfl ?_
  refine gj_callSi C w_980 w_979 (c_X12_isTwo k) mc_X12_isTwo ⟨Nat.le_of_ble_eq_true rfl, Nat.le_of_ble_eq_true rfl⟩ (rest := []) rfl (Nat.le_of_ble_eq_true rfl) dX12_back_1 (fun r u h => ?_)
  obtain ⟨rfl, rfl⟩ := h
  refine gj_if_ne C 10 dX12_back_4 (by decide) (fun c_1 => ?_) (fun c_1 => ?_)
  · refine gj_aload_n C 0 dX12_back_10 rfl 0 rfl ?_
    refine gj_get C 87 (by decide) hc0 inX12 rfl 6 (by decide) w_855 (v := .ref (ad 93)) rfl dX12_back_11 ?_
    refine gj_iload_n C 1 dX12_back_14 rfl 1 rfl ?_
    refine gj_iald C 93 (by decide) hc1 (in2 (q_isTwo c_1)) dX12_back_15 ?_
    refine gj_if_ne C 22 dX12_back_16 (by decide) (fun c_2 => ?_) (fun c_2 => ?_)
    · refine gj_aload_n C 0 dX12_back_22 rfl 0 rfl ?_
      refine gj_get C 87 (by decide) hc0 inX12 rfl 6 (by decide) w_855 (v := .ref (ad 93)) rfl dX12_back_23 ?_
      refine gj_iload_n C 1 dX12_back_26 rfl 1 rfl ?_
      refine gj_dup2_11 C rfl rfl dX12_back_27 ?_
      refine gj_iald C 93 (by decide) hc1 (in2 (q_isTwo c_1)) dX12_back_28 ?_
      refine gj_iconst C (v := 1) (by decide) dX12_back_29 ?_
      refine gj_isub C dX12_back_30 ?_
      refine gj_iast C 93 (by decide) hc1 (in2 (q_isTwo c_1)) dX12_back_31 ?_
      refine gj_aload_n C 0 dX12_back_32 rfl 0 rfl ?_
      refine gj_get C 87 (by decide) (up_nx (by decide) (hc0)) inX12 rfl 6 (by decide) w_855 (v := .ref (ad 93)) rfl dX12_back_33 ?_
      refine gj_iload_n C 1 dX12_back_36 rfl 1 rfl ?_
      refine gj_iald C 93 (by decide) (va_up_self _ _ _) (in2 (q_isTwo c_1)) dX12_back_37 ?_
      exact RT _ _ _ _ (by unfold s_X12_back; rw [if_neg c_1, if_neg c_2]) dX12_back_38
    · refine gj_bipush C (v := (-3)) (by decide) dX12_back_19 ?_
      exact RT _ _ _ _ (by unfold s_X12_back; rw [if_neg c_1, if_pos c_2]) dX12_back_21
  · refine gj_bipush C (v := (-2)) (by decide) dX12_back_7 ?_
    exact RT _ _ _ _ (by unfold s_X12_back; rw [if_pos c_1]) dX12_back_9
def s_X12_at (k : Int32) (i : Int32) (w : Int32) (di : Nat → Int32) (mn : Nat → Int32) : Int32 := if (s_X12_isThere k i mn) = 0 then ((-2147483648)) else (if (s_X12_in w.toInt64 (0 : Int64) (2 : Int64)) = 0 then ((-2147483648)) else (s_X12_of k i w di))
set_option maxHeartbeats 1000000 in
set_option maxRecDepth 100000 in
theorem c_X12_at {l : Launch} {D : va_G} {ca ss ad : Nat → Nat} {f : Nat → va_E}  (k : Int32) (i : Int32) (w : Int32) (la : Int32) (dr : Int32) (go : Int32) (lo : Int32) (ma : Int32) (pa : Int32) (tu : Int32) (su : Int32) (di : Nat → Int32) (mn : Nat → Int32) (hc0 : f 87 = .inr (11, mF ad la dr go lo ma pa tu su)) (hc1 : f 92 = .inl (ca 0, 60, .inl di)) (hc2 : f 93 = .inl (ca 0, 2, .inl mn)) (hm : mnOk mn) : gMi l D ca ss ad 108 yX12_at cX12_at 4 (some .int) 3 f [.ref (ad 87), .int k, .int i, .int w] (fun r u => r = s_X12_at k i w di mn ∧ u = f) := by
  refine gMi_ofK (by decide +kernel) (Nat.le_of_ble_eq_true rfl) (lv0 := [(0, .ref (ad 87)), (1, .int k), (2, .int i), (3, .int w)]) rfl (fun pT eT sT mT aT below meth cT AT QT C RT => ?_)
  have C : gX pT sT mT aT meth cT AT D ca ss 4 RX12 cX12_at (some .int) := C
  refine gj_aload_n C 0 dX12_at_0 rfl 0 rfl ?_
  refine gj_iload_n C 1 dX12_at_1 rfl 1 rfl ?_
  refine gj_iload_n C 2 dX12_at_2 rfl 2 rfl ?_
  refine gj_callVi C mi_X12_isThere w_1002 87 (by decide) hc0 rfl (c_X12_isThere k i la dr go lo ma pa tu su mn hc0 hc2) mc_X12_isThere ⟨Nat.le_of_ble_eq_true rfl, Nat.le_of_ble_eq_true rfl⟩ (rest := []) rfl (Nat.le_of_ble_eq_true rfl) dX12_at_3 (fun r u h => ?_)
  obtain ⟨rfl, rfl⟩ := h
  refine gj_if_eq C 31 dX12_at_6 (by decide) (fun c_1 => ?_) (fun c_1 => ?_)
  · refine gj_ldc C (v := (-2147483648)) w_970 dX12_at_31 ?_
    exact RT _ _ _ _ ⟨by unfold s_X12_at; rw [if_pos c_1], rfl⟩ dX12_at_33
  · refine gj_iload_n C 3 dX12_at_9 rfl 3 rfl ?_
    refine gj_i2l C dX12_at_10 ?_
    refine gj_lconst C (v := 0) rfl dX12_at_11 ?_
    refine gj_ldc2 C (v := 2) w_946 dX12_at_12 ?_
    refine gj_callSi C w_944 w_943 (c_X12_in w.toInt64 (0 : Int64) (2 : Int64)) mc_X12_in ⟨Nat.le_of_ble_eq_true rfl, Nat.le_of_ble_eq_true rfl⟩ (rest := []) rfl (Nat.le_of_ble_eq_true rfl) dX12_at_15 (fun r u h => ?_)
    obtain ⟨rfl, rfl⟩ := h
    refine gj_if_eq C 31 dX12_at_18 (by decide) (fun c_2 => ?_) (fun c_2 => ?_)
    · refine gj_ldc C (v := (-2147483648)) w_970 dX12_at_31 ?_
      exact RT _ _ _ _ ⟨by unfold s_X12_at; rw [if_neg c_1, if_pos c_2], rfl⟩ dX12_at_33
    · refine gj_aload_n C 0 dX12_at_21 rfl 0 rfl ?_
      refine gj_iload_n C 1 dX12_at_22 rfl 1 rfl ?_
      refine gj_iload_n C 2 dX12_at_23 rfl 2 rfl ?_
      refine gj_iload_n C 3 dX12_at_24 rfl 3 rfl ?_
      refine gj_callVi C mi_X12_of w_1006 87 (by decide) hc0 rfl (c_X12_of k i w la dr go lo ma pa tu su di hc0 hc1 (q_there hm c_1) (q_inL c_2)) mc_X12_of ⟨Nat.le_of_ble_eq_true rfl, Nat.le_of_ble_eq_true rfl⟩ (rest := []) rfl (Nat.le_of_ble_eq_true rfl) dX12_at_25 (fun r u h => ?_)
      obtain ⟨rfl, rfl⟩ := h
      refine gj_goto C 33 dX12_at_28 (by decide) ?_
      exact RT _ _ _ _ ⟨by unfold s_X12_at; rw [if_neg c_1, if_neg c_2], rfl⟩ dX12_at_33
def s_X12_sideOf (k : Int32) (i : Int32) (j : Int32) (di : Nat → Int32) : Int32 := ((0 + (((s_X12_of k i (0 : Int32) di) - (s_X12_of k j (0 : Int32) di)) * ((s_X12_of k i (0 : Int32) di) - (s_X12_of k j (0 : Int32) di)))) + (((s_X12_of k i (1 : Int32) di) - (s_X12_of k j (1 : Int32) di)) * ((s_X12_of k i (1 : Int32) di) - (s_X12_of k j (1 : Int32) di)))) + (((s_X12_of k i (2 : Int32) di) - (s_X12_of k j (2 : Int32) di)) * ((s_X12_of k i (2 : Int32) di) - (s_X12_of k j (2 : Int32) di)))
set_option maxHeartbeats 1000000 in
set_option maxRecDepth 100000 in
theorem c_X12_sideOf {l : Launch} {D : va_G} {ca ss ad : Nat → Nat} {f : Nat → va_E}  (k : Int32) (i : Int32) (j : Int32) (la : Int32) (dr : Int32) (go : Int32) (lo : Int32) (ma : Int32) (pa : Int32) (tu : Int32) (su : Int32) (di : Nat → Int32) (hc0 : f 87 = .inr (11, mF ad la dr go lo ma pa tu su)) (hc1 : f 92 = .inl (ca 0, 60, .inl di)) (hi : dIn k i) (hj : dIn k j) : gMi l D ca ss ad 108 yX12_sideOf cX12_sideOf 7 (some .int) 1 f [.ref (ad 87), .int k, .int i, .int j] (fun r u => r = s_X12_sideOf k i j di ∧ u = f) := by
  refine gMi_ofK (by decide +kernel) (Nat.le_of_ble_eq_true rfl) (lv0 := [(0, .ref (ad 87)), (1, .int k), (2, .int i), (3, .int j)]) rfl (fun pT eT sT mT aT below meth cT AT QT C RT => ?_)
  have C : gX pT sT mT aT meth cT AT D ca ss 7 RX12 cX12_sideOf (some .int) := C
  refine gj_iconst C (v := 0) (by decide) dX12_sideOf_0 ?_
  refine gj_istore C (lv' := [(4, .int 0), (0, .ref (ad 87)), (1, .int k), (2, .int i), (3, .int j)]) dX12_sideOf_1 (by decide) rfl ?_
  refine gj_iconst C (v := 0) (by decide) dX12_sideOf_3 ?_
  refine gj_istore C (lv' := [(5, .int 0), (4, .int 0), (0, .ref (ad 87)), (1, .int k), (2, .int i), (3, .int j)]) dX12_sideOf_4 (by decide) rfl ?_
  refine gj_iload C dX12_sideOf_6 0 rfl ?_
  refine gj_iconst C (v := 3) (by decide) dX12_sideOf_8 ?_
  refine gj_icmp_ge C 47 dX12_sideOf_9 (by decide) (fun c_1 => absurd c_1 (by decide)) (fun c_1 => ?_)
  refine gj_aload_n C 0 dX12_sideOf_12 rfl 2 rfl ?_
  refine gj_iload_n C 1 dX12_sideOf_13 rfl 3 rfl ?_
  refine gj_iload_n C 2 dX12_sideOf_14 rfl 4 rfl ?_
  refine gj_iload C dX12_sideOf_15 0 rfl ?_
  refine gj_callVi C mi_X12_of w_1006 87 (by decide) hc0 rfl (c_X12_of k i (0 : Int32) la dr go lo ma pa tu su di hc0 hc1 hi w0) mc_X12_of ⟨Nat.le_of_ble_eq_true rfl, Nat.le_of_ble_eq_true rfl⟩ (rest := []) rfl (Nat.le_of_ble_eq_true rfl) dX12_sideOf_17 (fun r u h => ?_)
  obtain ⟨rfl, rfl⟩ := h
  refine gj_aload_n C 0 dX12_sideOf_20 rfl 2 rfl ?_
  refine gj_iload_n C 1 dX12_sideOf_21 rfl 3 rfl ?_
  refine gj_iload_n C 3 dX12_sideOf_22 rfl 5 rfl ?_
  refine gj_iload C dX12_sideOf_23 0 rfl ?_
  refine gj_callVi C mi_X12_of w_1006 87 (by decide) hc0 rfl (c_X12_of k j (0 : Int32) la dr go lo ma pa tu su di hc0 hc1 hj w0) mc_X12_of ⟨Nat.le_of_ble_eq_true rfl, Nat.le_of_ble_eq_true rfl⟩ (rest := [.int (s_X12_of k i (0 : Int32) di)]) rfl (Nat.le_of_ble_eq_true rfl) dX12_sideOf_25 (fun r u h => ?_)
  obtain ⟨rfl, rfl⟩ := h
  refine gj_isub C dX12_sideOf_28 ?_
  refine gj_istore C (lv' := [(6, .int ((s_X12_of k i (0 : Int32) di) - (s_X12_of k j (0 : Int32) di))), (5, .int 0), (4, .int 0), (0, .ref (ad 87)), (1, .int k), (2, .int i), (3, .int j)]) dX12_sideOf_29 (by decide) rfl ?_
  refine gj_iload C dX12_sideOf_31 2 rfl ?_
  refine gj_iload C dX12_sideOf_33 0 rfl ?_
  refine gj_iload C dX12_sideOf_35 0 rfl ?_
  refine gj_imul C dX12_sideOf_37 ?_
  refine gj_iadd C dX12_sideOf_38 ?_
  refine gj_istore C (lv' := [(4, .int (0 + (((s_X12_of k i (0 : Int32) di) - (s_X12_of k j (0 : Int32) di)) * ((s_X12_of k i (0 : Int32) di) - (s_X12_of k j (0 : Int32) di))))), (6, .int ((s_X12_of k i (0 : Int32) di) - (s_X12_of k j (0 : Int32) di))), (5, .int 0), (0, .ref (ad 87)), (1, .int k), (2, .int i), (3, .int j)]) dX12_sideOf_39 (by decide) rfl ?_
  refine gj_iinc C (v := 1) (lv' := [(5, .int 1), (4, .int (0 + (((s_X12_of k i (0 : Int32) di) - (s_X12_of k j (0 : Int32) di)) * ((s_X12_of k i (0 : Int32) di) - (s_X12_of k j (0 : Int32) di))))), (6, .int ((s_X12_of k i (0 : Int32) di) - (s_X12_of k j (0 : Int32) di))), (0, .ref (ad 87)), (1, .int k), (2, .int i), (3, .int j)]) dX12_sideOf_41 2 rfl (by decide) (by decide) rfl ?_
  refine gj_goto C 6 dX12_sideOf_44 (by decide) ?_
  refine gj_iload C dX12_sideOf_6 0 rfl ?_
  refine gj_iconst C (v := 3) (by decide) dX12_sideOf_8 ?_
  refine gj_icmp_ge C 47 dX12_sideOf_9 (by decide) (fun c_2 => absurd c_2 (by decide)) (fun c_2 => ?_)
  refine gj_aload_n C 0 dX12_sideOf_12 rfl 3 rfl ?_
  refine gj_iload_n C 1 dX12_sideOf_13 rfl 4 rfl ?_
  refine gj_iload_n C 2 dX12_sideOf_14 rfl 5 rfl ?_
  refine gj_iload C dX12_sideOf_15 0 rfl ?_
  refine gj_callVi C mi_X12_of w_1006 87 (by decide) hc0 rfl (c_X12_of k i (1 : Int32) la dr go lo ma pa tu su di hc0 hc1 hi w1) mc_X12_of ⟨Nat.le_of_ble_eq_true rfl, Nat.le_of_ble_eq_true rfl⟩ (rest := []) rfl (Nat.le_of_ble_eq_true rfl) dX12_sideOf_17 (fun r u h => ?_)
  obtain ⟨rfl, rfl⟩ := h
  refine gj_aload_n C 0 dX12_sideOf_20 rfl 3 rfl ?_
  refine gj_iload_n C 1 dX12_sideOf_21 rfl 4 rfl ?_
  refine gj_iload_n C 3 dX12_sideOf_22 rfl 6 rfl ?_
  refine gj_iload C dX12_sideOf_23 0 rfl ?_
  refine gj_callVi C mi_X12_of w_1006 87 (by decide) hc0 rfl (c_X12_of k j (1 : Int32) la dr go lo ma pa tu su di hc0 hc1 hj w1) mc_X12_of ⟨Nat.le_of_ble_eq_true rfl, Nat.le_of_ble_eq_true rfl⟩ (rest := [.int (s_X12_of k i (1 : Int32) di)]) rfl (Nat.le_of_ble_eq_true rfl) dX12_sideOf_25 (fun r u h => ?_)
  obtain ⟨rfl, rfl⟩ := h
  refine gj_isub C dX12_sideOf_28 ?_
  refine gj_istore C (lv' := [(6, .int ((s_X12_of k i (1 : Int32) di) - (s_X12_of k j (1 : Int32) di))), (5, .int 1), (4, .int (0 + (((s_X12_of k i (0 : Int32) di) - (s_X12_of k j (0 : Int32) di)) * ((s_X12_of k i (0 : Int32) di) - (s_X12_of k j (0 : Int32) di))))), (0, .ref (ad 87)), (1, .int k), (2, .int i), (3, .int j)]) dX12_sideOf_29 (by decide) rfl ?_
  refine gj_iload C dX12_sideOf_31 2 rfl ?_
  refine gj_iload C dX12_sideOf_33 0 rfl ?_
  refine gj_iload C dX12_sideOf_35 0 rfl ?_
  refine gj_imul C dX12_sideOf_37 ?_
  refine gj_iadd C dX12_sideOf_38 ?_
  refine gj_istore C (lv' := [(4, .int ((0 + (((s_X12_of k i (0 : Int32) di) - (s_X12_of k j (0 : Int32) di)) * ((s_X12_of k i (0 : Int32) di) - (s_X12_of k j (0 : Int32) di)))) + (((s_X12_of k i (1 : Int32) di) - (s_X12_of k j (1 : Int32) di)) * ((s_X12_of k i (1 : Int32) di) - (s_X12_of k j (1 : Int32) di))))), (6, .int ((s_X12_of k i (1 : Int32) di) - (s_X12_of k j (1 : Int32) di))), (5, .int 1), (0, .ref (ad 87)), (1, .int k), (2, .int i), (3, .int j)]) dX12_sideOf_39 (by decide) rfl ?_
  refine gj_iinc C (v := 2) (lv' := [(5, .int 2), (4, .int ((0 + (((s_X12_of k i (0 : Int32) di) - (s_X12_of k j (0 : Int32) di)) * ((s_X12_of k i (0 : Int32) di) - (s_X12_of k j (0 : Int32) di)))) + (((s_X12_of k i (1 : Int32) di) - (s_X12_of k j (1 : Int32) di)) * ((s_X12_of k i (1 : Int32) di) - (s_X12_of k j (1 : Int32) di))))), (6, .int ((s_X12_of k i (1 : Int32) di) - (s_X12_of k j (1 : Int32) di))), (0, .ref (ad 87)), (1, .int k), (2, .int i), (3, .int j)]) dX12_sideOf_41 2 rfl (by decide) (by decide) rfl ?_
  refine gj_goto C 6 dX12_sideOf_44 (by decide) ?_
  refine gj_iload C dX12_sideOf_6 0 rfl ?_
  refine gj_iconst C (v := 3) (by decide) dX12_sideOf_8 ?_
  refine gj_icmp_ge C 47 dX12_sideOf_9 (by decide) (fun c_3 => absurd c_3 (by decide)) (fun c_3 => ?_)
  refine gj_aload_n C 0 dX12_sideOf_12 rfl 3 rfl ?_
  refine gj_iload_n C 1 dX12_sideOf_13 rfl 4 rfl ?_
  refine gj_iload_n C 2 dX12_sideOf_14 rfl 5 rfl ?_
  refine gj_iload C dX12_sideOf_15 0 rfl ?_
  refine gj_callVi C mi_X12_of w_1006 87 (by decide) hc0 rfl (c_X12_of k i (2 : Int32) la dr go lo ma pa tu su di hc0 hc1 hi w2) mc_X12_of ⟨Nat.le_of_ble_eq_true rfl, Nat.le_of_ble_eq_true rfl⟩ (rest := []) rfl (Nat.le_of_ble_eq_true rfl) dX12_sideOf_17 (fun r u h => ?_)
  obtain ⟨rfl, rfl⟩ := h
  refine gj_aload_n C 0 dX12_sideOf_20 rfl 3 rfl ?_
  refine gj_iload_n C 1 dX12_sideOf_21 rfl 4 rfl ?_
  refine gj_iload_n C 3 dX12_sideOf_22 rfl 6 rfl ?_
  refine gj_iload C dX12_sideOf_23 0 rfl ?_
  refine gj_callVi C mi_X12_of w_1006 87 (by decide) hc0 rfl (c_X12_of k j (2 : Int32) la dr go lo ma pa tu su di hc0 hc1 hj w2) mc_X12_of ⟨Nat.le_of_ble_eq_true rfl, Nat.le_of_ble_eq_true rfl⟩ (rest := [.int (s_X12_of k i (2 : Int32) di)]) rfl (Nat.le_of_ble_eq_true rfl) dX12_sideOf_25 (fun r u h => ?_)
  obtain ⟨rfl, rfl⟩ := h
  refine gj_isub C dX12_sideOf_28 ?_
  refine gj_istore C (lv' := [(6, .int ((s_X12_of k i (2 : Int32) di) - (s_X12_of k j (2 : Int32) di))), (5, .int 2), (4, .int ((0 + (((s_X12_of k i (0 : Int32) di) - (s_X12_of k j (0 : Int32) di)) * ((s_X12_of k i (0 : Int32) di) - (s_X12_of k j (0 : Int32) di)))) + (((s_X12_of k i (1 : Int32) di) - (s_X12_of k j (1 : Int32) di)) * ((s_X12_of k i (1 : Int32) di) - (s_X12_of k j (1 : Int32) di))))), (0, .ref (ad 87)), (1, .int k), (2, .int i), (3, .int j)]) dX12_sideOf_29 (by decide) rfl ?_
  refine gj_iload C dX12_sideOf_31 2 rfl ?_
  refine gj_iload C dX12_sideOf_33 0 rfl ?_
  refine gj_iload C dX12_sideOf_35 0 rfl ?_
  refine gj_imul C dX12_sideOf_37 ?_
  refine gj_iadd C dX12_sideOf_38 ?_
  refine gj_istore C (lv' := [(4, .int (((0 + (((s_X12_of k i (0 : Int32) di) - (s_X12_of k j (0 : Int32) di)) * ((s_X12_of k i (0 : Int32) di) - (s_X12_of k j (0 : Int32) di)))) + (((s_X12_of k i (1 : Int32) di) - (s_X12_of k j (1 : Int32) di)) * ((s_X12_of k i (1 : Int32) di) - (s_X12_of k j (1 : Int32) di)))) + (((s_X12_of k i (2 : Int32) di) - (s_X12_of k j (2 : Int32) di)) * ((s_X12_of k i (2 : Int32) di) - (s_X12_of k j (2 : Int32) di))))), (6, .int ((s_X12_of k i (2 : Int32) di) - (s_X12_of k j (2 : Int32) di))), (5, .int 2), (0, .ref (ad 87)), (1, .int k), (2, .int i), (3, .int j)]) dX12_sideOf_39 (by decide) rfl ?_
  refine gj_iinc C (v := 3) (lv' := [(5, .int 3), (4, .int (((0 + (((s_X12_of k i (0 : Int32) di) - (s_X12_of k j (0 : Int32) di)) * ((s_X12_of k i (0 : Int32) di) - (s_X12_of k j (0 : Int32) di)))) + (((s_X12_of k i (1 : Int32) di) - (s_X12_of k j (1 : Int32) di)) * ((s_X12_of k i (1 : Int32) di) - (s_X12_of k j (1 : Int32) di)))) + (((s_X12_of k i (2 : Int32) di) - (s_X12_of k j (2 : Int32) di)) * ((s_X12_of k i (2 : Int32) di) - (s_X12_of k j (2 : Int32) di))))), (6, .int ((s_X12_of k i (2 : Int32) di) - (s_X12_of k j (2 : Int32) di))), (0, .ref (ad 87)), (1, .int k), (2, .int i), (3, .int j)]) dX12_sideOf_41 2 rfl (by decide) (by decide) rfl ?_
  refine gj_goto C 6 dX12_sideOf_44 (by decide) ?_
  refine gj_iload C dX12_sideOf_6 0 rfl ?_
  refine gj_iconst C (v := 3) (by decide) dX12_sideOf_8 ?_
  refine gj_icmp_ge C 47 dX12_sideOf_9 (by decide) (fun c_4 => ?_) (fun c_4 => absurd (by decide) c_4)
  refine gj_iload C dX12_sideOf_47 1 rfl ?_
  exact RT _ _ _ _ ⟨rfl, rfl⟩ dX12_sideOf_49
def s_X12_side (k : Int32) (i : Int32) (j : Int32) (di : Nat → Int32) (mn : Nat → Int32) : Int32 := if (s_X12_isThere k i mn) = 0 then ((-2)) else (if (s_X12_isThere k j mn) = 0 then ((-2)) else (s_X12_sideOf k i j di))
set_option maxHeartbeats 1000000 in
set_option maxRecDepth 100000 in
theorem c_X12_side {l : Launch} {D : va_G} {ca ss ad : Nat → Nat} {f : Nat → va_E}  (k : Int32) (i : Int32) (j : Int32) (la : Int32) (dr : Int32) (go : Int32) (lo : Int32) (ma : Int32) (pa : Int32) (tu : Int32) (su : Int32) (di : Nat → Int32) (mn : Nat → Int32) (hc0 : f 87 = .inr (11, mF ad la dr go lo ma pa tu su)) (hc1 : f 92 = .inl (ca 0, 60, .inl di)) (hc2 : f 93 = .inl (ca 0, 2, .inl mn)) (hm : mnOk mn) : gMi l D ca ss ad 108 yX12_side cX12_side 4 (some .int) 3 f [.ref (ad 87), .int k, .int i, .int j] (fun r u => r = s_X12_side k i j di mn ∧ u = f) := by
  refine gMi_ofK (by decide +kernel) (Nat.le_of_ble_eq_true rfl) (lv0 := [(0, .ref (ad 87)), (1, .int k), (2, .int i), (3, .int j)]) rfl (fun pT eT sT mT aT below meth cT AT QT C RT => ?_)
  have C : gX pT sT mT aT meth cT AT D ca ss 4 RX12 cX12_side (some .int) := C
  refine gj_aload_n C 0 dX12_side_0 rfl 0 rfl ?_
  refine gj_iload_n C 1 dX12_side_1 rfl 1 rfl ?_
  refine gj_iload_n C 2 dX12_side_2 rfl 2 rfl ?_
  refine gj_callVi C mi_X12_isThere w_1002 87 (by decide) hc0 rfl (c_X12_isThere k i la dr go lo ma pa tu su mn hc0 hc2) mc_X12_isThere ⟨Nat.le_of_ble_eq_true rfl, Nat.le_of_ble_eq_true rfl⟩ (rest := []) rfl (Nat.le_of_ble_eq_true rfl) dX12_side_3 (fun r u h => ?_)
  obtain ⟨rfl, rfl⟩ := h
  refine gj_if_eq C 28 dX12_side_6 (by decide) (fun c_1 => ?_) (fun c_1 => ?_)
  · refine gj_bipush C (v := (-2)) (by decide) dX12_side_28 ?_
    exact RT _ _ _ _ ⟨by unfold s_X12_side; rw [if_pos c_1], rfl⟩ dX12_side_30
  · refine gj_aload_n C 0 dX12_side_9 rfl 0 rfl ?_
    refine gj_iload_n C 1 dX12_side_10 rfl 1 rfl ?_
    refine gj_iload_n C 3 dX12_side_11 rfl 3 rfl ?_
    refine gj_callVi C mi_X12_isThere w_1002 87 (by decide) hc0 rfl (c_X12_isThere k j la dr go lo ma pa tu su mn hc0 hc2) mc_X12_isThere ⟨Nat.le_of_ble_eq_true rfl, Nat.le_of_ble_eq_true rfl⟩ (rest := []) rfl (Nat.le_of_ble_eq_true rfl) dX12_side_12 (fun r u h => ?_)
    obtain ⟨rfl, rfl⟩ := h
    refine gj_if_eq C 28 dX12_side_15 (by decide) (fun c_2 => ?_) (fun c_2 => ?_)
    · refine gj_bipush C (v := (-2)) (by decide) dX12_side_28 ?_
      exact RT _ _ _ _ ⟨by unfold s_X12_side; rw [if_neg c_1, if_pos c_2], rfl⟩ dX12_side_30
    · refine gj_aload_n C 0 dX12_side_18 rfl 0 rfl ?_
      refine gj_iload_n C 1 dX12_side_19 rfl 1 rfl ?_
      refine gj_iload_n C 2 dX12_side_20 rfl 2 rfl ?_
      refine gj_iload_n C 3 dX12_side_21 rfl 3 rfl ?_
      refine gj_callVi C mi_X12_sideOf w_1049 87 (by decide) hc0 rfl (c_X12_sideOf k i j la dr go lo ma pa tu su di hc0 hc1 (q_there hm c_1) (q_there hm c_2)) mc_X12_sideOf ⟨Nat.le_of_ble_eq_true rfl, Nat.le_of_ble_eq_true rfl⟩ (rest := []) rfl (Nat.le_of_ble_eq_true rfl) dX12_side_22 (fun r u h => ?_)
      obtain ⟨rfl, rfl⟩ := h
      refine gj_goto C 30 dX12_side_25 (by decide) ?_
      exact RT _ _ _ _ ⟨by unfold s_X12_side; rw [if_neg c_1, if_neg c_2], rfl⟩ dX12_side_30
def s_X12_keyOf (k : Int32) (a : Int32) (b : Int32) (c : Int32) (w : Int32) (di : Nat → Int32) (se : Nat → Int32) : Int32 := if w = 0 then ((s_X12_lesser (s_X12_sideOf k a b di) (s_X12_lesser (s_X12_sideOf k a c di) (s_X12_sideOf k b c di))) / (se 0)) else (if w = 2 then ((s_X12_greater (s_X12_sideOf k a b di) (s_X12_greater (s_X12_sideOf k a c di) (s_X12_sideOf k b c di))) / (se 0)) else ((((((s_X12_sideOf k a b di) + (s_X12_sideOf k a c di)) + (s_X12_sideOf k b c di)) - (s_X12_lesser (s_X12_sideOf k a b di) (s_X12_lesser (s_X12_sideOf k a c di) (s_X12_sideOf k b c di)))) - (s_X12_greater (s_X12_sideOf k a b di) (s_X12_greater (s_X12_sideOf k a c di) (s_X12_sideOf k b c di)))) / (se 0)))
set_option maxHeartbeats 1000000 in
set_option maxRecDepth 100000 in
theorem c_X12_keyOf {l : Launch} {D : va_G} {ca ss ad : Nat → Nat} {f : Nat → va_E}  (k : Int32) (a : Int32) (b : Int32) (c : Int32) (w : Int32) (la : Int32) (dr : Int32) (go : Int32) (lo : Int32) (ma : Int32) (pa : Int32) (tu : Int32) (su : Int32) (di : Nat → Int32) (se : Nat → Int32) (hc0 : f 87 = .inr (11, mF ad la dr go lo ma pa tu su)) (hc1 : f 92 = .inl (ca 0, 60, .inl di)) (hc2 : f 94 = .inl (ca 0, 4, .inl se)) (ha : dIn k a) (hb : dIn k b) (hc : dIn k c) (hz : ¬ se 0 = 0) : gMi l D ca ss ad 108 yX12_keyOf cX12_keyOf 11 (some .int) 2 f [.ref (ad 87), .int k, .int a, .int b, .int c, .int w] (fun r u => r = s_X12_keyOf k a b c w di se ∧ u = f) := by
  refine gMi_ofK (by decide +kernel) (Nat.le_of_ble_eq_true rfl) (lv0 := [(0, .ref (ad 87)), (1, .int k), (2, .int a), (3, .int b), (4, .int c), (5, .int w)]) rfl (fun pT eT sT mT aT below meth cT AT QT C RT => ?_)
  have C : gX pT sT mT aT meth cT AT D ca ss 11 RX12 cX12_keyOf (some .int) := C
  refine gj_aload_n C 0 dX12_keyOf_0 rfl 0 rfl ?_
  refine gj_iload_n C 1 dX12_keyOf_1 rfl 1 rfl ?_
  refine gj_iload_n C 2 dX12_keyOf_2 rfl 2 rfl ?_
  refine gj_iload_n C 3 dX12_keyOf_3 rfl 3 rfl ?_
  refine gj_callVi C mi_X12_sideOf w_1049 87 (by decide) hc0 rfl (c_X12_sideOf k a b la dr go lo ma pa tu su di hc0 hc1 ha hb) mc_X12_sideOf ⟨Nat.le_of_ble_eq_true rfl, Nat.le_of_ble_eq_true rfl⟩ (rest := []) rfl (Nat.le_of_ble_eq_true rfl) dX12_keyOf_4 (fun r u h => ?_)
  obtain ⟨rfl, rfl⟩ := h
  refine gj_istore C (lv' := [(6, .int (s_X12_sideOf k a b di)), (0, .ref (ad 87)), (1, .int k), (2, .int a), (3, .int b), (4, .int c), (5, .int w)]) dX12_keyOf_7 (by decide) rfl ?_
  refine gj_aload_n C 0 dX12_keyOf_9 rfl 1 rfl ?_
  refine gj_iload_n C 1 dX12_keyOf_10 rfl 2 rfl ?_
  refine gj_iload_n C 2 dX12_keyOf_11 rfl 3 rfl ?_
  refine gj_iload C dX12_keyOf_12 5 rfl ?_
  refine gj_callVi C mi_X12_sideOf w_1049 87 (by decide) hc0 rfl (c_X12_sideOf k a c la dr go lo ma pa tu su di hc0 hc1 ha hc) mc_X12_sideOf ⟨Nat.le_of_ble_eq_true rfl, Nat.le_of_ble_eq_true rfl⟩ (rest := []) rfl (Nat.le_of_ble_eq_true rfl) dX12_keyOf_14 (fun r u h => ?_)
  obtain ⟨rfl, rfl⟩ := h
  refine gj_istore C (lv' := [(7, .int (s_X12_sideOf k a c di)), (6, .int (s_X12_sideOf k a b di)), (0, .ref (ad 87)), (1, .int k), (2, .int a), (3, .int b), (4, .int c), (5, .int w)]) dX12_keyOf_17 (by decide) rfl ?_
  refine gj_aload_n C 0 dX12_keyOf_19 rfl 2 rfl ?_
  refine gj_iload_n C 1 dX12_keyOf_20 rfl 3 rfl ?_
  refine gj_iload_n C 3 dX12_keyOf_21 rfl 5 rfl ?_
  refine gj_iload C dX12_keyOf_22 6 rfl ?_
  refine gj_callVi C mi_X12_sideOf w_1049 87 (by decide) hc0 rfl (c_X12_sideOf k b c la dr go lo ma pa tu su di hc0 hc1 hb hc) mc_X12_sideOf ⟨Nat.le_of_ble_eq_true rfl, Nat.le_of_ble_eq_true rfl⟩ (rest := []) rfl (Nat.le_of_ble_eq_true rfl) dX12_keyOf_24 (fun r u h => ?_)
  obtain ⟨rfl, rfl⟩ := h
  refine gj_istore C (lv' := [(8, .int (s_X12_sideOf k b c di)), (7, .int (s_X12_sideOf k a c di)), (6, .int (s_X12_sideOf k a b di)), (0, .ref (ad 87)), (1, .int k), (2, .int a), (3, .int b), (4, .int c), (5, .int w)]) dX12_keyOf_27 (by decide) rfl ?_
  refine gj_iload C dX12_keyOf_29 2 rfl ?_
  refine gj_iload C dX12_keyOf_31 1 rfl ?_
  refine gj_iload C dX12_keyOf_33 0 rfl ?_
  refine gj_callSi C w_1020 w_1019 (c_X12_lesser (s_X12_sideOf k a c di) (s_X12_sideOf k b c di)) mc_X12_lesser ⟨Nat.le_of_ble_eq_true rfl, Nat.le_of_ble_eq_true rfl⟩ (rest := [.int (s_X12_sideOf k a b di)]) rfl (Nat.le_of_ble_eq_true rfl) dX12_keyOf_35 (fun r u h => ?_)
  obtain ⟨rfl, rfl⟩ := h
  refine gj_callSi C w_1020 w_1019 (c_X12_lesser (s_X12_sideOf k a b di) (s_X12_lesser (s_X12_sideOf k a c di) (s_X12_sideOf k b c di))) mc_X12_lesser ⟨Nat.le_of_ble_eq_true rfl, Nat.le_of_ble_eq_true rfl⟩ (rest := []) rfl (Nat.le_of_ble_eq_true rfl) dX12_keyOf_38 (fun r u h => ?_)
  obtain ⟨rfl, rfl⟩ := h
  refine gj_istore C (lv' := [(9, .int (s_X12_lesser (s_X12_sideOf k a b di) (s_X12_lesser (s_X12_sideOf k a c di) (s_X12_sideOf k b c di)))), (8, .int (s_X12_sideOf k b c di)), (7, .int (s_X12_sideOf k a c di)), (6, .int (s_X12_sideOf k a b di)), (0, .ref (ad 87)), (1, .int k), (2, .int a), (3, .int b), (4, .int c), (5, .int w)]) dX12_keyOf_41 (by decide) rfl ?_
  refine gj_iload C dX12_keyOf_43 3 rfl ?_
  refine gj_iload C dX12_keyOf_45 2 rfl ?_
  refine gj_iload C dX12_keyOf_47 1 rfl ?_
  refine gj_callSi C w_1036 w_1035 (c_X12_greater (s_X12_sideOf k a c di) (s_X12_sideOf k b c di)) mc_X12_greater ⟨Nat.le_of_ble_eq_true rfl, Nat.le_of_ble_eq_true rfl⟩ (rest := [.int (s_X12_sideOf k a b di)]) rfl (Nat.le_of_ble_eq_true rfl) dX12_keyOf_49 (fun r u h => ?_)
  obtain ⟨rfl, rfl⟩ := h
  refine gj_callSi C w_1036 w_1035 (c_X12_greater (s_X12_sideOf k a b di) (s_X12_greater (s_X12_sideOf k a c di) (s_X12_sideOf k b c di))) mc_X12_greater ⟨Nat.le_of_ble_eq_true rfl, Nat.le_of_ble_eq_true rfl⟩ (rest := []) rfl (Nat.le_of_ble_eq_true rfl) dX12_keyOf_52 (fun r u h => ?_)
  obtain ⟨rfl, rfl⟩ := h
  refine gj_istore C (lv' := [(10, .int (s_X12_greater (s_X12_sideOf k a b di) (s_X12_greater (s_X12_sideOf k a c di) (s_X12_sideOf k b c di)))), (9, .int (s_X12_lesser (s_X12_sideOf k a b di) (s_X12_lesser (s_X12_sideOf k a c di) (s_X12_sideOf k b c di)))), (8, .int (s_X12_sideOf k b c di)), (7, .int (s_X12_sideOf k a c di)), (6, .int (s_X12_sideOf k a b di)), (0, .ref (ad 87)), (1, .int k), (2, .int a), (3, .int b), (4, .int c), (5, .int w)]) dX12_keyOf_55 (by decide) rfl ?_
  refine gj_iload C dX12_keyOf_57 10 rfl ?_
  refine gj_if_ne C 67 dX12_keyOf_59 (by decide) (fun c_1 => ?_) (fun c_1 => ?_)
  · refine gj_iload C dX12_keyOf_67 10 rfl ?_
    refine gj_iconst C (v := 2) (by decide) dX12_keyOf_69 ?_
    refine gj_icmp_ne C 78 dX12_keyOf_70 (by decide) (fun c_2 => ?_) (fun c_2 => ?_)
    · refine gj_iload C dX12_keyOf_78 4 rfl ?_
      refine gj_iload C dX12_keyOf_80 3 rfl ?_
      refine gj_iadd C dX12_keyOf_82 ?_
      refine gj_iload C dX12_keyOf_83 2 rfl ?_
      refine gj_iadd C dX12_keyOf_85 ?_
      refine gj_iload C dX12_keyOf_86 1 rfl ?_
      refine gj_isub C dX12_keyOf_88 ?_
      refine gj_iload C dX12_keyOf_89 0 rfl ?_
      refine gj_isub C dX12_keyOf_91 ?_
      refine gj_aload_n C 0 dX12_keyOf_92 rfl 5 rfl ?_
      refine gj_get C 87 (by decide) hc0 inX12 rfl 7 (by decide) w_856 (v := .ref (ad 94)) rfl dX12_keyOf_93 ?_
      refine gj_iconst C (v := 0) (by decide) dX12_keyOf_96 ?_
      refine gj_iald C 94 (by decide) hc2 (by unfold vp_in; decide) dX12_keyOf_97 ?_
      refine gj_seti (y := se 0) rfl ?_
      refine gj_idiv C hz dX12_keyOf_98 ?_
      exact RT _ _ _ _ ⟨by unfold s_X12_keyOf; rw [if_neg c_1, if_neg c_2], rfl⟩ dX12_keyOf_99
    · refine gj_iload C dX12_keyOf_73 0 rfl ?_
      refine gj_goto C 92 dX12_keyOf_75 (by decide) ?_
      refine gj_aload_n C 0 dX12_keyOf_92 rfl 5 rfl ?_
      refine gj_get C 87 (by decide) hc0 inX12 rfl 7 (by decide) w_856 (v := .ref (ad 94)) rfl dX12_keyOf_93 ?_
      refine gj_iconst C (v := 0) (by decide) dX12_keyOf_96 ?_
      refine gj_iald C 94 (by decide) hc2 (by unfold vp_in; decide) dX12_keyOf_97 ?_
      refine gj_seti (y := se 0) rfl ?_
      refine gj_idiv C hz dX12_keyOf_98 ?_
      exact RT _ _ _ _ ⟨by unfold s_X12_keyOf; rw [if_neg c_1, if_pos c_2], rfl⟩ dX12_keyOf_99
  · refine gj_iload C dX12_keyOf_62 1 rfl ?_
    refine gj_goto C 92 dX12_keyOf_64 (by decide) ?_
    refine gj_aload_n C 0 dX12_keyOf_92 rfl 5 rfl ?_
    refine gj_get C 87 (by decide) hc0 inX12 rfl 7 (by decide) w_856 (v := .ref (ad 94)) rfl dX12_keyOf_93 ?_
    refine gj_iconst C (v := 0) (by decide) dX12_keyOf_96 ?_
    refine gj_iald C 94 (by decide) hc2 (by unfold vp_in; decide) dX12_keyOf_97 ?_
    refine gj_seti (y := se 0) rfl ?_
    refine gj_idiv C hz dX12_keyOf_98 ?_
    exact RT _ _ _ _ ⟨by unfold s_X12_keyOf; rw [if_pos c_1], rfl⟩ dX12_keyOf_99
def s_X12_isTriangle (k : Int32) (a : Int32) (b : Int32) (c : Int32) (mn : Nat → Int32) : Int32 := if (s_X12_isThere k a mn) = 0 then (0) else (if (s_X12_isThere k b mn) = 0 then (0) else (if (s_X12_isThere k c mn) = 0 then (0) else (if a = b then (0) else (if a = c then (0) else (if b = c then (0) else (1))))))
theorem b_X12_isTriangle (k : Int32) (a : Int32) (b : Int32) (c : Int32) (mn : Nat → Int32) : s_X12_isTriangle k a b c mn = 0 ∨ s_X12_isTriangle k a b c mn = 1 := by
  unfold s_X12_isTriangle
  repeat' split
  all_goals first | exact Or.inl rfl | exact Or.inr rfl | apply b_X12_isThere
set_option maxHeartbeats 1000000 in
set_option maxRecDepth 100000 in
theorem c_X12_isTriangle {l : Launch} {D : va_G} {ca ss ad : Nat → Nat} {f : Nat → va_E}  (k : Int32) (a : Int32) (b : Int32) (c : Int32) (la : Int32) (dr : Int32) (go : Int32) (lo : Int32) (ma : Int32) (pa : Int32) (tu : Int32) (su : Int32) (mn : Nat → Int32) (hc0 : f 87 = .inr (11, mF ad la dr go lo ma pa tu su)) (hc1 : f 93 = .inl (ca 0, 2, .inl mn))  : gMi l D ca ss ad 108 yX12_isTriangle cX12_isTriangle 5 (some .boolean) 3 f [.ref (ad 87), .int k, .int a, .int b, .int c] (fun r u => r = s_X12_isTriangle k a b c mn ∧ u = f) := by
  refine gMz_ofK (by decide +kernel) (Nat.le_of_ble_eq_true rfl) (lv0 := [(0, .ref (ad 87)), (1, .int k), (2, .int a), (3, .int b), (4, .int c)]) rfl (fun pT eT sT mT aT below meth cT AT QT C RT => ?_)
  have C : gX pT sT mT aT meth cT AT D ca ss 5 RX12 cX12_isTriangle (some .boolean) := C
  refine gj_aload_n C 0 dX12_isTriangle_0 rfl 0 rfl ?_
  refine gj_iload_n C 1 dX12_isTriangle_1 rfl 1 rfl ?_
  refine gj_iload_n C 2 dX12_isTriangle_2 rfl 2 rfl ?_
  refine gj_callVi C mi_X12_isThere w_1002 87 (by decide) hc0 rfl (c_X12_isThere k a la dr go lo ma pa tu su mn hc0 hc1) mc_X12_isThere ⟨Nat.le_of_ble_eq_true rfl, Nat.le_of_ble_eq_true rfl⟩ (rest := []) rfl (Nat.le_of_ble_eq_true rfl) dX12_isTriangle_3 (fun r u h => ?_)
  obtain ⟨rfl, rfl⟩ := h
  refine gj_if_eq C 49 dX12_isTriangle_6 (by decide) (fun c_1 => ?_) (fun c_1 => ?_)
  · refine gj_iconst C (v := 0) (by decide) dX12_isTriangle_49 ?_
    exact RT _ _ _ _ (by decide) ⟨by unfold s_X12_isTriangle; rw [if_pos c_1], rfl⟩ dX12_isTriangle_50
  · refine gj_aload_n C 0 dX12_isTriangle_9 rfl 0 rfl ?_
    refine gj_iload_n C 1 dX12_isTriangle_10 rfl 1 rfl ?_
    refine gj_iload_n C 3 dX12_isTriangle_11 rfl 3 rfl ?_
    refine gj_callVi C mi_X12_isThere w_1002 87 (by decide) hc0 rfl (c_X12_isThere k b la dr go lo ma pa tu su mn hc0 hc1) mc_X12_isThere ⟨Nat.le_of_ble_eq_true rfl, Nat.le_of_ble_eq_true rfl⟩ (rest := []) rfl (Nat.le_of_ble_eq_true rfl) dX12_isTriangle_12 (fun r u h => ?_)
    obtain ⟨rfl, rfl⟩ := h
    refine gj_if_eq C 49 dX12_isTriangle_15 (by decide) (fun c_2 => ?_) (fun c_2 => ?_)
    · refine gj_iconst C (v := 0) (by decide) dX12_isTriangle_49 ?_
      exact RT _ _ _ _ (by decide) ⟨by unfold s_X12_isTriangle; rw [if_neg c_1, if_pos c_2], rfl⟩ dX12_isTriangle_50
    · refine gj_aload_n C 0 dX12_isTriangle_18 rfl 0 rfl ?_
      refine gj_iload_n C 1 dX12_isTriangle_19 rfl 1 rfl ?_
      refine gj_iload C dX12_isTriangle_20 4 rfl ?_
      refine gj_callVi C mi_X12_isThere w_1002 87 (by decide) hc0 rfl (c_X12_isThere k c la dr go lo ma pa tu su mn hc0 hc1) mc_X12_isThere ⟨Nat.le_of_ble_eq_true rfl, Nat.le_of_ble_eq_true rfl⟩ (rest := []) rfl (Nat.le_of_ble_eq_true rfl) dX12_isTriangle_22 (fun r u h => ?_)
      obtain ⟨rfl, rfl⟩ := h
      refine gj_if_eq C 49 dX12_isTriangle_25 (by decide) (fun c_3 => ?_) (fun c_3 => ?_)
      · refine gj_iconst C (v := 0) (by decide) dX12_isTriangle_49 ?_
        exact RT _ _ _ _ (by decide) ⟨by unfold s_X12_isTriangle; rw [if_neg c_1, if_neg c_2, if_pos c_3], rfl⟩ dX12_isTriangle_50
      · refine gj_iload_n C 2 dX12_isTriangle_28 rfl 2 rfl ?_
        refine gj_iload_n C 3 dX12_isTriangle_29 rfl 3 rfl ?_
        refine gj_icmp_eq C 49 dX12_isTriangle_30 (by decide) (fun c_4 => ?_) (fun c_4 => ?_)
        · refine gj_iconst C (v := 0) (by decide) dX12_isTriangle_49 ?_
          exact RT _ _ _ _ (by decide) ⟨by unfold s_X12_isTriangle; rw [if_neg c_1, if_neg c_2, if_neg c_3, if_pos c_4], rfl⟩ dX12_isTriangle_50
        · refine gj_iload_n C 2 dX12_isTriangle_33 rfl 2 rfl ?_
          refine gj_iload C dX12_isTriangle_34 4 rfl ?_
          refine gj_icmp_eq C 49 dX12_isTriangle_36 (by decide) (fun c_5 => ?_) (fun c_5 => ?_)
          · refine gj_iconst C (v := 0) (by decide) dX12_isTriangle_49 ?_
            exact RT _ _ _ _ (by decide) ⟨by unfold s_X12_isTriangle; rw [if_neg c_1, if_neg c_2, if_neg c_3, if_neg c_4, if_pos c_5], rfl⟩ dX12_isTriangle_50
          · refine gj_iload_n C 3 dX12_isTriangle_39 rfl 3 rfl ?_
            refine gj_iload C dX12_isTriangle_40 4 rfl ?_
            refine gj_icmp_eq C 49 dX12_isTriangle_42 (by decide) (fun c_6 => ?_) (fun c_6 => ?_)
            · refine gj_iconst C (v := 0) (by decide) dX12_isTriangle_49 ?_
              exact RT _ _ _ _ (by decide) ⟨by unfold s_X12_isTriangle; rw [if_neg c_1, if_neg c_2, if_neg c_3, if_neg c_4, if_neg c_5, if_pos c_6], rfl⟩ dX12_isTriangle_50
            · refine gj_iconst C (v := 1) (by decide) dX12_isTriangle_45 ?_
              refine gj_goto C 50 dX12_isTriangle_46 (by decide) ?_
              exact RT _ _ _ _ (by decide) ⟨by unfold s_X12_isTriangle; rw [if_neg c_1, if_neg c_2, if_neg c_3, if_neg c_4, if_neg c_5, if_neg c_6], rfl⟩ dX12_isTriangle_50
theorem q_tri {k a b c : Int32} {mn : Nat → Int32} (hm : mnOk mn) : ¬ (s_X12_isTriangle k a b c mn) = 0 → dIn k a ∧ dIn k b ∧ dIn k c := by
  intro h
  unfold s_X12_isTriangle at h
  split at h
  · exact absurd rfl h
  · split at h
    · exact absurd rfl h
    · split at h
      · exact absurd rfl h
      · rename_i h1 h2 h3
        unfold s_X12_isThere at h1 h2 h3
        exact ⟨q_there hm h1, q_there hm h2, q_there hm h3⟩
def s_X12_key (k : Int32) (a : Int32) (b : Int32) (c : Int32) (w : Int32) (di : Nat → Int32) (mn : Nat → Int32) (se : Nat → Int32) : Int32 := if (s_X12_isTriangle k a b c mn) = 0 then ((-2)) else (if (s_X12_in w.toInt64 (0 : Int64) (2 : Int64)) = 0 then ((-2)) else (s_X12_keyOf k a b c w di se))
set_option maxHeartbeats 1000000 in
set_option maxRecDepth 100000 in
theorem c_X12_key {l : Launch} {D : va_G} {ca ss ad : Nat → Nat} {f : Nat → va_E}  (k : Int32) (a : Int32) (b : Int32) (c : Int32) (w : Int32) (la : Int32) (dr : Int32) (go : Int32) (lo : Int32) (ma : Int32) (pa : Int32) (tu : Int32) (su : Int32) (di : Nat → Int32) (mn : Nat → Int32) (se : Nat → Int32) (hc0 : f 87 = .inr (11, mF ad la dr go lo ma pa tu su)) (hc1 : f 92 = .inl (ca 0, 60, .inl di)) (hc2 : f 93 = .inl (ca 0, 2, .inl mn)) (hc3 : f 94 = .inl (ca 0, 4, .inl se)) (hm : mnOk mn) (hz : ¬ se 0 = 0) : gMi l D ca ss ad 108 yX12_key cX12_key 6 (some .int) 4 f [.ref (ad 87), .int k, .int a, .int b, .int c, .int w] (fun r u => r = s_X12_key k a b c w di mn se ∧ u = f) := by
  refine gMi_ofK (by decide +kernel) (Nat.le_of_ble_eq_true rfl) (lv0 := [(0, .ref (ad 87)), (1, .int k), (2, .int a), (3, .int b), (4, .int c), (5, .int w)]) rfl (fun pT eT sT mT aT below meth cT AT QT C RT => ?_)
  have C : gX pT sT mT aT meth cT AT D ca ss 6 RX12 cX12_key (some .int) := C
  refine gj_aload_n C 0 dX12_key_0 rfl 0 rfl ?_
  refine gj_iload_n C 1 dX12_key_1 rfl 1 rfl ?_
  refine gj_iload_n C 2 dX12_key_2 rfl 2 rfl ?_
  refine gj_iload_n C 3 dX12_key_3 rfl 3 rfl ?_
  refine gj_iload C dX12_key_4 4 rfl ?_
  refine gj_callVi C mi_X12_isTriangle w_1057 87 (by decide) hc0 rfl (c_X12_isTriangle k a b c la dr go lo ma pa tu su mn hc0 hc2) mc_X12_isTriangle ⟨Nat.le_of_ble_eq_true rfl, Nat.le_of_ble_eq_true rfl⟩ (rest := []) rfl (Nat.le_of_ble_eq_true rfl) dX12_key_6 (fun r u h => ?_)
  obtain ⟨rfl, rfl⟩ := h
  refine gj_if_eq C 39 dX12_key_9 (by decide) (fun c_1 => ?_) (fun c_1 => ?_)
  · refine gj_bipush C (v := (-2)) (by decide) dX12_key_39 ?_
    exact RT _ _ _ _ ⟨by unfold s_X12_key; rw [if_pos c_1], rfl⟩ dX12_key_41
  · refine gj_iload C dX12_key_12 5 rfl ?_
    refine gj_i2l C dX12_key_14 ?_
    refine gj_lconst C (v := 0) rfl dX12_key_15 ?_
    refine gj_ldc2 C (v := 2) w_946 dX12_key_16 ?_
    refine gj_callSi C w_944 w_943 (c_X12_in w.toInt64 (0 : Int64) (2 : Int64)) mc_X12_in ⟨Nat.le_of_ble_eq_true rfl, Nat.le_of_ble_eq_true rfl⟩ (rest := []) rfl (Nat.le_of_ble_eq_true rfl) dX12_key_19 (fun r u h => ?_)
    obtain ⟨rfl, rfl⟩ := h
    refine gj_if_eq C 39 dX12_key_22 (by decide) (fun c_2 => ?_) (fun c_2 => ?_)
    · refine gj_bipush C (v := (-2)) (by decide) dX12_key_39 ?_
      exact RT _ _ _ _ ⟨by unfold s_X12_key; rw [if_neg c_1, if_pos c_2], rfl⟩ dX12_key_41
    · refine gj_aload_n C 0 dX12_key_25 rfl 0 rfl ?_
      refine gj_iload_n C 1 dX12_key_26 rfl 1 rfl ?_
      refine gj_iload_n C 2 dX12_key_27 rfl 2 rfl ?_
      refine gj_iload_n C 3 dX12_key_28 rfl 3 rfl ?_
      refine gj_iload C dX12_key_29 4 rfl ?_
      refine gj_iload C dX12_key_31 5 rfl ?_
      refine gj_callVi C mi_X12_keyOf w_1061 87 (by decide) hc0 rfl (c_X12_keyOf k a b c w la dr go lo ma pa tu su di se hc0 hc1 hc3 (q_tri hm c_1).1 (q_tri hm c_1).2.1 (q_tri hm c_1).2.2 hz) mc_X12_keyOf ⟨Nat.le_of_ble_eq_true rfl, Nat.le_of_ble_eq_true rfl⟩ (rest := []) rfl (Nat.le_of_ble_eq_true rfl) dX12_key_33 (fun r u h => ?_)
      obtain ⟨rfl, rfl⟩ := h
      refine gj_goto C 41 dX12_key_36 (by decide) ?_
      exact RT _ _ _ _ ⟨by unfold s_X12_key; rw [if_neg c_1, if_neg c_2], rfl⟩ dX12_key_41
def s_X12_set (ad ca : Nat → Nat) (f : Nat → va_E)  (w : Int32) (v : Int32) (la : Int32) (dr : Int32) (go : Int32) (lo : Int32) (ma : Int32) (pa : Int32) (tu : Int32) (su : Int32) (se : Nat → Int32) : Int32 × (Nat → va_E) := if w = 0 then (if (s_X12_in v.toInt64 (1 : Int64) (9999 : Int64)) = 0 then (((-2), f)) else ((se w.toNatClampNeg, va_up f 94 (.inl (ca 0, 4, .inl (upd se w.toNatClampNeg v)))))) else (if w = 1 then (if (s_X12_in v.toInt64 (0 : Int64) (9999 : Int64)) = 0 then (((-2), f)) else ((se w.toNatClampNeg, va_up f 94 (.inl (ca 0, 4, .inl (upd se w.toNatClampNeg v)))))) else (if w = 2 then (if (s_X12_in v.toInt64 (1 : Int64) (99 : Int64)) = 0 then (((-2), f)) else ((se w.toNatClampNeg, va_up f 94 (.inl (ca 0, 4, .inl (upd se w.toNatClampNeg v)))))) else (if w = 3 then (if (s_X12_in v.toInt64 (0 : Int64) (300 : Int64)) = 0 then (((-2), f)) else ((se w.toNatClampNeg, va_up f 94 (.inl (ca 0, 4, .inl (upd se w.toNatClampNeg v)))))) else (((-2), f)))))
set_option maxHeartbeats 1000000 in
set_option maxRecDepth 100000 in
theorem c_X12_set {l : Launch} {D : va_G} {ca ss ad : Nat → Nat} {f : Nat → va_E} (w : Int32) (v : Int32) (la : Int32) (dr : Int32) (go : Int32) (lo : Int32) (ma : Int32) (pa : Int32) (tu : Int32) (su : Int32) (se : Nat → Int32) (hc0 : f 87 = .inr (11, mF ad la dr go lo ma pa tu su)) (hc1 : f 94 = .inl (ca 0, 4, .inl se)) : gMi l D ca ss ad 108 yX12_set cX12_set 5 (some .int) 1 f [.ref (ad 87), .int w, .int v] (fun r u => (r, u) = s_X12_set ad ca f  w v la dr go lo ma pa tu su se) := by
  refine gMi_ofK (by decide +kernel) (Nat.le_of_ble_eq_true rfl) (lv0 := [(0, .ref (ad 87)), (1, .int w), (2, .int v)]) rfl (fun pT eT sT mT aT below meth cT AT QT C RT => ?_)
  have C : gX pT sT mT aT meth cT AT D ca ss 5 RX12 cX12_set (some .int) := C
  refine gj_iload_n C 1 dX12_set_0 rfl 1 rfl ?_
  refine gj_if_ne C 16 dX12_set_1 (by decide) (fun c_1 => ?_) (fun c_1 => ?_)
  · refine gj_iload_n C 1 dX12_set_16 rfl 1 rfl ?_
    refine gj_iconst C (v := 1) (by decide) dX12_set_17 ?_
    refine gj_icmp_ne C 33 dX12_set_18 (by decide) (fun c_2 => ?_) (fun c_2 => ?_)
    · refine gj_iload_n C 1 dX12_set_33 rfl 1 rfl ?_
      refine gj_iconst C (v := 2) (by decide) dX12_set_34 ?_
      refine gj_icmp_ne C 50 dX12_set_35 (by decide) (fun c_3 => ?_) (fun c_3 => ?_)
      · refine gj_iload_n C 1 dX12_set_50 rfl 1 rfl ?_
        refine gj_iconst C (v := 3) (by decide) dX12_set_51 ?_
        refine gj_icmp_ne C 71 dX12_set_52 (by decide) (fun c_4 => ?_) (fun c_4 => ?_)
        · refine gj_iconst C (v := 0) (by decide) dX12_set_71 ?_
          refine gj_istore_n C (lv' := [(3, .int 0), (0, .ref (ad 87)), (1, .int w), (2, .int v)]) 3 dX12_set_72 rfl (by decide) rfl ?_
          refine gj_iload_n C 3 dX12_set_73 rfl 0 rfl ?_
          refine gj_if_ne C 80 dX12_set_74 (by decide) (fun c_5 => absurd (by decide) c_5) (fun c_5 => ?_)
          refine gj_bipush C (v := (-2)) (by decide) dX12_set_77 ?_
          exact RT _ _ _ _ (by unfold s_X12_set; rw [if_neg c_1, if_neg c_2, if_neg c_3, if_neg c_4]) dX12_set_79
        · refine gj_iload_n C 2 dX12_set_55 rfl 2 rfl ?_
          refine gj_i2l C dX12_set_56 ?_
          refine gj_lconst C (v := 0) rfl dX12_set_57 ?_
          refine gj_ldc2 C (v := 300) w_1044 dX12_set_58 ?_
          refine gj_callSi C w_944 w_943 (c_X12_in v.toInt64 (0 : Int64) (300 : Int64)) mc_X12_in ⟨Nat.le_of_ble_eq_true rfl, Nat.le_of_ble_eq_true rfl⟩ (rest := []) rfl (Nat.le_of_ble_eq_true rfl) dX12_set_61 (fun r u h => ?_)
          obtain ⟨rfl, rfl⟩ := h
          refine gj_if_eq C 71 dX12_set_64 (by decide) (fun c_6 => ?_) (fun c_6 => ?_)
          · refine gj_iconst C (v := 0) (by decide) dX12_set_71 ?_
            refine gj_istore_n C (lv' := [(3, .int 0), (0, .ref (ad 87)), (1, .int w), (2, .int v)]) 3 dX12_set_72 rfl (by decide) rfl ?_
            refine gj_iload_n C 3 dX12_set_73 rfl 0 rfl ?_
            refine gj_if_ne C 80 dX12_set_74 (by decide) (fun c_7 => absurd (by decide) c_7) (fun c_7 => ?_)
            refine gj_bipush C (v := (-2)) (by decide) dX12_set_77 ?_
            exact RT _ _ _ _ (by unfold s_X12_set; rw [if_neg c_1, if_neg c_2, if_neg c_3, if_pos c_4, if_pos c_6]) dX12_set_79
          · refine gj_iconst C (v := 1) (by decide) dX12_set_67 ?_
            refine gj_goto C 72 dX12_set_68 (by decide) ?_
            refine gj_istore_n C (lv' := [(3, .int 1), (0, .ref (ad 87)), (1, .int w), (2, .int v)]) 3 dX12_set_72 rfl (by decide) rfl ?_
            refine gj_iload_n C 3 dX12_set_73 rfl 0 rfl ?_
            refine gj_if_ne C 80 dX12_set_74 (by decide) (fun c_8 => ?_) (fun c_8 => absurd c_8 (by decide))
            refine gj_aload_n C 0 dX12_set_80 rfl 1 rfl ?_
            refine gj_get C 87 (by decide) hc0 inX12 rfl 7 (by decide) w_856 (v := .ref (ad 94)) rfl dX12_set_81 ?_
            refine gj_iload_n C 1 dX12_set_84 rfl 2 rfl ?_
            refine gj_iald C 94 (by decide) hc1 (by rw [c_4]; unfold vp_in; decide) dX12_set_85 ?_
            refine gj_istore C (lv' := [(4, .int (se w.toNatClampNeg)), (3, .int 1), (0, .ref (ad 87)), (1, .int w), (2, .int v)]) dX12_set_86 (by decide) rfl ?_
            refine gj_aload_n C 0 dX12_set_88 rfl 2 rfl ?_
            refine gj_get C 87 (by decide) hc0 inX12 rfl 7 (by decide) w_856 (v := .ref (ad 94)) rfl dX12_set_89 ?_
            refine gj_iload_n C 1 dX12_set_92 rfl 3 rfl ?_
            refine gj_iload_n C 2 dX12_set_93 rfl 4 rfl ?_
            refine gj_iast C 94 (by decide) hc1 (by rw [c_4]; unfold vp_in; decide) dX12_set_94 ?_
            refine gj_iload C dX12_set_95 0 rfl ?_
            exact RT _ _ _ _ (by unfold s_X12_set; rw [if_neg c_1, if_neg c_2, if_neg c_3, if_pos c_4, if_neg c_6]) dX12_set_97
      · refine gj_iload_n C 2 dX12_set_38 rfl 2 rfl ?_
        refine gj_i2l C dX12_set_39 ?_
        refine gj_lconst C (v := 1) rfl dX12_set_40 ?_
        refine gj_ldc2 C (v := 99) w_1043 dX12_set_41 ?_
        refine gj_callSi C w_944 w_943 (c_X12_in v.toInt64 (1 : Int64) (99 : Int64)) mc_X12_in ⟨Nat.le_of_ble_eq_true rfl, Nat.le_of_ble_eq_true rfl⟩ (rest := []) rfl (Nat.le_of_ble_eq_true rfl) dX12_set_44 (fun r u h => ?_)
        obtain ⟨rfl, rfl⟩ := h
        refine gj_goto C 72 dX12_set_47 (by decide) ?_
        refine gj_istore_n C (lv' := [(3, .int (s_X12_in v.toInt64 (1 : Int64) (99 : Int64))), (0, .ref (ad 87)), (1, .int w), (2, .int v)]) 3 dX12_set_72 rfl (by decide) rfl ?_
        refine gj_iload_n C 3 dX12_set_73 rfl 0 rfl ?_
        refine gj_if_ne C 80 dX12_set_74 (by decide) (fun c_9 => ?_) (fun c_9 => ?_)
        · refine gj_aload_n C 0 dX12_set_80 rfl 1 rfl ?_
          refine gj_get C 87 (by decide) hc0 inX12 rfl 7 (by decide) w_856 (v := .ref (ad 94)) rfl dX12_set_81 ?_
          refine gj_iload_n C 1 dX12_set_84 rfl 2 rfl ?_
          refine gj_iald C 94 (by decide) hc1 (by rw [c_3]; unfold vp_in; decide) dX12_set_85 ?_
          refine gj_istore C (lv' := [(4, .int (se w.toNatClampNeg)), (3, .int (s_X12_in v.toInt64 (1 : Int64) (99 : Int64))), (0, .ref (ad 87)), (1, .int w), (2, .int v)]) dX12_set_86 (by decide) rfl ?_
          refine gj_aload_n C 0 dX12_set_88 rfl 2 rfl ?_
          refine gj_get C 87 (by decide) hc0 inX12 rfl 7 (by decide) w_856 (v := .ref (ad 94)) rfl dX12_set_89 ?_
          refine gj_iload_n C 1 dX12_set_92 rfl 3 rfl ?_
          refine gj_iload_n C 2 dX12_set_93 rfl 4 rfl ?_
          refine gj_iast C 94 (by decide) hc1 (by rw [c_3]; unfold vp_in; decide) dX12_set_94 ?_
          refine gj_iload C dX12_set_95 0 rfl ?_
          exact RT _ _ _ _ (by unfold s_X12_set; rw [if_neg c_1, if_neg c_2, if_pos c_3, if_neg c_9]) dX12_set_97
        · refine gj_bipush C (v := (-2)) (by decide) dX12_set_77 ?_
          exact RT _ _ _ _ (by unfold s_X12_set; rw [if_neg c_1, if_neg c_2, if_pos c_3, if_pos c_9]) dX12_set_79
    · refine gj_iload_n C 2 dX12_set_21 rfl 2 rfl ?_
      refine gj_i2l C dX12_set_22 ?_
      refine gj_lconst C (v := 0) rfl dX12_set_23 ?_
      refine gj_ldc2 C (v := 9999) w_1042 dX12_set_24 ?_
      refine gj_callSi C w_944 w_943 (c_X12_in v.toInt64 (0 : Int64) (9999 : Int64)) mc_X12_in ⟨Nat.le_of_ble_eq_true rfl, Nat.le_of_ble_eq_true rfl⟩ (rest := []) rfl (Nat.le_of_ble_eq_true rfl) dX12_set_27 (fun r u h => ?_)
      obtain ⟨rfl, rfl⟩ := h
      refine gj_goto C 72 dX12_set_30 (by decide) ?_
      refine gj_istore_n C (lv' := [(3, .int (s_X12_in v.toInt64 (0 : Int64) (9999 : Int64))), (0, .ref (ad 87)), (1, .int w), (2, .int v)]) 3 dX12_set_72 rfl (by decide) rfl ?_
      refine gj_iload_n C 3 dX12_set_73 rfl 0 rfl ?_
      refine gj_if_ne C 80 dX12_set_74 (by decide) (fun c_10 => ?_) (fun c_10 => ?_)
      · refine gj_aload_n C 0 dX12_set_80 rfl 1 rfl ?_
        refine gj_get C 87 (by decide) hc0 inX12 rfl 7 (by decide) w_856 (v := .ref (ad 94)) rfl dX12_set_81 ?_
        refine gj_iload_n C 1 dX12_set_84 rfl 2 rfl ?_
        refine gj_iald C 94 (by decide) hc1 (by rw [c_2]; unfold vp_in; decide) dX12_set_85 ?_
        refine gj_istore C (lv' := [(4, .int (se w.toNatClampNeg)), (3, .int (s_X12_in v.toInt64 (0 : Int64) (9999 : Int64))), (0, .ref (ad 87)), (1, .int w), (2, .int v)]) dX12_set_86 (by decide) rfl ?_
        refine gj_aload_n C 0 dX12_set_88 rfl 2 rfl ?_
        refine gj_get C 87 (by decide) hc0 inX12 rfl 7 (by decide) w_856 (v := .ref (ad 94)) rfl dX12_set_89 ?_
        refine gj_iload_n C 1 dX12_set_92 rfl 3 rfl ?_
        refine gj_iload_n C 2 dX12_set_93 rfl 4 rfl ?_
        refine gj_iast C 94 (by decide) hc1 (by rw [c_2]; unfold vp_in; decide) dX12_set_94 ?_
        refine gj_iload C dX12_set_95 0 rfl ?_
        exact RT _ _ _ _ (by unfold s_X12_set; rw [if_neg c_1, if_pos c_2, if_neg c_10]) dX12_set_97
      · refine gj_bipush C (v := (-2)) (by decide) dX12_set_77 ?_
        exact RT _ _ _ _ (by unfold s_X12_set; rw [if_neg c_1, if_pos c_2, if_pos c_10]) dX12_set_79
  · refine gj_iload_n C 2 dX12_set_4 rfl 2 rfl ?_
    refine gj_i2l C dX12_set_5 ?_
    refine gj_lconst C (v := 1) rfl dX12_set_6 ?_
    refine gj_ldc2 C (v := 9999) w_1042 dX12_set_7 ?_
    refine gj_callSi C w_944 w_943 (c_X12_in v.toInt64 (1 : Int64) (9999 : Int64)) mc_X12_in ⟨Nat.le_of_ble_eq_true rfl, Nat.le_of_ble_eq_true rfl⟩ (rest := []) rfl (Nat.le_of_ble_eq_true rfl) dX12_set_10 (fun r u h => ?_)
    obtain ⟨rfl, rfl⟩ := h
    refine gj_goto C 72 dX12_set_13 (by decide) ?_
    refine gj_istore_n C (lv' := [(3, .int (s_X12_in v.toInt64 (1 : Int64) (9999 : Int64))), (0, .ref (ad 87)), (1, .int w), (2, .int v)]) 3 dX12_set_72 rfl (by decide) rfl ?_
    refine gj_iload_n C 3 dX12_set_73 rfl 0 rfl ?_
    refine gj_if_ne C 80 dX12_set_74 (by decide) (fun c_11 => ?_) (fun c_11 => ?_)
    · refine gj_aload_n C 0 dX12_set_80 rfl 1 rfl ?_
      refine gj_get C 87 (by decide) hc0 inX12 rfl 7 (by decide) w_856 (v := .ref (ad 94)) rfl dX12_set_81 ?_
      refine gj_iload_n C 1 dX12_set_84 rfl 2 rfl ?_
      refine gj_iald C 94 (by decide) hc1 (by rw [c_1]; unfold vp_in; decide) dX12_set_85 ?_
      refine gj_istore C (lv' := [(4, .int (se w.toNatClampNeg)), (3, .int (s_X12_in v.toInt64 (1 : Int64) (9999 : Int64))), (0, .ref (ad 87)), (1, .int w), (2, .int v)]) dX12_set_86 (by decide) rfl ?_
      refine gj_aload_n C 0 dX12_set_88 rfl 2 rfl ?_
      refine gj_get C 87 (by decide) hc0 inX12 rfl 7 (by decide) w_856 (v := .ref (ad 94)) rfl dX12_set_89 ?_
      refine gj_iload_n C 1 dX12_set_92 rfl 3 rfl ?_
      refine gj_iload_n C 2 dX12_set_93 rfl 4 rfl ?_
      refine gj_iast C 94 (by decide) hc1 (by rw [c_1]; unfold vp_in; decide) dX12_set_94 ?_
      refine gj_iload C dX12_set_95 0 rfl ?_
      exact RT _ _ _ _ (by unfold s_X12_set; rw [if_pos c_1, if_neg c_11]) dX12_set_97
    · refine gj_bipush C (v := (-2)) (by decide) dX12_set_77 ?_
      exact RT _ _ _ _ (by unfold s_X12_set; rw [if_pos c_1, if_pos c_11]) dX12_set_79
set_option maxHeartbeats 1000000 in
set_option maxRecDepth 100000 in
theorem c_X12_lot {l : Launch} {D : va_G} {ca ss ad : Nat → Nat} {f : Nat → va_E}  (q : Int32) (la : Int32) (dr : Int32) (go : Int32) (lo : Int32) (ma : Int32) (pa : Int32) (tu : Int32) (su : Int32) (hc0 : f 87 = .inr (11, mF ad la dr go lo ma pa tu su)) (hq : ¬ q = 0) : gMi l D ca ss ad 108 yX12_lot cX12_lot 2 (some .int) 0 f [.ref (ad 87), .int q] (fun r u => r = ((((1103515245 * dr) + 12345).toUInt32 >>> ((16 : Int32).toUInt32 &&& Int32.toUInt32 31)).toInt32) - ((((1103515245 * dr) + 12345).toUInt32 >>> ((16 : Int32).toUInt32 &&& Int32.toUInt32 31)).toInt32) / q * q ∧ u = va_up f 87 (.inr (11, [.ref (ad 88), .ref (ad 89), .ref (ad 90), .ref (ad 91), .int la, .ref (ad 92), .ref (ad 93), .ref (ad 94), .int ((1103515245 * dr) + 12345), .int go, .int lo, .int ma, .ref (ad 95), .ref (ad 96), .ref (ad 97), .ref (ad 98), .int pa, .int tu, .ref (ad 99), .ref (ad 100), .ref (ad 101), .ref (ad 102), .ref (ad 103), .ref (ad 104), .int su, .ref (ad 105), .ref (ad 106), .ref (ad 107)]))) := by
  refine gMi_ofK (by decide +kernel) (Nat.le_of_ble_eq_true rfl) (lv0 := [(0, .ref (ad 87)), (1, .int q)]) rfl (fun pT eT sT mT aT below meth cT AT QT C RT => ?_)
  have C : gX pT sT mT aT meth cT AT D ca ss 2 RX12 cX12_lot (some .int) := C
  refine gj_aload_n C 0 dX12_lot_0 rfl 0 rfl ?_
  refine gj_ldc C (v := 1103515245) w_1034 dX12_lot_1 ?_
  refine gj_aload_n C 0 dX12_lot_3 rfl 0 rfl ?_
  refine gj_get C 87 (by decide) hc0 inX12 rfl 8 (by decide) w_857 (v := .int dr) rfl dX12_lot_4 ?_
  refine gj_imul C dX12_lot_7 ?_
  refine gj_sipush C (v := 12345) (by decide) dX12_lot_8 ?_
  refine gj_iadd C dX12_lot_11 ?_
  refine gj_putS C 87 (by decide) hc0 inX12 rfl 8 (by decide) tyX12 tyX12_ok nmX12 w_857 rfl (v := .int ((1103515245 * dr) + 12345)) (fs' := [.ref (ad 88), .ref (ad 89), .ref (ad 90), .ref (ad 91), .int la, .ref (ad 92), .ref (ad 93), .ref (ad 94), .int ((1103515245 * dr) + 12345), .int go, .int lo, .int ma, .ref (ad 95), .ref (ad 96), .ref (ad 97), .ref (ad 98), .int pa, .int tu, .ref (ad 99), .ref (ad 100), .ref (ad 101), .ref (ad 102), .ref (ad 103), .ref (ad 104), .int su, .ref (ad 105), .ref (ad 106), .ref (ad 107)]) rfl rfl (Nat.le_of_ble_eq_true rfl) rfl dX12_lot_12 ?_
  refine gj_aload_n C 0 dX12_lot_15 rfl 0 rfl ?_
  refine gj_get C 87 (by decide) (va_up_self _ _ _) inX12 rfl 8 (by decide) w_857 (v := .int ((1103515245 * dr) + 12345)) rfl dX12_lot_16 ?_
  refine gj_bipush C (v := 16) (by decide) dX12_lot_19 ?_
  refine gj_iushr C dX12_lot_21 ?_
  refine gj_iload_n C 1 dX12_lot_22 rfl 1 rfl ?_
  refine gj_irem C hq dX12_lot_23 ?_
  exact RT _ _ _ _ ⟨rfl, rfl⟩ dX12_lot_24
