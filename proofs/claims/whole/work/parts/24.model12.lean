def tmOk (tm : Nat → Int32) : Prop := ∀ j, j < 4 → 0 ≤ (tm j).toInt ∧ (tm j).toInt ≤ 8
/-- 32 t + 4 m + c without overflow -/
theorem tr_ix {t m c : Int32} (ht : 0 ≤ t.toInt ∧ t.toInt ≤ 3) (hm : 0 ≤ m.toInt ∧ m.toInt ≤ 7) (hc : 0 ≤ c.toInt ∧ c.toInt ≤ 3) : (32 * t + 4 * m).toInt = 32 * t.toInt + 4 * m.toInt ∧ (32 * t + 4 * m + c).toInt = 32 * t.toInt + 4 * m.toInt + c.toInt := by
  have e32 : (32 : Int32).toInt = 32 := rfl
  have e4 : (4 : Int32).toInt = 4 := rfl
  have a1 : (32 * t).toInt = 32 * t.toInt := by rw [i32_mul (by rw [e32]; omega) (by rw [e32]; omega), e32]
  have a2 : (4 * m).toInt = 4 * m.toInt := by rw [i32_mul (by rw [e4]; omega) (by rw [e4]; omega), e4]
  have a3 : (32 * t + 4 * m).toInt = 32 * t.toInt + 4 * m.toInt := by rw [i32_add (by omega) (by omega), a1, a2]
  exact ⟨a3, by rw [i32_add (by omega) (by omega), a3]⟩
theorem tr_in {t m c : Int32} (ht : 0 ≤ t.toInt ∧ t.toInt ≤ 3) (hm : 0 ≤ m.toInt ∧ m.toInt ≤ 7) (hc : 0 ≤ c.toInt ∧ c.toInt ≤ 3) : vp_in (32 * t + 4 * m + c) 128 := by
  obtain ⟨-, e⟩ := tr_ix ht hm hc
  exact vin (by omega) (by omega)
theorem tr_in0 {t m : Int32} (ht : 0 ≤ t.toInt ∧ t.toInt ≤ 3) (hm : 0 ≤ m.toInt ∧ m.toInt ≤ 7) : vp_in (32 * t + 4 * m) 128 := by
  obtain ⟨e, -⟩ := tr_ix ht hm (c := 0) (by decide)
  exact vin (by omega) (by omega)
theorem tr_in3 {t m c : Int32} (ht : 0 ≤ t.toInt ∧ t.toInt ≤ 3) (hm : 0 ≤ m.toInt ∧ m.toInt ≤ 7) (hc : 0 ≤ c.toInt ∧ c.toInt ≤ 2) : vp_in (32 * t + 4 * m + 1 + c) 128 := by
  obtain ⟨-, e⟩ := tr_ix ht hm (c := 1) (by decide)
  have e1 : (1 : Int32).toInt = 1 := rfl
  have e2 : (32 * t + 4 * m + 1 + c).toInt = 32 * t.toInt + 4 * m.toInt + 1 + c.toInt := by rw [i32_add (by omega) (by omega), e, e1]
  exact vin (by omega) (by omega)
theorem q_thing {t i : Int32} {tm : Nat → Int32} (hm : tmOk tm) (h : ¬ s_X12_isThing t i tm = 0) : (0 ≤ t.toInt ∧ t.toInt ≤ 3) ∧ 0 ≤ i.toInt ∧ i.toInt ≤ 7 := by
  unfold s_X12_isThing at h
  by_cases h1 : s_X12_isTray t = 0
  · rw [if_pos h1] at h; exact absurd rfl h
  · rw [if_neg h1] at h
    by_cases h2 : s_X12_in i.toInt64 (0 : Int64) (tm t.toNatClampNeg - 1).toInt64 = 0
    · rw [if_pos h2] at h; exact absurd rfl h
    · have a := q_isTray h1
      have b := hm _ (cl4 a)
      have c := min_yes.mp h2
      have e0 : (0 : Int64).toInt = 0 := rfl
      have e1 : (1 : Int32).toInt = 1 := rfl
      rw [i32_w, i32_w, i32_sub (by omega) (by omega)] at c
      exact ⟨a, by omega, by omega⟩
theorem q_room {t : Int32} {tm : Nat → Int32} (hm : tmOk tm) (h : ¬ s_X12_isTray t = 0) (h8 : ¬ tm t.toNatClampNeg = 8) : 0 ≤ (tm t.toNatClampNeg).toInt ∧ (tm t.toNatClampNeg).toInt ≤ 7 := by
  have b := hm _ (cl4 (q_isTray h))
  have c : ¬ (tm t.toNatClampNeg).toInt = 8 := fun q => h8 ((i32_eq _ _).mpr q)
  omega
theorem l3 : 0 ≤ (3 : Int32).toInt ∧ (3 : Int32).toInt ≤ 3 := by decide
theorem l2 : 0 ≤ (2 : Int32).toInt ∧ (2 : Int32).toInt ≤ 3 := by decide
theorem l1 : 0 ≤ (1 : Int32).toInt ∧ (1 : Int32).toInt ≤ 3 := by decide
/-- how many bits of w, of the first p, are set -/
def mBits (w : Int32) : Nat → Int32
  | 0 => 0
  | p + 1 => mBits w p + (if s_X12_isIn w (nI p) = 0 then (0 : Int32) else 1)

def s_X12_thing (t : Int32) (i : Int32) (w : Int32) (tr : Nat → Int32) (tm : Nat → Int32) : Int32 := if (s_X12_isThing t i tm) = 0 then ((-2147483648)) else (if (s_X12_in w.toInt64 (0 : Int64) (3 : Int64)) = 0 then ((-2147483648)) else (tr (((32 * t) + (4 * i)) + w).toNatClampNeg))
set_option maxHeartbeats 400000 in
set_option maxRecDepth 100000 in
theorem c_X12_thing {l : Launch} {D : va_G} {ca ss ad : Nat → Nat} {f : Nat → va_E}  (t : Int32) (i : Int32) (w : Int32) (la : Int32) (dr : Int32) (go : Int32) (lo : Int32) (ma : Int32) (pa : Int32) (tu : Int32) (su : Int32) (tr : Nat → Int32) (tm : Nat → Int32) (hc0 : f 87 = .inr (11, mF ad la dr go lo ma pa tu su)) (hc1 : f 105 = .inl (ca 0, 128, .inl tr)) (hc2 : f 106 = .inl (ca 0, 4, .inl tm)) (htm : tmOk tm) : gMi l D ca ss ad 108 yX12_thing cX12_thing 4 (some .int) 3 f [.ref (ad 87), .int t, .int i, .int w] (fun r u => r = s_X12_thing t i w tr tm ∧ u = f) := by
  refine gMi_ofK (by decide +kernel) (Nat.le_of_ble_eq_true rfl) (lv0 := [(0, .ref (ad 87)), (1, .int t), (2, .int i), (3, .int w)]) rfl (fun pT eT sT mT aT below meth cT AT QT C RT => ?_)
  have C : gX pT sT mT aT meth cT AT D ca ss 4 RX12 cX12_thing (some .int) := C
  refine gj_aload_n C 0 dX12_thing_0 rfl 0 rfl ?_
  refine gj_iload_n C 1 dX12_thing_1 rfl 1 rfl ?_
  refine gj_iload_n C 2 dX12_thing_2 rfl 2 rfl ?_
  refine gj_callVi C mi_X12_isThing w_1215 87 (by decide) hc0 rfl (c_X12_isThing t i la dr go lo ma pa tu su tm hc0 hc2) mc_X12_isThing ⟨Nat.le_of_ble_eq_true rfl, Nat.le_of_ble_eq_true rfl⟩ (rest := []) rfl (Nat.le_of_ble_eq_true rfl) dX12_thing_3 (fun r u h => ?_)
  obtain ⟨hr_, h⟩ := h; rw [hr_]
  rw [h]
  refine gj_if_eq C 39 dX12_thing_6 (by decide) (fun c_1 => ?_) (fun c_1 => ?_)
  · refine gj_ldc C (v := (-2147483648)) w_970 dX12_thing_39 ?_
    exact RT _ _ _ _ ⟨by unfold s_X12_thing; rw [if_pos c_1], rfl⟩ dX12_thing_41
  · refine gj_iload_n C 3 dX12_thing_9 rfl 3 rfl ?_
    refine gj_i2l C dX12_thing_10 ?_
    refine gj_lconst C (v := 0) rfl dX12_thing_11 ?_
    refine gj_ldc2 C (v := 3) w_942 dX12_thing_12 ?_
    refine gj_callSi C w_944 w_943 (c_X12_in w.toInt64 (0 : Int64) (3 : Int64)) mc_X12_in ⟨Nat.le_of_ble_eq_true rfl, Nat.le_of_ble_eq_true rfl⟩ (rest := []) rfl (Nat.le_of_ble_eq_true rfl) dX12_thing_15 (fun r u h => ?_)
    obtain ⟨hr_, h⟩ := h; rw [hr_]
    rw [h]
    refine gj_if_eq C 39 dX12_thing_18 (by decide) (fun c_2 => ?_) (fun c_2 => ?_)
    · refine gj_ldc C (v := (-2147483648)) w_970 dX12_thing_39 ?_
      exact RT _ _ _ _ ⟨by unfold s_X12_thing; rw [if_neg c_1, if_pos c_2], rfl⟩ dX12_thing_41
    · refine gj_aload_n C 0 dX12_thing_21 rfl 0 rfl ?_
      refine gj_get C 87 (by decide) hc0 inX12 rfl 25 (by decide) w_874 (v := .ref (ad 105)) rfl dX12_thing_22 ?_
      refine gj_bipush C (v := 32) (by decide) dX12_thing_25 ?_
      refine gj_iload_n C 1 dX12_thing_27 rfl 1 rfl ?_
      refine gj_imul C dX12_thing_28 ?_
      refine gj_iconst C (v := 4) (by decide) dX12_thing_29 ?_
      refine gj_iload_n C 2 dX12_thing_30 rfl 2 rfl ?_
      refine gj_imul C dX12_thing_31 ?_
      refine gj_iadd C dX12_thing_32 ?_
      refine gj_iload_n C 3 dX12_thing_33 rfl 3 rfl ?_
      refine gj_iadd C dX12_thing_34 ?_
      refine gj_iald C 105 (by decide) hc1 (tr_in (q_thing htm c_1).1 (q_thing htm c_1).2 (q_inL c_2)) dX12_thing_35 ?_
      refine gj_goto C 41 dX12_thing_36 (by decide) ?_
      exact RT _ _ _ _ ⟨by unfold s_X12_thing; rw [if_neg c_1, if_neg c_2], rfl⟩ dX12_thing_41
def s_X12_product (t : Int32) (i : Int32) (j : Int32) (tr : Nat → Int32) : Int32 := ((0 + ((tr (((32 * t) + (4 * i)) + 1).toNatClampNeg) * (tr (((32 * t) + (4 * j)) + 1).toNatClampNeg))) + ((tr (((32 * t) + (4 * i)) + 2).toNatClampNeg) * (tr (((32 * t) + (4 * j)) + 2).toNatClampNeg))) + ((tr (((32 * t) + (4 * i)) + 3).toNatClampNeg) * (tr (((32 * t) + (4 * j)) + 3).toNatClampNeg))
set_option maxHeartbeats 400000 in
set_option maxRecDepth 100000 in
theorem c_X12_product {l : Launch} {D : va_G} {ca ss ad : Nat → Nat} {f : Nat → va_E}  (t : Int32) (i : Int32) (j : Int32) (la : Int32) (dr : Int32) (go : Int32) (lo : Int32) (ma : Int32) (pa : Int32) (tu : Int32) (su : Int32) (tr : Nat → Int32) (hc0 : f 87 = .inr (11, mF ad la dr go lo ma pa tu su)) (hc1 : f 105 = .inl (ca 0, 128, .inl tr)) (ht : 0 ≤ t.toInt ∧ t.toInt ≤ 3) (hi : 0 ≤ i.toInt ∧ i.toInt ≤ 7) (hj : 0 ≤ j.toInt ∧ j.toInt ≤ 7) : gMi l D ca ss ad 108 yX12_product cX12_product 6 (some .int) 0 f [.ref (ad 87), .int t, .int i, .int j] (fun r u => r = s_X12_product t i j tr ∧ u = f) := by
  refine gMi_ofK (by decide +kernel) (Nat.le_of_ble_eq_true rfl) (lv0 := [(0, .ref (ad 87)), (1, .int t), (2, .int i), (3, .int j)]) rfl (fun pT eT sT mT aT below meth cT AT QT C RT => ?_)
  have C : gX pT sT mT aT meth cT AT D ca ss 6 RX12 cX12_product (some .int) := C
  refine gj_iconst C (v := 0) (by decide) dX12_product_0 ?_
  refine gj_istore C (lv' := [(4, .int 0), (0, .ref (ad 87)), (1, .int t), (2, .int i), (3, .int j)]) dX12_product_1 (by decide) rfl ?_
  refine gj_iconst C (v := 1) (by decide) dX12_product_3 ?_
  refine gj_istore C (lv' := [(5, .int 1), (4, .int 0), (0, .ref (ad 87)), (1, .int t), (2, .int i), (3, .int j)]) dX12_product_4 (by decide) rfl ?_
  refine gj_iload C dX12_product_6 0 rfl ?_
  refine gj_iconst C (v := 4) (by decide) dX12_product_8 ?_
  refine gj_icmp_ge C 56 dX12_product_9 (by decide) (fun c_1 => absurd c_1 (by decide)) (fun c_1 => ?_)
  refine gj_iload C dX12_product_12 1 rfl ?_
  refine gj_aload_n C 0 dX12_product_14 rfl 2 rfl ?_
  refine gj_get C 87 (by decide) hc0 inX12 rfl 25 (by decide) w_874 (v := .ref (ad 105)) rfl dX12_product_15 ?_
  refine gj_bipush C (v := 32) (by decide) dX12_product_18 ?_
  refine gj_iload_n C 1 dX12_product_20 rfl 3 rfl ?_
  refine gj_imul C dX12_product_21 ?_
  refine gj_iconst C (v := 4) (by decide) dX12_product_22 ?_
  refine gj_iload_n C 2 dX12_product_23 rfl 4 rfl ?_
  refine gj_imul C dX12_product_24 ?_
  refine gj_iadd C dX12_product_25 ?_
  refine gj_iload C dX12_product_26 0 rfl ?_
  refine gj_iadd C dX12_product_28 ?_
  refine gj_iald C 105 (by decide) hc1 (tr_in ht hi l1) dX12_product_29 ?_
  refine gj_aload_n C 0 dX12_product_30 rfl 2 rfl ?_
  refine gj_get C 87 (by decide) hc0 inX12 rfl 25 (by decide) w_874 (v := .ref (ad 105)) rfl dX12_product_31 ?_
  refine gj_bipush C (v := 32) (by decide) dX12_product_34 ?_
  refine gj_iload_n C 1 dX12_product_36 rfl 3 rfl ?_
  refine gj_imul C dX12_product_37 ?_
  refine gj_iconst C (v := 4) (by decide) dX12_product_38 ?_
  refine gj_iload_n C 3 dX12_product_39 rfl 5 rfl ?_
  refine gj_imul C dX12_product_40 ?_
  refine gj_iadd C dX12_product_41 ?_
  refine gj_iload C dX12_product_42 0 rfl ?_
  refine gj_iadd C dX12_product_44 ?_
  refine gj_iald C 105 (by decide) hc1 (tr_in ht hj l1) dX12_product_45 ?_
  refine gj_imul C dX12_product_46 ?_
  refine gj_iadd C dX12_product_47 ?_
  refine gj_istore C (lv' := [(4, .int (0 + ((tr (((32 * t) + (4 * i)) + 1).toNatClampNeg) * (tr (((32 * t) + (4 * j)) + 1).toNatClampNeg)))), (5, .int 1), (0, .ref (ad 87)), (1, .int t), (2, .int i), (3, .int j)]) dX12_product_48 (by decide) rfl ?_
  refine gj_iinc C (v := 2) (lv' := [(5, .int 2), (4, .int (0 + ((tr (((32 * t) + (4 * i)) + 1).toNatClampNeg) * (tr (((32 * t) + (4 * j)) + 1).toNatClampNeg)))), (0, .ref (ad 87)), (1, .int t), (2, .int i), (3, .int j)]) dX12_product_50 1 rfl (by decide) (by decide) rfl ?_
  refine gj_goto C 6 dX12_product_53 (by decide) ?_
  refine gj_iload C dX12_product_6 0 rfl ?_
  refine gj_iconst C (v := 4) (by decide) dX12_product_8 ?_
  refine gj_icmp_ge C 56 dX12_product_9 (by decide) (fun c_2 => absurd c_2 (by decide)) (fun c_2 => ?_)
  refine gj_iload C dX12_product_12 1 rfl ?_
  refine gj_aload_n C 0 dX12_product_14 rfl 2 rfl ?_
  refine gj_get C 87 (by decide) hc0 inX12 rfl 25 (by decide) w_874 (v := .ref (ad 105)) rfl dX12_product_15 ?_
  refine gj_bipush C (v := 32) (by decide) dX12_product_18 ?_
  refine gj_iload_n C 1 dX12_product_20 rfl 3 rfl ?_
  refine gj_imul C dX12_product_21 ?_
  refine gj_iconst C (v := 4) (by decide) dX12_product_22 ?_
  refine gj_iload_n C 2 dX12_product_23 rfl 4 rfl ?_
  refine gj_imul C dX12_product_24 ?_
  refine gj_iadd C dX12_product_25 ?_
  refine gj_iload C dX12_product_26 0 rfl ?_
  refine gj_iadd C dX12_product_28 ?_
  refine gj_iald C 105 (by decide) hc1 (tr_in ht hi l2) dX12_product_29 ?_
  refine gj_aload_n C 0 dX12_product_30 rfl 2 rfl ?_
  refine gj_get C 87 (by decide) hc0 inX12 rfl 25 (by decide) w_874 (v := .ref (ad 105)) rfl dX12_product_31 ?_
  refine gj_bipush C (v := 32) (by decide) dX12_product_34 ?_
  refine gj_iload_n C 1 dX12_product_36 rfl 3 rfl ?_
  refine gj_imul C dX12_product_37 ?_
  refine gj_iconst C (v := 4) (by decide) dX12_product_38 ?_
  refine gj_iload_n C 3 dX12_product_39 rfl 5 rfl ?_
  refine gj_imul C dX12_product_40 ?_
  refine gj_iadd C dX12_product_41 ?_
  refine gj_iload C dX12_product_42 0 rfl ?_
  refine gj_iadd C dX12_product_44 ?_
  refine gj_iald C 105 (by decide) hc1 (tr_in ht hj l2) dX12_product_45 ?_
  refine gj_imul C dX12_product_46 ?_
  refine gj_iadd C dX12_product_47 ?_
  refine gj_istore C (lv' := [(4, .int ((0 + ((tr (((32 * t) + (4 * i)) + 1).toNatClampNeg) * (tr (((32 * t) + (4 * j)) + 1).toNatClampNeg))) + ((tr (((32 * t) + (4 * i)) + 2).toNatClampNeg) * (tr (((32 * t) + (4 * j)) + 2).toNatClampNeg)))), (5, .int 2), (0, .ref (ad 87)), (1, .int t), (2, .int i), (3, .int j)]) dX12_product_48 (by decide) rfl ?_
  refine gj_iinc C (v := 3) (lv' := [(5, .int 3), (4, .int ((0 + ((tr (((32 * t) + (4 * i)) + 1).toNatClampNeg) * (tr (((32 * t) + (4 * j)) + 1).toNatClampNeg))) + ((tr (((32 * t) + (4 * i)) + 2).toNatClampNeg) * (tr (((32 * t) + (4 * j)) + 2).toNatClampNeg)))), (0, .ref (ad 87)), (1, .int t), (2, .int i), (3, .int j)]) dX12_product_50 1 rfl (by decide) (by decide) rfl ?_
  refine gj_goto C 6 dX12_product_53 (by decide) ?_
  refine gj_iload C dX12_product_6 0 rfl ?_
  refine gj_iconst C (v := 4) (by decide) dX12_product_8 ?_
  refine gj_icmp_ge C 56 dX12_product_9 (by decide) (fun c_3 => absurd c_3 (by decide)) (fun c_3 => ?_)
  refine gj_iload C dX12_product_12 1 rfl ?_
  refine gj_aload_n C 0 dX12_product_14 rfl 2 rfl ?_
  refine gj_get C 87 (by decide) hc0 inX12 rfl 25 (by decide) w_874 (v := .ref (ad 105)) rfl dX12_product_15 ?_
  refine gj_bipush C (v := 32) (by decide) dX12_product_18 ?_
  refine gj_iload_n C 1 dX12_product_20 rfl 3 rfl ?_
  refine gj_imul C dX12_product_21 ?_
  refine gj_iconst C (v := 4) (by decide) dX12_product_22 ?_
  refine gj_iload_n C 2 dX12_product_23 rfl 4 rfl ?_
  refine gj_imul C dX12_product_24 ?_
  refine gj_iadd C dX12_product_25 ?_
  refine gj_iload C dX12_product_26 0 rfl ?_
  refine gj_iadd C dX12_product_28 ?_
  refine gj_iald C 105 (by decide) hc1 (tr_in ht hi l3) dX12_product_29 ?_
  refine gj_aload_n C 0 dX12_product_30 rfl 2 rfl ?_
  refine gj_get C 87 (by decide) hc0 inX12 rfl 25 (by decide) w_874 (v := .ref (ad 105)) rfl dX12_product_31 ?_
  refine gj_bipush C (v := 32) (by decide) dX12_product_34 ?_
  refine gj_iload_n C 1 dX12_product_36 rfl 3 rfl ?_
  refine gj_imul C dX12_product_37 ?_
  refine gj_iconst C (v := 4) (by decide) dX12_product_38 ?_
  refine gj_iload_n C 3 dX12_product_39 rfl 5 rfl ?_
  refine gj_imul C dX12_product_40 ?_
  refine gj_iadd C dX12_product_41 ?_
  refine gj_iload C dX12_product_42 0 rfl ?_
  refine gj_iadd C dX12_product_44 ?_
  refine gj_iald C 105 (by decide) hc1 (tr_in ht hj l3) dX12_product_45 ?_
  refine gj_imul C dX12_product_46 ?_
  refine gj_iadd C dX12_product_47 ?_
  refine gj_istore C (lv' := [(4, .int (((0 + ((tr (((32 * t) + (4 * i)) + 1).toNatClampNeg) * (tr (((32 * t) + (4 * j)) + 1).toNatClampNeg))) + ((tr (((32 * t) + (4 * i)) + 2).toNatClampNeg) * (tr (((32 * t) + (4 * j)) + 2).toNatClampNeg))) + ((tr (((32 * t) + (4 * i)) + 3).toNatClampNeg) * (tr (((32 * t) + (4 * j)) + 3).toNatClampNeg)))), (5, .int 3), (0, .ref (ad 87)), (1, .int t), (2, .int i), (3, .int j)]) dX12_product_48 (by decide) rfl ?_
  refine gj_iinc C (v := 4) (lv' := [(5, .int 4), (4, .int (((0 + ((tr (((32 * t) + (4 * i)) + 1).toNatClampNeg) * (tr (((32 * t) + (4 * j)) + 1).toNatClampNeg))) + ((tr (((32 * t) + (4 * i)) + 2).toNatClampNeg) * (tr (((32 * t) + (4 * j)) + 2).toNatClampNeg))) + ((tr (((32 * t) + (4 * i)) + 3).toNatClampNeg) * (tr (((32 * t) + (4 * j)) + 3).toNatClampNeg)))), (0, .ref (ad 87)), (1, .int t), (2, .int i), (3, .int j)]) dX12_product_50 1 rfl (by decide) (by decide) rfl ?_
  refine gj_goto C 6 dX12_product_53 (by decide) ?_
  refine gj_iload C dX12_product_6 0 rfl ?_
  refine gj_iconst C (v := 4) (by decide) dX12_product_8 ?_
  refine gj_icmp_ge C 56 dX12_product_9 (by decide) (fun c_4 => ?_) (fun c_4 => absurd (by decide) c_4)
  refine gj_iload C dX12_product_56 1 rfl ?_
  exact RT _ _ _ _ ⟨rfl, rfl⟩ dX12_product_58
def s_X12_put (ad ca : Nat → Nat) (f : Nat → va_E)  (t : Int32) (k : Int32) (i : Int32) (la : Int32) (dr : Int32) (go : Int32) (lo : Int32) (ma : Int32) (pa : Int32) (tu : Int32) (su : Int32) (di : Nat → Int32) (mn : Nat → Int32) (tr : Nat → Int32) (tm : Nat → Int32) (ho : Nat → Int32) : Int32 × (Nat → va_E) := if (s_X12_isTray t) = 0 then (((-2), f)) else (if (s_X12_isThere k i mn) = 0 then (((-2), f)) else (if (tm t.toNatClampNeg) = 8 then (((-4), f)) else (if 2 ≤ (ho t.toNatClampNeg) then (((upd tm t.toNatClampNeg ((tm t.toNatClampNeg) + 1)) t.toNatClampNeg, va_up (va_up f 105 (.inl (ca 0, 128, .inl (upd (upd (upd (upd tr ((32 * t) + (4 * (tm t.toNatClampNeg))).toNatClampNeg k) ((((32 * t) + (4 * (tm t.toNatClampNeg))) + 1) + 0).toNatClampNeg (s_X12_of k i (0 : Int32) di)) ((((32 * t) + (4 * (tm t.toNatClampNeg))) + 1) + 1).toNatClampNeg (s_X12_of k i (1 : Int32) di)) ((((32 * t) + (4 * (tm t.toNatClampNeg))) + 1) + 2).toNatClampNeg (s_X12_of k i (2 : Int32) di))))) 106 (.inl (ca 0, 4, .inl (upd tm t.toNatClampNeg ((tm t.toNatClampNeg) + 1)))))) else (if (ho t.toNatClampNeg) = k then (((upd tm t.toNatClampNeg ((tm t.toNatClampNeg) + 1)) t.toNatClampNeg, va_up (va_up f 105 (.inl (ca 0, 128, .inl (upd (upd (upd (upd tr ((32 * t) + (4 * (tm t.toNatClampNeg))).toNatClampNeg k) ((((32 * t) + (4 * (tm t.toNatClampNeg))) + 1) + 0).toNatClampNeg (s_X12_of k i (0 : Int32) di)) ((((32 * t) + (4 * (tm t.toNatClampNeg))) + 1) + 1).toNatClampNeg (s_X12_of k i (1 : Int32) di)) ((((32 * t) + (4 * (tm t.toNatClampNeg))) + 1) + 2).toNatClampNeg (s_X12_of k i (2 : Int32) di))))) 106 (.inl (ca 0, 4, .inl (upd tm t.toNatClampNeg ((tm t.toNatClampNeg) + 1)))))) else (((-14), va_up f 87 (.inr (11, mF ad (4 : Int32) dr go lo ma pa tu su))))))))
set_option maxHeartbeats 400000 in
set_option maxRecDepth 100000 in
theorem c_X12_put {l : Launch} {D : va_G} {ca ss ad : Nat → Nat} {f : Nat → va_E} (t : Int32) (k : Int32) (i : Int32) (la : Int32) (dr : Int32) (go : Int32) (lo : Int32) (ma : Int32) (pa : Int32) (tu : Int32) (su : Int32) (di : Nat → Int32) (mn : Nat → Int32) (tr : Nat → Int32) (tm : Nat → Int32) (ho : Nat → Int32) (hc0 : f 87 = .inr (11, mF ad la dr go lo ma pa tu su)) (hc1 : f 92 = .inl (ca 0, 60, .inl di)) (hc2 : f 93 = .inl (ca 0, 2, .inl mn)) (hc3 : f 105 = .inl (ca 0, 128, .inl tr)) (hc4 : f 106 = .inl (ca 0, 4, .inl tm)) (hc5 : f 107 = .inl (ca 0, 4, .inl ho)) (hm : mnOk mn) (htm : tmOk tm) : gMi l D ca ss ad 108 yX12_put cX12_put 6 (some .int) 3 f [.ref (ad 87), .int t, .int k, .int i] (fun r u => (r, u) = s_X12_put ad ca f  t k i la dr go lo ma pa tu su di mn tr tm ho) := by
  refine gMi_ofK (by decide +kernel) (Nat.le_of_ble_eq_true rfl) (lv0 := [(0, .ref (ad 87)), (1, .int t), (2, .int k), (3, .int i)]) rfl (fun pT eT sT mT aT below meth cT AT QT C RT => ?_)
  have C : gX pT sT mT aT meth cT AT D ca ss 6 RX12 cX12_put (some .int) := C
  refine gj_iload_n C 1 dX12_put_0 rfl 1 rfl ?_
  refine gj_callSi C w_1201 w_1200 (c_X12_isTray t) mc_X12_isTray ⟨Nat.le_of_ble_eq_true rfl, Nat.le_of_ble_eq_true rfl⟩ (rest := []) rfl (Nat.le_of_ble_eq_true rfl) dX12_put_1 (fun r u h => ?_)
  obtain ⟨hr_, h⟩ := h; rw [hr_]
  rw [h]
  refine gj_if_eq C 16 dX12_put_4 (by decide) (fun c_1 => ?_) (fun c_1 => ?_)
  · refine gj_bipush C (v := (-2)) (by decide) dX12_put_16 ?_
    exact RT _ _ _ _ (by unfold s_X12_put; rw [if_pos c_1]) dX12_put_18
  · refine gj_aload_n C 0 dX12_put_7 rfl 0 rfl ?_
    refine gj_iload_n C 2 dX12_put_8 rfl 2 rfl ?_
    refine gj_iload_n C 3 dX12_put_9 rfl 3 rfl ?_
    refine gj_callVi C mi_X12_isThere w_1002 87 (by decide) hc0 rfl (c_X12_isThere k i la dr go lo ma pa tu su mn hc0 hc2) mc_X12_isThere ⟨Nat.le_of_ble_eq_true rfl, Nat.le_of_ble_eq_true rfl⟩ (rest := []) rfl (Nat.le_of_ble_eq_true rfl) dX12_put_10 (fun r u h => ?_)
    obtain ⟨hr_, h⟩ := h; rw [hr_]
    rw [h]
    refine gj_if_ne C 19 dX12_put_13 (by decide) (fun c_2 => ?_) (fun c_2 => ?_)
    · refine gj_aload_n C 0 dX12_put_19 rfl 0 rfl ?_
      refine gj_get C 87 (by decide) hc0 inX12 rfl 26 (by decide) w_875 (v := .ref (ad 106)) rfl dX12_put_20 ?_
      refine gj_iload_n C 1 dX12_put_23 rfl 1 rfl ?_
      refine gj_iald C 106 (by decide) hc4 (in4 (q_isTray c_1)) dX12_put_24 ?_
      refine gj_bipush C (v := 8) (by decide) dX12_put_25 ?_
      refine gj_icmp_ne C 33 dX12_put_27 (by decide) (fun c_3 => ?_) (fun c_3 => ?_)
      · refine gj_aload_n C 0 dX12_put_33 rfl 0 rfl ?_
        refine gj_get C 87 (by decide) hc0 inX12 rfl 27 (by decide) w_876 (v := .ref (ad 107)) rfl dX12_put_34 ?_
        refine gj_iload_n C 1 dX12_put_37 rfl 1 rfl ?_
        refine gj_iald C 107 (by decide) hc5 (in4 (q_isTray c_1)) dX12_put_38 ?_
        refine gj_iconst C (v := 2) (by decide) dX12_put_39 ?_
        refine gj_icmp_ge C 59 dX12_put_40 (by decide) (fun c_4 => ?_) (fun c_4 => ?_)
        · refine gj_bipush C (v := 32) (by decide) dX12_put_59 ?_
          refine gj_iload_n C 1 dX12_put_61 rfl 1 rfl ?_
          refine gj_imul C dX12_put_62 ?_
          refine gj_iconst C (v := 4) (by decide) dX12_put_63 ?_
          refine gj_aload_n C 0 dX12_put_64 rfl 0 rfl ?_
          refine gj_get C 87 (by decide) hc0 inX12 rfl 26 (by decide) w_875 (v := .ref (ad 106)) rfl dX12_put_65 ?_
          refine gj_iload_n C 1 dX12_put_68 rfl 1 rfl ?_
          refine gj_iald C 106 (by decide) hc4 (in4 (q_isTray c_1)) dX12_put_69 ?_
          refine gj_imul C dX12_put_70 ?_
          refine gj_iadd C dX12_put_71 ?_
          refine gj_istore C (lv' := [(4, .int ((32 * t) + (4 * (tm t.toNatClampNeg)))), (0, .ref (ad 87)), (1, .int t), (2, .int k), (3, .int i)]) dX12_put_72 (by decide) rfl ?_
          refine gj_aload_n C 0 dX12_put_74 rfl 1 rfl ?_
          refine gj_get C 87 (by decide) hc0 inX12 rfl 25 (by decide) w_874 (v := .ref (ad 105)) rfl dX12_put_75 ?_
          refine gj_iload C dX12_put_78 0 rfl ?_
          refine gj_iload_n C 2 dX12_put_80 rfl 3 rfl ?_
          refine gj_iast C 105 (by decide) hc3 (tr_in0 (q_isTray c_1) (q_room htm c_1 c_3)) dX12_put_81 ?_
          refine gj_iconst C (v := 0) (by decide) dX12_put_82 ?_
          refine gj_istore C (lv' := [(5, .int 0), (4, .int ((32 * t) + (4 * (tm t.toNatClampNeg)))), (0, .ref (ad 87)), (1, .int t), (2, .int k), (3, .int i)]) dX12_put_83 (by decide) rfl ?_
          refine gj_iload C dX12_put_85 0 rfl ?_
          refine gj_iconst C (v := 3) (by decide) dX12_put_87 ?_
          refine gj_icmp_ge C 117 dX12_put_88 (by decide) (fun c_5 => absurd c_5 (by decide)) (fun c_5 => ?_)
          refine gj_aload_n C 0 dX12_put_91 rfl 2 rfl ?_
          refine gj_get C 87 (by decide) (up_nx (by decide) (hc0)) inX12 rfl 25 (by decide) w_874 (v := .ref (ad 105)) rfl dX12_put_92 ?_
          refine gj_iload C dX12_put_95 1 rfl ?_
          refine gj_iconst C (v := 1) (by decide) dX12_put_97 ?_
          refine gj_iadd C dX12_put_98 ?_
          refine gj_iload C dX12_put_99 0 rfl ?_
          refine gj_iadd C dX12_put_101 ?_
          refine gj_aload_n C 0 dX12_put_102 rfl 2 rfl ?_
          refine gj_iload_n C 2 dX12_put_103 rfl 4 rfl ?_
          refine gj_iload_n C 3 dX12_put_104 rfl 5 rfl ?_
          refine gj_iload C dX12_put_105 0 rfl ?_
          refine gj_callVi C mi_X12_of w_1006 87 (by decide) (up_nx (by decide) (hc0)) rfl (c_X12_of k i (0 : Int32) la dr go lo ma pa tu su di (up_nx (by decide) (hc0)) (up_nx (by decide) (hc1)) (q_there hm c_2) w0) mc_X12_of ⟨Nat.le_of_ble_eq_true rfl, Nat.le_of_ble_eq_true rfl⟩ (rest := [.int ((((32 * t) + (4 * (tm t.toNatClampNeg))) + 1) + 0), .ref (ad 105)]) rfl (Nat.le_of_ble_eq_true rfl) dX12_put_107 (fun r u h => ?_)
          obtain ⟨hr_, hu_⟩ := h; rw [hr_]; subst hu_
          refine gj_iast C 105 (by decide) (va_up_self _ _ _) (tr_in3 (q_isTray c_1) (q_room htm c_1 c_3) w0) dX12_put_110 ?_
          refine gj_setf (bx_uu _ _ _ _) ?_
          refine gj_iinc C (v := 1) (lv' := [(5, .int 1), (4, .int ((32 * t) + (4 * (tm t.toNatClampNeg)))), (0, .ref (ad 87)), (1, .int t), (2, .int k), (3, .int i)]) dX12_put_111 0 rfl (by decide) (by decide) rfl ?_
          refine gj_goto C 85 dX12_put_114 (by decide) ?_
          refine gj_iload C dX12_put_85 0 rfl ?_
          refine gj_iconst C (v := 3) (by decide) dX12_put_87 ?_
          refine gj_icmp_ge C 117 dX12_put_88 (by decide) (fun c_6 => absurd c_6 (by decide)) (fun c_6 => ?_)
          refine gj_aload_n C 0 dX12_put_91 rfl 2 rfl ?_
          refine gj_get C 87 (by decide) (up_nx (by decide) (hc0)) inX12 rfl 25 (by decide) w_874 (v := .ref (ad 105)) rfl dX12_put_92 ?_
          refine gj_iload C dX12_put_95 1 rfl ?_
          refine gj_iconst C (v := 1) (by decide) dX12_put_97 ?_
          refine gj_iadd C dX12_put_98 ?_
          refine gj_iload C dX12_put_99 0 rfl ?_
          refine gj_iadd C dX12_put_101 ?_
          refine gj_aload_n C 0 dX12_put_102 rfl 2 rfl ?_
          refine gj_iload_n C 2 dX12_put_103 rfl 4 rfl ?_
          refine gj_iload_n C 3 dX12_put_104 rfl 5 rfl ?_
          refine gj_iload C dX12_put_105 0 rfl ?_
          refine gj_callVi C mi_X12_of w_1006 87 (by decide) (up_nx (by decide) (hc0)) rfl (c_X12_of k i (1 : Int32) la dr go lo ma pa tu su di (up_nx (by decide) (hc0)) (up_nx (by decide) (hc1)) (q_there hm c_2) w1) mc_X12_of ⟨Nat.le_of_ble_eq_true rfl, Nat.le_of_ble_eq_true rfl⟩ (rest := [.int ((((32 * t) + (4 * (tm t.toNatClampNeg))) + 1) + 1), .ref (ad 105)]) rfl (Nat.le_of_ble_eq_true rfl) dX12_put_107 (fun r u h => ?_)
          obtain ⟨hr_, hu_⟩ := h; rw [hr_]; subst hu_
          refine gj_iast C 105 (by decide) (va_up_self _ _ _) (tr_in3 (q_isTray c_1) (q_room htm c_1 c_3) w1) dX12_put_110 ?_
          refine gj_setf (bx_uu _ _ _ _) ?_
          refine gj_iinc C (v := 2) (lv' := [(5, .int 2), (4, .int ((32 * t) + (4 * (tm t.toNatClampNeg)))), (0, .ref (ad 87)), (1, .int t), (2, .int k), (3, .int i)]) dX12_put_111 0 rfl (by decide) (by decide) rfl ?_
          refine gj_goto C 85 dX12_put_114 (by decide) ?_
          refine gj_iload C dX12_put_85 0 rfl ?_
          refine gj_iconst C (v := 3) (by decide) dX12_put_87 ?_
          refine gj_icmp_ge C 117 dX12_put_88 (by decide) (fun c_7 => absurd c_7 (by decide)) (fun c_7 => ?_)
          refine gj_aload_n C 0 dX12_put_91 rfl 2 rfl ?_
          refine gj_get C 87 (by decide) (up_nx (by decide) (hc0)) inX12 rfl 25 (by decide) w_874 (v := .ref (ad 105)) rfl dX12_put_92 ?_
          refine gj_iload C dX12_put_95 1 rfl ?_
          refine gj_iconst C (v := 1) (by decide) dX12_put_97 ?_
          refine gj_iadd C dX12_put_98 ?_
          refine gj_iload C dX12_put_99 0 rfl ?_
          refine gj_iadd C dX12_put_101 ?_
          refine gj_aload_n C 0 dX12_put_102 rfl 2 rfl ?_
          refine gj_iload_n C 2 dX12_put_103 rfl 4 rfl ?_
          refine gj_iload_n C 3 dX12_put_104 rfl 5 rfl ?_
          refine gj_iload C dX12_put_105 0 rfl ?_
          refine gj_callVi C mi_X12_of w_1006 87 (by decide) (up_nx (by decide) (hc0)) rfl (c_X12_of k i (2 : Int32) la dr go lo ma pa tu su di (up_nx (by decide) (hc0)) (up_nx (by decide) (hc1)) (q_there hm c_2) w2) mc_X12_of ⟨Nat.le_of_ble_eq_true rfl, Nat.le_of_ble_eq_true rfl⟩ (rest := [.int ((((32 * t) + (4 * (tm t.toNatClampNeg))) + 1) + 2), .ref (ad 105)]) rfl (Nat.le_of_ble_eq_true rfl) dX12_put_107 (fun r u h => ?_)
          obtain ⟨hr_, hu_⟩ := h; rw [hr_]; subst hu_
          refine gj_iast C 105 (by decide) (va_up_self _ _ _) (tr_in3 (q_isTray c_1) (q_room htm c_1 c_3) w2) dX12_put_110 ?_
          refine gj_setf (bx_uu _ _ _ _) ?_
          refine gj_iinc C (v := 3) (lv' := [(5, .int 3), (4, .int ((32 * t) + (4 * (tm t.toNatClampNeg)))), (0, .ref (ad 87)), (1, .int t), (2, .int k), (3, .int i)]) dX12_put_111 0 rfl (by decide) (by decide) rfl ?_
          refine gj_goto C 85 dX12_put_114 (by decide) ?_
          refine gj_iload C dX12_put_85 0 rfl ?_
          refine gj_iconst C (v := 3) (by decide) dX12_put_87 ?_
          refine gj_icmp_ge C 117 dX12_put_88 (by decide) (fun c_8 => ?_) (fun c_8 => absurd (by decide) c_8)
          refine gj_aload_n C 0 dX12_put_117 rfl 2 rfl ?_
          refine gj_get C 87 (by decide) (up_nx (by decide) (hc0)) inX12 rfl 26 (by decide) w_875 (v := .ref (ad 106)) rfl dX12_put_118 ?_
          refine gj_iload_n C 1 dX12_put_121 rfl 3 rfl ?_
          refine gj_dup2_11 C rfl rfl dX12_put_122 ?_
          refine gj_iald C 106 (by decide) (up_nx (by decide) (hc4)) (in4 (q_isTray c_1)) dX12_put_123 ?_
          refine gj_iconst C (v := 1) (by decide) dX12_put_124 ?_
          refine gj_iadd C dX12_put_125 ?_
          refine gj_iast C 106 (by decide) (up_nx (by decide) (hc4)) (in4 (q_isTray c_1)) dX12_put_126 ?_
          refine gj_aload_n C 0 dX12_put_127 rfl 2 rfl ?_
          refine gj_get C 87 (by decide) (up_nx (by decide) (up_nx (by decide) (hc0))) inX12 rfl 26 (by decide) w_875 (v := .ref (ad 106)) rfl dX12_put_128 ?_
          refine gj_iload_n C 1 dX12_put_131 rfl 3 rfl ?_
          refine gj_iald C 106 (by decide) (va_up_self _ _ _) (in4 (q_isTray c_1)) dX12_put_132 ?_
          exact RT _ _ _ _ (by unfold s_X12_put; rw [if_neg c_1, if_neg c_2, if_neg c_3, if_pos c_4]) dX12_put_133
        · refine gj_aload_n C 0 dX12_put_43 rfl 0 rfl ?_
          refine gj_get C 87 (by decide) hc0 inX12 rfl 27 (by decide) w_876 (v := .ref (ad 107)) rfl dX12_put_44 ?_
          refine gj_iload_n C 1 dX12_put_47 rfl 1 rfl ?_
          refine gj_iald C 107 (by decide) hc5 (in4 (q_isTray c_1)) dX12_put_48 ?_
          refine gj_iload_n C 2 dX12_put_49 rfl 2 rfl ?_
          refine gj_icmp_eq C 59 dX12_put_50 (by decide) (fun c_9 => ?_) (fun c_9 => ?_)
          · refine gj_bipush C (v := 32) (by decide) dX12_put_59 ?_
            refine gj_iload_n C 1 dX12_put_61 rfl 1 rfl ?_
            refine gj_imul C dX12_put_62 ?_
            refine gj_iconst C (v := 4) (by decide) dX12_put_63 ?_
            refine gj_aload_n C 0 dX12_put_64 rfl 0 rfl ?_
            refine gj_get C 87 (by decide) hc0 inX12 rfl 26 (by decide) w_875 (v := .ref (ad 106)) rfl dX12_put_65 ?_
            refine gj_iload_n C 1 dX12_put_68 rfl 1 rfl ?_
            refine gj_iald C 106 (by decide) hc4 (in4 (q_isTray c_1)) dX12_put_69 ?_
            refine gj_imul C dX12_put_70 ?_
            refine gj_iadd C dX12_put_71 ?_
            refine gj_istore C (lv' := [(4, .int ((32 * t) + (4 * (tm t.toNatClampNeg)))), (0, .ref (ad 87)), (1, .int t), (2, .int k), (3, .int i)]) dX12_put_72 (by decide) rfl ?_
            refine gj_aload_n C 0 dX12_put_74 rfl 1 rfl ?_
            refine gj_get C 87 (by decide) hc0 inX12 rfl 25 (by decide) w_874 (v := .ref (ad 105)) rfl dX12_put_75 ?_
            refine gj_iload C dX12_put_78 0 rfl ?_
            refine gj_iload_n C 2 dX12_put_80 rfl 3 rfl ?_
            refine gj_iast C 105 (by decide) hc3 (tr_in0 (q_isTray c_1) (q_room htm c_1 c_3)) dX12_put_81 ?_
            refine gj_iconst C (v := 0) (by decide) dX12_put_82 ?_
            refine gj_istore C (lv' := [(5, .int 0), (4, .int ((32 * t) + (4 * (tm t.toNatClampNeg)))), (0, .ref (ad 87)), (1, .int t), (2, .int k), (3, .int i)]) dX12_put_83 (by decide) rfl ?_
            refine gj_iload C dX12_put_85 0 rfl ?_
            refine gj_iconst C (v := 3) (by decide) dX12_put_87 ?_
            refine gj_icmp_ge C 117 dX12_put_88 (by decide) (fun c_10 => absurd c_10 (by decide)) (fun c_10 => ?_)
            refine gj_aload_n C 0 dX12_put_91 rfl 2 rfl ?_
            refine gj_get C 87 (by decide) (up_nx (by decide) (hc0)) inX12 rfl 25 (by decide) w_874 (v := .ref (ad 105)) rfl dX12_put_92 ?_
            refine gj_iload C dX12_put_95 1 rfl ?_
            refine gj_iconst C (v := 1) (by decide) dX12_put_97 ?_
            refine gj_iadd C dX12_put_98 ?_
            refine gj_iload C dX12_put_99 0 rfl ?_
            refine gj_iadd C dX12_put_101 ?_
            refine gj_aload_n C 0 dX12_put_102 rfl 2 rfl ?_
            refine gj_iload_n C 2 dX12_put_103 rfl 4 rfl ?_
            refine gj_iload_n C 3 dX12_put_104 rfl 5 rfl ?_
            refine gj_iload C dX12_put_105 0 rfl ?_
            refine gj_callVi C mi_X12_of w_1006 87 (by decide) (up_nx (by decide) (hc0)) rfl (c_X12_of k i (0 : Int32) la dr go lo ma pa tu su di (up_nx (by decide) (hc0)) (up_nx (by decide) (hc1)) (q_there hm c_2) w0) mc_X12_of ⟨Nat.le_of_ble_eq_true rfl, Nat.le_of_ble_eq_true rfl⟩ (rest := [.int ((((32 * t) + (4 * (tm t.toNatClampNeg))) + 1) + 0), .ref (ad 105)]) rfl (Nat.le_of_ble_eq_true rfl) dX12_put_107 (fun r u h => ?_)
            obtain ⟨hr_, hu_⟩ := h; rw [hr_]; subst hu_
            refine gj_iast C 105 (by decide) (va_up_self _ _ _) (tr_in3 (q_isTray c_1) (q_room htm c_1 c_3) w0) dX12_put_110 ?_
            refine gj_setf (bx_uu _ _ _ _) ?_
            refine gj_iinc C (v := 1) (lv' := [(5, .int 1), (4, .int ((32 * t) + (4 * (tm t.toNatClampNeg)))), (0, .ref (ad 87)), (1, .int t), (2, .int k), (3, .int i)]) dX12_put_111 0 rfl (by decide) (by decide) rfl ?_
            refine gj_goto C 85 dX12_put_114 (by decide) ?_
            refine gj_iload C dX12_put_85 0 rfl ?_
            refine gj_iconst C (v := 3) (by decide) dX12_put_87 ?_
            refine gj_icmp_ge C 117 dX12_put_88 (by decide) (fun c_11 => absurd c_11 (by decide)) (fun c_11 => ?_)
            refine gj_aload_n C 0 dX12_put_91 rfl 2 rfl ?_
            refine gj_get C 87 (by decide) (up_nx (by decide) (hc0)) inX12 rfl 25 (by decide) w_874 (v := .ref (ad 105)) rfl dX12_put_92 ?_
            refine gj_iload C dX12_put_95 1 rfl ?_
            refine gj_iconst C (v := 1) (by decide) dX12_put_97 ?_
            refine gj_iadd C dX12_put_98 ?_
            refine gj_iload C dX12_put_99 0 rfl ?_
            refine gj_iadd C dX12_put_101 ?_
            refine gj_aload_n C 0 dX12_put_102 rfl 2 rfl ?_
            refine gj_iload_n C 2 dX12_put_103 rfl 4 rfl ?_
            refine gj_iload_n C 3 dX12_put_104 rfl 5 rfl ?_
            refine gj_iload C dX12_put_105 0 rfl ?_
            refine gj_callVi C mi_X12_of w_1006 87 (by decide) (up_nx (by decide) (hc0)) rfl (c_X12_of k i (1 : Int32) la dr go lo ma pa tu su di (up_nx (by decide) (hc0)) (up_nx (by decide) (hc1)) (q_there hm c_2) w1) mc_X12_of ⟨Nat.le_of_ble_eq_true rfl, Nat.le_of_ble_eq_true rfl⟩ (rest := [.int ((((32 * t) + (4 * (tm t.toNatClampNeg))) + 1) + 1), .ref (ad 105)]) rfl (Nat.le_of_ble_eq_true rfl) dX12_put_107 (fun r u h => ?_)
            obtain ⟨hr_, hu_⟩ := h; rw [hr_]; subst hu_
            refine gj_iast C 105 (by decide) (va_up_self _ _ _) (tr_in3 (q_isTray c_1) (q_room htm c_1 c_3) w1) dX12_put_110 ?_
            refine gj_setf (bx_uu _ _ _ _) ?_
            refine gj_iinc C (v := 2) (lv' := [(5, .int 2), (4, .int ((32 * t) + (4 * (tm t.toNatClampNeg)))), (0, .ref (ad 87)), (1, .int t), (2, .int k), (3, .int i)]) dX12_put_111 0 rfl (by decide) (by decide) rfl ?_
            refine gj_goto C 85 dX12_put_114 (by decide) ?_
            refine gj_iload C dX12_put_85 0 rfl ?_
            refine gj_iconst C (v := 3) (by decide) dX12_put_87 ?_
            refine gj_icmp_ge C 117 dX12_put_88 (by decide) (fun c_12 => absurd c_12 (by decide)) (fun c_12 => ?_)
            refine gj_aload_n C 0 dX12_put_91 rfl 2 rfl ?_
            refine gj_get C 87 (by decide) (up_nx (by decide) (hc0)) inX12 rfl 25 (by decide) w_874 (v := .ref (ad 105)) rfl dX12_put_92 ?_
            refine gj_iload C dX12_put_95 1 rfl ?_
            refine gj_iconst C (v := 1) (by decide) dX12_put_97 ?_
            refine gj_iadd C dX12_put_98 ?_
            refine gj_iload C dX12_put_99 0 rfl ?_
            refine gj_iadd C dX12_put_101 ?_
            refine gj_aload_n C 0 dX12_put_102 rfl 2 rfl ?_
            refine gj_iload_n C 2 dX12_put_103 rfl 4 rfl ?_
            refine gj_iload_n C 3 dX12_put_104 rfl 5 rfl ?_
            refine gj_iload C dX12_put_105 0 rfl ?_
            refine gj_callVi C mi_X12_of w_1006 87 (by decide) (up_nx (by decide) (hc0)) rfl (c_X12_of k i (2 : Int32) la dr go lo ma pa tu su di (up_nx (by decide) (hc0)) (up_nx (by decide) (hc1)) (q_there hm c_2) w2) mc_X12_of ⟨Nat.le_of_ble_eq_true rfl, Nat.le_of_ble_eq_true rfl⟩ (rest := [.int ((((32 * t) + (4 * (tm t.toNatClampNeg))) + 1) + 2), .ref (ad 105)]) rfl (Nat.le_of_ble_eq_true rfl) dX12_put_107 (fun r u h => ?_)
            obtain ⟨hr_, hu_⟩ := h; rw [hr_]; subst hu_
            refine gj_iast C 105 (by decide) (va_up_self _ _ _) (tr_in3 (q_isTray c_1) (q_room htm c_1 c_3) w2) dX12_put_110 ?_
            refine gj_setf (bx_uu _ _ _ _) ?_
            refine gj_iinc C (v := 3) (lv' := [(5, .int 3), (4, .int ((32 * t) + (4 * (tm t.toNatClampNeg)))), (0, .ref (ad 87)), (1, .int t), (2, .int k), (3, .int i)]) dX12_put_111 0 rfl (by decide) (by decide) rfl ?_
            refine gj_goto C 85 dX12_put_114 (by decide) ?_
            refine gj_iload C dX12_put_85 0 rfl ?_
            refine gj_iconst C (v := 3) (by decide) dX12_put_87 ?_
            refine gj_icmp_ge C 117 dX12_put_88 (by decide) (fun c_13 => ?_) (fun c_13 => absurd (by decide) c_13)
            refine gj_aload_n C 0 dX12_put_117 rfl 2 rfl ?_
            refine gj_get C 87 (by decide) (up_nx (by decide) (hc0)) inX12 rfl 26 (by decide) w_875 (v := .ref (ad 106)) rfl dX12_put_118 ?_
            refine gj_iload_n C 1 dX12_put_121 rfl 3 rfl ?_
            refine gj_dup2_11 C rfl rfl dX12_put_122 ?_
            refine gj_iald C 106 (by decide) (up_nx (by decide) (hc4)) (in4 (q_isTray c_1)) dX12_put_123 ?_
            refine gj_iconst C (v := 1) (by decide) dX12_put_124 ?_
            refine gj_iadd C dX12_put_125 ?_
            refine gj_iast C 106 (by decide) (up_nx (by decide) (hc4)) (in4 (q_isTray c_1)) dX12_put_126 ?_
            refine gj_aload_n C 0 dX12_put_127 rfl 2 rfl ?_
            refine gj_get C 87 (by decide) (up_nx (by decide) (up_nx (by decide) (hc0))) inX12 rfl 26 (by decide) w_875 (v := .ref (ad 106)) rfl dX12_put_128 ?_
            refine gj_iload_n C 1 dX12_put_131 rfl 3 rfl ?_
            refine gj_iald C 106 (by decide) (va_up_self _ _ _) (in4 (q_isTray c_1)) dX12_put_132 ?_
            exact RT _ _ _ _ (by unfold s_X12_put; rw [if_neg c_1, if_neg c_2, if_neg c_3, if_neg c_4, if_pos c_9]) dX12_put_133
          · refine gj_aload_n C 0 dX12_put_53 rfl 0 rfl ?_
            refine gj_iconst C (v := 4) (by decide) dX12_put_54 ?_
            refine gj_callVi C mi_X12_finds w_947 87 (by decide) hc0 rfl (c_X12_finds (4 : Int32) la dr go lo ma pa tu su hc0) mc_X12_finds ⟨Nat.le_of_ble_eq_true rfl, Nat.le_of_ble_eq_true rfl⟩ (rest := []) rfl (Nat.le_of_ble_eq_true rfl) dX12_put_55 (fun r u h => ?_)
            obtain ⟨hr_, hu_⟩ := h; rw [hr_]; subst hu_
            refine gj_seti (y := (-14)) (by decide) ?_
            exact RT _ _ _ _ (by unfold s_X12_put; rw [if_neg c_1, if_neg c_2, if_neg c_3, if_neg c_4, if_neg c_9]) dX12_put_58
      · refine gj_bipush C (v := (-4)) (by decide) dX12_put_30 ?_
        exact RT _ _ _ _ (by unfold s_X12_put; rw [if_neg c_1, if_neg c_2, if_pos c_3]) dX12_put_32
    · refine gj_bipush C (v := (-2)) (by decide) dX12_put_16 ?_
      exact RT _ _ _ _ (by unfold s_X12_put; rw [if_neg c_1, if_pos c_2]) dX12_put_18
set_option maxHeartbeats 400000 in
set_option maxRecDepth 100000 in
theorem c_X12_manyWrong {l : Launch} {D : va_G} {ca ss ad : Nat → Nat} {f : Nat → va_E}   (la : Int32) (dr : Int32) (go : Int32) (lo : Int32) (ma : Int32) (pa : Int32) (tu : Int32) (su : Int32) (so : Nat → Int32) (su_ : Nat → Int32) (hc0 : f 87 = .inr (11, mF ad la dr go lo ma pa tu su)) (hc1 : f 96 = .inl (ca 0, 8, .inl so)) (hc2 : f 103 = .inl (ca 0, 8, .inl su_))  : gMi l D ca ss ad 108 yX12_manyWrong cX12_manyWrong 3 (some .int) 1 f [.ref (ad 87)] (fun r u => r = mBits (mW so su_ 8) 8 ∧ u = f) := by
  refine gMi_ofK (by decide +kernel) (Nat.le_of_ble_eq_true rfl) (lv0 := [(0, .ref (ad 87))]) rfl (fun pT eT sT mT aT below meth cT AT QT C RT => ?_)
  have C : gX pT sT mT aT meth cT AT D ca ss 3 RX12 cX12_manyWrong (some .int) := C
  refine gj_iconst C (v := 0) (by decide) dX12_manyWrong_0 ?_
  refine gj_seti (y := mBits (mW so su_ 8) 0) rfl ?_
  refine gj_istore_n C (lv' := [(1, .int (mBits (mW so su_ 8) 0)), (0, .ref (ad 87))]) 1 dX12_manyWrong_1 rfl (by decide) rfl ?_
  refine gj_iconst C (v := 0) (by decide) dX12_manyWrong_2 ?_
  refine gj_seti (y := nI 0) rfl ?_
  refine gj_istore_n C (lv' := [(2, .int (nI 0)), (1, .int (mBits (mW so su_ 8) 0)), (0, .ref (ad 87))]) 2 dX12_manyWrong_3 rfl (by decide) rfl ?_
  have loop_1 : ∀ (m0 t0 : Nat), t0 + m0 = 8 → gJ pT l eT (Rm 1) sT mT aT below meth cT AT QT D ad 108 3 (f) [(2, .int (nI t0)), (1, .int (mBits (mW so su_ 8) t0)), (0, .ref (ad 87))] 4 [] := by
    intro m0
    induction m0 with
    | zero =>
      intro t0 hk_t0  
      obtain rfl : t0 = 8 := (by omega)
      refine gj_iload_n C 2 dX12_manyWrong_4 rfl 0 rfl ?_
      refine gj_bipush C (v := 8) (by decide) dX12_manyWrong_5 ?_
      refine gj_icmp_ge C 35 dX12_manyWrong_7 (by decide) (fun c_3 => ?_) (fun c_3 => absurd (Int32.le_refl _) c_3)
      refine gj_iload_n C 1 dX12_manyWrong_35 rfl 1 rfl ?_
      exact RT _ _ _ _ ⟨rfl, rfl⟩ dX12_manyWrong_36
    | succ m0 ih_2 =>
      intro t0 hk_t0  
      refine gj_iload_n C 2 dX12_manyWrong_4 rfl 0 rfl ?_
      refine gj_bipush C (v := 8) (by decide) dX12_manyWrong_5 ?_
      refine gj_icmp_ge C 35 dX12_manyWrong_7 (by decide) (fun c_4 => absurd c_4 (show ¬ (8 : Int32) ≤ nI t0 from nI_ge (b := 8) (by omega) (by omega))) (fun c_4 => ?_)
      refine gj_iload_n C 1 dX12_manyWrong_10 rfl 1 rfl ?_
      refine gj_aload_n C 0 dX12_manyWrong_11 rfl 2 rfl ?_
      refine gj_callVi C mi_X12_wrongNow w_1176 87 (by decide) hc0 rfl (c_X12_wrongNow la dr go lo ma pa tu su so su_ hc0 hc1 hc2) mc_X12_wrongNow ⟨Nat.le_of_ble_eq_true rfl, Nat.le_of_ble_eq_true rfl⟩ (rest := [.int (mBits (mW so su_ 8) t0)]) rfl (Nat.le_of_ble_eq_true rfl) dX12_manyWrong_12 (fun r u h => ?_)
      obtain ⟨hr_, h⟩ := h; rw [hr_]
      rw [h]
      refine gj_iload_n C 2 dX12_manyWrong_15 rfl 0 rfl ?_
      refine gj_callSi C w_1253 w_1252 (c_X12_isIn (mW so su_ 8) (nI t0)) mc_X12_isIn ⟨Nat.le_of_ble_eq_true rfl, Nat.le_of_ble_eq_true rfl⟩ (rest := [.int (mBits (mW so su_ 8) t0)]) rfl (Nat.le_of_ble_eq_true rfl) dX12_manyWrong_16 (fun r u h => ?_)
      obtain ⟨hr_, h⟩ := h; rw [hr_]
      rw [h]
      refine gj_if_eq C 26 dX12_manyWrong_19 (by decide) (fun c_5 => ?_) (fun c_5 => ?_)
      · refine gj_iconst C (v := 0) (by decide) dX12_manyWrong_26 ?_
        refine gj_iadd C dX12_manyWrong_27 ?_
        refine gj_seti (y := mBits (mW so su_ 8) (t0 + 1)) (show mBits (mW so su_ 8) (t0 + 1) = (mBits (mW so su_ 8) t0) + 0 from congrArg (fun z => mBits (mW so su_ 8) t0 + z) ((if_pos c_5).trans (rfl))).symm ?_
        refine gj_istore_n C (lv' := [(1, .int (mBits (mW so su_ 8) (t0 + 1))), (2, .int (nI t0)), (0, .ref (ad 87))]) 1 dX12_manyWrong_28 rfl (by decide) rfl ?_
        refine gj_iinc C (v := nI (t0 + 1)) (lv' := [(2, .int (nI (t0 + 1))), (1, .int (mBits (mW so su_ 8) (t0 + 1))), (0, .ref (ad 87))]) dX12_manyWrong_29 1 rfl (nI_1 _) (by decide) rfl ?_
        refine gj_goto C 4 dX12_manyWrong_32 (by decide) ?_
        refine gj_lv [0, 1, 2] rfl ?_
        exact ih_2 (t0 + 1) (by omega)
      · refine gj_iconst C (v := 1) (by decide) dX12_manyWrong_22 ?_
        refine gj_goto C 27 dX12_manyWrong_23 (by decide) ?_
        refine gj_iadd C dX12_manyWrong_27 ?_
        refine gj_seti (y := mBits (mW so su_ 8) (t0 + 1)) (show mBits (mW so su_ 8) (t0 + 1) = (mBits (mW so su_ 8) t0) + 1 from congrArg (fun z => mBits (mW so su_ 8) t0 + z) ((if_neg c_5).trans (rfl))).symm ?_
        refine gj_istore_n C (lv' := [(1, .int (mBits (mW so su_ 8) (t0 + 1))), (2, .int (nI t0)), (0, .ref (ad 87))]) 1 dX12_manyWrong_28 rfl (by decide) rfl ?_
        refine gj_iinc C (v := nI (t0 + 1)) (lv' := [(2, .int (nI (t0 + 1))), (1, .int (mBits (mW so su_ 8) (t0 + 1))), (0, .ref (ad 87))]) dX12_manyWrong_29 1 rfl (nI_1 _) (by decide) rfl ?_
        refine gj_goto C 4 dX12_manyWrong_32 (by decide) ?_
        refine gj_lv [0, 1, 2] rfl ?_
        exact ih_2 (t0 + 1) (by omega)
  refine gj_lv [0, 1, 2] rfl ?_
  exact loop_1 (8 - 0) 0 (by omega)
theorem sw_out {x : Int32} (h0 : ¬ x = 0) (h1 : ¬ x = 1) (h2 : ¬ x = 2) (h3 : ¬ x = 3) (h4 : ¬ x = 4) (h5 : ¬ x = 5) (h6 : ¬ x = 6) (h7 : ¬ x = 7) (h8 : ¬ x = 8) : x.toInt < 0 ∨ 8 < x.toInt := by
  rw [i32_eq] at h0 h1 h2 h3 h4 h5 h6 h7 h8
  have e0 : (0 : Int32).toInt = 0 := rfl
  have e1 : (1 : Int32).toInt = 1 := rfl
  have e2 : (2 : Int32).toInt = 2 := rfl
  have e3 : (3 : Int32).toInt = 3 := rfl
  have e4 : (4 : Int32).toInt = 4 := rfl
  have e5 : (5 : Int32).toInt = 5 := rfl
  have e6 : (6 : Int32).toInt = 6 := rfl
  have e7 : (7 : Int32).toInt = 7 := rfl
  have e8 : (8 : Int32).toInt = 8 := rfl
  omega
def s_X12_count (w : Int32) (la : Int32) (go : Int32) (di : Nat → Int32) (mn : Nat → Int32) (se : Nat → Int32) (tm : Nat → Int32) (n0 : Nat) (n1 : Nat) : Int32 := if w = 0 then (mn 0) else (if w = 1 then (mn 1) else (if w = 2 then ((rT di se n0 n1 go).2.2.2) else (if w = 3 then ((rC di se n0 n1 go).2.2.2) else (if w = 4 then (3 * ((mVotes di se n0 n1 go).2.1)) else (if w = 5 then (se 1) else (if w = 6 then (s_X12_manyThings tm) else (if w = 7 then (mBits (mW ((rT di se n0 n1 go).1) ((rC di se n0 n1 go).2.1) 8) 8) else (if w = 8 then (la) else ((-2))))))))))
set_option maxHeartbeats 400000 in
set_option maxRecDepth 100000 in
theorem c_X12_count {l : Launch} {D : va_G} {ca ss ad : Nat → Nat} {f : Nat → va_E}  (w : Int32) (la : Int32) (dr : Int32) (go : Int32) (lo : Int32) (ma : Int32) (pa : Int32) (tu : Int32) (su : Int32) (di : Nat → Int32) (mn : Nat → Int32) (se : Nat → Int32) (vo : Nat → Int32) (so : Nat → Int32) (ro : Nat → Int32) (us : Nat → Int32) (sta : Nat → Int64) (spa : Nat → Int64) (sf : Nat → Int64) (pl : Nat → Int32) (su_ : Nat → Int32) (fa : Nat → Int32) (tm : Nat → Int32) (n0 : Nat) (n1 : Nat) (hc0 : f 87 = .inr (11, mF ad la dr go lo ma pa tu su)) (hc1 : f 92 = .inl (ca 0, 60, .inl di)) (hc2 : f 93 = .inl (ca 0, 2, .inl mn)) (hc3 : f 94 = .inl (ca 0, 4, .inl se)) (hc4 : f 95 = .inl (ca 0, 96, .inl vo)) (hc5 : f 96 = .inl (ca 0, 8, .inl so)) (hc6 : f 97 = .inl (ca 0, 8, .inl ro)) (hc7 : f 98 = .inl (ca 2, 12, .inl us)) (hc8 : f 99 = .inl (ca 1, 9, .inr (.inl sta))) (hc9 : f 100 = .inl (ca 1, 9, .inr (.inl spa))) (hc10 : f 101 = .inl (ca 1, 3, .inr (.inl sf))) (hc11 : f 102 = .inl (ca 0, 36, .inl pl)) (hc12 : f 103 = .inl (ca 0, 8, .inl su_)) (hc13 : f 104 = .inl (ca 0, 8, .inl fa)) (hc14 : f 106 = .inl (ca 0, 4, .inl tm)) (h0 : mn 0 = nI n0) (h1 : mn 1 = nI n1) (hn : n0 ≤ 12) (hn1 : n1 ≤ 8) (hz : ¬ se 0 = 0) (hd : dOk di) : gMi l D ca ss ad 108 yX12_count cX12_count 2 (some .int) 8 f [.ref (ad 87), .int w] (fun r u => ∃ (spaX staX sfX : Nat → Int64) (plX : Nat → Int32), (rU di se n0 n1 go = 1 → ∀ j, j < 3 * n0 → plX j = rP di se n0 n1 go j) ∧ r = s_X12_count w la go di mn se tm n0 n1 ∧ u = va_up (va_up (va_up (va_up (va_up (va_up (va_up (va_up (va_up (va_up (va_up f 87 (.inr (11, mF ad la dr go ((mVotes di se n0 n1 go).2.2) ((mVotes di se n0 n1 go).2.1) ((rT di se n0 n1 go).2.2.2) (rU di se n0 n1 go) ((rC di se n0 n1 go).2.2.2)))) 95 (.inl (ca 0, 96, .inl ((mVotes di se n0 n1 go).1)))) 96 (.inl (ca 0, 8, .inl ((rT di se n0 n1 go).1)))) 97 (.inl (ca 0, 8, .inl ((rT di se n0 n1 go).2.1)))) 98 (.inl (ca 2, 12, .inl ((rC di se n0 n1 go).1)))) 100 (.inl (ca 1, 9, .inr (.inl spaX)))) 99 (.inl (ca 1, 9, .inr (.inl staX)))) 101 (.inl (ca 1, 3, .inr (.inl sfX)))) 102 (.inl (ca 0, 36, .inl plX))) 103 (.inl (ca 0, 8, .inl ((rC di se n0 n1 go).2.1)))) 104 (.inl (ca 0, 8, .inl ((rC di se n0 n1 go).2.2.1)))) := by
  refine gMi_ofK (by decide +kernel) (Nat.le_of_ble_eq_true rfl) (lv0 := [(0, .ref (ad 87)), (1, .int w)]) rfl (fun pT eT sT mT aT below meth cT AT QT C RT => ?_)
  have C : gX pT sT mT aT meth cT AT D ca ss 2 RX12 cX12_count (some .int) := C
  refine gj_aload_n C 0 dX12_count_0 rfl 0 rfl ?_
  refine gj_callVv C mi_X12_find w_1069 87 (by decide) hc0 rfl (c_X12_find la dr go lo ma pa tu su di mn se vo so ro us sta spa sf pl su_ fa n0 n1 hc0 hc1 hc2 hc3 hc4 hc5 hc6 hc7 hc8 hc9 hc10 hc11 hc12 hc13 h0 h1 hn hn1 hz hd) mc_X12_find ⟨Nat.le_of_ble_eq_true rfl, Nat.le_of_ble_eq_true rfl⟩ (rest := []) rfl (Nat.le_of_ble_eq_true rfl) dX12_count_1 (fun u h => ?_)
  obtain ⟨spaX_1, staX_1, sfX_1, plX_1, hPLX_1, rfl⟩ := h
  refine gj_iload_n C 1 dX12_count_4 rfl 1 rfl ?_
  by_cases c_2 : w = 0
  · refine gj_tableIn C 56 dX12_count_5 (by rw [c_2]; decide) (by rw [c_2]; decide) (off := 51) (by rw [c_2]; decide) (by decide) ?_
    refine gj_aload_n C 0 dX12_count_56 rfl 0 rfl ?_
    refine gj_get C 87 (by decide) (up_nx (by decide) (up_nx (by decide) (up_nx (by decide) (up_nx (by decide) (up_nx (by decide) (up_nx (by decide) (up_nx (by decide) (up_nx (by decide) (up_nx (by decide) (up_nx (by decide) (va_up_self _ _ _))))))))))) inX12 rfl 6 (by decide) w_855 (v := .ref (ad 93)) rfl dX12_count_57 ?_
    refine gj_iconst C (v := 0) (by decide) dX12_count_60 ?_
    refine gj_iald C 93 (by decide) (up_nx (by decide) (up_nx (by decide) (up_nx (by decide) (up_nx (by decide) (up_nx (by decide) (up_nx (by decide) (up_nx (by decide) (up_nx (by decide) (up_nx (by decide) (up_nx (by decide) (up_nx (by decide) (hc2)))))))))))) (by unfold vp_in; decide) dX12_count_61 ?_
    refine gj_seti (y := mn 0) rfl ?_
    exact RT _ _ _ _ ⟨_, _, _, _, hPLX_1, by unfold s_X12_count; rw [if_pos c_2], rfl⟩ dX12_count_62
  · by_cases c_3 : w = 1
    · refine gj_tableIn C 63 dX12_count_5 (by rw [c_3]; decide) (by rw [c_3]; decide) (off := 58) (by rw [c_3]; decide) (by decide) ?_
      refine gj_aload_n C 0 dX12_count_63 rfl 0 rfl ?_
      refine gj_get C 87 (by decide) (up_nx (by decide) (up_nx (by decide) (up_nx (by decide) (up_nx (by decide) (up_nx (by decide) (up_nx (by decide) (up_nx (by decide) (up_nx (by decide) (up_nx (by decide) (up_nx (by decide) (va_up_self _ _ _))))))))))) inX12 rfl 6 (by decide) w_855 (v := .ref (ad 93)) rfl dX12_count_64 ?_
      refine gj_iconst C (v := 1) (by decide) dX12_count_67 ?_
      refine gj_iald C 93 (by decide) (up_nx (by decide) (up_nx (by decide) (up_nx (by decide) (up_nx (by decide) (up_nx (by decide) (up_nx (by decide) (up_nx (by decide) (up_nx (by decide) (up_nx (by decide) (up_nx (by decide) (up_nx (by decide) (hc2)))))))))))) (by unfold vp_in; decide) dX12_count_68 ?_
      refine gj_seti (y := mn 1) rfl ?_
      exact RT _ _ _ _ ⟨_, _, _, _, hPLX_1, by unfold s_X12_count; rw [if_neg c_2, if_pos c_3], rfl⟩ dX12_count_69
    · by_cases c_4 : w = 2
      · refine gj_tableIn C 70 dX12_count_5 (by rw [c_4]; decide) (by rw [c_4]; decide) (off := 65) (by rw [c_4]; decide) (by decide) ?_
        refine gj_aload_n C 0 dX12_count_70 rfl 0 rfl ?_
        refine gj_get C 87 (by decide) (up_nx (by decide) (up_nx (by decide) (up_nx (by decide) (up_nx (by decide) (up_nx (by decide) (up_nx (by decide) (up_nx (by decide) (up_nx (by decide) (up_nx (by decide) (up_nx (by decide) (va_up_self _ _ _))))))))))) inX12 rfl 16 (by decide) w_865 (v := .int ((rT di se n0 n1 go).2.2.2)) rfl dX12_count_71 ?_
        exact RT _ _ _ _ ⟨_, _, _, _, hPLX_1, by unfold s_X12_count; rw [if_neg c_2, if_neg c_3, if_pos c_4], rfl⟩ dX12_count_74
      · by_cases c_5 : w = 3
        · refine gj_tableIn C 75 dX12_count_5 (by rw [c_5]; decide) (by rw [c_5]; decide) (off := 70) (by rw [c_5]; decide) (by decide) ?_
          refine gj_aload_n C 0 dX12_count_75 rfl 0 rfl ?_
          refine gj_get C 87 (by decide) (up_nx (by decide) (up_nx (by decide) (up_nx (by decide) (up_nx (by decide) (up_nx (by decide) (up_nx (by decide) (up_nx (by decide) (up_nx (by decide) (up_nx (by decide) (up_nx (by decide) (va_up_self _ _ _))))))))))) inX12 rfl 24 (by decide) w_873 (v := .int ((rC di se n0 n1 go).2.2.2)) rfl dX12_count_76 ?_
          exact RT _ _ _ _ ⟨_, _, _, _, hPLX_1, by unfold s_X12_count; rw [if_neg c_2, if_neg c_3, if_neg c_4, if_pos c_5], rfl⟩ dX12_count_79
        · by_cases c_6 : w = 4
          · refine gj_tableIn C 80 dX12_count_5 (by rw [c_6]; decide) (by rw [c_6]; decide) (off := 75) (by rw [c_6]; decide) (by decide) ?_
            refine gj_iconst C (v := 3) (by decide) dX12_count_80 ?_
            refine gj_aload_n C 0 dX12_count_81 rfl 0 rfl ?_
            refine gj_get C 87 (by decide) (up_nx (by decide) (up_nx (by decide) (up_nx (by decide) (up_nx (by decide) (up_nx (by decide) (up_nx (by decide) (up_nx (by decide) (up_nx (by decide) (up_nx (by decide) (up_nx (by decide) (va_up_self _ _ _))))))))))) inX12 rfl 11 (by decide) w_860 (v := .int ((mVotes di se n0 n1 go).2.1)) rfl dX12_count_82 ?_
            refine gj_imul C dX12_count_85 ?_
            exact RT _ _ _ _ ⟨_, _, _, _, hPLX_1, by unfold s_X12_count; rw [if_neg c_2, if_neg c_3, if_neg c_4, if_neg c_5, if_pos c_6], rfl⟩ dX12_count_86
          · by_cases c_7 : w = 5
            · refine gj_tableIn C 87 dX12_count_5 (by rw [c_7]; decide) (by rw [c_7]; decide) (off := 82) (by rw [c_7]; decide) (by decide) ?_
              refine gj_aload_n C 0 dX12_count_87 rfl 0 rfl ?_
              refine gj_get C 87 (by decide) (up_nx (by decide) (up_nx (by decide) (up_nx (by decide) (up_nx (by decide) (up_nx (by decide) (up_nx (by decide) (up_nx (by decide) (up_nx (by decide) (up_nx (by decide) (up_nx (by decide) (va_up_self _ _ _))))))))))) inX12 rfl 7 (by decide) w_856 (v := .ref (ad 94)) rfl dX12_count_88 ?_
              refine gj_iconst C (v := 1) (by decide) dX12_count_91 ?_
              refine gj_iald C 94 (by decide) (up_nx (by decide) (up_nx (by decide) (up_nx (by decide) (up_nx (by decide) (up_nx (by decide) (up_nx (by decide) (up_nx (by decide) (up_nx (by decide) (up_nx (by decide) (up_nx (by decide) (up_nx (by decide) (hc3)))))))))))) (by unfold vp_in; decide) dX12_count_92 ?_
              refine gj_seti (y := se 1) rfl ?_
              exact RT _ _ _ _ ⟨_, _, _, _, hPLX_1, by unfold s_X12_count; rw [if_neg c_2, if_neg c_3, if_neg c_4, if_neg c_5, if_neg c_6, if_pos c_7], rfl⟩ dX12_count_93
            · by_cases c_8 : w = 6
              · refine gj_tableIn C 94 dX12_count_5 (by rw [c_8]; decide) (by rw [c_8]; decide) (off := 89) (by rw [c_8]; decide) (by decide) ?_
                refine gj_aload_n C 0 dX12_count_94 rfl 0 rfl ?_
                refine gj_callVi C mi_X12_manyThings w_1244 87 (by decide) (up_nx (by decide) (up_nx (by decide) (up_nx (by decide) (up_nx (by decide) (up_nx (by decide) (up_nx (by decide) (up_nx (by decide) (up_nx (by decide) (up_nx (by decide) (up_nx (by decide) (va_up_self _ _ _))))))))))) rfl (c_X12_manyThings la dr go ((mVotes di se n0 n1 go).2.2) ((mVotes di se n0 n1 go).2.1) ((rT di se n0 n1 go).2.2.2) (rU di se n0 n1 go) ((rC di se n0 n1 go).2.2.2) tm (up_nx (by decide) (up_nx (by decide) (up_nx (by decide) (up_nx (by decide) (up_nx (by decide) (up_nx (by decide) (up_nx (by decide) (up_nx (by decide) (up_nx (by decide) (up_nx (by decide) (va_up_self _ _ _))))))))))) (up_nx (by decide) (up_nx (by decide) (up_nx (by decide) (up_nx (by decide) (up_nx (by decide) (up_nx (by decide) (up_nx (by decide) (up_nx (by decide) (up_nx (by decide) (up_nx (by decide) (up_nx (by decide) (hc14))))))))))))) mc_X12_manyThings ⟨Nat.le_of_ble_eq_true rfl, Nat.le_of_ble_eq_true rfl⟩ (rest := []) rfl (Nat.le_of_ble_eq_true rfl) dX12_count_95 (fun r u h => ?_)
                obtain ⟨hr_, hu_⟩ := h; rw [hr_]; subst hu_
                exact RT _ _ _ _ ⟨_, _, _, _, hPLX_1, by unfold s_X12_count; rw [if_neg c_2, if_neg c_3, if_neg c_4, if_neg c_5, if_neg c_6, if_neg c_7, if_pos c_8], rfl⟩ dX12_count_98
              · by_cases c_9 : w = 7
                · refine gj_tableIn C 99 dX12_count_5 (by rw [c_9]; decide) (by rw [c_9]; decide) (off := 94) (by rw [c_9]; decide) (by decide) ?_
                  refine gj_aload_n C 0 dX12_count_99 rfl 0 rfl ?_
                  refine gj_callVi C mi_X12_manyWrong w_1248 87 (by decide) (up_nx (by decide) (up_nx (by decide) (up_nx (by decide) (up_nx (by decide) (up_nx (by decide) (up_nx (by decide) (up_nx (by decide) (up_nx (by decide) (up_nx (by decide) (up_nx (by decide) (va_up_self _ _ _))))))))))) rfl (c_X12_manyWrong la dr go ((mVotes di se n0 n1 go).2.2) ((mVotes di se n0 n1 go).2.1) ((rT di se n0 n1 go).2.2.2) (rU di se n0 n1 go) ((rC di se n0 n1 go).2.2.2) ((rT di se n0 n1 go).1) ((rC di se n0 n1 go).2.1) (up_nx (by decide) (up_nx (by decide) (up_nx (by decide) (up_nx (by decide) (up_nx (by decide) (up_nx (by decide) (up_nx (by decide) (up_nx (by decide) (up_nx (by decide) (up_nx (by decide) (va_up_self _ _ _))))))))))) (up_nx (by decide) (up_nx (by decide) (up_nx (by decide) (up_nx (by decide) (up_nx (by decide) (up_nx (by decide) (up_nx (by decide) (up_nx (by decide) (va_up_self _ _ _))))))))) (up_nx (by decide) (va_up_self _ _ _))) mc_X12_manyWrong ⟨Nat.le_of_ble_eq_true rfl, Nat.le_of_ble_eq_true rfl⟩ (rest := []) rfl (Nat.le_of_ble_eq_true rfl) dX12_count_100 (fun r u h => ?_)
                  obtain ⟨hr_, hu_⟩ := h; rw [hr_]; subst hu_
                  exact RT _ _ _ _ ⟨_, _, _, _, hPLX_1, by unfold s_X12_count; rw [if_neg c_2, if_neg c_3, if_neg c_4, if_neg c_5, if_neg c_6, if_neg c_7, if_neg c_8, if_pos c_9], rfl⟩ dX12_count_103
                · by_cases c_10 : w = 8
                  · refine gj_tableIn C 104 dX12_count_5 (by rw [c_10]; decide) (by rw [c_10]; decide) (off := 99) (by rw [c_10]; decide) (by decide) ?_
                    refine gj_aload_n C 0 dX12_count_104 rfl 0 rfl ?_
                    refine gj_get C 87 (by decide) (up_nx (by decide) (up_nx (by decide) (up_nx (by decide) (up_nx (by decide) (up_nx (by decide) (up_nx (by decide) (up_nx (by decide) (up_nx (by decide) (up_nx (by decide) (up_nx (by decide) (va_up_self _ _ _))))))))))) inX12 rfl 4 (by decide) w_853 (v := .int la) rfl dX12_count_105 ?_
                    exact RT _ _ _ _ ⟨_, _, _, _, hPLX_1, by unfold s_X12_count; rw [if_neg c_2, if_neg c_3, if_neg c_4, if_neg c_5, if_neg c_6, if_neg c_7, if_neg c_8, if_neg c_9, if_pos c_10], rfl⟩ dX12_count_108
                  · refine gj_tableOut C 109 dX12_count_5 (sw_out c_2 c_3 c_4 c_5 c_6 c_7 c_8 c_9 c_10) (by decide) ?_
                    refine gj_bipush C (v := (-2)) (by decide) dX12_count_109 ?_
                    exact RT _ _ _ _ ⟨_, _, _, _, hPLX_1, by unfold s_X12_count; rw [if_neg c_2, if_neg c_3, if_neg c_4, if_neg c_5, if_neg c_6, if_neg c_7, if_neg c_8, if_neg c_9, if_neg c_10], rfl⟩ dX12_count_111
