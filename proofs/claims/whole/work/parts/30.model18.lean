/-- the things in the trays are directions -/
def trOk (tr tm : Nat → Int32) : Prop := ∀ a m : Nat, a < 4 → (m : Int) < (tm a).toInt → (∀ c, 1 ≤ c → c ≤ 3 → -100 ≤ (tr (32 * a + 4 * m + c)).toInt ∧ (tr (32 * a + 4 * m + c)).toInt ≤ 100) ∧ ¬ ((tr (32 * a + 4 * m + 1)).toInt = 0 ∧ (tr (32 * a + 4 * m + 2)).toInt = 0 ∧ (tr (32 * a + 4 * m + 3)).toInt = 0)
theorem thing_n {t i : Int32} {tm : Nat → Int32} (hm : tmOk tm) (h : ¬ s_X12_isThing t i tm = 0) : ∃ a m : Nat, a < 4 ∧ (m : Int) < (tm a).toInt ∧ m < 8 ∧ t = nI a ∧ i = nI m := by
  have h0 := q_thing hm h
  unfold s_X12_isThing at h
  by_cases h1 : s_X12_isTray t = 0
  · rw [if_pos h1] at h; exact absurd rfl h
  · rw [if_neg h1] at h
    by_cases h2 : s_X12_in i.toInt64 (0 : Int64) (tm t.toNatClampNeg - 1).toInt64 = 0
    · rw [if_pos h2] at h; exact absurd rfl h
    · obtain ⟨a, ha, rfl⟩ := n_tray h1
      have b := hm a ha
      have c := min_yes.mp h2
      have e0 : (0 : Int64).toInt = 0 := rfl
      have e1 : (1 : Int32).toInt = 1 := rfl
      rw [nI_clamp (by omega), i32_w, i32_w, i32_sub (by omega) (by omega)] at c
      obtain ⟨m, hm8, rfl⟩ := vp_in_of (n := 8) (vin (x := i) h0.2.1 (by omega)) (by omega)
      rw [nI_toInt (by omega)] at c
      exact ⟨a, m, ha, by omega, hm8, rfl, rfl⟩
theorem tr_cl {a m c : Nat} (ha : a < 4) (hm : m < 8) (hc : c ≤ 3) : (32 * nI a + 4 * nI m + nI c).toNatClampNeg = 32 * a + 4 * m + c := by
  rw [show (32 : Int32) = nI 32 from rfl, show (4 : Int32) = nI 4 from rfl, pk_mul, pk_mul, nI_add, nI_add]
  exact nI_clamp (by omega)
theorem m3 {x1 x2 x3 y1 y2 y3 : Int32} (h1 : -100 ≤ x1.toInt ∧ x1.toInt ≤ 100) (h2 : -100 ≤ x2.toInt ∧ x2.toInt ≤ 100) (h3 : -100 ≤ x3.toInt ∧ x3.toInt ≤ 100) (k1 : -100 ≤ y1.toInt ∧ y1.toInt ≤ 100) (k2 : -100 ≤ y2.toInt ∧ y2.toInt ≤ 100) (k3 : -100 ≤ y3.toInt ∧ y3.toInt ≤ 100) : (0 + x1 * y1 + x2 * y2 + x3 * y3).toInt = x1.toInt * y1.toInt + x2.toInt * y2.toInt + x3.toInt * y3.toInt ∧ -30000 ≤ x1.toInt * y1.toInt + x2.toInt * y2.toInt + x3.toInt * y3.toInt ∧ x1.toInt * y1.toInt + x2.toInt * y2.toInt + x3.toInt * y3.toInt ≤ 30000 := by
  have a1 := int_mulb h1 k1
  have a2 := int_mulb h2 k2
  have a3 := int_mulb h3 k3
  have e1 : (x1 * y1).toInt = x1.toInt * y1.toInt := i32_mul (by omega) (by omega)
  have e2 : (x2 * y2).toInt = x2.toInt * y2.toInt := i32_mul (by omega) (by omega)
  have e3 : (x3 * y3).toInt = x3.toInt * y3.toInt := i32_mul (by omega) (by omega)
  have z : (0 : Int32) + x1 * y1 = x1 * y1 := Int32.zero_add _
  rw [z]
  have e4 : (x1 * y1 + x2 * y2).toInt = x1.toInt * y1.toInt + x2.toInt * y2.toInt := by rw [i32_add (by omega) (by omega), e1, e2]
  have e5 : (x1 * y1 + x2 * y2 + x3 * y3).toInt = x1.toInt * y1.toInt + x2.toInt * y2.toInt + x3.toInt * y3.toInt := by rw [i32_add (by omega) (by omega), e4, e3]
  exact ⟨e5, by omega, by omega⟩
theorem prod_n {a m k : Nat} {tr : Nat → Int32} (ha : a < 4) (hm : m < 8) (hk : k < 8) : s_X12_product (nI a) (nI m) (nI k) tr = 0 + tr (32 * a + 4 * m + 1) * tr (32 * a + 4 * k + 1) + tr (32 * a + 4 * m + 2) * tr (32 * a + 4 * k + 2) + tr (32 * a + 4 * m + 3) * tr (32 * a + 4 * k + 3) := by
  unfold s_X12_product
  rw [show (1 : Int32) = nI 1 from rfl, show (2 : Int32) = nI 2 from rfl, show (3 : Int32) = nI 3 from rfl, tr_cl ha hm (by omega), tr_cl ha hm (by omega), tr_cl ha hm (by omega), tr_cl ha hk (by omega), tr_cl ha hk (by omega), tr_cl ha hk (by omega)]
theorem sh_h {t i j : Int32} {tr tm : Nat → Int32} (hm : tmOk tm) (ht : trOk tr tm) (h1 : ¬ s_X12_isThing t i tm = 0) (h2 : ¬ s_X12_isThing t j tm = 0) : (-30000 ≤ (s_X12_product t i j tr).toInt) ∧ (¬ s_X12_product t i i tr < 0) ∧ qA (s_X12_product t i j tr) ≤ 30000 ∧ 1 ≤ qA (s_X12_product t i i tr) ∧ qA (s_X12_product t i i tr) ≤ 30000 := by
  obtain ⟨a, m, ha, hma, hm8, rfl, rfl⟩ := thing_n hm h1
  obtain ⟨a', k, ha', hka, hk8, e, rfl⟩ := thing_n hm h2
  have ea : a = a' := (nI_eq (by omega) (by omega)).mp e
  subst ea
  obtain ⟨p, pn⟩ := ht a m ha hma
  obtain ⟨q, -⟩ := ht a k ha hka
  rw [prod_n ha hm8 hk8, prod_n ha hm8 hm8]
  obtain ⟨e1, b1, b2⟩ := m3 (p 1 (by omega) (by omega)) (p 2 (by omega) (by omega)) (p 3 (by omega) (by omega)) (q 1 (by omega) (by omega)) (q 2 (by omega) (by omega)) (q 3 (by omega) (by omega))
  obtain ⟨e2, c1, c2⟩ := m3 (p 1 (by omega) (by omega)) (p 2 (by omega) (by omega)) (p 3 (by omega) (by omega)) (p 1 (by omega) (by omega)) (p 2 (by omega) (by omega)) (p 3 (by omega) (by omega))
  have s1 := sq0 (tr (32 * a + 4 * m + 1)).toInt
  have s2 := sq0 (tr (32 * a + 4 * m + 2)).toInt
  have s3 := sq0 (tr (32 * a + 4 * m + 3)).toInt
  have nz : ¬ (tr (32 * a + 4 * m + 1)).toInt * (tr (32 * a + 4 * m + 1)).toInt + (tr (32 * a + 4 * m + 2)).toInt * (tr (32 * a + 4 * m + 2)).toInt + (tr (32 * a + 4 * m + 3)).toInt * (tr (32 * a + 4 * m + 3)).toInt = 0 := fun z => pn (sq3 z)
  have z0 : (0 : Int32).toInt = 0 := rfl
  unfold qA
  rw [i32_lt, e1, e2, z0]
  refine ⟨b1, by omega, by omega, by omega, by omega⟩

def s_X12_shareBy (t : Int32) (i : Int32) (j : Int32) (tr : Nat → Int32) (tm : Nat → Int32) : Int32 := if (s_X12_isThing t i tm) = 0 then ((-2147483648)) else (if (s_X12_isThing t j tm) = 0 then ((-2147483648)) else (mQuo (s_X12_product t i j tr) (s_X12_product t i i tr)))
set_option maxHeartbeats 400000 in
set_option maxRecDepth 100000 in
theorem c_X12_shareBy {l : Launch} {D : va_G} {ca ss ad : Nat → Nat} {f : Nat → va_E}  (t : Int32) (i : Int32) (j : Int32) (la : Int32) (dr : Int32) (go : Int32) (lo : Int32) (ma : Int32) (pa : Int32) (tu : Int32) (su : Int32) (tr : Nat → Int32) (tm : Nat → Int32) (hc0 : f 87 = .inr (11, mF ad la dr go lo ma pa tu su)) (hc1 : f 105 = .inl (ca 0, 128, .inl tr)) (hc2 : f 106 = .inl (ca 0, 4, .inl tm)) (htm : tmOk tm) (htr : trOk tr tm) : gMi l D ca ss ad 108 yX12_shareBy cX12_shareBy 4 (some .int) 3 f [.ref (ad 87), .int t, .int i, .int j] (fun r u => r = s_X12_shareBy t i j tr tm ∧ u = f) := by
  refine gMi_ofK (by decide +kernel) (Nat.le_of_ble_eq_true rfl) (lv0 := [(0, .ref (ad 87)), (1, .int t), (2, .int i), (3, .int j)]) rfl (fun pT eT sT mT aT below meth cT AT QT C RT => ?_)
  have C : gX pT sT mT aT meth cT AT D ca ss 4 RX12 cX12_shareBy (some .int) := C
  refine gj_aload_n C 0 dX12_shareBy_0 rfl 0 rfl ?_
  refine gj_iload_n C 1 dX12_shareBy_1 rfl 1 rfl ?_
  refine gj_iload_n C 2 dX12_shareBy_2 rfl 2 rfl ?_
  refine gj_callVi C mi_X12_isThing w_1215 87 (by decide) hc0 rfl (c_X12_isThing t i la dr go lo ma pa tu su tm hc0 hc2) mc_X12_isThing ⟨Nat.le_of_ble_eq_true rfl, Nat.le_of_ble_eq_true rfl⟩ (rest := []) rfl (Nat.le_of_ble_eq_true rfl) dX12_shareBy_3 (fun r u h => ?_)
  obtain ⟨hr_, h⟩ := h; rw [hr_]
  rw [h]
  refine gj_if_eq C 38 dX12_shareBy_6 (by decide) (fun c_1 => ?_) (fun c_1 => ?_)
  · refine gj_ldc C (v := (-2147483648)) w_970 dX12_shareBy_38 ?_
    exact RT _ _ _ _ ⟨by unfold s_X12_shareBy; rw [if_pos c_1], rfl⟩ dX12_shareBy_40
  · refine gj_aload_n C 0 dX12_shareBy_9 rfl 0 rfl ?_
    refine gj_iload_n C 1 dX12_shareBy_10 rfl 1 rfl ?_
    refine gj_iload_n C 3 dX12_shareBy_11 rfl 3 rfl ?_
    refine gj_callVi C mi_X12_isThing w_1215 87 (by decide) hc0 rfl (c_X12_isThing t j la dr go lo ma pa tu su tm hc0 hc2) mc_X12_isThing ⟨Nat.le_of_ble_eq_true rfl, Nat.le_of_ble_eq_true rfl⟩ (rest := []) rfl (Nat.le_of_ble_eq_true rfl) dX12_shareBy_12 (fun r u h => ?_)
    obtain ⟨hr_, h⟩ := h; rw [hr_]
    rw [h]
    refine gj_if_eq C 38 dX12_shareBy_15 (by decide) (fun c_2 => ?_) (fun c_2 => ?_)
    · refine gj_ldc C (v := (-2147483648)) w_970 dX12_shareBy_38 ?_
      exact RT _ _ _ _ ⟨by unfold s_X12_shareBy; rw [if_neg c_1, if_pos c_2], rfl⟩ dX12_shareBy_40
    · refine gj_aload_n C 0 dX12_shareBy_18 rfl 0 rfl ?_
      refine gj_iload_n C 1 dX12_shareBy_19 rfl 1 rfl ?_
      refine gj_iload_n C 2 dX12_shareBy_20 rfl 2 rfl ?_
      refine gj_iload_n C 3 dX12_shareBy_21 rfl 3 rfl ?_
      refine gj_callVi C mi_X12_product w_1227 87 (by decide) hc0 rfl (c_X12_product t i j la dr go lo ma pa tu su tr hc0 hc1 (q_thing htm c_1).1 (q_thing htm c_1).2 (q_thing htm c_2).2) mc_X12_product ⟨Nat.le_of_ble_eq_true rfl, Nat.le_of_ble_eq_true rfl⟩ (rest := []) rfl (Nat.le_of_ble_eq_true rfl) dX12_shareBy_22 (fun r u h => ?_)
      obtain ⟨hr_, h⟩ := h; rw [hr_]
      rw [h]
      refine gj_aload_n C 0 dX12_shareBy_25 rfl 0 rfl ?_
      refine gj_iload_n C 1 dX12_shareBy_26 rfl 1 rfl ?_
      refine gj_iload_n C 2 dX12_shareBy_27 rfl 2 rfl ?_
      refine gj_iload_n C 2 dX12_shareBy_28 rfl 2 rfl ?_
      refine gj_callVi C mi_X12_product w_1227 87 (by decide) hc0 rfl (c_X12_product t i i la dr go lo ma pa tu su tr hc0 hc1 (q_thing htm c_1).1 (q_thing htm c_1).2 (q_thing htm c_1).2) mc_X12_product ⟨Nat.le_of_ble_eq_true rfl, Nat.le_of_ble_eq_true rfl⟩ (rest := [.int (s_X12_product t i j tr)]) rfl (Nat.le_of_ble_eq_true rfl) dX12_shareBy_29 (fun r u h => ?_)
      obtain ⟨hr_, h⟩ := h; rw [hr_]
      rw [h]
      refine gj_callSi C w_1232 w_1231 (c_X12_quotient (s_X12_product t i j tr) (s_X12_product t i i tr) (sh_h htm htr c_1 c_2).1 (sh_h htm htr c_1 c_2).2.1 (sh_h htm htr c_1 c_2).2.2.1 (sh_h htm htr c_1 c_2).2.2.2.1 (sh_h htm htr c_1 c_2).2.2.2.2) mc_X12_quotient ⟨Nat.le_of_ble_eq_true rfl, Nat.le_of_ble_eq_true rfl⟩ (rest := []) rfl (Nat.le_of_ble_eq_true rfl) dX12_shareBy_32 (fun r u h => ?_)
      obtain ⟨hr_, h⟩ := h; rw [hr_]
      rw [h]
      refine gj_goto C 40 dX12_shareBy_35 (by decide) ?_
      exact RT _ _ _ _ ⟨by unfold s_X12_shareBy; rw [if_neg c_1, if_neg c_2], rfl⟩ dX12_shareBy_40
def s_X12_share (t : Int32) (i : Int32) (j : Int32) (tr : Nat → Int32) (tm : Nat → Int32) : Int32 := s_X12_shareBy t i j tr tm
set_option maxHeartbeats 400000 in
set_option maxRecDepth 100000 in
theorem c_X12_share {l : Launch} {D : va_G} {ca ss ad : Nat → Nat} {f : Nat → va_E}  (t : Int32) (i : Int32) (j : Int32) (la : Int32) (dr : Int32) (go : Int32) (lo : Int32) (ma : Int32) (pa : Int32) (tu : Int32) (su : Int32) (tr : Nat → Int32) (tm : Nat → Int32) (hc0 : f 87 = .inr (11, mF ad la dr go lo ma pa tu su)) (hc1 : f 105 = .inl (ca 0, 128, .inl tr)) (hc2 : f 106 = .inl (ca 0, 4, .inl tm)) (htm : tmOk tm) (htr : trOk tr tm) : gMi l D ca ss ad 108 yX12_share cX12_share 4 (some .int) 4 f [.ref (ad 87), .int t, .int i, .int j] (fun r u => r = s_X12_share t i j tr tm ∧ u = f) := by
  refine gMi_ofK (by decide +kernel) (Nat.le_of_ble_eq_true rfl) (lv0 := [(0, .ref (ad 87)), (1, .int t), (2, .int i), (3, .int j)]) rfl (fun pT eT sT mT aT below meth cT AT QT C RT => ?_)
  have C : gX pT sT mT aT meth cT AT D ca ss 4 RX12 cX12_share (some .int) := C
  refine gj_aload_n C 0 dX12_share_0 rfl 0 rfl ?_
  refine gj_iload_n C 1 dX12_share_1 rfl 1 rfl ?_
  refine gj_iload_n C 2 dX12_share_2 rfl 2 rfl ?_
  refine gj_iload_n C 3 dX12_share_3 rfl 3 rfl ?_
  refine gj_callVi C mi_X12_shareBy w_1223 87 (by decide) hc0 rfl (c_X12_shareBy t i j la dr go lo ma pa tu su tr tm hc0 hc1 hc2 (by first | assumption | omega) (by first | assumption | omega)) mc_X12_shareBy ⟨Nat.le_of_ble_eq_true rfl, Nat.le_of_ble_eq_true rfl⟩ (rest := []) rfl (Nat.le_of_ble_eq_true rfl) dX12_share_4 (fun r u h => ?_)
  obtain ⟨hr_, h⟩ := h; rw [hr_]
  rw [h]
  exact RT _ _ _ _ ⟨rfl, rfl⟩ dX12_share_7
