set_option maxHeartbeats 400000 in
set_option maxRecDepth 100000 in
theorem c_J7_fill_53178 {l : Launch} {D : va_G} {ca ss ad : Nat → Nat} {f : Nat → va_E}  (x : Nat) (v : Int32) (nn : Nat) (g : Nat → Int32) (hc0 : f x = .inl (ca 0, nn, .inl g)) (hx : x < 108) (hnn : nn < 2 ^ 30) : gMv l D ca ss ad 108 yJ7_fill_53178 cJ7_fill_53178 4 none 0 f [.ref (ad x), .int v] (fun u => u = va_up f x (.inl (ca 0, nn, .inl (kI v)))) := by
  refine gMv_ofK (by decide +kernel) (Nat.le_of_ble_eq_true rfl) (lv0 := [(0, .ref (ad x)), (1, .int v)]) rfl (fun pT eT sT mT aT below meth cT AT QT C RT => ?_)
  have C : gX pT sT mT aT meth cT AT D ca ss 4 RJ7 cJ7_fill_53178 none := C
  refine gj_iconst C (v := 0) (by decide) dJ7_fill_53178_0 ?_
  refine gj_seti (y := nI 0) rfl ?_
  refine gj_istore_n C (lv' := [(2, .int (nI 0)), (0, .ref (ad x)), (1, .int v)]) 2 dJ7_fill_53178_1 rfl (by decide) rfl ?_
  refine gj_aload_n C 0 dJ7_fill_53178_2 rfl 1 rfl ?_
  refine gj_alen C 0 x hx hc0 rfl (v := nI nn) rfl dJ7_fill_53178_3 ?_
  refine gj_istore_n C (lv' := [(3, .int (nI nn)), (2, .int (nI 0)), (0, .ref (ad x)), (1, .int v)]) 3 dJ7_fill_53178_4 rfl (by decide) rfl ?_
  refine gj_setf (up_id hc0).symm ?_
  refine gj_setf (g := va_up f x (.inl (ca 0, nn, .inl (zF g v 0)))) (by rw [zF_0]) ?_
  have loop_1 : ∀ (m0 t0 : Nat), t0 + m0 = nn → gJ pT l eT (Rm 0) sT mT aT below meth cT AT QT D ad 108 4 (va_up f x (.inl (ca 0, nn, .inl (zF g v t0)))) [(3, .int (nI nn)), (2, .int (nI t0)), (0, .ref (ad x)), (1, .int v)] 5 [] := by
    intro m0
    induction m0 with
    | zero =>
      intro t0 hk_t0  
      refine gj_iload_n C 2 dJ7_fill_53178_5 rfl 1 rfl ?_
      refine gj_iload_n C 3 dJ7_fill_53178_6 rfl 0 rfl ?_
      refine gj_icmp_ge C 20 dJ7_fill_53178_7 (by decide) (fun c_3 => ?_) (fun c_3 => absurd (nI_le (by omega) (by omega)) c_3)
      refine gj_setf (g := va_up f x (.inl (ca 0, nn, .inl (zF g v nn)))) (by obtain rfl : t0 = nn := (by omega); rfl) ?_
      refine gj_extI (g' := kI v) x hx (va_up_self _ _ _) (zF_k g v nn) ?_
      refine gj_setf (bx_uu _ _ _ _) ?_
      exact RT _ _ _ rfl dJ7_fill_53178_20
    | succ m0 ih_2 =>
      intro t0 hk_t0  
      refine gj_iload_n C 2 dJ7_fill_53178_5 rfl 1 rfl ?_
      refine gj_iload_n C 3 dJ7_fill_53178_6 rfl 0 rfl ?_
      refine gj_icmp_ge C 20 dJ7_fill_53178_7 (by decide) (fun c_4 => absurd c_4 (nI_ge (by omega) (by omega))) (fun c_4 => ?_)
      refine gj_aload_n C 0 dJ7_fill_53178_10 rfl 2 rfl ?_
      refine gj_iload_n C 2 dJ7_fill_53178_11 rfl 1 rfl ?_
      refine gj_iload_n C 1 dJ7_fill_53178_12 rfl 3 rfl ?_
      refine gj_iast C x hx (va_up_self _ _ _) (vp_in_nI (by omega) (by omega)) dJ7_fill_53178_13 ?_
      refine gj_setf (bx_uu _ _ _ _) ?_
      refine gj_setf (g := va_up f x (.inl (ca 0, nn, .inl (zF g v (t0 + 1))))) (by rw [zF_i g v (show t0 < 2 ^ 31 by omega)]) ?_
      refine gj_iinc C (v := nI (t0 + 1)) (lv' := [(2, .int (nI (t0 + 1))), (3, .int (nI nn)), (0, .ref (ad x)), (1, .int v)]) dJ7_fill_53178_14 1 rfl (nI_1 _) (by decide) rfl ?_
      refine gj_goto C 5 dJ7_fill_53178_17 (by decide) ?_
      refine gj_lv [1, 0, 2, 3] rfl ?_
      exact ih_2 (t0 + 1) (by omega)
  refine gj_lv [0, 1, 2, 3] rfl ?_
  exact loop_1 (nn - 0) 0 (by omega)
def s_X5_isLost (fm : Int32) : Int32 := if fm = (-1) then (1) else (0)
theorem b_X5_isLost (fm : Int32) : s_X5_isLost fm = 0 ∨ s_X5_isLost fm = 1 := by
  unfold s_X5_isLost
  repeat' split
  all_goals first | exact Or.inl rfl | exact Or.inr rfl
set_option maxHeartbeats 400000 in
set_option maxRecDepth 100000 in
theorem c_X5_isLost {l : Launch} {D : va_G} {ca ss ad : Nat → Nat} {f : Nat → va_E} (i : Nat) (j : Nat)  (fm : Int32) (ln : Int32) (g : Nat → Int32) (hc0 : f i = .inr (5, [.ref (ad j), .int fm, .int ln])) (hc1 : f j = .inl (ca 0, 60, .inl g)) (hi : i < 108) (hj : j < 108) (hij : i ≠ j) : gMi l D ca ss ad 108 yX5_isLost cX5_isLost 1 (some .boolean) 0 f [.ref (ad i)] (fun r u => r = s_X5_isLost fm ∧ u = f) := by
  refine gMz_ofK (by decide +kernel) (Nat.le_of_ble_eq_true rfl) (lv0 := [(0, .ref (ad i))]) rfl (fun pT eT sT mT aT below meth cT AT QT C RT => ?_)
  have C : gX pT sT mT aT meth cT AT D ca ss 1 RX5 cX5_isLost (some .boolean) := C
  refine gj_aload_n C 0 dX5_isLost_0 rfl 0 rfl ?_
  refine gj_get C i hi hc0 inX5 rfl 1 (by decide) w_347 (v := .int fm) rfl dX5_isLost_1 ?_
  refine gj_iconst C (v := (-1)) (by decide) dX5_isLost_4 ?_
  refine gj_icmp_ne C 12 dX5_isLost_5 (by decide) (fun c_1 => ?_) (fun c_1 => ?_)
  · refine gj_iconst C (v := 0) (by decide) dX5_isLost_12 ?_
    exact RT _ _ _ _ (by decide) ⟨by unfold s_X5_isLost; rw [if_neg c_1], rfl⟩ dX5_isLost_13
  · refine gj_iconst C (v := 1) (by decide) dX5_isLost_8 ?_
    refine gj_goto C 13 dX5_isLost_9 (by decide) ?_
    exact RT _ _ _ _ (by decide) ⟨by unfold s_X5_isLost; rw [if_pos c_1], rfl⟩ dX5_isLost_13
def s_X5_length (ln : Int32) : Int32 := ln
set_option maxHeartbeats 400000 in
set_option maxRecDepth 100000 in
theorem c_X5_length {l : Launch} {D : va_G} {ca ss ad : Nat → Nat} {f : Nat → va_E} (i : Nat) (j : Nat)  (fm : Int32) (ln : Int32) (g : Nat → Int32) (hc0 : f i = .inr (5, [.ref (ad j), .int fm, .int ln])) (hc1 : f j = .inl (ca 0, 60, .inl g)) (hi : i < 108) (hj : j < 108) (hij : i ≠ j) : gMi l D ca ss ad 108 yX5_length cX5_length 1 (some .int) 0 f [.ref (ad i)] (fun r u => r = s_X5_length ln ∧ u = f) := by
  refine gMi_ofK (by decide +kernel) (Nat.le_of_ble_eq_true rfl) (lv0 := [(0, .ref (ad i))]) rfl (fun pT eT sT mT aT below meth cT AT QT C RT => ?_)
  have C : gX pT sT mT aT meth cT AT D ca ss 1 RX5 cX5_length (some .int) := C
  refine gj_aload_n C 0 dX5_length_0 rfl 0 rfl ?_
  refine gj_get C i hi hc0 inX5 rfl 2 (by decide) w_349 (v := .int ln) rfl dX5_length_1 ?_
  exact RT _ _ _ _ ⟨rfl, rfl⟩ dX5_length_4
def s_X5_faultOf (q : Int32) (x : Int32) (fm : Int32) (ln : Int32) : Int32 := if (s_X5_isLost fm) = 0 then (if fm = q then (if x < 0 then (2) else (if x < ln then (0) else (2))) else (3)) else (1)
set_option maxHeartbeats 400000 in
set_option maxRecDepth 100000 in
theorem c_X5_faultOf {l : Launch} {D : va_G} {ca ss ad : Nat → Nat} {f : Nat → va_E} (i : Nat) (j : Nat) (q : Int32) (x : Int32) (fm : Int32) (ln : Int32) (g : Nat → Int32) (hc0 : f i = .inr (5, [.ref (ad j), .int fm, .int ln])) (hc1 : f j = .inl (ca 0, 60, .inl g)) (hi : i < 108) (hj : j < 108) (hij : i ≠ j) : gMi l D ca ss ad 108 yX5_faultOf cX5_faultOf 3 (some .int) 1 f [.ref (ad i), .int q, .int x] (fun r u => r = s_X5_faultOf q x fm ln ∧ u = f) := by
  refine gMi_ofK (by decide +kernel) (Nat.le_of_ble_eq_true rfl) (lv0 := [(0, .ref (ad i)), (1, .int q), (2, .int x)]) rfl (fun pT eT sT mT aT below meth cT AT QT C RT => ?_)
  have C : gX pT sT mT aT meth cT AT D ca ss 3 RX5 cX5_faultOf (some .int) := C
  refine gj_aload_n C 0 dX5_faultOf_0 rfl 0 rfl ?_
  refine gj_callVi C mi_X5_isLost w_787 i hi hc0 rfl (c_X5_isLost i j fm ln g hc0 hc1 (by first | assumption | omega) (by first | assumption | omega) (by first | assumption | omega)) mc_X5_isLost ⟨Nat.le_of_ble_eq_true rfl, Nat.le_of_ble_eq_true rfl⟩ (rest := []) rfl (Nat.le_of_ble_eq_true rfl) dX5_faultOf_1 (fun r u h => ?_)
  obtain ⟨hr_, h⟩ := h; rw [hr_]
  rw [h]
  refine gj_if_eq C 9 dX5_faultOf_4 (by decide) (fun c_1 => ?_) (fun c_1 => ?_)
  · refine gj_aload_n C 0 dX5_faultOf_9 rfl 0 rfl ?_
    refine gj_get C i hi hc0 inX5 rfl 1 (by decide) w_347 (v := .int fm) rfl dX5_faultOf_10 ?_
    refine gj_iload_n C 1 dX5_faultOf_13 rfl 1 rfl ?_
    refine gj_icmp_eq C 19 dX5_faultOf_14 (by decide) (fun c_2 => ?_) (fun c_2 => ?_)
    · refine gj_iload_n C 2 dX5_faultOf_19 rfl 2 rfl ?_
      refine gj_if_lt C 31 dX5_faultOf_20 (by decide) (fun c_3 => ?_) (fun c_3 => ?_)
      · refine gj_iconst C (v := 2) (by decide) dX5_faultOf_31 ?_
        refine gj_goto C 36 dX5_faultOf_32 (by decide) ?_
        exact RT _ _ _ _ ⟨by unfold s_X5_faultOf; rw [if_pos c_1, if_pos c_2, if_pos c_3], rfl⟩ dX5_faultOf_36
      · refine gj_iload_n C 2 dX5_faultOf_23 rfl 2 rfl ?_
        refine gj_aload_n C 0 dX5_faultOf_24 rfl 0 rfl ?_
        refine gj_get C i hi hc0 inX5 rfl 2 (by decide) w_349 (v := .int ln) rfl dX5_faultOf_25 ?_
        refine gj_icmp_lt C 35 dX5_faultOf_28 (by decide) (fun c_4 => ?_) (fun c_4 => ?_)
        · refine gj_iconst C (v := 0) (by decide) dX5_faultOf_35 ?_
          exact RT _ _ _ _ ⟨by unfold s_X5_faultOf; rw [if_pos c_1, if_pos c_2, if_neg c_3, if_pos c_4], rfl⟩ dX5_faultOf_36
        · refine gj_iconst C (v := 2) (by decide) dX5_faultOf_31 ?_
          refine gj_goto C 36 dX5_faultOf_32 (by decide) ?_
          exact RT _ _ _ _ ⟨by unfold s_X5_faultOf; rw [if_pos c_1, if_pos c_2, if_neg c_3, if_neg c_4], rfl⟩ dX5_faultOf_36
    · refine gj_iconst C (v := 3) (by decide) dX5_faultOf_17 ?_
      exact RT _ _ _ _ ⟨by unfold s_X5_faultOf; rw [if_pos c_1, if_neg c_2], rfl⟩ dX5_faultOf_18
  · refine gj_iconst C (v := 1) (by decide) dX5_faultOf_7 ?_
    exact RT _ _ _ _ ⟨by unfold s_X5_faultOf; rw [if_neg c_1], rfl⟩ dX5_faultOf_8
def s_X5_hasRun (x : Int32) (n : Int32) (ln : Int32) : Int32 := if x < 0 then (0) else (if n < 0 then (0) else (if ln < x then (0) else (if (ln - x) < n then (0) else (1))))
theorem b_X5_hasRun (x : Int32) (n : Int32) (ln : Int32) : s_X5_hasRun x n ln = 0 ∨ s_X5_hasRun x n ln = 1 := by
  unfold s_X5_hasRun
  repeat' split
  all_goals first | exact Or.inl rfl | exact Or.inr rfl
set_option maxHeartbeats 400000 in
set_option maxRecDepth 100000 in
theorem c_X5_hasRun {l : Launch} {D : va_G} {ca ss ad : Nat → Nat} {f : Nat → va_E} (i : Nat) (j : Nat) (x : Int32) (n : Int32) (fm : Int32) (ln : Int32) (g : Nat → Int32) (hc0 : f i = .inr (5, [.ref (ad j), .int fm, .int ln])) (hc1 : f j = .inl (ca 0, 60, .inl g)) (hi : i < 108) (hj : j < 108) (hij : i ≠ j) : gMi l D ca ss ad 108 yX5_hasRun cX5_hasRun 3 (some .boolean) 0 f [.ref (ad i), .int x, .int n] (fun r u => r = s_X5_hasRun x n ln ∧ u = f) := by
  refine gMz_ofK (by decide +kernel) (Nat.le_of_ble_eq_true rfl) (lv0 := [(0, .ref (ad i)), (1, .int x), (2, .int n)]) rfl (fun pT eT sT mT aT below meth cT AT QT C RT => ?_)
  have C : gX pT sT mT aT meth cT AT D ca ss 3 RX5 cX5_hasRun (some .boolean) := C
  refine gj_iload_n C 1 dX5_hasRun_0 rfl 1 rfl ?_
  refine gj_if_lt C 30 dX5_hasRun_1 (by decide) (fun c_1 => ?_) (fun c_1 => ?_)
  · refine gj_iconst C (v := 0) (by decide) dX5_hasRun_30 ?_
    exact RT _ _ _ _ (by decide) ⟨by unfold s_X5_hasRun; rw [if_pos c_1], rfl⟩ dX5_hasRun_31
  · refine gj_iload_n C 2 dX5_hasRun_4 rfl 2 rfl ?_
    refine gj_if_lt C 30 dX5_hasRun_5 (by decide) (fun c_2 => ?_) (fun c_2 => ?_)
    · refine gj_iconst C (v := 0) (by decide) dX5_hasRun_30 ?_
      exact RT _ _ _ _ (by decide) ⟨by unfold s_X5_hasRun; rw [if_neg c_1, if_pos c_2], rfl⟩ dX5_hasRun_31
    · refine gj_iload_n C 1 dX5_hasRun_8 rfl 1 rfl ?_
      refine gj_aload_n C 0 dX5_hasRun_9 rfl 0 rfl ?_
      refine gj_get C i hi hc0 inX5 rfl 2 (by decide) w_349 (v := .int ln) rfl dX5_hasRun_10 ?_
      refine gj_icmp_gt C 30 dX5_hasRun_13 (by decide) (fun c_3 => ?_) (fun c_3 => ?_)
      · refine gj_iconst C (v := 0) (by decide) dX5_hasRun_30 ?_
        exact RT _ _ _ _ (by decide) ⟨by unfold s_X5_hasRun; rw [if_neg c_1, if_neg c_2, if_pos c_3], rfl⟩ dX5_hasRun_31
      · refine gj_iload_n C 2 dX5_hasRun_16 rfl 2 rfl ?_
        refine gj_aload_n C 0 dX5_hasRun_17 rfl 0 rfl ?_
        refine gj_get C i hi hc0 inX5 rfl 2 (by decide) w_349 (v := .int ln) rfl dX5_hasRun_18 ?_
        refine gj_iload_n C 1 dX5_hasRun_21 rfl 1 rfl ?_
        refine gj_isub C dX5_hasRun_22 ?_
        refine gj_icmp_gt C 30 dX5_hasRun_23 (by decide) (fun c_4 => ?_) (fun c_4 => ?_)
        · refine gj_iconst C (v := 0) (by decide) dX5_hasRun_30 ?_
          exact RT _ _ _ _ (by decide) ⟨by unfold s_X5_hasRun; rw [if_neg c_1, if_neg c_2, if_neg c_3, if_pos c_4], rfl⟩ dX5_hasRun_31
        · refine gj_iconst C (v := 1) (by decide) dX5_hasRun_26 ?_
          refine gj_goto C 31 dX5_hasRun_27 (by decide) ?_
          exact RT _ _ _ _ (by decide) ⟨by unfold s_X5_hasRun; rw [if_neg c_1, if_neg c_2, if_neg c_3, if_neg c_4], rfl⟩ dX5_hasRun_31
theorem s60_in {x ln : Int32} (hl : ln.toInt ≤ 60) (h0 : ¬ x < 0) (h1 : ¬ ln ≤ x) : vp_in x 60 := by
  rw [i32_lt] at h0
  rw [i32_le] at h1
  have e0 : (0 : Int32).toInt = 0 := rfl
  exact vin (by omega) (by omega)
def s_X5_item (x : Int32) (ln : Int32) (g : Nat → Int32) : Int32 := if x < 0 then (0) else (if ln ≤ x then (0) else (g x.toNatClampNeg))
set_option maxHeartbeats 400000 in
set_option maxRecDepth 100000 in
theorem c_X5_item {l : Launch} {D : va_G} {ca ss ad : Nat → Nat} {f : Nat → va_E} (i : Nat) (j : Nat) (x : Int32) (fm : Int32) (ln : Int32) (g : Nat → Int32) (hc0 : f i = .inr (5, [.ref (ad j), .int fm, .int ln])) (hc1 : f j = .inl (ca 0, 60, .inl g)) (hi : i < 108) (hj : j < 108) (hij : i ≠ j) (hl : ln.toInt ≤ 60) : gMi l D ca ss ad 108 yX5_item cX5_item 2 (some .int) 0 f [.ref (ad i), .int x] (fun r u => r = s_X5_item x ln g ∧ u = f) := by
  refine gMi_ofK (by decide +kernel) (Nat.le_of_ble_eq_true rfl) (lv0 := [(0, .ref (ad i)), (1, .int x)]) rfl (fun pT eT sT mT aT below meth cT AT QT C RT => ?_)
  have C : gX pT sT mT aT meth cT AT D ca ss 2 RX5 cX5_item (some .int) := C
  refine gj_iload_n C 1 dX5_item_0 rfl 1 rfl ?_
  refine gj_if_lt C 21 dX5_item_1 (by decide) (fun c_1 => ?_) (fun c_1 => ?_)
  · refine gj_iconst C (v := 0) (by decide) dX5_item_21 ?_
    exact RT _ _ _ _ ⟨by unfold s_X5_item; rw [if_pos c_1], rfl⟩ dX5_item_22
  · refine gj_iload_n C 1 dX5_item_4 rfl 1 rfl ?_
    refine gj_aload_n C 0 dX5_item_5 rfl 0 rfl ?_
    refine gj_get C i hi hc0 inX5 rfl 2 (by decide) w_349 (v := .int ln) rfl dX5_item_6 ?_
    refine gj_icmp_ge C 21 dX5_item_9 (by decide) (fun c_2 => ?_) (fun c_2 => ?_)
    · refine gj_iconst C (v := 0) (by decide) dX5_item_21 ?_
      exact RT _ _ _ _ ⟨by unfold s_X5_item; rw [if_neg c_1, if_pos c_2], rfl⟩ dX5_item_22
    · refine gj_aload_n C 0 dX5_item_12 rfl 0 rfl ?_
      refine gj_get C i hi hc0 inX5 rfl 0 (by decide) w_346 (v := .ref (ad j)) rfl dX5_item_13 ?_
      refine gj_iload_n C 1 dX5_item_16 rfl 1 rfl ?_
      refine gj_iald C j hj hc1 (s60_in hl c_1 c_2) dX5_item_17 ?_
      refine gj_goto C 22 dX5_item_18 (by decide) ?_
      exact RT _ _ _ _ ⟨by unfold s_X5_item; rw [if_neg c_1, if_neg c_2], rfl⟩ dX5_item_22
set_option maxHeartbeats 400000 in
set_option maxRecDepth 100000 in
theorem c_X5_renew {l : Launch} {D : va_G} {ca ss ad : Nat → Nat} {f : Nat → va_E} (i : Nat) (j : Nat) (q : Int32) (n : Int32) (fm : Int32) (ln : Int32) (g : Nat → Int32) (hc0 : f i = .inr (5, [.ref (ad j), .int fm, .int ln])) (hc1 : f j = .inl (ca 0, 60, .inl g)) (hi : i < 108) (hj : j < 108) (hij : i ≠ j) : gMv l D ca ss ad 108 yX5_renew cX5_renew 3 none 1 f [.ref (ad i), .int q, .int n] (fun u => u = va_up (va_up f j (.inl (ca 0, 60, .inl (kI (0 : Int32))))) i (.inr (5, [.ref (ad j), .int q, .int (if 0 < (if n < 60 then n else 60) then (if n < 60 then n else 60) else 0)]))) := by
  refine gMv_ofK (by decide +kernel) (Nat.le_of_ble_eq_true rfl) (lv0 := [(0, .ref (ad i)), (1, .int q), (2, .int n)]) rfl (fun pT eT sT mT aT below meth cT AT QT C RT => ?_)
  have C : gX pT sT mT aT meth cT AT D ca ss 3 RX5 cX5_renew none := C
  refine gj_aload_n C 0 dX5_renew_0 rfl 0 rfl ?_
  refine gj_get C i hi hc0 inX5 rfl 0 (by decide) w_346 (v := .ref (ad j)) rfl dX5_renew_1 ?_
  refine gj_iconst C (v := 0) (by decide) dX5_renew_4 ?_
  refine gj_callSv C w_516 w_772 (c_J7_fill_53178 j (0 : Int32) 60 g hc1 hj (by omega)) mc_J7_fill_53178 ⟨Nat.le_of_ble_eq_true rfl, Nat.le_of_ble_eq_true rfl⟩ (rest := []) rfl (Nat.le_of_ble_eq_true rfl) dX5_renew_5 (fun u h => ?_)
  subst h
  refine gj_aload_n C 0 dX5_renew_8 rfl 0 rfl ?_
  refine gj_iload_n C 1 dX5_renew_9 rfl 1 rfl ?_
  refine gj_putS C i hi (up_nx hij (hc0)) inX5 rfl 1 (by decide) tyX5 tyX5_ok nmX5 w_347 rfl (v := .int q) (fs' := [.ref (ad j), .int q, .int ln]) rfl rfl (Nat.le_of_ble_eq_true rfl) rfl dX5_renew_10 ?_
  refine gj_aload_n C 0 dX5_renew_13 rfl 0 rfl ?_
  refine gj_iconst C (v := 0) (by decide) dX5_renew_14 ?_
  refine gj_bipush C (v := 60) (by decide) dX5_renew_15 ?_
  refine gj_iload_n C 2 dX5_renew_17 rfl 2 rfl ?_
  refine gj_mmin C w_773 w_472 w_57 w_473 ⟨Nat.le_of_ble_eq_true rfl, Nat.le_of_ble_eq_true rfl⟩ (Nat.le_of_ble_eq_true rfl) dX5_renew_18 ?_
  refine gj_mmax C w_774 w_92 w_57 w_93 ⟨Nat.le_of_ble_eq_true rfl, Nat.le_of_ble_eq_true rfl⟩ (Nat.le_of_ble_eq_true rfl) dX5_renew_21 ?_
  refine gj_putS C i hi (va_up_self _ _ _) inX5 rfl 2 (by decide) tyX5 tyX5_ok nmX5 w_349 rfl (v := .int (if 0 < (if n < 60 then n else 60) then (if n < 60 then n else 60) else 0)) (fs' := [.ref (ad j), .int q, .int (if 0 < (if n < 60 then n else 60) then (if n < 60 then n else 60) else 0)]) rfl rfl (Nat.le_of_ble_eq_true rfl) rfl dX5_renew_24 ?_
  refine gj_setf (bx_uu _ _ _ _) ?_
  exact RT _ _ _ rfl dX5_renew_27
def t_X5_store_j (x : Int32) (v : Int32) (fm : Int32) (g : Nat → Int32) : Nat → Int32 := if fm = 0 then (upd g x.toNatClampNeg v.toInt8.toInt32) else (if fm = 1 then (upd g x.toNatClampNeg v.toInt16.toInt32) else (upd g x.toNatClampNeg v))
set_option maxHeartbeats 400000 in
set_option maxRecDepth 100000 in
theorem c_X5_store {l : Launch} {D : va_G} {ca ss ad : Nat → Nat} {f : Nat → va_E} (i : Nat) (j : Nat) (x : Int32) (v : Int32) (fm : Int32) (ln : Int32) (g : Nat → Int32) (hc0 : f i = .inr (5, [.ref (ad j), .int fm, .int ln])) (hc1 : f j = .inl (ca 0, 60, .inl g)) (hi : i < 108) (hj : j < 108) (hij : i ≠ j) (hl : ln.toInt ≤ 60) (h0 : ¬ x < 0) (h1 : ¬ ln ≤ x) : gMv l D ca ss ad 108 yX5_store cX5_store 3 none 0 f [.ref (ad i), .int x, .int v] (fun u => u = va_up f j (.inl (ca 0, 60, .inl (t_X5_store_j x v fm g)))) := by
  refine gMv_ofK (by decide +kernel) (Nat.le_of_ble_eq_true rfl) (lv0 := [(0, .ref (ad i)), (1, .int x), (2, .int v)]) rfl (fun pT eT sT mT aT below meth cT AT QT C RT => ?_)
  have C : gX pT sT mT aT meth cT AT D ca ss 3 RX5 cX5_store none := C
  refine gj_setf (up_id hc1).symm ?_
  refine gj_iload_n C 1 dX5_store_0 rfl 1 rfl ?_
  refine gj_if_lt C 44 dX5_store_1 (by decide) (fun c_1 => absurd c_1 h0) (fun c_1 => ?_)
  refine gj_iload_n C 1 dX5_store_4 rfl 1 rfl ?_
  refine gj_aload_n C 0 dX5_store_5 rfl 0 rfl ?_
  refine gj_get C i hi (up_nx hij (hc0)) inX5 rfl 2 (by decide) w_349 (v := .int ln) rfl dX5_store_6 ?_
  refine gj_icmp_ge C 44 dX5_store_9 (by decide) (fun c_2 => absurd c_2 h1) (fun c_2 => ?_)
  refine gj_aload_n C 0 dX5_store_12 rfl 0 rfl ?_
  refine gj_get C i hi (up_nx hij (hc0)) inX5 rfl 0 (by decide) w_346 (v := .ref (ad j)) rfl dX5_store_13 ?_
  refine gj_iload_n C 1 dX5_store_16 rfl 1 rfl ?_
  refine gj_aload_n C 0 dX5_store_17 rfl 0 rfl ?_
  refine gj_get C i hi (up_nx hij (hc0)) inX5 rfl 1 (by decide) w_347 (v := .int fm) rfl dX5_store_18 ?_
  refine gj_if_ne C 29 dX5_store_21 (by decide) (fun c_3 => ?_) (fun c_3 => ?_)
  · refine gj_aload_n C 0 dX5_store_29 rfl 0 rfl ?_
    refine gj_get C i hi (up_nx hij (hc0)) inX5 rfl 1 (by decide) w_347 (v := .int fm) rfl dX5_store_30 ?_
    refine gj_iconst C (v := 1) (by decide) dX5_store_33 ?_
    refine gj_icmp_ne C 42 dX5_store_34 (by decide) (fun c_4 => ?_) (fun c_4 => ?_)
    · refine gj_iload_n C 2 dX5_store_42 rfl 2 rfl ?_
      refine gj_iast C j hj (va_up_self _ _ _) (s60_in hl h0 h1) dX5_store_43 ?_
      refine gj_setf (bx_uu _ _ _ _) ?_
      exact RT _ _ _ (by simp only [t_X5_store_j, if_neg c_3, if_neg c_4]) dX5_store_44
    · refine gj_iload_n C 2 dX5_store_37 rfl 2 rfl ?_
      refine gj_i2s C dX5_store_38 ?_
      refine gj_goto C 43 dX5_store_39 (by decide) ?_
      refine gj_iast C j hj (va_up_self _ _ _) (s60_in hl h0 h1) dX5_store_43 ?_
      refine gj_setf (bx_uu _ _ _ _) ?_
      exact RT _ _ _ (by simp only [t_X5_store_j, if_neg c_3, if_pos c_4]) dX5_store_44
  · refine gj_iload_n C 2 dX5_store_24 rfl 2 rfl ?_
    refine gj_i2b C dX5_store_25 ?_
    refine gj_goto C 43 dX5_store_26 (by decide) ?_
    refine gj_iast C j hj (va_up_self _ _ _) (s60_in hl h0 h1) dX5_store_43 ?_
    refine gj_setf (bx_uu _ _ _ _) ?_
    exact RT _ _ _ (by simp only [t_X5_store_j, if_pos c_3]) dX5_store_44
def s_X10_holds (k : Int32) (hS : Int32) (hP : Int32) : Int32 := if k = 0 then (hS) else (hP)
set_option maxHeartbeats 400000 in
set_option maxRecDepth 100000 in
theorem c_X10_holds {l : Launch} {D : va_G} {ca ss ad : Nat → Nat} {f : Nat → va_E} (i : Nat) (j : Nat) (k : Int32) (hS : Int32) (hP : Int32) (sz : Int32) (g : Nat → Int32) (hc0 : f i = .inr (9, [.ref (ad j), .int hS, .int hP, .int sz])) (hc1 : f j = .inl (ca 0, 32, .inl g)) (hi : i < 108) (hj : j < 108) (hij : i ≠ j) (hs : hS = 0 ∨ hS = 1) (hp : hP = 0 ∨ hP = 1) : gMi l D ca ss ad 108 yX10_holds cX10_holds 2 (some .boolean) 0 f [.ref (ad i), .int k] (fun r u => r = s_X10_holds k hS hP ∧ u = f) := by
  refine gMz_ofK (by decide +kernel) (Nat.le_of_ble_eq_true rfl) (lv0 := [(0, .ref (ad i)), (1, .int k)]) rfl (fun pT eT sT mT aT below meth cT AT QT C RT => ?_)
  have C : gX pT sT mT aT meth cT AT D ca ss 2 RX10 cX10_holds (some .boolean) := C
  refine gj_iload_n C 1 dX10_holds_0 rfl 1 rfl ?_
  refine gj_if_ne C 11 dX10_holds_1 (by decide) (fun c_1 => ?_) (fun c_1 => ?_)
  · refine gj_aload_n C 0 dX10_holds_11 rfl 0 rfl ?_
    refine gj_get C i hi hc0 inX10 rfl 2 (by decide) w_329 (v := .int hP) rfl dX10_holds_12 ?_
    exact RT _ _ _ _ hp ⟨by unfold s_X10_holds; rw [if_neg c_1], rfl⟩ dX10_holds_15
  · refine gj_aload_n C 0 dX10_holds_4 rfl 0 rfl ?_
    refine gj_get C i hi hc0 inX10 rfl 1 (by decide) w_328 (v := .int hS) rfl dX10_holds_5 ?_
    refine gj_goto C 15 dX10_holds_8 (by decide) ?_
    exact RT _ _ _ _ hs ⟨by unfold s_X10_holds; rw [if_pos c_1], rfl⟩ dX10_holds_15
