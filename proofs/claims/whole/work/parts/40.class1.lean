def s_X1_size (sz : Int32) : Int32 := sz
set_option maxHeartbeats 400000 in
set_option maxRecDepth 100000 in
theorem c_X1_size {l : Launch} {D : va_G} {ca ss ad : Nat → Nat} {f : Nat → va_E} (i : Nat) (j : Nat)  (rm : Int32) (sz : Int32) (nn : Nat) (g : Nat → Int32) (hc0 : f i = .inr (1, [.ref (ad j), .int rm, .int sz])) (hc1 : f j = .inl (ca 0, nn, .inl g)) (hi : i < 108) (hj : j < 108) (hij : i ≠ j) : gMi l D ca ss ad 108 yX1_size cX1_size 1 (some .int) 0 f [.ref (ad i)] (fun r u => r = s_X1_size sz ∧ u = f) := by
  refine gMi_ofK (by decide +kernel) (Nat.le_of_ble_eq_true rfl) (lv0 := [(0, .ref (ad i))]) rfl (fun pT eT sT mT aT below meth cT AT QT C RT => ?_)
  have C : gX pT sT mT aT meth cT AT D ca ss 1 RX1 cX1_size (some .int) := C
  refine gj_aload_n C 0 dX1_size_0 rfl 0 rfl ?_
  refine gj_get C i hi hc0 inX1 rfl 2 (by decide) w_96 (v := .int sz) rfl dX1_size_1 ?_
  exact RT _ _ _ _ ⟨rfl, rfl⟩ dX1_size_4
def s_X1_isFull (rm : Int32) (sz : Int32) : Int32 := if sz < rm then (0) else (1)
theorem b_X1_isFull (rm : Int32) (sz : Int32) : s_X1_isFull rm sz = 0 ∨ s_X1_isFull rm sz = 1 := by
  unfold s_X1_isFull
  repeat' split
  all_goals first | exact Or.inl rfl | exact Or.inr rfl
set_option maxHeartbeats 400000 in
set_option maxRecDepth 100000 in
theorem c_X1_isFull {l : Launch} {D : va_G} {ca ss ad : Nat → Nat} {f : Nat → va_E} (i : Nat) (j : Nat)  (rm : Int32) (sz : Int32) (nn : Nat) (g : Nat → Int32) (hc0 : f i = .inr (1, [.ref (ad j), .int rm, .int sz])) (hc1 : f j = .inl (ca 0, nn, .inl g)) (hi : i < 108) (hj : j < 108) (hij : i ≠ j) : gMi l D ca ss ad 108 yX1_isFull cX1_isFull 1 (some .boolean) 0 f [.ref (ad i)] (fun r u => r = s_X1_isFull rm sz ∧ u = f) := by
  refine gMz_ofK (by decide +kernel) (Nat.le_of_ble_eq_true rfl) (lv0 := [(0, .ref (ad i))]) rfl (fun pT eT sT mT aT below meth cT AT QT C RT => ?_)
  have C : gX pT sT mT aT meth cT AT D ca ss 1 RX1 cX1_isFull (some .boolean) := C
  refine gj_aload_n C 0 dX1_isFull_0 rfl 0 rfl ?_
  refine gj_get C i hi hc0 inX1 rfl 2 (by decide) w_96 (v := .int sz) rfl dX1_isFull_1 ?_
  refine gj_aload_n C 0 dX1_isFull_4 rfl 0 rfl ?_
  refine gj_get C i hi hc0 inX1 rfl 1 (by decide) w_95 (v := .int rm) rfl dX1_isFull_5 ?_
  refine gj_icmp_lt C 15 dX1_isFull_8 (by decide) (fun c_1 => ?_) (fun c_1 => ?_)
  · refine gj_iconst C (v := 0) (by decide) dX1_isFull_15 ?_
    exact RT _ _ _ _ (by decide) ⟨by unfold s_X1_isFull; rw [if_pos c_1], rfl⟩ dX1_isFull_16
  · refine gj_iconst C (v := 1) (by decide) dX1_isFull_11 ?_
    refine gj_goto C 16 dX1_isFull_12 (by decide) ?_
    exact RT _ _ _ _ (by decide) ⟨by unfold s_X1_isFull; rw [if_neg c_1], rfl⟩ dX1_isFull_16
def s_X1_has (x : Int32) (sz : Int32) : Int32 := if x < 0 then (0) else (if sz ≤ x then (0) else (1))
theorem b_X1_has (x : Int32) (sz : Int32) : s_X1_has x sz = 0 ∨ s_X1_has x sz = 1 := by
  unfold s_X1_has
  repeat' split
  all_goals first | exact Or.inl rfl | exact Or.inr rfl
set_option maxHeartbeats 400000 in
set_option maxRecDepth 100000 in
theorem c_X1_has {l : Launch} {D : va_G} {ca ss ad : Nat → Nat} {f : Nat → va_E} (i : Nat) (j : Nat) (x : Int32) (rm : Int32) (sz : Int32) (nn : Nat) (g : Nat → Int32) (hc0 : f i = .inr (1, [.ref (ad j), .int rm, .int sz])) (hc1 : f j = .inl (ca 0, nn, .inl g)) (hi : i < 108) (hj : j < 108) (hij : i ≠ j) : gMi l D ca ss ad 108 yX1_has cX1_has 2 (some .boolean) 0 f [.ref (ad i), .int x] (fun r u => r = s_X1_has x sz ∧ u = f) := by
  refine gMz_ofK (by decide +kernel) (Nat.le_of_ble_eq_true rfl) (lv0 := [(0, .ref (ad i)), (1, .int x)]) rfl (fun pT eT sT mT aT below meth cT AT QT C RT => ?_)
  have C : gX pT sT mT aT meth cT AT D ca ss 2 RX1 cX1_has (some .boolean) := C
  refine gj_iload_n C 1 dX1_has_0 rfl 1 rfl ?_
  refine gj_if_lt C 16 dX1_has_1 (by decide) (fun c_1 => ?_) (fun c_1 => ?_)
  · refine gj_iconst C (v := 0) (by decide) dX1_has_16 ?_
    exact RT _ _ _ _ (by decide) ⟨by unfold s_X1_has; rw [if_pos c_1], rfl⟩ dX1_has_17
  · refine gj_iload_n C 1 dX1_has_4 rfl 1 rfl ?_
    refine gj_aload_n C 0 dX1_has_5 rfl 0 rfl ?_
    refine gj_get C i hi hc0 inX1 rfl 2 (by decide) w_96 (v := .int sz) rfl dX1_has_6 ?_
    refine gj_icmp_ge C 16 dX1_has_9 (by decide) (fun c_2 => ?_) (fun c_2 => ?_)
    · refine gj_iconst C (v := 0) (by decide) dX1_has_16 ?_
      exact RT _ _ _ _ (by decide) ⟨by unfold s_X1_has; rw [if_neg c_1, if_pos c_2], rfl⟩ dX1_has_17
    · refine gj_iconst C (v := 1) (by decide) dX1_has_12 ?_
      refine gj_goto C 17 dX1_has_13 (by decide) ?_
      exact RT _ _ _ _ (by decide) ⟨by unfold s_X1_has; rw [if_neg c_1, if_neg c_2], rfl⟩ dX1_has_17
def s_X10_has (x : Int32) (sz : Int32) : Int32 := if x < 0 then (0) else (if sz ≤ x then (0) else (1))
theorem b_X10_has (x : Int32) (sz : Int32) : s_X10_has x sz = 0 ∨ s_X10_has x sz = 1 := by
  unfold s_X10_has
  repeat' split
  all_goals first | exact Or.inl rfl | exact Or.inr rfl
set_option maxHeartbeats 400000 in
set_option maxRecDepth 100000 in
theorem c_X10_has {l : Launch} {D : va_G} {ca ss ad : Nat → Nat} {f : Nat → va_E} (i : Nat) (j : Nat) (x : Int32) (hS : Int32) (hP : Int32) (sz : Int32) (g : Nat → Int32) (hc0 : f i = .inr (9, [.ref (ad j), .int hS, .int hP, .int sz])) (hc1 : f j = .inl (ca 0, 32, .inl g)) (hi : i < 108) (hj : j < 108) (hij : i ≠ j) : gMi l D ca ss ad 108 yX10_has cX10_has 2 (some .boolean) 0 f [.ref (ad i), .int x] (fun r u => r = s_X10_has x sz ∧ u = f) := by
  refine gMz_ofK (by decide +kernel) (Nat.le_of_ble_eq_true rfl) (lv0 := [(0, .ref (ad i)), (1, .int x)]) rfl (fun pT eT sT mT aT below meth cT AT QT C RT => ?_)
  have C : gX pT sT mT aT meth cT AT D ca ss 2 RX10 cX10_has (some .boolean) := C
  refine gj_iload_n C 1 dX10_has_0 rfl 1 rfl ?_
  refine gj_if_lt C 16 dX10_has_1 (by decide) (fun c_1 => ?_) (fun c_1 => ?_)
  · refine gj_iconst C (v := 0) (by decide) dX10_has_16 ?_
    exact RT _ _ _ _ (by decide) ⟨by unfold s_X10_has; rw [if_pos c_1], rfl⟩ dX10_has_17
  · refine gj_iload_n C 1 dX10_has_4 rfl 1 rfl ?_
    refine gj_aload_n C 0 dX10_has_5 rfl 0 rfl ?_
    refine gj_get C i hi hc0 inX10 rfl 3 (by decide) w_330 (v := .int sz) rfl dX10_has_6 ?_
    refine gj_icmp_ge C 16 dX10_has_9 (by decide) (fun c_2 => ?_) (fun c_2 => ?_)
    · refine gj_iconst C (v := 0) (by decide) dX10_has_16 ?_
      exact RT _ _ _ _ (by decide) ⟨by unfold s_X10_has; rw [if_neg c_1, if_pos c_2], rfl⟩ dX10_has_17
    · refine gj_iconst C (v := 1) (by decide) dX10_has_12 ?_
      refine gj_goto C 17 dX10_has_13 (by decide) ?_
      exact RT _ _ _ _ (by decide) ⟨by unfold s_X10_has; rw [if_neg c_1, if_neg c_2], rfl⟩ dX10_has_17
/-! THE CLASS -/
theorem d3_ix {sz : Int32} {nn : Nat} (h : 0 ≤ sz.toInt ∧ 3 * sz.toInt + 3 ≤ nn ∧ nn ≤ 36) {c : Int32} (hc : 0 ≤ c.toInt ∧ c.toInt ≤ 2) : vp_in (3 * sz + c) nn := by
  have e3 : (3 : Int32).toInt = 3 := rfl
  have a : (3 * sz).toInt = 3 * sz.toInt := by rw [i32_mul (by rw [e3]; omega) (by rw [e3]; omega), e3]
  have b : (3 * sz + c).toInt = 3 * sz.toInt + c.toInt := by rw [i32_add (by omega) (by omega), a]
  exact vin (by omega) (by omega)
theorem d3_ix0 {sz : Int32} {nn : Nat} (h : 0 ≤ sz.toInt ∧ 3 * sz.toInt + 3 ≤ nn ∧ nn ≤ 36) : vp_in (3 * sz) nn := by
  have := d3_ix h w0
  rwa [Int32.add_zero] at this
theorem has_in {x w sz : Int32} {nn : Nat} (h : 0 ≤ sz.toInt ∧ 3 * sz.toInt ≤ nn ∧ nn ≤ 36) (h1 : ¬ s_X1_has x sz = 0) (h2 : ¬ s_X11_isWithin w (0 : Int32) (2 : Int32) = 0) : vp_in (3 * x + w) nn := by
  unfold s_X1_has at h1
  have hw := in_yes.mp h2
  have e0 : (0 : Int32).toInt = 0 := rfl
  have e2 : (2 : Int32).toInt = 2 := rfl
  by_cases a : x < 0
  · rw [if_pos a] at h1; exact absurd rfl h1
  · rw [if_neg a] at h1
    by_cases b : sz ≤ x
    · rw [if_pos b] at h1; exact absurd rfl h1
    · rw [i32_lt] at a
      rw [i32_le] at b
      exact d3_ix (sz := x) ⟨by omega, by omega, h.2.2⟩ ⟨by omega, by omega⟩
theorem t4_ix {sz : Int32} (h : 0 ≤ sz.toInt ∧ sz.toInt ≤ 7) {c : Int32} (hc : 0 ≤ c.toInt ∧ c.toInt ≤ 3) : vp_in (4 * sz + c) 32 := by
  have e4 : (4 : Int32).toInt = 4 := rfl
  have a : (4 * sz).toInt = 4 * sz.toInt := by rw [i32_mul (by rw [e4]; omega) (by rw [e4]; omega), e4]
  have b : (4 * sz + c).toInt = 4 * sz.toInt + c.toInt := by rw [i32_add (by omega) (by omega), a]
  exact vin (by omega) (by omega)
theorem t4_ix0 {sz : Int32} (h : 0 ≤ sz.toInt ∧ sz.toInt ≤ 7) : vp_in (4 * sz) 32 := by
  have := t4_ix h (c := 0) (by decide)
  rwa [Int32.add_zero] at this
theorem thas_in {x w sz : Int32} (h : 0 ≤ sz.toInt ∧ sz.toInt ≤ 8) (h1 : ¬ s_X10_has x sz = 0) (h2 : ¬ s_X11_isWithin w (0 : Int32) (3 : Int32) = 0) : vp_in (4 * x + w) 32 := by
  unfold s_X10_has at h1
  have hw := in_yes.mp h2
  have e0 : (0 : Int32).toInt = 0 := rfl
  have e2 : (3 : Int32).toInt = 3 := rfl
  by_cases a : x < 0
  · rw [if_pos a] at h1; exact absurd rfl h1
  · rw [if_neg a] at h1
    by_cases b : sz ≤ x
    · rw [if_pos b] at h1; exact absurd rfl h1
    · rw [i32_lt] at a
      rw [i32_le] at b
      exact t4_ix (sz := x) ⟨by omega, by omega⟩ ⟨by omega, by omega⟩

def s_X1_part (x : Int32) (w : Int32) (sz : Int32) (g : Nat → Int32) : Int32 := if (s_X1_has x sz) = 0 then (0) else (if (s_X11_isWithin w (0 : Int32) (2 : Int32)) = 0 then (0) else (g ((3 * x) + w).toNatClampNeg))
set_option maxHeartbeats 400000 in
set_option maxRecDepth 100000 in
theorem c_X1_part {l : Launch} {D : va_G} {ca ss ad : Nat → Nat} {f : Nat → va_E} (i : Nat) (j : Nat) (x : Int32) (w : Int32) (rm : Int32) (sz : Int32) (nn : Nat) (g : Nat → Int32) (hc0 : f i = .inr (1, [.ref (ad j), .int rm, .int sz])) (hc1 : f j = .inl (ca 0, nn, .inl g)) (hi : i < 108) (hj : j < 108) (hij : i ≠ j) (hsz : 0 ≤ sz.toInt ∧ 3 * sz.toInt ≤ nn ∧ nn ≤ 36) : gMi l D ca ss ad 108 yX1_part cX1_part 3 (some .int) 1 f [.ref (ad i), .int x, .int w] (fun r u => r = s_X1_part x w sz g ∧ u = f) := by
  refine gMi_ofK (by decide +kernel) (Nat.le_of_ble_eq_true rfl) (lv0 := [(0, .ref (ad i)), (1, .int x), (2, .int w)]) rfl (fun pT eT sT mT aT below meth cT AT QT C RT => ?_)
  have C : gX pT sT mT aT meth cT AT D ca ss 3 RX1 cX1_part (some .int) := C
  refine gj_aload_n C 0 dX1_part_0 rfl 0 rfl ?_
  refine gj_iload_n C 1 dX1_part_1 rfl 1 rfl ?_
  refine gj_callVi C mi_X1_has w_429 i hi hc0 rfl (c_X1_has i j x rm sz nn g hc0 hc1 (by first | assumption | omega) (by first | assumption | omega) (by first | assumption | omega)) mc_X1_has ⟨Nat.le_of_ble_eq_true rfl, Nat.le_of_ble_eq_true rfl⟩ (rest := []) rfl (Nat.le_of_ble_eq_true rfl) dX1_part_2 (fun r u h => ?_)
  obtain ⟨hr_, h⟩ := h; rw [hr_]
  rw [h]
  refine gj_if_eq C 30 dX1_part_5 (by decide) (fun c_1 => ?_) (fun c_1 => ?_)
  · refine gj_iconst C (v := 0) (by decide) dX1_part_30 ?_
    exact RT _ _ _ _ ⟨by unfold s_X1_part; rw [if_pos c_1], rfl⟩ dX1_part_31
  · refine gj_iload_n C 2 dX1_part_8 rfl 2 rfl ?_
    refine gj_iconst C (v := 0) (by decide) dX1_part_9 ?_
    refine gj_iconst C (v := 2) (by decide) dX1_part_10 ?_
    refine gj_callSNi C w_381 w_430 (c_X11_isWithin w (0 : Int32) (2 : Int32)) mc_X11_isWithin ⟨Nat.le_of_ble_eq_true rfl, Nat.le_of_ble_eq_true rfl⟩ (rest := []) rfl (Nat.le_of_ble_eq_true rfl) dX1_part_11 (fun r u h => ?_)
    obtain ⟨hr_, h⟩ := h; rw [hr_]
    rw [h]
    refine gj_if_eq C 30 dX1_part_14 (by decide) (fun c_2 => ?_) (fun c_2 => ?_)
    · refine gj_iconst C (v := 0) (by decide) dX1_part_30 ?_
      exact RT _ _ _ _ ⟨by unfold s_X1_part; rw [if_neg c_1, if_pos c_2], rfl⟩ dX1_part_31
    · refine gj_aload_n C 0 dX1_part_17 rfl 0 rfl ?_
      refine gj_get C i hi hc0 inX1 rfl 0 (by decide) w_94 (v := .ref (ad j)) rfl dX1_part_18 ?_
      refine gj_iconst C (v := 3) (by decide) dX1_part_21 ?_
      refine gj_iload_n C 1 dX1_part_22 rfl 1 rfl ?_
      refine gj_imul C dX1_part_23 ?_
      refine gj_iload_n C 2 dX1_part_24 rfl 2 rfl ?_
      refine gj_iadd C dX1_part_25 ?_
      refine gj_iald C j hj hc1 (has_in hsz c_1 c_2) dX1_part_26 ?_
      refine gj_goto C 31 dX1_part_27 (by decide) ?_
      exact RT _ _ _ _ ⟨by unfold s_X1_part; rw [if_neg c_1, if_neg c_2], rfl⟩ dX1_part_31
set_option maxHeartbeats 400000 in
set_option maxRecDepth 100000 in
theorem c_X1_append {l : Launch} {D : va_G} {ca ss ad : Nat → Nat} {f : Nat → va_E} (i : Nat) (j : Nat) (x : Int32) (y : Int32) (z : Int32) (rm : Int32) (sz : Int32) (nn : Nat) (g : Nat → Int32) (hc0 : f i = .inr (1, [.ref (ad j), .int rm, .int sz])) (hc1 : f j = .inl (ca 0, nn, .inl g)) (hi : i < 108) (hj : j < 108) (hij : i ≠ j) (hnf : s_X1_isFull rm sz = 0) (hsz : 0 ≤ sz.toInt ∧ 3 * sz.toInt + 3 ≤ nn ∧ nn ≤ 36) : gMv l D ca ss ad 108 yX1_append cX1_append 4 none 1 f [.ref (ad i), .int x, .int y, .int z] (fun u => u = va_up (va_up f j (.inl (ca 0, nn, .inl (upd (upd (upd g (3 * sz).toNatClampNeg x) ((3 * sz) + 1).toNatClampNeg y) ((3 * sz) + 2).toNatClampNeg z)))) i (.inr (1, [.ref (ad j), .int rm, .int (sz + 1)]))) := by
  refine gMv_ofK (by decide +kernel) (Nat.le_of_ble_eq_true rfl) (lv0 := [(0, .ref (ad i)), (1, .int x), (2, .int y), (3, .int z)]) rfl (fun pT eT sT mT aT below meth cT AT QT C RT => ?_)
  have C : gX pT sT mT aT meth cT AT D ca ss 4 RX1 cX1_append none := C
  refine gj_aload_n C 0 dX1_append_0 rfl 0 rfl ?_
  refine gj_callVi C mi_X1_isFull w_395 i hi hc0 rfl (c_X1_isFull i j rm sz nn g hc0 hc1 (by first | assumption | omega) (by first | assumption | omega) (by first | assumption | omega)) mc_X1_isFull ⟨Nat.le_of_ble_eq_true rfl, Nat.le_of_ble_eq_true rfl⟩ (rest := []) rfl (Nat.le_of_ble_eq_true rfl) dX1_append_1 (fun r u h => ?_)
  obtain ⟨hr_, h⟩ := h; rw [hr_]
  rw [h]
  refine gj_if_eq C 8 dX1_append_4 (by decide) (fun c_1 => ?_) (fun c_1 => absurd hnf c_1)
  refine gj_aload_n C 0 dX1_append_8 rfl 0 rfl ?_
  refine gj_get C i hi hc0 inX1 rfl 0 (by decide) w_94 (v := .ref (ad j)) rfl dX1_append_9 ?_
  refine gj_iconst C (v := 3) (by decide) dX1_append_12 ?_
  refine gj_aload_n C 0 dX1_append_13 rfl 0 rfl ?_
  refine gj_get C i hi hc0 inX1 rfl 2 (by decide) w_96 (v := .int sz) rfl dX1_append_14 ?_
  refine gj_imul C dX1_append_17 ?_
  refine gj_iload_n C 1 dX1_append_18 rfl 1 rfl ?_
  refine gj_iast C j hj hc1 (d3_ix0 hsz) dX1_append_19 ?_
  refine gj_aload_n C 0 dX1_append_20 rfl 0 rfl ?_
  refine gj_get C i hi (up_nx hij (hc0)) inX1 rfl 0 (by decide) w_94 (v := .ref (ad j)) rfl dX1_append_21 ?_
  refine gj_iconst C (v := 3) (by decide) dX1_append_24 ?_
  refine gj_aload_n C 0 dX1_append_25 rfl 0 rfl ?_
  refine gj_get C i hi (up_nx hij (hc0)) inX1 rfl 2 (by decide) w_96 (v := .int sz) rfl dX1_append_26 ?_
  refine gj_imul C dX1_append_29 ?_
  refine gj_iconst C (v := 1) (by decide) dX1_append_30 ?_
  refine gj_iadd C dX1_append_31 ?_
  refine gj_iload_n C 2 dX1_append_32 rfl 2 rfl ?_
  refine gj_iast C j hj (va_up_self _ _ _) (d3_ix hsz w1) dX1_append_33 ?_
  refine gj_setf (bx_uu _ _ _ _) ?_
  refine gj_aload_n C 0 dX1_append_34 rfl 0 rfl ?_
  refine gj_get C i hi (up_nx hij (hc0)) inX1 rfl 0 (by decide) w_94 (v := .ref (ad j)) rfl dX1_append_35 ?_
  refine gj_iconst C (v := 3) (by decide) dX1_append_38 ?_
  refine gj_aload_n C 0 dX1_append_39 rfl 0 rfl ?_
  refine gj_get C i hi (up_nx hij (hc0)) inX1 rfl 2 (by decide) w_96 (v := .int sz) rfl dX1_append_40 ?_
  refine gj_imul C dX1_append_43 ?_
  refine gj_iconst C (v := 2) (by decide) dX1_append_44 ?_
  refine gj_iadd C dX1_append_45 ?_
  refine gj_iload_n C 3 dX1_append_46 rfl 3 rfl ?_
  refine gj_iast C j hj (va_up_self _ _ _) (d3_ix hsz w2) dX1_append_47 ?_
  refine gj_setf (bx_uu _ _ _ _) ?_
  refine gj_aload_n C 0 dX1_append_48 rfl 0 rfl ?_
  refine gj_dup C rfl dX1_append_49 ?_
  refine gj_get C i hi (up_nx hij (hc0)) inX1 rfl 2 (by decide) w_96 (v := .int sz) rfl dX1_append_50 ?_
  refine gj_iconst C (v := 1) (by decide) dX1_append_53 ?_
  refine gj_iadd C dX1_append_54 ?_
  refine gj_putS C i hi (up_nx hij (hc0)) inX1 rfl 2 (by decide) tyX1 tyX1_ok nmX1 w_96 rfl (v := .int (sz + 1)) (fs' := [.ref (ad j), .int rm, .int (sz + 1)]) rfl rfl (Nat.le_of_ble_eq_true rfl) rfl dX1_append_55 ?_
  exact RT _ _ _ rfl dX1_append_58
set_option maxHeartbeats 400000 in
set_option maxRecDepth 100000 in
theorem c_X1_dropLast {l : Launch} {D : va_G} {ca ss ad : Nat → Nat} {f : Nat → va_E} (i : Nat) (j : Nat)  (rm : Int32) (sz : Int32) (nn : Nat) (g : Nat → Int32) (hc0 : f i = .inr (1, [.ref (ad j), .int rm, .int sz])) (hc1 : f j = .inl (ca 0, nn, .inl g)) (hi : i < 108) (hj : j < 108) (hij : i ≠ j) (hp : ¬ sz ≤ 0) : gMv l D ca ss ad 108 yX1_dropLast cX1_dropLast 1 none 0 f [.ref (ad i)] (fun u => u = va_up f i (.inr (1, [.ref (ad j), .int rm, .int (sz - 1)]))) := by
  refine gMv_ofK (by decide +kernel) (Nat.le_of_ble_eq_true rfl) (lv0 := [(0, .ref (ad i))]) rfl (fun pT eT sT mT aT below meth cT AT QT C RT => ?_)
  have C : gX pT sT mT aT meth cT AT D ca ss 1 RX1 cX1_dropLast none := C
  refine gj_aload_n C 0 dX1_dropLast_0 rfl 0 rfl ?_
  refine gj_get C i hi hc0 inX1 rfl 2 (by decide) w_96 (v := .int sz) rfl dX1_dropLast_1 ?_
  refine gj_if_le C 17 dX1_dropLast_4 (by decide) (fun c_1 => absurd c_1 hp) (fun c_1 => ?_)
  refine gj_aload_n C 0 dX1_dropLast_7 rfl 0 rfl ?_
  refine gj_dup C rfl dX1_dropLast_8 ?_
  refine gj_get C i hi hc0 inX1 rfl 2 (by decide) w_96 (v := .int sz) rfl dX1_dropLast_9 ?_
  refine gj_iconst C (v := 1) (by decide) dX1_dropLast_12 ?_
  refine gj_isub C dX1_dropLast_13 ?_
  refine gj_putS C i hi hc0 inX1 rfl 2 (by decide) tyX1 tyX1_ok nmX1 w_96 rfl (v := .int (sz - 1)) (fs' := [.ref (ad j), .int rm, .int (sz - 1)]) rfl rfl (Nat.le_of_ble_eq_true rfl) rfl dX1_dropLast_14 ?_
  exact RT _ _ _ rfl dX1_dropLast_17
set_option maxHeartbeats 400000 in
set_option maxRecDepth 100000 in
theorem c_X1_empty {l : Launch} {D : va_G} {ca ss ad : Nat → Nat} {f : Nat → va_E} (i : Nat) (j : Nat)  (rm : Int32) (sz : Int32) (nn : Nat) (g : Nat → Int32) (hc0 : f i = .inr (1, [.ref (ad j), .int rm, .int sz])) (hc1 : f j = .inl (ca 0, nn, .inl g)) (hi : i < 108) (hj : j < 108) (hij : i ≠ j) : gMv l D ca ss ad 108 yX1_empty cX1_empty 1 none 0 f [.ref (ad i)] (fun u => u = va_up f i (.inr (1, [.ref (ad j), .int rm, .int 0]))) := by
  refine gMv_ofK (by decide +kernel) (Nat.le_of_ble_eq_true rfl) (lv0 := [(0, .ref (ad i))]) rfl (fun pT eT sT mT aT below meth cT AT QT C RT => ?_)
  have C : gX pT sT mT aT meth cT AT D ca ss 1 RX1 cX1_empty none := C
  refine gj_aload_n C 0 dX1_empty_0 rfl 0 rfl ?_
  refine gj_iconst C (v := 0) (by decide) dX1_empty_1 ?_
  refine gj_putS C i hi hc0 inX1 rfl 2 (by decide) tyX1 tyX1_ok nmX1 w_96 rfl (v := .int 0) (fs' := [.ref (ad j), .int rm, .int 0]) rfl rfl (Nat.le_of_ble_eq_true rfl) rfl dX1_empty_2 ?_
  exact RT _ _ _ rfl dX1_empty_5
def s_X1_sideOf (x : Int32) (y : Int32) (sz : Int32) (g : Nat → Int32) : Int32 := ((((s_X1_part x (0 : Int32) sz g) - (s_X1_part y (0 : Int32) sz g)) * ((s_X1_part x (0 : Int32) sz g) - (s_X1_part y (0 : Int32) sz g))) + (((s_X1_part x (1 : Int32) sz g) - (s_X1_part y (1 : Int32) sz g)) * ((s_X1_part x (1 : Int32) sz g) - (s_X1_part y (1 : Int32) sz g)))) + (((s_X1_part x (2 : Int32) sz g) - (s_X1_part y (2 : Int32) sz g)) * ((s_X1_part x (2 : Int32) sz g) - (s_X1_part y (2 : Int32) sz g)))
set_option maxHeartbeats 400000 in
set_option maxRecDepth 100000 in
theorem c_X1_sideOf {l : Launch} {D : va_G} {ca ss ad : Nat → Nat} {f : Nat → va_E} (i : Nat) (j : Nat) (x : Int32) (y : Int32) (rm : Int32) (sz : Int32) (nn : Nat) (g : Nat → Int32) (hc0 : f i = .inr (1, [.ref (ad j), .int rm, .int sz])) (hc1 : f j = .inl (ca 0, nn, .inl g)) (hi : i < 108) (hj : j < 108) (hij : i ≠ j) (hsz : 0 ≤ sz.toInt ∧ 3 * sz.toInt ≤ nn ∧ nn ≤ 36) : gMi l D ca ss ad 108 yX1_sideOf cX1_sideOf 6 (some .int) 2 f [.ref (ad i), .int x, .int y] (fun r u => r = s_X1_sideOf x y sz g ∧ u = f) := by
  refine gMi_ofK (by decide +kernel) (Nat.le_of_ble_eq_true rfl) (lv0 := [(0, .ref (ad i)), (1, .int x), (2, .int y)]) rfl (fun pT eT sT mT aT below meth cT AT QT C RT => ?_)
  have C : gX pT sT mT aT meth cT AT D ca ss 6 RX1 cX1_sideOf (some .int) := C
  refine gj_aload_n C 0 dX1_sideOf_0 rfl 0 rfl ?_
  refine gj_iload_n C 1 dX1_sideOf_1 rfl 1 rfl ?_
  refine gj_iconst C (v := 0) (by decide) dX1_sideOf_2 ?_
  refine gj_callVi C mi_X1_part w_490 i hi hc0 rfl (c_X1_part i j x (0 : Int32) rm sz nn g hc0 hc1 (by first | assumption | omega) (by first | assumption | omega) (by first | assumption | omega) (by first | assumption | omega)) mc_X1_part ⟨Nat.le_of_ble_eq_true rfl, Nat.le_of_ble_eq_true rfl⟩ (rest := []) rfl (Nat.le_of_ble_eq_true rfl) dX1_sideOf_3 (fun r u h => ?_)
  obtain ⟨hr_, h⟩ := h; rw [hr_]
  rw [h]
  refine gj_aload_n C 0 dX1_sideOf_6 rfl 0 rfl ?_
  refine gj_iload_n C 2 dX1_sideOf_7 rfl 2 rfl ?_
  refine gj_iconst C (v := 0) (by decide) dX1_sideOf_8 ?_
  refine gj_callVi C mi_X1_part w_490 i hi hc0 rfl (c_X1_part i j y (0 : Int32) rm sz nn g hc0 hc1 (by first | assumption | omega) (by first | assumption | omega) (by first | assumption | omega) (by first | assumption | omega)) mc_X1_part ⟨Nat.le_of_ble_eq_true rfl, Nat.le_of_ble_eq_true rfl⟩ (rest := [.int (s_X1_part x (0 : Int32) sz g)]) rfl (Nat.le_of_ble_eq_true rfl) dX1_sideOf_9 (fun r u h => ?_)
  obtain ⟨hr_, h⟩ := h; rw [hr_]
  rw [h]
  refine gj_isub C dX1_sideOf_12 ?_
  refine gj_istore_n C (lv' := [(3, .int ((s_X1_part x (0 : Int32) sz g) - (s_X1_part y (0 : Int32) sz g))), (0, .ref (ad i)), (1, .int x), (2, .int y)]) 3 dX1_sideOf_13 rfl (by decide) rfl ?_
  refine gj_aload_n C 0 dX1_sideOf_14 rfl 1 rfl ?_
  refine gj_iload_n C 1 dX1_sideOf_15 rfl 2 rfl ?_
  refine gj_iconst C (v := 1) (by decide) dX1_sideOf_16 ?_
  refine gj_callVi C mi_X1_part w_490 i hi hc0 rfl (c_X1_part i j x (1 : Int32) rm sz nn g hc0 hc1 (by first | assumption | omega) (by first | assumption | omega) (by first | assumption | omega) (by first | assumption | omega)) mc_X1_part ⟨Nat.le_of_ble_eq_true rfl, Nat.le_of_ble_eq_true rfl⟩ (rest := []) rfl (Nat.le_of_ble_eq_true rfl) dX1_sideOf_17 (fun r u h => ?_)
  obtain ⟨hr_, h⟩ := h; rw [hr_]
  rw [h]
  refine gj_aload_n C 0 dX1_sideOf_20 rfl 1 rfl ?_
  refine gj_iload_n C 2 dX1_sideOf_21 rfl 3 rfl ?_
  refine gj_iconst C (v := 1) (by decide) dX1_sideOf_22 ?_
  refine gj_callVi C mi_X1_part w_490 i hi hc0 rfl (c_X1_part i j y (1 : Int32) rm sz nn g hc0 hc1 (by first | assumption | omega) (by first | assumption | omega) (by first | assumption | omega) (by first | assumption | omega)) mc_X1_part ⟨Nat.le_of_ble_eq_true rfl, Nat.le_of_ble_eq_true rfl⟩ (rest := [.int (s_X1_part x (1 : Int32) sz g)]) rfl (Nat.le_of_ble_eq_true rfl) dX1_sideOf_23 (fun r u h => ?_)
  obtain ⟨hr_, h⟩ := h; rw [hr_]
  rw [h]
  refine gj_isub C dX1_sideOf_26 ?_
  refine gj_istore C (lv' := [(4, .int ((s_X1_part x (1 : Int32) sz g) - (s_X1_part y (1 : Int32) sz g))), (3, .int ((s_X1_part x (0 : Int32) sz g) - (s_X1_part y (0 : Int32) sz g))), (0, .ref (ad i)), (1, .int x), (2, .int y)]) dX1_sideOf_27 (by decide) rfl ?_
  refine gj_aload_n C 0 dX1_sideOf_29 rfl 2 rfl ?_
  refine gj_iload_n C 1 dX1_sideOf_30 rfl 3 rfl ?_
  refine gj_iconst C (v := 2) (by decide) dX1_sideOf_31 ?_
  refine gj_callVi C mi_X1_part w_490 i hi hc0 rfl (c_X1_part i j x (2 : Int32) rm sz nn g hc0 hc1 (by first | assumption | omega) (by first | assumption | omega) (by first | assumption | omega) (by first | assumption | omega)) mc_X1_part ⟨Nat.le_of_ble_eq_true rfl, Nat.le_of_ble_eq_true rfl⟩ (rest := []) rfl (Nat.le_of_ble_eq_true rfl) dX1_sideOf_32 (fun r u h => ?_)
  obtain ⟨hr_, h⟩ := h; rw [hr_]
  rw [h]
  refine gj_aload_n C 0 dX1_sideOf_35 rfl 2 rfl ?_
  refine gj_iload_n C 2 dX1_sideOf_36 rfl 4 rfl ?_
  refine gj_iconst C (v := 2) (by decide) dX1_sideOf_37 ?_
  refine gj_callVi C mi_X1_part w_490 i hi hc0 rfl (c_X1_part i j y (2 : Int32) rm sz nn g hc0 hc1 (by first | assumption | omega) (by first | assumption | omega) (by first | assumption | omega) (by first | assumption | omega)) mc_X1_part ⟨Nat.le_of_ble_eq_true rfl, Nat.le_of_ble_eq_true rfl⟩ (rest := [.int (s_X1_part x (2 : Int32) sz g)]) rfl (Nat.le_of_ble_eq_true rfl) dX1_sideOf_38 (fun r u h => ?_)
  obtain ⟨hr_, h⟩ := h; rw [hr_]
  rw [h]
  refine gj_isub C dX1_sideOf_41 ?_
  refine gj_istore C (lv' := [(5, .int ((s_X1_part x (2 : Int32) sz g) - (s_X1_part y (2 : Int32) sz g))), (4, .int ((s_X1_part x (1 : Int32) sz g) - (s_X1_part y (1 : Int32) sz g))), (3, .int ((s_X1_part x (0 : Int32) sz g) - (s_X1_part y (0 : Int32) sz g))), (0, .ref (ad i)), (1, .int x), (2, .int y)]) dX1_sideOf_42 (by decide) rfl ?_
  refine gj_iload_n C 3 dX1_sideOf_44 rfl 2 rfl ?_
  refine gj_iload_n C 3 dX1_sideOf_45 rfl 2 rfl ?_
  refine gj_imul C dX1_sideOf_46 ?_
  refine gj_iload C dX1_sideOf_47 1 rfl ?_
  refine gj_iload C dX1_sideOf_49 1 rfl ?_
  refine gj_imul C dX1_sideOf_51 ?_
  refine gj_iadd C dX1_sideOf_52 ?_
  refine gj_iload C dX1_sideOf_53 0 rfl ?_
  refine gj_iload C dX1_sideOf_55 0 rfl ?_
  refine gj_imul C dX1_sideOf_57 ?_
  refine gj_iadd C dX1_sideOf_58 ?_
  exact RT _ _ _ _ ⟨rfl, rfl⟩ dX1_sideOf_59
def s_X10_column (x : Int32) (w : Int32) (sz : Int32) (g : Nat → Int32) : Int32 := if (s_X10_has x sz) = 0 then (0) else (if (s_X11_isWithin w (0 : Int32) (3 : Int32)) = 0 then (0) else (g ((4 * x) + w).toNatClampNeg))
set_option maxHeartbeats 400000 in
set_option maxRecDepth 100000 in
theorem c_X10_column {l : Launch} {D : va_G} {ca ss ad : Nat → Nat} {f : Nat → va_E} (i : Nat) (j : Nat) (x : Int32) (w : Int32) (hS : Int32) (hP : Int32) (sz : Int32) (g : Nat → Int32) (hc0 : f i = .inr (9, [.ref (ad j), .int hS, .int hP, .int sz])) (hc1 : f j = .inl (ca 0, 32, .inl g)) (hi : i < 108) (hj : j < 108) (hij : i ≠ j) (hsz : 0 ≤ sz.toInt ∧ sz.toInt ≤ 8) : gMi l D ca ss ad 108 yX10_column cX10_column 3 (some .int) 1 f [.ref (ad i), .int x, .int w] (fun r u => r = s_X10_column x w sz g ∧ u = f) := by
  refine gMi_ofK (by decide +kernel) (Nat.le_of_ble_eq_true rfl) (lv0 := [(0, .ref (ad i)), (1, .int x), (2, .int w)]) rfl (fun pT eT sT mT aT below meth cT AT QT C RT => ?_)
  have C : gX pT sT mT aT meth cT AT D ca ss 3 RX10 cX10_column (some .int) := C
  refine gj_aload_n C 0 dX10_column_0 rfl 0 rfl ?_
  refine gj_iload_n C 1 dX10_column_1 rfl 1 rfl ?_
  refine gj_callVi C mi_X10_has w_744 i hi hc0 rfl (c_X10_has i j x hS hP sz g hc0 hc1 (by first | assumption | omega) (by first | assumption | omega) (by first | assumption | omega)) mc_X10_has ⟨Nat.le_of_ble_eq_true rfl, Nat.le_of_ble_eq_true rfl⟩ (rest := []) rfl (Nat.le_of_ble_eq_true rfl) dX10_column_2 (fun r u h => ?_)
  obtain ⟨hr_, h⟩ := h; rw [hr_]
  rw [h]
  refine gj_if_eq C 30 dX10_column_5 (by decide) (fun c_1 => ?_) (fun c_1 => ?_)
  · refine gj_iconst C (v := 0) (by decide) dX10_column_30 ?_
    exact RT _ _ _ _ ⟨by unfold s_X10_column; rw [if_pos c_1], rfl⟩ dX10_column_31
  · refine gj_iload_n C 2 dX10_column_8 rfl 2 rfl ?_
    refine gj_iconst C (v := 0) (by decide) dX10_column_9 ?_
    refine gj_iconst C (v := 3) (by decide) dX10_column_10 ?_
    refine gj_callSNi C w_381 w_745 (c_X11_isWithin w (0 : Int32) (3 : Int32)) mc_X11_isWithin ⟨Nat.le_of_ble_eq_true rfl, Nat.le_of_ble_eq_true rfl⟩ (rest := []) rfl (Nat.le_of_ble_eq_true rfl) dX10_column_11 (fun r u h => ?_)
    obtain ⟨hr_, h⟩ := h; rw [hr_]
    rw [h]
    refine gj_if_eq C 30 dX10_column_14 (by decide) (fun c_2 => ?_) (fun c_2 => ?_)
    · refine gj_iconst C (v := 0) (by decide) dX10_column_30 ?_
      exact RT _ _ _ _ ⟨by unfold s_X10_column; rw [if_neg c_1, if_pos c_2], rfl⟩ dX10_column_31
    · refine gj_aload_n C 0 dX10_column_17 rfl 0 rfl ?_
      refine gj_get C i hi hc0 inX10 rfl 0 (by decide) w_327 (v := .ref (ad j)) rfl dX10_column_18 ?_
      refine gj_iconst C (v := 4) (by decide) dX10_column_21 ?_
      refine gj_iload_n C 1 dX10_column_22 rfl 1 rfl ?_
      refine gj_imul C dX10_column_23 ?_
      refine gj_iload_n C 2 dX10_column_24 rfl 2 rfl ?_
      refine gj_iadd C dX10_column_25 ?_
      refine gj_iald C j hj hc1 (thas_in hsz c_1 c_2) dX10_column_26 ?_
      refine gj_goto C 31 dX10_column_27 (by decide) ?_
      exact RT _ _ _ _ ⟨by unfold s_X10_column; rw [if_neg c_1, if_neg c_2], rfl⟩ dX10_column_31
def s_X10_product (x : Int32) (y : Int32) (sz : Int32) (g : Nat → Int32) : Int32 := (((s_X10_column x (1 : Int32) sz g) * (s_X10_column y (1 : Int32) sz g)) + ((s_X10_column x (2 : Int32) sz g) * (s_X10_column y (2 : Int32) sz g))) + ((s_X10_column x (3 : Int32) sz g) * (s_X10_column y (3 : Int32) sz g))
set_option maxHeartbeats 400000 in
set_option maxRecDepth 100000 in
theorem c_X10_product {l : Launch} {D : va_G} {ca ss ad : Nat → Nat} {f : Nat → va_E} (i : Nat) (j : Nat) (x : Int32) (y : Int32) (hS : Int32) (hP : Int32) (sz : Int32) (g : Nat → Int32) (hc0 : f i = .inr (9, [.ref (ad j), .int hS, .int hP, .int sz])) (hc1 : f j = .inl (ca 0, 32, .inl g)) (hi : i < 108) (hj : j < 108) (hij : i ≠ j) (hsz : 0 ≤ sz.toInt ∧ sz.toInt ≤ 8) : gMi l D ca ss ad 108 yX10_product cX10_product 3 (some .int) 2 f [.ref (ad i), .int x, .int y] (fun r u => r = s_X10_product x y sz g ∧ u = f) := by
  refine gMi_ofK (by decide +kernel) (Nat.le_of_ble_eq_true rfl) (lv0 := [(0, .ref (ad i)), (1, .int x), (2, .int y)]) rfl (fun pT eT sT mT aT below meth cT AT QT C RT => ?_)
  have C : gX pT sT mT aT meth cT AT D ca ss 3 RX10 cX10_product (some .int) := C
  refine gj_aload_n C 0 dX10_product_0 rfl 0 rfl ?_
  refine gj_iload_n C 1 dX10_product_1 rfl 1 rfl ?_
  refine gj_iconst C (v := 1) (by decide) dX10_product_2 ?_
  refine gj_callVi C mi_X10_column w_754 i hi hc0 rfl (c_X10_column i j x (1 : Int32) hS hP sz g hc0 hc1 (by first | assumption | omega) (by first | assumption | omega) (by first | assumption | omega) (by first | assumption | omega)) mc_X10_column ⟨Nat.le_of_ble_eq_true rfl, Nat.le_of_ble_eq_true rfl⟩ (rest := []) rfl (Nat.le_of_ble_eq_true rfl) dX10_product_3 (fun r u h => ?_)
  obtain ⟨hr_, h⟩ := h; rw [hr_]
  rw [h]
  refine gj_aload_n C 0 dX10_product_6 rfl 0 rfl ?_
  refine gj_iload_n C 2 dX10_product_7 rfl 2 rfl ?_
  refine gj_iconst C (v := 1) (by decide) dX10_product_8 ?_
  refine gj_callVi C mi_X10_column w_754 i hi hc0 rfl (c_X10_column i j y (1 : Int32) hS hP sz g hc0 hc1 (by first | assumption | omega) (by first | assumption | omega) (by first | assumption | omega) (by first | assumption | omega)) mc_X10_column ⟨Nat.le_of_ble_eq_true rfl, Nat.le_of_ble_eq_true rfl⟩ (rest := [.int (s_X10_column x (1 : Int32) sz g)]) rfl (Nat.le_of_ble_eq_true rfl) dX10_product_9 (fun r u h => ?_)
  obtain ⟨hr_, h⟩ := h; rw [hr_]
  rw [h]
  refine gj_imul C dX10_product_12 ?_
  refine gj_aload_n C 0 dX10_product_13 rfl 0 rfl ?_
  refine gj_iload_n C 1 dX10_product_14 rfl 1 rfl ?_
  refine gj_iconst C (v := 2) (by decide) dX10_product_15 ?_
  refine gj_callVi C mi_X10_column w_754 i hi hc0 rfl (c_X10_column i j x (2 : Int32) hS hP sz g hc0 hc1 (by first | assumption | omega) (by first | assumption | omega) (by first | assumption | omega) (by first | assumption | omega)) mc_X10_column ⟨Nat.le_of_ble_eq_true rfl, Nat.le_of_ble_eq_true rfl⟩ (rest := [.int ((s_X10_column x (1 : Int32) sz g) * (s_X10_column y (1 : Int32) sz g))]) rfl (Nat.le_of_ble_eq_true rfl) dX10_product_16 (fun r u h => ?_)
  obtain ⟨hr_, h⟩ := h; rw [hr_]
  rw [h]
  refine gj_aload_n C 0 dX10_product_19 rfl 0 rfl ?_
  refine gj_iload_n C 2 dX10_product_20 rfl 2 rfl ?_
  refine gj_iconst C (v := 2) (by decide) dX10_product_21 ?_
  refine gj_callVi C mi_X10_column w_754 i hi hc0 rfl (c_X10_column i j y (2 : Int32) hS hP sz g hc0 hc1 (by first | assumption | omega) (by first | assumption | omega) (by first | assumption | omega) (by first | assumption | omega)) mc_X10_column ⟨Nat.le_of_ble_eq_true rfl, Nat.le_of_ble_eq_true rfl⟩ (rest := [.int (s_X10_column x (2 : Int32) sz g), .int ((s_X10_column x (1 : Int32) sz g) * (s_X10_column y (1 : Int32) sz g))]) rfl (Nat.le_of_ble_eq_true rfl) dX10_product_22 (fun r u h => ?_)
  obtain ⟨hr_, h⟩ := h; rw [hr_]
  rw [h]
  refine gj_imul C dX10_product_25 ?_
  refine gj_iadd C dX10_product_26 ?_
  refine gj_aload_n C 0 dX10_product_27 rfl 0 rfl ?_
  refine gj_iload_n C 1 dX10_product_28 rfl 1 rfl ?_
  refine gj_iconst C (v := 3) (by decide) dX10_product_29 ?_
  refine gj_callVi C mi_X10_column w_754 i hi hc0 rfl (c_X10_column i j x (3 : Int32) hS hP sz g hc0 hc1 (by first | assumption | omega) (by first | assumption | omega) (by first | assumption | omega) (by first | assumption | omega)) mc_X10_column ⟨Nat.le_of_ble_eq_true rfl, Nat.le_of_ble_eq_true rfl⟩ (rest := [.int (((s_X10_column x (1 : Int32) sz g) * (s_X10_column y (1 : Int32) sz g)) + ((s_X10_column x (2 : Int32) sz g) * (s_X10_column y (2 : Int32) sz g)))]) rfl (Nat.le_of_ble_eq_true rfl) dX10_product_30 (fun r u h => ?_)
  obtain ⟨hr_, h⟩ := h; rw [hr_]
  rw [h]
  refine gj_aload_n C 0 dX10_product_33 rfl 0 rfl ?_
  refine gj_iload_n C 2 dX10_product_34 rfl 2 rfl ?_
  refine gj_iconst C (v := 3) (by decide) dX10_product_35 ?_
  refine gj_callVi C mi_X10_column w_754 i hi hc0 rfl (c_X10_column i j y (3 : Int32) hS hP sz g hc0 hc1 (by first | assumption | omega) (by first | assumption | omega) (by first | assumption | omega) (by first | assumption | omega)) mc_X10_column ⟨Nat.le_of_ble_eq_true rfl, Nat.le_of_ble_eq_true rfl⟩ (rest := [.int (s_X10_column x (3 : Int32) sz g), .int (((s_X10_column x (1 : Int32) sz g) * (s_X10_column y (1 : Int32) sz g)) + ((s_X10_column x (2 : Int32) sz g) * (s_X10_column y (2 : Int32) sz g)))]) rfl (Nat.le_of_ble_eq_true rfl) dX10_product_36 (fun r u h => ?_)
  obtain ⟨hr_, h⟩ := h; rw [hr_]
  rw [h]
  refine gj_imul C dX10_product_39 ?_
  refine gj_iadd C dX10_product_40 ?_
  exact RT _ _ _ _ ⟨rfl, rfl⟩ dX10_product_41
set_option maxHeartbeats 400000 in
set_option maxRecDepth 100000 in
theorem c_X10_append {l : Launch} {D : va_G} {ca ss ad : Nat → Nat} {f : Nat → va_E} (i : Nat) (j : Nat) (k : Int32) (x : Int32) (y : Int32) (z : Int32) (hS : Int32) (hP : Int32) (sz : Int32) (g : Nat → Int32) (hc0 : f i = .inr (9, [.ref (ad j), .int hS, .int hP, .int sz])) (hc1 : f j = .inl (ca 0, 32, .inl g)) (hi : i < 108) (hj : j < 108) (hij : i ≠ j) (hlt : sz < 8) (hsz : 0 ≤ sz.toInt ∧ sz.toInt ≤ 7) : gMv l D ca ss ad 108 yX10_append cX10_append 5 none 0 f [.ref (ad i), .int k, .int x, .int y, .int z] (fun u => u = va_up (va_up f j (.inl (ca 0, 32, .inl (upd (upd (upd (upd g (4 * sz).toNatClampNeg k) ((4 * sz) + 1).toNatClampNeg x) ((4 * sz) + 2).toNatClampNeg y) ((4 * sz) + 3).toNatClampNeg z)))) i (.inr (9, [.ref (ad j), .int hS, .int hP, .int (sz + 1)]))) := by
  refine gMv_ofK (by decide +kernel) (Nat.le_of_ble_eq_true rfl) (lv0 := [(0, .ref (ad i)), (1, .int k), (2, .int x), (3, .int y), (4, .int z)]) rfl (fun pT eT sT mT aT below meth cT AT QT C RT => ?_)
  have C : gX pT sT mT aT meth cT AT D ca ss 5 RX10 cX10_append none := C
  refine gj_aload_n C 0 dX10_append_0 rfl 0 rfl ?_
  refine gj_get C i hi hc0 inX10 rfl 3 (by decide) w_330 (v := .int sz) rfl dX10_append_1 ?_
  refine gj_bipush C (v := 8) (by decide) dX10_append_4 ?_
  refine gj_icmp_lt C 10 dX10_append_6 (by decide) (fun c_1 => ?_) (fun c_1 => absurd hlt c_1)
  refine gj_aload_n C 0 dX10_append_10 rfl 0 rfl ?_
  refine gj_get C i hi hc0 inX10 rfl 0 (by decide) w_327 (v := .ref (ad j)) rfl dX10_append_11 ?_
  refine gj_iconst C (v := 4) (by decide) dX10_append_14 ?_
  refine gj_aload_n C 0 dX10_append_15 rfl 0 rfl ?_
  refine gj_get C i hi hc0 inX10 rfl 3 (by decide) w_330 (v := .int sz) rfl dX10_append_16 ?_
  refine gj_imul C dX10_append_19 ?_
  refine gj_iload_n C 1 dX10_append_20 rfl 1 rfl ?_
  refine gj_iast C j hj hc1 (t4_ix0 hsz) dX10_append_21 ?_
  refine gj_aload_n C 0 dX10_append_22 rfl 0 rfl ?_
  refine gj_get C i hi (up_nx hij (hc0)) inX10 rfl 0 (by decide) w_327 (v := .ref (ad j)) rfl dX10_append_23 ?_
  refine gj_iconst C (v := 4) (by decide) dX10_append_26 ?_
  refine gj_aload_n C 0 dX10_append_27 rfl 0 rfl ?_
  refine gj_get C i hi (up_nx hij (hc0)) inX10 rfl 3 (by decide) w_330 (v := .int sz) rfl dX10_append_28 ?_
  refine gj_imul C dX10_append_31 ?_
  refine gj_iconst C (v := 1) (by decide) dX10_append_32 ?_
  refine gj_iadd C dX10_append_33 ?_
  refine gj_iload_n C 2 dX10_append_34 rfl 2 rfl ?_
  refine gj_iast C j hj (va_up_self _ _ _) (t4_ix hsz l1) dX10_append_35 ?_
  refine gj_setf (bx_uu _ _ _ _) ?_
  refine gj_aload_n C 0 dX10_append_36 rfl 0 rfl ?_
  refine gj_get C i hi (up_nx hij (hc0)) inX10 rfl 0 (by decide) w_327 (v := .ref (ad j)) rfl dX10_append_37 ?_
  refine gj_iconst C (v := 4) (by decide) dX10_append_40 ?_
  refine gj_aload_n C 0 dX10_append_41 rfl 0 rfl ?_
  refine gj_get C i hi (up_nx hij (hc0)) inX10 rfl 3 (by decide) w_330 (v := .int sz) rfl dX10_append_42 ?_
  refine gj_imul C dX10_append_45 ?_
  refine gj_iconst C (v := 2) (by decide) dX10_append_46 ?_
  refine gj_iadd C dX10_append_47 ?_
  refine gj_iload_n C 3 dX10_append_48 rfl 3 rfl ?_
  refine gj_iast C j hj (va_up_self _ _ _) (t4_ix hsz l2) dX10_append_49 ?_
  refine gj_setf (bx_uu _ _ _ _) ?_
  refine gj_aload_n C 0 dX10_append_50 rfl 0 rfl ?_
  refine gj_get C i hi (up_nx hij (hc0)) inX10 rfl 0 (by decide) w_327 (v := .ref (ad j)) rfl dX10_append_51 ?_
  refine gj_iconst C (v := 4) (by decide) dX10_append_54 ?_
  refine gj_aload_n C 0 dX10_append_55 rfl 0 rfl ?_
  refine gj_get C i hi (up_nx hij (hc0)) inX10 rfl 3 (by decide) w_330 (v := .int sz) rfl dX10_append_56 ?_
  refine gj_imul C dX10_append_59 ?_
  refine gj_iconst C (v := 3) (by decide) dX10_append_60 ?_
  refine gj_iadd C dX10_append_61 ?_
  refine gj_iload C dX10_append_62 4 rfl ?_
  refine gj_iast C j hj (va_up_self _ _ _) (t4_ix hsz l3) dX10_append_64 ?_
  refine gj_setf (bx_uu _ _ _ _) ?_
  refine gj_aload_n C 0 dX10_append_65 rfl 0 rfl ?_
  refine gj_dup C rfl dX10_append_66 ?_
  refine gj_get C i hi (up_nx hij (hc0)) inX10 rfl 3 (by decide) w_330 (v := .int sz) rfl dX10_append_67 ?_
  refine gj_iconst C (v := 1) (by decide) dX10_append_70 ?_
  refine gj_iadd C dX10_append_71 ?_
  refine gj_putS C i hi (up_nx hij (hc0)) inX10 rfl 3 (by decide) tyX10 tyX10_ok nmX10 w_330 rfl (v := .int (sz + 1)) (fs' := [.ref (ad j), .int hS, .int hP, .int (sz + 1)]) rfl rfl (Nat.le_of_ble_eq_true rfl) rfl dX10_append_72 ?_
  exact RT _ _ _ rfl dX10_append_75
