/-- the arms of v, w in a row of twelve: v; v by w; v by (v by w); w -/
def armC (g v w : Nat → Int64) : Nat → Int64 := fun j => if j < 3 then v j else if j < 6 then cr v w (j - 3) else if j < 9 then cr v (cr v w) (j - 6) else if j < 12 then w (j - 9) else g j
theorem armC_eq (g : Nat → Int64) (a b c x y z : Int64) : vp_updL (vp_updL (vp_updL (vp_updL (vp_updL (vp_updL (vp_updL (vp_updL (vp_updL (vp_updL (vp_updL (vp_updL g 0 a) 9 x) 1 b) 10 y) 2 c) 11 z) 3 (b * z - c * y)) 4 (c * x - a * z)) 5 (a * y - b * x)) 6 (b * (a * y - b * x) - c * (c * x - a * z))) 7 (c * (b * z - c * y) - a * (a * y - b * x))) 8 (a * (c * x - a * z) - b * (b * z - c * y)) = armC g (t3 a b c) (t3 x y z) := by
  funext j
  match j with
  | 0 => rfl
  | 1 => rfl
  | 2 => rfl
  | 3 => rfl
  | 4 => rfl
  | 5 => rfl
  | 6 => rfl
  | 7 => rfl
  | 8 => rfl
  | 9 => rfl
  | 10 => rfl
  | 11 => rfl
  | n + 12 =>
    have h : ∀ k, k < 12 → ¬ n + 12 = k := fun k hk => by omega
    simp only [vp_updL, armC, if_neg (h 0 (by omega)), if_neg (h 1 (by omega)), if_neg (h 2 (by omega)), if_neg (h 3 (by omega)), if_neg (h 4 (by omega)), if_neg (h 5 (by omega)), if_neg (h 6 (by omega)), if_neg (h 7 (by omega)), if_neg (h 8 (by omega)), if_neg (h 9 (by omega)), if_neg (h 10 (by omega)), if_neg (h 11 (by omega)), if_neg (show ¬ n + 12 < 3 by omega), if_neg (show ¬ n + 12 < 6 by omega), if_neg (show ¬ n + 12 < 9 by omega), if_neg (show ¬ n + 12 < 12 by omega)]
theorem a3_in {a w : Nat} (ha : a < 3) (hw : w < 3) : vp_in (3 * nI a + nI w) 12 := by
  rw [show (3 : Int32) = nI 3 from rfl, pk_mul, nI_add]; exact vp_in_nI (by omega) (by omega)
theorem a3_cl {a w : Nat} (ha : a < 3) (hw : w < 3) : (3 * nI a + nI w).toNatClampNeg = 3 * a + w := by
  rw [show (3 : Int32) = nI 3 from rfl, pk_mul, nI_add]; exact nI_clamp (by omega)
theorem a3_in0 {a : Nat} (ha : a < 3) : vp_in (3 * nI a) 12 := by
  rw [show (3 : Int32) = nI 3 from rfl, pk_mul]; exact vp_in_nI (by omega) (by omega)
theorem a3_cl0 {a : Nat} (ha : a < 3) : (3 * nI a).toNatClampNeg = 3 * a := by
  rw [show (3 : Int32) = nI 3 from rfl, pk_mul]; exact nI_clamp (by omega)

def s_X0_isFlat (g : Nat → Int64) : Int32 := if (lg_cmp (g 3) 0) = 0 then (if (lg_cmp (g 4) 0) = 0 then (if (lg_cmp (g 5) 0) = 0 then (1) else (0)) else (0)) else (0)
theorem b_X0_isFlat (g : Nat → Int64) : s_X0_isFlat g = 0 ∨ s_X0_isFlat g = 1 := by
  unfold s_X0_isFlat
  repeat' split
  all_goals first | exact Or.inl rfl | exact Or.inr rfl
set_option maxHeartbeats 400000 in
set_option maxRecDepth 100000 in
theorem c_X0_isFlat {l : Launch} {D : va_G} {ca ss ad : Nat → Nat} {f : Nat → va_E} (i : Nat) (j : Nat)  (g : Nat → Int64) (hc0 : f i = .inr (0, [.ref (ad j)])) (hc1 : f j = .inl (ca 1, 12, .inr (.inl g))) (hi : i < 108) (hj : j < 108) (hij : i ≠ j) : gMi l D ca ss ad 108 yX0_isFlat cX0_isFlat 1 (some .boolean) 0 f [.ref (ad i)] (fun r u => r = s_X0_isFlat g ∧ u = f) := by
  refine gMz_ofK (by decide +kernel) (Nat.le_of_ble_eq_true rfl) (lv0 := [(0, .ref (ad i))]) rfl (fun pT eT sT mT aT below meth cT AT QT C RT => ?_)
  have C : gX pT sT mT aT meth cT AT D ca ss 1 RX0 cX0_isFlat (some .boolean) := C
  refine gj_aload_n C 0 dX0_isFlat_0 rfl 0 rfl ?_
  refine gj_get C i hi hc0 inX0 rfl 0 (by decide) w_201 (v := .ref (ad j)) rfl dX0_isFlat_1 ?_
  refine gj_iconst C (v := 3) (by decide) dX0_isFlat_4 ?_
  refine gj_lald C j hj hc1 (by unfold vp_in; decide) dX0_isFlat_5 ?_
  refine gj_setl (y := g 3) rfl ?_
  refine gj_lconst C (v := 0) rfl dX0_isFlat_6 ?_
  refine gj_lcmp C dX0_isFlat_7 ?_
  refine gj_if_ne C 37 dX0_isFlat_8 (by decide) (fun c_1 => ?_) (fun c_1 => ?_)
  · refine gj_iconst C (v := 0) (by decide) dX0_isFlat_37 ?_
    exact RT _ _ _ _ (by decide) ⟨by unfold s_X0_isFlat; rw [if_neg c_1], rfl⟩ dX0_isFlat_38
  · refine gj_aload_n C 0 dX0_isFlat_11 rfl 0 rfl ?_
    refine gj_get C i hi hc0 inX0 rfl 0 (by decide) w_201 (v := .ref (ad j)) rfl dX0_isFlat_12 ?_
    refine gj_iconst C (v := 4) (by decide) dX0_isFlat_15 ?_
    refine gj_lald C j hj hc1 (by unfold vp_in; decide) dX0_isFlat_16 ?_
    refine gj_setl (y := g 4) rfl ?_
    refine gj_lconst C (v := 0) rfl dX0_isFlat_17 ?_
    refine gj_lcmp C dX0_isFlat_18 ?_
    refine gj_if_ne C 37 dX0_isFlat_19 (by decide) (fun c_2 => ?_) (fun c_2 => ?_)
    · refine gj_iconst C (v := 0) (by decide) dX0_isFlat_37 ?_
      exact RT _ _ _ _ (by decide) ⟨by unfold s_X0_isFlat; rw [if_pos c_1, if_neg c_2], rfl⟩ dX0_isFlat_38
    · refine gj_aload_n C 0 dX0_isFlat_22 rfl 0 rfl ?_
      refine gj_get C i hi hc0 inX0 rfl 0 (by decide) w_201 (v := .ref (ad j)) rfl dX0_isFlat_23 ?_
      refine gj_iconst C (v := 5) (by decide) dX0_isFlat_26 ?_
      refine gj_lald C j hj hc1 (by unfold vp_in; decide) dX0_isFlat_27 ?_
      refine gj_setl (y := g 5) rfl ?_
      refine gj_lconst C (v := 0) rfl dX0_isFlat_28 ?_
      refine gj_lcmp C dX0_isFlat_29 ?_
      refine gj_if_ne C 37 dX0_isFlat_30 (by decide) (fun c_3 => ?_) (fun c_3 => ?_)
      · refine gj_iconst C (v := 0) (by decide) dX0_isFlat_37 ?_
        exact RT _ _ _ _ (by decide) ⟨by unfold s_X0_isFlat; rw [if_pos c_1, if_pos c_2, if_neg c_3], rfl⟩ dX0_isFlat_38
      · refine gj_iconst C (v := 1) (by decide) dX0_isFlat_33 ?_
        refine gj_goto C 38 dX0_isFlat_34 (by decide) ?_
        exact RT _ _ _ _ (by decide) ⟨by unfold s_X0_isFlat; rw [if_pos c_1, if_pos c_2, if_pos c_3], rfl⟩ dX0_isFlat_38
def s_X0_part (a : Nat) (w : Nat) (g : Nat → Int64) : Int64 := g (3 * a + w)
set_option maxHeartbeats 400000 in
set_option maxRecDepth 100000 in
theorem c_X0_part {l : Launch} {D : va_G} {ca ss ad : Nat → Nat} {f : Nat → va_E} (i : Nat) (j : Nat) (a : Nat) (w : Nat) (g : Nat → Int64) (hc0 : f i = .inr (0, [.ref (ad j)])) (hc1 : f j = .inl (ca 1, 12, .inr (.inl g))) (hi : i < 108) (hj : j < 108) (hij : i ≠ j) (ha : a < 3) (hw : w < 3) : gMl l D ca ss ad 108 yX0_part cX0_part 3 (some .long) 0 f [.ref (ad i), .int (nI a), .int (nI w)] (fun r u => r = s_X0_part a w g ∧ u = f) := by
  refine gMl_ofK (by decide +kernel) (Nat.le_of_ble_eq_true rfl) (lv0 := [(0, .ref (ad i)), (1, .int (nI a)), (2, .int (nI w))]) rfl (fun pT eT sT mT aT below meth cT AT QT C RT => ?_)
  have C : gX pT sT mT aT meth cT AT D ca ss 3 RX0 cX0_part (some .long) := C
  refine gj_aload_n C 0 dX0_part_0 rfl 0 rfl ?_
  refine gj_get C i hi hc0 inX0 rfl 0 (by decide) w_201 (v := .ref (ad j)) rfl dX0_part_1 ?_
  refine gj_iconst C (v := 3) (by decide) dX0_part_4 ?_
  refine gj_iload_n C 1 dX0_part_5 rfl 1 rfl ?_
  refine gj_imul C dX0_part_6 ?_
  refine gj_iload_n C 2 dX0_part_7 rfl 2 rfl ?_
  refine gj_iadd C dX0_part_8 ?_
  refine gj_lald C j hj hc1 (a3_in (w := w) (by omega) (by omega)) dX0_part_9 ?_
  refine gj_setl (congrArg _ (a3_cl (w := w) (by omega) (by omega))) ?_
  exact RT _ _ _ _ ⟨rfl, rfl⟩ dX0_part_10
def s_X0_square (a : Nat) (g : Nat → Int64) : Int64 := (((g (3 * a)) * (g (3 * a))) + ((g (3 * a + 1)) * (g (3 * a + 1)))) + ((g (3 * a + 2)) * (g (3 * a + 2)))
set_option maxHeartbeats 400000 in
set_option maxRecDepth 100000 in
theorem c_X0_square {l : Launch} {D : va_G} {ca ss ad : Nat → Nat} {f : Nat → va_E} (i : Nat) (j : Nat) (a : Nat) (g : Nat → Int64) (hc0 : f i = .inr (0, [.ref (ad j)])) (hc1 : f j = .inl (ca 1, 12, .inr (.inl g))) (hi : i < 108) (hj : j < 108) (hij : i ≠ j) (ha : a < 3) : gMl l D ca ss ad 108 yX0_square cX0_square 8 (some .long) 0 f [.ref (ad i), .int (nI a)] (fun r u => r = s_X0_square a g ∧ u = f) := by
  refine gMl_ofK (by decide +kernel) (Nat.le_of_ble_eq_true rfl) (lv0 := [(0, .ref (ad i)), (1, .int (nI a))]) rfl (fun pT eT sT mT aT below meth cT AT QT C RT => ?_)
  have C : gX pT sT mT aT meth cT AT D ca ss 8 RX0 cX0_square (some .long) := C
  refine gj_aload_n C 0 dX0_square_0 rfl 0 rfl ?_
  refine gj_get C i hi hc0 inX0 rfl 0 (by decide) w_201 (v := .ref (ad j)) rfl dX0_square_1 ?_
  refine gj_iconst C (v := 3) (by decide) dX0_square_4 ?_
  refine gj_iload_n C 1 dX0_square_5 rfl 1 rfl ?_
  refine gj_imul C dX0_square_6 ?_
  refine gj_lald C j hj hc1 (a3_in0 (by omega)) dX0_square_7 ?_
  refine gj_setl (congrArg _ (a3_cl0 (by omega))) ?_
  refine gj_lstore_n C (lv' := [(2, .long (g (3 * a))), (0, .ref (ad i)), (1, .int (nI a))]) 2 dX0_square_8 rfl (by decide) rfl ?_
  refine gj_aload_n C 0 dX0_square_9 rfl 1 rfl ?_
  refine gj_get C i hi hc0 inX0 rfl 0 (by decide) w_201 (v := .ref (ad j)) rfl dX0_square_10 ?_
  refine gj_iconst C (v := 3) (by decide) dX0_square_13 ?_
  refine gj_iload_n C 1 dX0_square_14 rfl 2 rfl ?_
  refine gj_imul C dX0_square_15 ?_
  refine gj_iconst C (v := 1) (by decide) dX0_square_16 ?_
  refine gj_iadd C dX0_square_17 ?_
  refine gj_lald C j hj hc1 (a3_in (w := 1) (by omega) (by omega)) dX0_square_18 ?_
  refine gj_setl (congrArg _ (a3_cl (w := 1) (by omega) (by omega))) ?_
  refine gj_lstore C (lv' := [(4, .long (g (3 * a + 1))), (2, .long (g (3 * a))), (0, .ref (ad i)), (1, .int (nI a))]) dX0_square_19 (by decide) rfl ?_
  refine gj_aload_n C 0 dX0_square_21 rfl 2 rfl ?_
  refine gj_get C i hi hc0 inX0 rfl 0 (by decide) w_201 (v := .ref (ad j)) rfl dX0_square_22 ?_
  refine gj_iconst C (v := 3) (by decide) dX0_square_25 ?_
  refine gj_iload_n C 1 dX0_square_26 rfl 3 rfl ?_
  refine gj_imul C dX0_square_27 ?_
  refine gj_iconst C (v := 2) (by decide) dX0_square_28 ?_
  refine gj_iadd C dX0_square_29 ?_
  refine gj_lald C j hj hc1 (a3_in (w := 2) (by omega) (by omega)) dX0_square_30 ?_
  refine gj_setl (congrArg _ (a3_cl (w := 2) (by omega) (by omega))) ?_
  refine gj_lstore C (lv' := [(6, .long (g (3 * a + 2))), (4, .long (g (3 * a + 1))), (2, .long (g (3 * a))), (0, .ref (ad i)), (1, .int (nI a))]) dX0_square_31 (by decide) rfl ?_
  refine gj_lload_n C 2 dX0_square_33 rfl 2 rfl ?_
  refine gj_lload_n C 2 dX0_square_34 rfl 2 rfl ?_
  refine gj_lmul C dX0_square_35 ?_
  refine gj_lload C dX0_square_36 1 rfl ?_
  refine gj_lload C dX0_square_38 1 rfl ?_
  refine gj_lmul C dX0_square_40 ?_
  refine gj_ladd C dX0_square_41 ?_
  refine gj_lload C dX0_square_42 0 rfl ?_
  refine gj_lload C dX0_square_44 0 rfl ?_
  refine gj_lmul C dX0_square_46 ?_
  refine gj_ladd C dX0_square_47 ?_
  exact RT _ _ _ _ ⟨rfl, rfl⟩ dX0_square_48
def s_X0_times (a : Nat) (x : Int32) (y : Int32) (z : Int32) (g : Nat → Int64) : Int64 := (((g (3 * a)) * x.toInt64) + ((g (3 * a + 1)) * y.toInt64)) + ((g (3 * a + 2)) * z.toInt64)
set_option maxHeartbeats 400000 in
set_option maxRecDepth 100000 in
theorem c_X0_times {l : Launch} {D : va_G} {ca ss ad : Nat → Nat} {f : Nat → va_E} (i : Nat) (j : Nat) (a : Nat) (x : Int32) (y : Int32) (z : Int32) (g : Nat → Int64) (hc0 : f i = .inr (0, [.ref (ad j)])) (hc1 : f j = .inl (ca 1, 12, .inr (.inl g))) (hi : i < 108) (hj : j < 108) (hij : i ≠ j) (ha : a < 3) : gMl l D ca ss ad 108 yX0_times cX0_times 5 (some .long) 0 f [.ref (ad i), .int (nI a), .int x, .int y, .int z] (fun r u => r = s_X0_times a x y z g ∧ u = f) := by
  refine gMl_ofK (by decide +kernel) (Nat.le_of_ble_eq_true rfl) (lv0 := [(0, .ref (ad i)), (1, .int (nI a)), (2, .int x), (3, .int y), (4, .int z)]) rfl (fun pT eT sT mT aT below meth cT AT QT C RT => ?_)
  have C : gX pT sT mT aT meth cT AT D ca ss 5 RX0 cX0_times (some .long) := C
  refine gj_aload_n C 0 dX0_times_0 rfl 0 rfl ?_
  refine gj_get C i hi hc0 inX0 rfl 0 (by decide) w_201 (v := .ref (ad j)) rfl dX0_times_1 ?_
  refine gj_iconst C (v := 3) (by decide) dX0_times_4 ?_
  refine gj_iload_n C 1 dX0_times_5 rfl 1 rfl ?_
  refine gj_imul C dX0_times_6 ?_
  refine gj_lald C j hj hc1 (a3_in0 (by omega)) dX0_times_7 ?_
  refine gj_setl (congrArg _ (a3_cl0 (by omega))) ?_
  refine gj_iload_n C 2 dX0_times_8 rfl 2 rfl ?_
  refine gj_i2l C dX0_times_9 ?_
  refine gj_lmul C dX0_times_10 ?_
  refine gj_aload_n C 0 dX0_times_11 rfl 0 rfl ?_
  refine gj_get C i hi hc0 inX0 rfl 0 (by decide) w_201 (v := .ref (ad j)) rfl dX0_times_12 ?_
  refine gj_iconst C (v := 3) (by decide) dX0_times_15 ?_
  refine gj_iload_n C 1 dX0_times_16 rfl 1 rfl ?_
  refine gj_imul C dX0_times_17 ?_
  refine gj_iconst C (v := 1) (by decide) dX0_times_18 ?_
  refine gj_iadd C dX0_times_19 ?_
  refine gj_lald C j hj hc1 (a3_in (w := 1) (by omega) (by omega)) dX0_times_20 ?_
  refine gj_setl (congrArg _ (a3_cl (w := 1) (by omega) (by omega))) ?_
  refine gj_iload_n C 3 dX0_times_21 rfl 3 rfl ?_
  refine gj_i2l C dX0_times_22 ?_
  refine gj_lmul C dX0_times_23 ?_
  refine gj_ladd C dX0_times_24 ?_
  refine gj_aload_n C 0 dX0_times_25 rfl 0 rfl ?_
  refine gj_get C i hi hc0 inX0 rfl 0 (by decide) w_201 (v := .ref (ad j)) rfl dX0_times_26 ?_
  refine gj_iconst C (v := 3) (by decide) dX0_times_29 ?_
  refine gj_iload_n C 1 dX0_times_30 rfl 1 rfl ?_
  refine gj_imul C dX0_times_31 ?_
  refine gj_iconst C (v := 2) (by decide) dX0_times_32 ?_
  refine gj_iadd C dX0_times_33 ?_
  refine gj_lald C j hj hc1 (a3_in (w := 2) (by omega) (by omega)) dX0_times_34 ?_
  refine gj_setl (congrArg _ (a3_cl (w := 2) (by omega) (by omega))) ?_
  refine gj_iload C dX0_times_35 4 rfl ?_
  refine gj_i2l C dX0_times_37 ?_
  refine gj_lmul C dX0_times_38 ?_
  refine gj_ladd C dX0_times_39 ?_
  exact RT _ _ _ _ ⟨rfl, rfl⟩ dX0_times_40
set_option maxHeartbeats 400000 in
set_option maxRecDepth 100000 in
theorem c_amul1 {l : Launch} {D : va_G} {ca ss ad : Nat → Nat} {f : Nat → va_E} (i j : Nat) (g : Nat → Int64) (hc0 : f i = .inr (0, [.ref (ad j)])) (hc1 : f j = .inl (ca 1, 12, .inr (.inl g))) (hi : i < 108) (hj : j < 108) (hij : i ≠ j) : gMv l D ca ss ad 108 yX0_multiply cX0_multiply 7 none 0 f [.ref (ad i), .int 0, .int 3, .int 1] (fun u => u = va_up f j (.inl (ca 1, 12, .inr (.inl (vp_updL (vp_updL (vp_updL g 3 (((g 1) * (g 11)) - ((g 2) * (g 10)))) 4 (((g 2) * (g 9)) - ((g 0) * (g 11)))) 5 (((g 0) * (g 10)) - ((g 1) * (g 9)))))))) := by
  refine gMv_ofK (by decide +kernel) (Nat.le_of_ble_eq_true rfl) (lv0 := [(0, .ref (ad i)), (1, .int 0), (2, .int 3), (3, .int 1)]) rfl (fun pT eT sT mT aT below meth cT AT QT C RT => ?_)
  have C : gX pT sT mT aT meth cT AT D ca ss 7 RX0 cX0_multiply none := C
  refine gj_iconst C (v := 0) (by decide) dX0_multiply_0 ?_
  refine gj_istore C (lv' := [(4, .int 0), (0, .ref (ad i)), (1, .int 0), (2, .int 3), (3, .int 1)]) dX0_multiply_1 (by decide) rfl ?_
  refine gj_iload C dX0_multiply_3 0 rfl ?_
  refine gj_iconst C (v := 3) (by decide) dX0_multiply_5 ?_
  refine gj_icmp_ge C 89 dX0_multiply_6 (by decide) (fun c_1 => absurd c_1 (by decide)) (fun c_1 => ?_)
  refine gj_iload C dX0_multiply_9 0 rfl ?_
  refine gj_iconst C (v := 1) (by decide) dX0_multiply_11 ?_
  refine gj_iadd C dX0_multiply_12 ?_
  refine gj_seti (y := 1) (by decide) ?_
  refine gj_iconst C (v := 3) (by decide) dX0_multiply_13 ?_
  refine gj_irem C (by decide) dX0_multiply_14 ?_
  refine gj_seti (y := 1) (by decide) ?_
  refine gj_istore C (lv' := [(5, .int 1), (4, .int 0), (0, .ref (ad i)), (1, .int 0), (2, .int 3), (3, .int 1)]) dX0_multiply_15 (by decide) rfl ?_
  refine gj_iload C dX0_multiply_17 1 rfl ?_
  refine gj_iconst C (v := 2) (by decide) dX0_multiply_19 ?_
  refine gj_iadd C dX0_multiply_20 ?_
  refine gj_seti (y := 2) (by decide) ?_
  refine gj_iconst C (v := 3) (by decide) dX0_multiply_21 ?_
  refine gj_irem C (by decide) dX0_multiply_22 ?_
  refine gj_seti (y := 2) (by decide) ?_
  refine gj_istore C (lv' := [(6, .int 2), (5, .int 1), (4, .int 0), (0, .ref (ad i)), (1, .int 0), (2, .int 3), (3, .int 1)]) dX0_multiply_23 (by decide) rfl ?_
  refine gj_aload_n C 0 dX0_multiply_25 rfl 3 rfl ?_
  refine gj_get C i hi hc0 inX0 rfl 0 (by decide) w_201 (v := .ref (ad j)) rfl dX0_multiply_26 ?_
  refine gj_iconst C (v := 3) (by decide) dX0_multiply_29 ?_
  refine gj_iload_n C 3 dX0_multiply_30 rfl 6 rfl ?_
  refine gj_imul C dX0_multiply_31 ?_
  refine gj_seti (y := 3) (by decide) ?_
  refine gj_iload C dX0_multiply_32 2 rfl ?_
  refine gj_iadd C dX0_multiply_34 ?_
  refine gj_seti (y := 3) (by decide) ?_
  refine gj_aload_n C 0 dX0_multiply_35 rfl 3 rfl ?_
  refine gj_get C i hi hc0 inX0 rfl 0 (by decide) w_201 (v := .ref (ad j)) rfl dX0_multiply_36 ?_
  refine gj_iconst C (v := 3) (by decide) dX0_multiply_39 ?_
  refine gj_iload_n C 1 dX0_multiply_40 rfl 4 rfl ?_
  refine gj_imul C dX0_multiply_41 ?_
  refine gj_seti (y := 0) (by decide) ?_
  refine gj_iload C dX0_multiply_42 1 rfl ?_
  refine gj_iadd C dX0_multiply_44 ?_
  refine gj_seti (y := 1) (by decide) ?_
  refine gj_lald C j hj hc1 (by unfold vp_in; decide) dX0_multiply_45 ?_
  refine gj_setl (y := g 1) rfl ?_
  refine gj_aload_n C 0 dX0_multiply_46 rfl 3 rfl ?_
  refine gj_get C i hi hc0 inX0 rfl 0 (by decide) w_201 (v := .ref (ad j)) rfl dX0_multiply_47 ?_
  refine gj_iconst C (v := 3) (by decide) dX0_multiply_50 ?_
  refine gj_iload_n C 2 dX0_multiply_51 rfl 5 rfl ?_
  refine gj_imul C dX0_multiply_52 ?_
  refine gj_seti (y := 9) (by decide) ?_
  refine gj_iload C dX0_multiply_53 0 rfl ?_
  refine gj_iadd C dX0_multiply_55 ?_
  refine gj_seti (y := 11) (by decide) ?_
  refine gj_lald C j hj hc1 (by unfold vp_in; decide) dX0_multiply_56 ?_
  refine gj_setl (y := g 11) rfl ?_
  refine gj_lmul C dX0_multiply_57 ?_
  refine gj_aload_n C 0 dX0_multiply_58 rfl 3 rfl ?_
  refine gj_get C i hi hc0 inX0 rfl 0 (by decide) w_201 (v := .ref (ad j)) rfl dX0_multiply_59 ?_
  refine gj_iconst C (v := 3) (by decide) dX0_multiply_62 ?_
  refine gj_iload_n C 1 dX0_multiply_63 rfl 4 rfl ?_
  refine gj_imul C dX0_multiply_64 ?_
  refine gj_seti (y := 0) (by decide) ?_
  refine gj_iload C dX0_multiply_65 0 rfl ?_
  refine gj_iadd C dX0_multiply_67 ?_
  refine gj_seti (y := 2) (by decide) ?_
  refine gj_lald C j hj hc1 (by unfold vp_in; decide) dX0_multiply_68 ?_
  refine gj_setl (y := g 2) rfl ?_
  refine gj_aload_n C 0 dX0_multiply_69 rfl 3 rfl ?_
  refine gj_get C i hi hc0 inX0 rfl 0 (by decide) w_201 (v := .ref (ad j)) rfl dX0_multiply_70 ?_
  refine gj_iconst C (v := 3) (by decide) dX0_multiply_73 ?_
  refine gj_iload_n C 2 dX0_multiply_74 rfl 5 rfl ?_
  refine gj_imul C dX0_multiply_75 ?_
  refine gj_seti (y := 9) (by decide) ?_
  refine gj_iload C dX0_multiply_76 1 rfl ?_
  refine gj_iadd C dX0_multiply_78 ?_
  refine gj_seti (y := 10) (by decide) ?_
  refine gj_lald C j hj hc1 (by unfold vp_in; decide) dX0_multiply_79 ?_
  refine gj_setl (y := g 10) rfl ?_
  refine gj_lmul C dX0_multiply_80 ?_
  refine gj_lsub C dX0_multiply_81 ?_
  refine gj_last C j hj hc1 (by unfold vp_in; decide) dX0_multiply_82 ?_
  refine gj_setf (g := va_up f j (.inl (ca 1, 12, .inr (.inl (vp_updL g 3 (((g 1) * (g 11)) - ((g 2) * (g 10)))))))) rfl ?_
  refine gj_iinc C (v := 1) (lv' := [(4, .int 1), (6, .int 2), (5, .int 1), (0, .ref (ad i)), (1, .int 0), (2, .int 3), (3, .int 1)]) dX0_multiply_83 2 rfl (by decide) (by decide) rfl ?_
  refine gj_goto C 3 dX0_multiply_86 (by decide) ?_
  refine gj_iload C dX0_multiply_3 0 rfl ?_
  refine gj_iconst C (v := 3) (by decide) dX0_multiply_5 ?_
  refine gj_icmp_ge C 89 dX0_multiply_6 (by decide) (fun c_2 => absurd c_2 (by decide)) (fun c_2 => ?_)
  refine gj_iload C dX0_multiply_9 0 rfl ?_
  refine gj_iconst C (v := 1) (by decide) dX0_multiply_11 ?_
  refine gj_iadd C dX0_multiply_12 ?_
  refine gj_seti (y := 2) (by decide) ?_
  refine gj_iconst C (v := 3) (by decide) dX0_multiply_13 ?_
  refine gj_irem C (by decide) dX0_multiply_14 ?_
  refine gj_seti (y := 2) (by decide) ?_
  refine gj_istore C (lv' := [(5, .int 2), (4, .int 1), (6, .int 2), (0, .ref (ad i)), (1, .int 0), (2, .int 3), (3, .int 1)]) dX0_multiply_15 (by decide) rfl ?_
  refine gj_iload C dX0_multiply_17 1 rfl ?_
  refine gj_iconst C (v := 2) (by decide) dX0_multiply_19 ?_
  refine gj_iadd C dX0_multiply_20 ?_
  refine gj_seti (y := 3) (by decide) ?_
  refine gj_iconst C (v := 3) (by decide) dX0_multiply_21 ?_
  refine gj_irem C (by decide) dX0_multiply_22 ?_
  refine gj_seti (y := 0) (by decide) ?_
  refine gj_istore C (lv' := [(6, .int 0), (5, .int 2), (4, .int 1), (0, .ref (ad i)), (1, .int 0), (2, .int 3), (3, .int 1)]) dX0_multiply_23 (by decide) rfl ?_
  refine gj_aload_n C 0 dX0_multiply_25 rfl 3 rfl ?_
  refine gj_get C i hi (up_nx hij (hc0)) inX0 rfl 0 (by decide) w_201 (v := .ref (ad j)) rfl dX0_multiply_26 ?_
  refine gj_iconst C (v := 3) (by decide) dX0_multiply_29 ?_
  refine gj_iload_n C 3 dX0_multiply_30 rfl 6 rfl ?_
  refine gj_imul C dX0_multiply_31 ?_
  refine gj_seti (y := 3) (by decide) ?_
  refine gj_iload C dX0_multiply_32 2 rfl ?_
  refine gj_iadd C dX0_multiply_34 ?_
  refine gj_seti (y := 4) (by decide) ?_
  refine gj_aload_n C 0 dX0_multiply_35 rfl 3 rfl ?_
  refine gj_get C i hi (up_nx hij (hc0)) inX0 rfl 0 (by decide) w_201 (v := .ref (ad j)) rfl dX0_multiply_36 ?_
  refine gj_iconst C (v := 3) (by decide) dX0_multiply_39 ?_
  refine gj_iload_n C 1 dX0_multiply_40 rfl 4 rfl ?_
  refine gj_imul C dX0_multiply_41 ?_
  refine gj_seti (y := 0) (by decide) ?_
  refine gj_iload C dX0_multiply_42 1 rfl ?_
  refine gj_iadd C dX0_multiply_44 ?_
  refine gj_seti (y := 2) (by decide) ?_
  refine gj_lald C j hj (va_up_self _ _ _) (by unfold vp_in; decide) dX0_multiply_45 ?_
  refine gj_setl (y := g 2) rfl ?_
  refine gj_aload_n C 0 dX0_multiply_46 rfl 3 rfl ?_
  refine gj_get C i hi (up_nx hij (hc0)) inX0 rfl 0 (by decide) w_201 (v := .ref (ad j)) rfl dX0_multiply_47 ?_
  refine gj_iconst C (v := 3) (by decide) dX0_multiply_50 ?_
  refine gj_iload_n C 2 dX0_multiply_51 rfl 5 rfl ?_
  refine gj_imul C dX0_multiply_52 ?_
  refine gj_seti (y := 9) (by decide) ?_
  refine gj_iload C dX0_multiply_53 0 rfl ?_
  refine gj_iadd C dX0_multiply_55 ?_
  refine gj_seti (y := 9) (by decide) ?_
  refine gj_lald C j hj (va_up_self _ _ _) (by unfold vp_in; decide) dX0_multiply_56 ?_
  refine gj_setl (y := g 9) rfl ?_
  refine gj_lmul C dX0_multiply_57 ?_
  refine gj_aload_n C 0 dX0_multiply_58 rfl 3 rfl ?_
  refine gj_get C i hi (up_nx hij (hc0)) inX0 rfl 0 (by decide) w_201 (v := .ref (ad j)) rfl dX0_multiply_59 ?_
  refine gj_iconst C (v := 3) (by decide) dX0_multiply_62 ?_
  refine gj_iload_n C 1 dX0_multiply_63 rfl 4 rfl ?_
  refine gj_imul C dX0_multiply_64 ?_
  refine gj_seti (y := 0) (by decide) ?_
  refine gj_iload C dX0_multiply_65 0 rfl ?_
  refine gj_iadd C dX0_multiply_67 ?_
  refine gj_seti (y := 0) (by decide) ?_
  refine gj_lald C j hj (va_up_self _ _ _) (by unfold vp_in; decide) dX0_multiply_68 ?_
  refine gj_setl (y := g 0) rfl ?_
  refine gj_aload_n C 0 dX0_multiply_69 rfl 3 rfl ?_
  refine gj_get C i hi (up_nx hij (hc0)) inX0 rfl 0 (by decide) w_201 (v := .ref (ad j)) rfl dX0_multiply_70 ?_
  refine gj_iconst C (v := 3) (by decide) dX0_multiply_73 ?_
  refine gj_iload_n C 2 dX0_multiply_74 rfl 5 rfl ?_
  refine gj_imul C dX0_multiply_75 ?_
  refine gj_seti (y := 9) (by decide) ?_
  refine gj_iload C dX0_multiply_76 1 rfl ?_
  refine gj_iadd C dX0_multiply_78 ?_
  refine gj_seti (y := 11) (by decide) ?_
  refine gj_lald C j hj (va_up_self _ _ _) (by unfold vp_in; decide) dX0_multiply_79 ?_
  refine gj_setl (y := g 11) rfl ?_
  refine gj_lmul C dX0_multiply_80 ?_
  refine gj_lsub C dX0_multiply_81 ?_
  refine gj_last C j hj (va_up_self _ _ _) (by unfold vp_in; decide) dX0_multiply_82 ?_
  refine gj_setf (bx_uu _ _ _ _) ?_
  refine gj_setf (g := va_up f j (.inl (ca 1, 12, .inr (.inl (vp_updL (vp_updL g 3 (((g 1) * (g 11)) - ((g 2) * (g 10)))) 4 (((g 2) * (g 9)) - ((g 0) * (g 11)))))))) rfl ?_
  refine gj_iinc C (v := 2) (lv' := [(4, .int 2), (6, .int 0), (5, .int 2), (0, .ref (ad i)), (1, .int 0), (2, .int 3), (3, .int 1)]) dX0_multiply_83 2 rfl (by decide) (by decide) rfl ?_
  refine gj_goto C 3 dX0_multiply_86 (by decide) ?_
  refine gj_iload C dX0_multiply_3 0 rfl ?_
  refine gj_iconst C (v := 3) (by decide) dX0_multiply_5 ?_
  refine gj_icmp_ge C 89 dX0_multiply_6 (by decide) (fun c_3 => absurd c_3 (by decide)) (fun c_3 => ?_)
  refine gj_iload C dX0_multiply_9 0 rfl ?_
  refine gj_iconst C (v := 1) (by decide) dX0_multiply_11 ?_
  refine gj_iadd C dX0_multiply_12 ?_
  refine gj_seti (y := 3) (by decide) ?_
  refine gj_iconst C (v := 3) (by decide) dX0_multiply_13 ?_
  refine gj_irem C (by decide) dX0_multiply_14 ?_
  refine gj_seti (y := 0) (by decide) ?_
  refine gj_istore C (lv' := [(5, .int 0), (4, .int 2), (6, .int 0), (0, .ref (ad i)), (1, .int 0), (2, .int 3), (3, .int 1)]) dX0_multiply_15 (by decide) rfl ?_
  refine gj_iload C dX0_multiply_17 1 rfl ?_
  refine gj_iconst C (v := 2) (by decide) dX0_multiply_19 ?_
  refine gj_iadd C dX0_multiply_20 ?_
  refine gj_seti (y := 4) (by decide) ?_
  refine gj_iconst C (v := 3) (by decide) dX0_multiply_21 ?_
  refine gj_irem C (by decide) dX0_multiply_22 ?_
  refine gj_seti (y := 1) (by decide) ?_
  refine gj_istore C (lv' := [(6, .int 1), (5, .int 0), (4, .int 2), (0, .ref (ad i)), (1, .int 0), (2, .int 3), (3, .int 1)]) dX0_multiply_23 (by decide) rfl ?_
  refine gj_aload_n C 0 dX0_multiply_25 rfl 3 rfl ?_
  refine gj_get C i hi (up_nx hij (hc0)) inX0 rfl 0 (by decide) w_201 (v := .ref (ad j)) rfl dX0_multiply_26 ?_
  refine gj_iconst C (v := 3) (by decide) dX0_multiply_29 ?_
  refine gj_iload_n C 3 dX0_multiply_30 rfl 6 rfl ?_
  refine gj_imul C dX0_multiply_31 ?_
  refine gj_seti (y := 3) (by decide) ?_
  refine gj_iload C dX0_multiply_32 2 rfl ?_
  refine gj_iadd C dX0_multiply_34 ?_
  refine gj_seti (y := 5) (by decide) ?_
  refine gj_aload_n C 0 dX0_multiply_35 rfl 3 rfl ?_
  refine gj_get C i hi (up_nx hij (hc0)) inX0 rfl 0 (by decide) w_201 (v := .ref (ad j)) rfl dX0_multiply_36 ?_
  refine gj_iconst C (v := 3) (by decide) dX0_multiply_39 ?_
  refine gj_iload_n C 1 dX0_multiply_40 rfl 4 rfl ?_
  refine gj_imul C dX0_multiply_41 ?_
  refine gj_seti (y := 0) (by decide) ?_
  refine gj_iload C dX0_multiply_42 1 rfl ?_
  refine gj_iadd C dX0_multiply_44 ?_
  refine gj_seti (y := 0) (by decide) ?_
  refine gj_lald C j hj (va_up_self _ _ _) (by unfold vp_in; decide) dX0_multiply_45 ?_
  refine gj_setl (y := g 0) rfl ?_
  refine gj_aload_n C 0 dX0_multiply_46 rfl 3 rfl ?_
  refine gj_get C i hi (up_nx hij (hc0)) inX0 rfl 0 (by decide) w_201 (v := .ref (ad j)) rfl dX0_multiply_47 ?_
  refine gj_iconst C (v := 3) (by decide) dX0_multiply_50 ?_
  refine gj_iload_n C 2 dX0_multiply_51 rfl 5 rfl ?_
  refine gj_imul C dX0_multiply_52 ?_
  refine gj_seti (y := 9) (by decide) ?_
  refine gj_iload C dX0_multiply_53 0 rfl ?_
  refine gj_iadd C dX0_multiply_55 ?_
  refine gj_seti (y := 10) (by decide) ?_
  refine gj_lald C j hj (va_up_self _ _ _) (by unfold vp_in; decide) dX0_multiply_56 ?_
  refine gj_setl (y := g 10) rfl ?_
  refine gj_lmul C dX0_multiply_57 ?_
  refine gj_aload_n C 0 dX0_multiply_58 rfl 3 rfl ?_
  refine gj_get C i hi (up_nx hij (hc0)) inX0 rfl 0 (by decide) w_201 (v := .ref (ad j)) rfl dX0_multiply_59 ?_
  refine gj_iconst C (v := 3) (by decide) dX0_multiply_62 ?_
  refine gj_iload_n C 1 dX0_multiply_63 rfl 4 rfl ?_
  refine gj_imul C dX0_multiply_64 ?_
  refine gj_seti (y := 0) (by decide) ?_
  refine gj_iload C dX0_multiply_65 0 rfl ?_
  refine gj_iadd C dX0_multiply_67 ?_
  refine gj_seti (y := 1) (by decide) ?_
  refine gj_lald C j hj (va_up_self _ _ _) (by unfold vp_in; decide) dX0_multiply_68 ?_
  refine gj_setl (y := g 1) rfl ?_
  refine gj_aload_n C 0 dX0_multiply_69 rfl 3 rfl ?_
  refine gj_get C i hi (up_nx hij (hc0)) inX0 rfl 0 (by decide) w_201 (v := .ref (ad j)) rfl dX0_multiply_70 ?_
  refine gj_iconst C (v := 3) (by decide) dX0_multiply_73 ?_
  refine gj_iload_n C 2 dX0_multiply_74 rfl 5 rfl ?_
  refine gj_imul C dX0_multiply_75 ?_
  refine gj_seti (y := 9) (by decide) ?_
  refine gj_iload C dX0_multiply_76 1 rfl ?_
  refine gj_iadd C dX0_multiply_78 ?_
  refine gj_seti (y := 9) (by decide) ?_
  refine gj_lald C j hj (va_up_self _ _ _) (by unfold vp_in; decide) dX0_multiply_79 ?_
  refine gj_setl (y := g 9) rfl ?_
  refine gj_lmul C dX0_multiply_80 ?_
  refine gj_lsub C dX0_multiply_81 ?_
  refine gj_last C j hj (va_up_self _ _ _) (by unfold vp_in; decide) dX0_multiply_82 ?_
  refine gj_setf (bx_uu _ _ _ _) ?_
  refine gj_setf (g := va_up f j (.inl (ca 1, 12, .inr (.inl (vp_updL (vp_updL (vp_updL g 3 (((g 1) * (g 11)) - ((g 2) * (g 10)))) 4 (((g 2) * (g 9)) - ((g 0) * (g 11)))) 5 (((g 0) * (g 10)) - ((g 1) * (g 9)))))))) rfl ?_
  refine gj_iinc C (v := 3) (lv' := [(4, .int 3), (6, .int 1), (5, .int 0), (0, .ref (ad i)), (1, .int 0), (2, .int 3), (3, .int 1)]) dX0_multiply_83 2 rfl (by decide) (by decide) rfl ?_
  refine gj_goto C 3 dX0_multiply_86 (by decide) ?_
  refine gj_iload C dX0_multiply_3 0 rfl ?_
  refine gj_iconst C (v := 3) (by decide) dX0_multiply_5 ?_
  refine gj_icmp_ge C 89 dX0_multiply_6 (by decide) (fun c_4 => ?_) (fun c_4 => absurd (by decide) c_4)
  exact RT _ _ _ rfl dX0_multiply_89
set_option maxHeartbeats 400000 in
set_option maxRecDepth 100000 in
theorem c_amul2 {l : Launch} {D : va_G} {ca ss ad : Nat → Nat} {f : Nat → va_E} (i j : Nat) (g : Nat → Int64) (hc0 : f i = .inr (0, [.ref (ad j)])) (hc1 : f j = .inl (ca 1, 12, .inr (.inl g))) (hi : i < 108) (hj : j < 108) (hij : i ≠ j) : gMv l D ca ss ad 108 yX0_multiply cX0_multiply 7 none 0 f [.ref (ad i), .int 0, .int 1, .int 2] (fun u => u = va_up f j (.inl (ca 1, 12, .inr (.inl (vp_updL (vp_updL (vp_updL g 6 (((g 1) * (g 5)) - ((g 2) * (g 4)))) 7 (((g 2) * (g 3)) - ((g 0) * (g 5)))) 8 (((g 0) * (g 4)) - ((g 1) * (g 3)))))))) := by
  refine gMv_ofK (by decide +kernel) (Nat.le_of_ble_eq_true rfl) (lv0 := [(0, .ref (ad i)), (1, .int 0), (2, .int 1), (3, .int 2)]) rfl (fun pT eT sT mT aT below meth cT AT QT C RT => ?_)
  have C : gX pT sT mT aT meth cT AT D ca ss 7 RX0 cX0_multiply none := C
  refine gj_iconst C (v := 0) (by decide) dX0_multiply_0 ?_
  refine gj_istore C (lv' := [(4, .int 0), (0, .ref (ad i)), (1, .int 0), (2, .int 1), (3, .int 2)]) dX0_multiply_1 (by decide) rfl ?_
  refine gj_iload C dX0_multiply_3 0 rfl ?_
  refine gj_iconst C (v := 3) (by decide) dX0_multiply_5 ?_
  refine gj_icmp_ge C 89 dX0_multiply_6 (by decide) (fun c_1 => absurd c_1 (by decide)) (fun c_1 => ?_)
  refine gj_iload C dX0_multiply_9 0 rfl ?_
  refine gj_iconst C (v := 1) (by decide) dX0_multiply_11 ?_
  refine gj_iadd C dX0_multiply_12 ?_
  refine gj_seti (y := 1) (by decide) ?_
  refine gj_iconst C (v := 3) (by decide) dX0_multiply_13 ?_
  refine gj_irem C (by decide) dX0_multiply_14 ?_
  refine gj_seti (y := 1) (by decide) ?_
  refine gj_istore C (lv' := [(5, .int 1), (4, .int 0), (0, .ref (ad i)), (1, .int 0), (2, .int 1), (3, .int 2)]) dX0_multiply_15 (by decide) rfl ?_
  refine gj_iload C dX0_multiply_17 1 rfl ?_
  refine gj_iconst C (v := 2) (by decide) dX0_multiply_19 ?_
  refine gj_iadd C dX0_multiply_20 ?_
  refine gj_seti (y := 2) (by decide) ?_
  refine gj_iconst C (v := 3) (by decide) dX0_multiply_21 ?_
  refine gj_irem C (by decide) dX0_multiply_22 ?_
  refine gj_seti (y := 2) (by decide) ?_
  refine gj_istore C (lv' := [(6, .int 2), (5, .int 1), (4, .int 0), (0, .ref (ad i)), (1, .int 0), (2, .int 1), (3, .int 2)]) dX0_multiply_23 (by decide) rfl ?_
  refine gj_aload_n C 0 dX0_multiply_25 rfl 3 rfl ?_
  refine gj_get C i hi hc0 inX0 rfl 0 (by decide) w_201 (v := .ref (ad j)) rfl dX0_multiply_26 ?_
  refine gj_iconst C (v := 3) (by decide) dX0_multiply_29 ?_
  refine gj_iload_n C 3 dX0_multiply_30 rfl 6 rfl ?_
  refine gj_imul C dX0_multiply_31 ?_
  refine gj_seti (y := 6) (by decide) ?_
  refine gj_iload C dX0_multiply_32 2 rfl ?_
  refine gj_iadd C dX0_multiply_34 ?_
  refine gj_seti (y := 6) (by decide) ?_
  refine gj_aload_n C 0 dX0_multiply_35 rfl 3 rfl ?_
  refine gj_get C i hi hc0 inX0 rfl 0 (by decide) w_201 (v := .ref (ad j)) rfl dX0_multiply_36 ?_
  refine gj_iconst C (v := 3) (by decide) dX0_multiply_39 ?_
  refine gj_iload_n C 1 dX0_multiply_40 rfl 4 rfl ?_
  refine gj_imul C dX0_multiply_41 ?_
  refine gj_seti (y := 0) (by decide) ?_
  refine gj_iload C dX0_multiply_42 1 rfl ?_
  refine gj_iadd C dX0_multiply_44 ?_
  refine gj_seti (y := 1) (by decide) ?_
  refine gj_lald C j hj hc1 (by unfold vp_in; decide) dX0_multiply_45 ?_
  refine gj_setl (y := g 1) rfl ?_
  refine gj_aload_n C 0 dX0_multiply_46 rfl 3 rfl ?_
  refine gj_get C i hi hc0 inX0 rfl 0 (by decide) w_201 (v := .ref (ad j)) rfl dX0_multiply_47 ?_
  refine gj_iconst C (v := 3) (by decide) dX0_multiply_50 ?_
  refine gj_iload_n C 2 dX0_multiply_51 rfl 5 rfl ?_
  refine gj_imul C dX0_multiply_52 ?_
  refine gj_seti (y := 3) (by decide) ?_
  refine gj_iload C dX0_multiply_53 0 rfl ?_
  refine gj_iadd C dX0_multiply_55 ?_
  refine gj_seti (y := 5) (by decide) ?_
  refine gj_lald C j hj hc1 (by unfold vp_in; decide) dX0_multiply_56 ?_
  refine gj_setl (y := g 5) rfl ?_
  refine gj_lmul C dX0_multiply_57 ?_
  refine gj_aload_n C 0 dX0_multiply_58 rfl 3 rfl ?_
  refine gj_get C i hi hc0 inX0 rfl 0 (by decide) w_201 (v := .ref (ad j)) rfl dX0_multiply_59 ?_
  refine gj_iconst C (v := 3) (by decide) dX0_multiply_62 ?_
  refine gj_iload_n C 1 dX0_multiply_63 rfl 4 rfl ?_
  refine gj_imul C dX0_multiply_64 ?_
  refine gj_seti (y := 0) (by decide) ?_
  refine gj_iload C dX0_multiply_65 0 rfl ?_
  refine gj_iadd C dX0_multiply_67 ?_
  refine gj_seti (y := 2) (by decide) ?_
  refine gj_lald C j hj hc1 (by unfold vp_in; decide) dX0_multiply_68 ?_
  refine gj_setl (y := g 2) rfl ?_
  refine gj_aload_n C 0 dX0_multiply_69 rfl 3 rfl ?_
  refine gj_get C i hi hc0 inX0 rfl 0 (by decide) w_201 (v := .ref (ad j)) rfl dX0_multiply_70 ?_
  refine gj_iconst C (v := 3) (by decide) dX0_multiply_73 ?_
  refine gj_iload_n C 2 dX0_multiply_74 rfl 5 rfl ?_
  refine gj_imul C dX0_multiply_75 ?_
  refine gj_seti (y := 3) (by decide) ?_
  refine gj_iload C dX0_multiply_76 1 rfl ?_
  refine gj_iadd C dX0_multiply_78 ?_
  refine gj_seti (y := 4) (by decide) ?_
  refine gj_lald C j hj hc1 (by unfold vp_in; decide) dX0_multiply_79 ?_
  refine gj_setl (y := g 4) rfl ?_
  refine gj_lmul C dX0_multiply_80 ?_
  refine gj_lsub C dX0_multiply_81 ?_
  refine gj_last C j hj hc1 (by unfold vp_in; decide) dX0_multiply_82 ?_
  refine gj_setf (g := va_up f j (.inl (ca 1, 12, .inr (.inl (vp_updL g 6 (((g 1) * (g 5)) - ((g 2) * (g 4)))))))) rfl ?_
  refine gj_iinc C (v := 1) (lv' := [(4, .int 1), (6, .int 2), (5, .int 1), (0, .ref (ad i)), (1, .int 0), (2, .int 1), (3, .int 2)]) dX0_multiply_83 2 rfl (by decide) (by decide) rfl ?_
  refine gj_goto C 3 dX0_multiply_86 (by decide) ?_
  refine gj_iload C dX0_multiply_3 0 rfl ?_
  refine gj_iconst C (v := 3) (by decide) dX0_multiply_5 ?_
  refine gj_icmp_ge C 89 dX0_multiply_6 (by decide) (fun c_2 => absurd c_2 (by decide)) (fun c_2 => ?_)
  refine gj_iload C dX0_multiply_9 0 rfl ?_
  refine gj_iconst C (v := 1) (by decide) dX0_multiply_11 ?_
  refine gj_iadd C dX0_multiply_12 ?_
  refine gj_seti (y := 2) (by decide) ?_
  refine gj_iconst C (v := 3) (by decide) dX0_multiply_13 ?_
  refine gj_irem C (by decide) dX0_multiply_14 ?_
  refine gj_seti (y := 2) (by decide) ?_
  refine gj_istore C (lv' := [(5, .int 2), (4, .int 1), (6, .int 2), (0, .ref (ad i)), (1, .int 0), (2, .int 1), (3, .int 2)]) dX0_multiply_15 (by decide) rfl ?_
  refine gj_iload C dX0_multiply_17 1 rfl ?_
  refine gj_iconst C (v := 2) (by decide) dX0_multiply_19 ?_
  refine gj_iadd C dX0_multiply_20 ?_
  refine gj_seti (y := 3) (by decide) ?_
  refine gj_iconst C (v := 3) (by decide) dX0_multiply_21 ?_
  refine gj_irem C (by decide) dX0_multiply_22 ?_
  refine gj_seti (y := 0) (by decide) ?_
  refine gj_istore C (lv' := [(6, .int 0), (5, .int 2), (4, .int 1), (0, .ref (ad i)), (1, .int 0), (2, .int 1), (3, .int 2)]) dX0_multiply_23 (by decide) rfl ?_
  refine gj_aload_n C 0 dX0_multiply_25 rfl 3 rfl ?_
  refine gj_get C i hi (up_nx hij (hc0)) inX0 rfl 0 (by decide) w_201 (v := .ref (ad j)) rfl dX0_multiply_26 ?_
  refine gj_iconst C (v := 3) (by decide) dX0_multiply_29 ?_
  refine gj_iload_n C 3 dX0_multiply_30 rfl 6 rfl ?_
  refine gj_imul C dX0_multiply_31 ?_
  refine gj_seti (y := 6) (by decide) ?_
  refine gj_iload C dX0_multiply_32 2 rfl ?_
  refine gj_iadd C dX0_multiply_34 ?_
  refine gj_seti (y := 7) (by decide) ?_
  refine gj_aload_n C 0 dX0_multiply_35 rfl 3 rfl ?_
  refine gj_get C i hi (up_nx hij (hc0)) inX0 rfl 0 (by decide) w_201 (v := .ref (ad j)) rfl dX0_multiply_36 ?_
  refine gj_iconst C (v := 3) (by decide) dX0_multiply_39 ?_
  refine gj_iload_n C 1 dX0_multiply_40 rfl 4 rfl ?_
  refine gj_imul C dX0_multiply_41 ?_
  refine gj_seti (y := 0) (by decide) ?_
  refine gj_iload C dX0_multiply_42 1 rfl ?_
  refine gj_iadd C dX0_multiply_44 ?_
  refine gj_seti (y := 2) (by decide) ?_
  refine gj_lald C j hj (va_up_self _ _ _) (by unfold vp_in; decide) dX0_multiply_45 ?_
  refine gj_setl (y := g 2) rfl ?_
  refine gj_aload_n C 0 dX0_multiply_46 rfl 3 rfl ?_
  refine gj_get C i hi (up_nx hij (hc0)) inX0 rfl 0 (by decide) w_201 (v := .ref (ad j)) rfl dX0_multiply_47 ?_
  refine gj_iconst C (v := 3) (by decide) dX0_multiply_50 ?_
  refine gj_iload_n C 2 dX0_multiply_51 rfl 5 rfl ?_
  refine gj_imul C dX0_multiply_52 ?_
  refine gj_seti (y := 3) (by decide) ?_
  refine gj_iload C dX0_multiply_53 0 rfl ?_
  refine gj_iadd C dX0_multiply_55 ?_
  refine gj_seti (y := 3) (by decide) ?_
  refine gj_lald C j hj (va_up_self _ _ _) (by unfold vp_in; decide) dX0_multiply_56 ?_
  refine gj_setl (y := g 3) rfl ?_
  refine gj_lmul C dX0_multiply_57 ?_
  refine gj_aload_n C 0 dX0_multiply_58 rfl 3 rfl ?_
  refine gj_get C i hi (up_nx hij (hc0)) inX0 rfl 0 (by decide) w_201 (v := .ref (ad j)) rfl dX0_multiply_59 ?_
  refine gj_iconst C (v := 3) (by decide) dX0_multiply_62 ?_
  refine gj_iload_n C 1 dX0_multiply_63 rfl 4 rfl ?_
  refine gj_imul C dX0_multiply_64 ?_
  refine gj_seti (y := 0) (by decide) ?_
  refine gj_iload C dX0_multiply_65 0 rfl ?_
  refine gj_iadd C dX0_multiply_67 ?_
  refine gj_seti (y := 0) (by decide) ?_
  refine gj_lald C j hj (va_up_self _ _ _) (by unfold vp_in; decide) dX0_multiply_68 ?_
  refine gj_setl (y := g 0) rfl ?_
  refine gj_aload_n C 0 dX0_multiply_69 rfl 3 rfl ?_
  refine gj_get C i hi (up_nx hij (hc0)) inX0 rfl 0 (by decide) w_201 (v := .ref (ad j)) rfl dX0_multiply_70 ?_
  refine gj_iconst C (v := 3) (by decide) dX0_multiply_73 ?_
  refine gj_iload_n C 2 dX0_multiply_74 rfl 5 rfl ?_
  refine gj_imul C dX0_multiply_75 ?_
  refine gj_seti (y := 3) (by decide) ?_
  refine gj_iload C dX0_multiply_76 1 rfl ?_
  refine gj_iadd C dX0_multiply_78 ?_
  refine gj_seti (y := 5) (by decide) ?_
  refine gj_lald C j hj (va_up_self _ _ _) (by unfold vp_in; decide) dX0_multiply_79 ?_
  refine gj_setl (y := g 5) rfl ?_
  refine gj_lmul C dX0_multiply_80 ?_
  refine gj_lsub C dX0_multiply_81 ?_
  refine gj_last C j hj (va_up_self _ _ _) (by unfold vp_in; decide) dX0_multiply_82 ?_
  refine gj_setf (bx_uu _ _ _ _) ?_
  refine gj_setf (g := va_up f j (.inl (ca 1, 12, .inr (.inl (vp_updL (vp_updL g 6 (((g 1) * (g 5)) - ((g 2) * (g 4)))) 7 (((g 2) * (g 3)) - ((g 0) * (g 5)))))))) rfl ?_
  refine gj_iinc C (v := 2) (lv' := [(4, .int 2), (6, .int 0), (5, .int 2), (0, .ref (ad i)), (1, .int 0), (2, .int 1), (3, .int 2)]) dX0_multiply_83 2 rfl (by decide) (by decide) rfl ?_
  refine gj_goto C 3 dX0_multiply_86 (by decide) ?_
  refine gj_iload C dX0_multiply_3 0 rfl ?_
  refine gj_iconst C (v := 3) (by decide) dX0_multiply_5 ?_
  refine gj_icmp_ge C 89 dX0_multiply_6 (by decide) (fun c_3 => absurd c_3 (by decide)) (fun c_3 => ?_)
  refine gj_iload C dX0_multiply_9 0 rfl ?_
  refine gj_iconst C (v := 1) (by decide) dX0_multiply_11 ?_
  refine gj_iadd C dX0_multiply_12 ?_
  refine gj_seti (y := 3) (by decide) ?_
  refine gj_iconst C (v := 3) (by decide) dX0_multiply_13 ?_
  refine gj_irem C (by decide) dX0_multiply_14 ?_
  refine gj_seti (y := 0) (by decide) ?_
  refine gj_istore C (lv' := [(5, .int 0), (4, .int 2), (6, .int 0), (0, .ref (ad i)), (1, .int 0), (2, .int 1), (3, .int 2)]) dX0_multiply_15 (by decide) rfl ?_
  refine gj_iload C dX0_multiply_17 1 rfl ?_
  refine gj_iconst C (v := 2) (by decide) dX0_multiply_19 ?_
  refine gj_iadd C dX0_multiply_20 ?_
  refine gj_seti (y := 4) (by decide) ?_
  refine gj_iconst C (v := 3) (by decide) dX0_multiply_21 ?_
  refine gj_irem C (by decide) dX0_multiply_22 ?_
  refine gj_seti (y := 1) (by decide) ?_
  refine gj_istore C (lv' := [(6, .int 1), (5, .int 0), (4, .int 2), (0, .ref (ad i)), (1, .int 0), (2, .int 1), (3, .int 2)]) dX0_multiply_23 (by decide) rfl ?_
  refine gj_aload_n C 0 dX0_multiply_25 rfl 3 rfl ?_
  refine gj_get C i hi (up_nx hij (hc0)) inX0 rfl 0 (by decide) w_201 (v := .ref (ad j)) rfl dX0_multiply_26 ?_
  refine gj_iconst C (v := 3) (by decide) dX0_multiply_29 ?_
  refine gj_iload_n C 3 dX0_multiply_30 rfl 6 rfl ?_
  refine gj_imul C dX0_multiply_31 ?_
  refine gj_seti (y := 6) (by decide) ?_
  refine gj_iload C dX0_multiply_32 2 rfl ?_
  refine gj_iadd C dX0_multiply_34 ?_
  refine gj_seti (y := 8) (by decide) ?_
  refine gj_aload_n C 0 dX0_multiply_35 rfl 3 rfl ?_
  refine gj_get C i hi (up_nx hij (hc0)) inX0 rfl 0 (by decide) w_201 (v := .ref (ad j)) rfl dX0_multiply_36 ?_
  refine gj_iconst C (v := 3) (by decide) dX0_multiply_39 ?_
  refine gj_iload_n C 1 dX0_multiply_40 rfl 4 rfl ?_
  refine gj_imul C dX0_multiply_41 ?_
  refine gj_seti (y := 0) (by decide) ?_
  refine gj_iload C dX0_multiply_42 1 rfl ?_
  refine gj_iadd C dX0_multiply_44 ?_
  refine gj_seti (y := 0) (by decide) ?_
  refine gj_lald C j hj (va_up_self _ _ _) (by unfold vp_in; decide) dX0_multiply_45 ?_
  refine gj_setl (y := g 0) rfl ?_
  refine gj_aload_n C 0 dX0_multiply_46 rfl 3 rfl ?_
  refine gj_get C i hi (up_nx hij (hc0)) inX0 rfl 0 (by decide) w_201 (v := .ref (ad j)) rfl dX0_multiply_47 ?_
  refine gj_iconst C (v := 3) (by decide) dX0_multiply_50 ?_
  refine gj_iload_n C 2 dX0_multiply_51 rfl 5 rfl ?_
  refine gj_imul C dX0_multiply_52 ?_
  refine gj_seti (y := 3) (by decide) ?_
  refine gj_iload C dX0_multiply_53 0 rfl ?_
  refine gj_iadd C dX0_multiply_55 ?_
  refine gj_seti (y := 4) (by decide) ?_
  refine gj_lald C j hj (va_up_self _ _ _) (by unfold vp_in; decide) dX0_multiply_56 ?_
  refine gj_setl (y := g 4) rfl ?_
  refine gj_lmul C dX0_multiply_57 ?_
  refine gj_aload_n C 0 dX0_multiply_58 rfl 3 rfl ?_
  refine gj_get C i hi (up_nx hij (hc0)) inX0 rfl 0 (by decide) w_201 (v := .ref (ad j)) rfl dX0_multiply_59 ?_
  refine gj_iconst C (v := 3) (by decide) dX0_multiply_62 ?_
  refine gj_iload_n C 1 dX0_multiply_63 rfl 4 rfl ?_
  refine gj_imul C dX0_multiply_64 ?_
  refine gj_seti (y := 0) (by decide) ?_
  refine gj_iload C dX0_multiply_65 0 rfl ?_
  refine gj_iadd C dX0_multiply_67 ?_
  refine gj_seti (y := 1) (by decide) ?_
  refine gj_lald C j hj (va_up_self _ _ _) (by unfold vp_in; decide) dX0_multiply_68 ?_
  refine gj_setl (y := g 1) rfl ?_
  refine gj_aload_n C 0 dX0_multiply_69 rfl 3 rfl ?_
  refine gj_get C i hi (up_nx hij (hc0)) inX0 rfl 0 (by decide) w_201 (v := .ref (ad j)) rfl dX0_multiply_70 ?_
  refine gj_iconst C (v := 3) (by decide) dX0_multiply_73 ?_
  refine gj_iload_n C 2 dX0_multiply_74 rfl 5 rfl ?_
  refine gj_imul C dX0_multiply_75 ?_
  refine gj_seti (y := 3) (by decide) ?_
  refine gj_iload C dX0_multiply_76 1 rfl ?_
  refine gj_iadd C dX0_multiply_78 ?_
  refine gj_seti (y := 3) (by decide) ?_
  refine gj_lald C j hj (va_up_self _ _ _) (by unfold vp_in; decide) dX0_multiply_79 ?_
  refine gj_setl (y := g 3) rfl ?_
  refine gj_lmul C dX0_multiply_80 ?_
  refine gj_lsub C dX0_multiply_81 ?_
  refine gj_last C j hj (va_up_self _ _ _) (by unfold vp_in; decide) dX0_multiply_82 ?_
  refine gj_setf (bx_uu _ _ _ _) ?_
  refine gj_setf (g := va_up f j (.inl (ca 1, 12, .inr (.inl (vp_updL (vp_updL (vp_updL g 6 (((g 1) * (g 5)) - ((g 2) * (g 4)))) 7 (((g 2) * (g 3)) - ((g 0) * (g 5)))) 8 (((g 0) * (g 4)) - ((g 1) * (g 3)))))))) rfl ?_
  refine gj_iinc C (v := 3) (lv' := [(4, .int 3), (6, .int 1), (5, .int 0), (0, .ref (ad i)), (1, .int 0), (2, .int 1), (3, .int 2)]) dX0_multiply_83 2 rfl (by decide) (by decide) rfl ?_
  refine gj_goto C 3 dX0_multiply_86 (by decide) ?_
  refine gj_iload C dX0_multiply_3 0 rfl ?_
  refine gj_iconst C (v := 3) (by decide) dX0_multiply_5 ?_
  refine gj_icmp_ge C 89 dX0_multiply_6 (by decide) (fun c_4 => ?_) (fun c_4 => absurd (by decide) c_4)
  exact RT _ _ _ rfl dX0_multiply_89
set_option maxHeartbeats 400000 in
set_option maxRecDepth 100000 in
theorem c_X0_build {l : Launch} {D : va_G} {ca ss ad : Nat → Nat} {f : Nat → va_E} (i j d e : Nat) (x y : Int32) (g : Nat → Int64) (rm sz : Int32) (nn : Nat) (q : Nat → Int32) (hc0 : f i = .inr (0, [.ref (ad j)])) (hc1 : f j = .inl (ca 1, 12, .inr (.inl g))) (hc2 : f d = .inr (1, [.ref (ad e), .int rm, .int sz])) (hc3 : f e = .inl (ca 0, nn, .inl q)) (hi : i < 108) (hj : j < 108) (hd : d < 108) (he : e < 108) (hij : i ≠ j) (hid : i ≠ d) (hie : i ≠ e) (hjd : j ≠ d) (hje : j ≠ e) (hde : d ≠ e) (hsz : 0 ≤ sz.toInt ∧ 3 * sz.toInt ≤ nn ∧ nn ≤ 36) : gMv l D ca ss ad 108 yX0_build cX0_build 5 none 2 f [.ref (ad i), .ref (ad d), .int x, .int y] (fun u => u = va_up f j (.inl (ca 1, 12, .inr (.inl (armC g (t3 (s_X1_part x (0 : Int32) sz q).toInt64 (s_X1_part x (1 : Int32) sz q).toInt64 (s_X1_part x (2 : Int32) sz q).toInt64) (t3 (s_X1_part y (0 : Int32) sz q).toInt64 (s_X1_part y (1 : Int32) sz q).toInt64 (s_X1_part y (2 : Int32) sz q).toInt64)))))) := by
  refine gMv_ofK (by decide +kernel) (Nat.le_of_ble_eq_true rfl) (lv0 := [(0, .ref (ad i)), (1, .ref (ad d)), (2, .int x), (3, .int y)]) rfl (fun pT eT sT mT aT below meth cT AT QT C RT => ?_)
  have C : gX pT sT mT aT meth cT AT D ca ss 5 RX0 cX0_build none := C
  refine gj_iconst C (v := 0) (by decide) dX0_build_0 ?_
  refine gj_istore C (lv' := [(4, .int 0), (0, .ref (ad i)), (1, .ref (ad d)), (2, .int x), (3, .int y)]) dX0_build_1 (by decide) rfl ?_
  refine gj_iload C dX0_build_3 0 rfl ?_
  refine gj_iconst C (v := 3) (by decide) dX0_build_5 ?_
  refine gj_icmp_ge C 48 dX0_build_6 (by decide) (fun c_1 => absurd c_1 (by decide)) (fun c_1 => ?_)
  refine gj_aload_n C 0 dX0_build_9 rfl 1 rfl ?_
  refine gj_get C i hi hc0 inX0 rfl 0 (by decide) w_201 (v := .ref (ad j)) rfl dX0_build_10 ?_
  refine gj_iload C dX0_build_13 0 rfl ?_
  refine gj_aload_n C 1 dX0_build_15 rfl 2 rfl ?_
  refine gj_iload_n C 2 dX0_build_16 rfl 3 rfl ?_
  refine gj_iload C dX0_build_17 0 rfl ?_
  refine gj_callVi C mi_X1_part w_597 d hd hc2 rfl (c_X1_part d e x (0 : Int32) rm sz nn q hc2 hc3 hd he hde hsz) mc_X1_part ⟨Nat.le_of_ble_eq_true rfl, Nat.le_of_ble_eq_true rfl⟩ (rest := [.int 0, .ref (ad j)]) rfl (Nat.le_of_ble_eq_true rfl) dX0_build_19 (fun r u h => ?_)
  obtain ⟨hr_, h⟩ := h; rw [hr_]
  rw [h]
  refine gj_i2l C dX0_build_22 ?_
  refine gj_last C j hj hc1 (by unfold vp_in; decide) dX0_build_23 ?_
  refine gj_setf (g := va_up f j (.inl (ca 1, 12, .inr (.inl (vp_updL g 0 ((s_X1_part x (0 : Int32) sz q).toInt64)))))) rfl ?_
  refine gj_aload_n C 0 dX0_build_24 rfl 1 rfl ?_
  refine gj_get C i hi (up_nx hij (hc0)) inX0 rfl 0 (by decide) w_201 (v := .ref (ad j)) rfl dX0_build_25 ?_
  refine gj_bipush C (v := 9) (by decide) dX0_build_28 ?_
  refine gj_iload C dX0_build_30 0 rfl ?_
  refine gj_iadd C dX0_build_32 ?_
  refine gj_seti (y := 9) (by decide) ?_
  refine gj_aload_n C 1 dX0_build_33 rfl 2 rfl ?_
  refine gj_iload_n C 3 dX0_build_34 rfl 4 rfl ?_
  refine gj_iload C dX0_build_35 0 rfl ?_
  refine gj_callVi C mi_X1_part w_597 d hd (up_nx (fun z => hjd z.symm) (hc2)) rfl (c_X1_part d e y (0 : Int32) rm sz nn q (up_nx (fun z => hjd z.symm) (hc2)) (up_nx (fun z => hje z.symm) (hc3)) hd he hde hsz) mc_X1_part ⟨Nat.le_of_ble_eq_true rfl, Nat.le_of_ble_eq_true rfl⟩ (rest := [.int 9, .ref (ad j)]) rfl (Nat.le_of_ble_eq_true rfl) dX0_build_37 (fun r u h => ?_)
  obtain ⟨hr_, hu_⟩ := h; rw [hr_]; subst hu_
  refine gj_i2l C dX0_build_40 ?_
  refine gj_last C j hj (va_up_self _ _ _) (by unfold vp_in; decide) dX0_build_41 ?_
  refine gj_setf (bx_uu _ _ _ _) ?_
  refine gj_setf (g := va_up f j (.inl (ca 1, 12, .inr (.inl (vp_updL (vp_updL g 0 ((s_X1_part x (0 : Int32) sz q).toInt64)) 9 ((s_X1_part y (0 : Int32) sz q).toInt64)))))) rfl ?_
  refine gj_iinc C (v := 1) (lv' := [(4, .int 1), (0, .ref (ad i)), (1, .ref (ad d)), (2, .int x), (3, .int y)]) dX0_build_42 0 rfl (by decide) (by decide) rfl ?_
  refine gj_goto C 3 dX0_build_45 (by decide) ?_
  refine gj_iload C dX0_build_3 0 rfl ?_
  refine gj_iconst C (v := 3) (by decide) dX0_build_5 ?_
  refine gj_icmp_ge C 48 dX0_build_6 (by decide) (fun c_2 => absurd c_2 (by decide)) (fun c_2 => ?_)
  refine gj_aload_n C 0 dX0_build_9 rfl 1 rfl ?_
  refine gj_get C i hi (up_nx hij (hc0)) inX0 rfl 0 (by decide) w_201 (v := .ref (ad j)) rfl dX0_build_10 ?_
  refine gj_iload C dX0_build_13 0 rfl ?_
  refine gj_aload_n C 1 dX0_build_15 rfl 2 rfl ?_
  refine gj_iload_n C 2 dX0_build_16 rfl 3 rfl ?_
  refine gj_iload C dX0_build_17 0 rfl ?_
  refine gj_callVi C mi_X1_part w_597 d hd (up_nx (fun z => hjd z.symm) (hc2)) rfl (c_X1_part d e x (1 : Int32) rm sz nn q (up_nx (fun z => hjd z.symm) (hc2)) (up_nx (fun z => hje z.symm) (hc3)) hd he hde hsz) mc_X1_part ⟨Nat.le_of_ble_eq_true rfl, Nat.le_of_ble_eq_true rfl⟩ (rest := [.int 1, .ref (ad j)]) rfl (Nat.le_of_ble_eq_true rfl) dX0_build_19 (fun r u h => ?_)
  obtain ⟨hr_, hu_⟩ := h; rw [hr_]; subst hu_
  refine gj_i2l C dX0_build_22 ?_
  refine gj_last C j hj (va_up_self _ _ _) (by unfold vp_in; decide) dX0_build_23 ?_
  refine gj_setf (bx_uu _ _ _ _) ?_
  refine gj_setf (g := va_up f j (.inl (ca 1, 12, .inr (.inl (vp_updL (vp_updL (vp_updL g 0 ((s_X1_part x (0 : Int32) sz q).toInt64)) 9 ((s_X1_part y (0 : Int32) sz q).toInt64)) 1 ((s_X1_part x (1 : Int32) sz q).toInt64)))))) rfl ?_
  refine gj_aload_n C 0 dX0_build_24 rfl 1 rfl ?_
  refine gj_get C i hi (up_nx hij (hc0)) inX0 rfl 0 (by decide) w_201 (v := .ref (ad j)) rfl dX0_build_25 ?_
  refine gj_bipush C (v := 9) (by decide) dX0_build_28 ?_
  refine gj_iload C dX0_build_30 0 rfl ?_
  refine gj_iadd C dX0_build_32 ?_
  refine gj_seti (y := 10) (by decide) ?_
  refine gj_aload_n C 1 dX0_build_33 rfl 2 rfl ?_
  refine gj_iload_n C 3 dX0_build_34 rfl 4 rfl ?_
  refine gj_iload C dX0_build_35 0 rfl ?_
  refine gj_callVi C mi_X1_part w_597 d hd (up_nx (fun z => hjd z.symm) (hc2)) rfl (c_X1_part d e y (1 : Int32) rm sz nn q (up_nx (fun z => hjd z.symm) (hc2)) (up_nx (fun z => hje z.symm) (hc3)) hd he hde hsz) mc_X1_part ⟨Nat.le_of_ble_eq_true rfl, Nat.le_of_ble_eq_true rfl⟩ (rest := [.int 10, .ref (ad j)]) rfl (Nat.le_of_ble_eq_true rfl) dX0_build_37 (fun r u h => ?_)
  obtain ⟨hr_, hu_⟩ := h; rw [hr_]; subst hu_
  refine gj_i2l C dX0_build_40 ?_
  refine gj_last C j hj (va_up_self _ _ _) (by unfold vp_in; decide) dX0_build_41 ?_
  refine gj_setf (bx_uu _ _ _ _) ?_
  refine gj_setf (g := va_up f j (.inl (ca 1, 12, .inr (.inl (vp_updL (vp_updL (vp_updL (vp_updL g 0 ((s_X1_part x (0 : Int32) sz q).toInt64)) 9 ((s_X1_part y (0 : Int32) sz q).toInt64)) 1 ((s_X1_part x (1 : Int32) sz q).toInt64)) 10 ((s_X1_part y (1 : Int32) sz q).toInt64)))))) rfl ?_
  refine gj_iinc C (v := 2) (lv' := [(4, .int 2), (0, .ref (ad i)), (1, .ref (ad d)), (2, .int x), (3, .int y)]) dX0_build_42 0 rfl (by decide) (by decide) rfl ?_
  refine gj_goto C 3 dX0_build_45 (by decide) ?_
  refine gj_iload C dX0_build_3 0 rfl ?_
  refine gj_iconst C (v := 3) (by decide) dX0_build_5 ?_
  refine gj_icmp_ge C 48 dX0_build_6 (by decide) (fun c_3 => absurd c_3 (by decide)) (fun c_3 => ?_)
  refine gj_aload_n C 0 dX0_build_9 rfl 1 rfl ?_
  refine gj_get C i hi (up_nx hij (hc0)) inX0 rfl 0 (by decide) w_201 (v := .ref (ad j)) rfl dX0_build_10 ?_
  refine gj_iload C dX0_build_13 0 rfl ?_
  refine gj_aload_n C 1 dX0_build_15 rfl 2 rfl ?_
  refine gj_iload_n C 2 dX0_build_16 rfl 3 rfl ?_
  refine gj_iload C dX0_build_17 0 rfl ?_
  refine gj_callVi C mi_X1_part w_597 d hd (up_nx (fun z => hjd z.symm) (hc2)) rfl (c_X1_part d e x (2 : Int32) rm sz nn q (up_nx (fun z => hjd z.symm) (hc2)) (up_nx (fun z => hje z.symm) (hc3)) hd he hde hsz) mc_X1_part ⟨Nat.le_of_ble_eq_true rfl, Nat.le_of_ble_eq_true rfl⟩ (rest := [.int 2, .ref (ad j)]) rfl (Nat.le_of_ble_eq_true rfl) dX0_build_19 (fun r u h => ?_)
  obtain ⟨hr_, hu_⟩ := h; rw [hr_]; subst hu_
  refine gj_i2l C dX0_build_22 ?_
  refine gj_last C j hj (va_up_self _ _ _) (by unfold vp_in; decide) dX0_build_23 ?_
  refine gj_setf (bx_uu _ _ _ _) ?_
  refine gj_setf (g := va_up f j (.inl (ca 1, 12, .inr (.inl (vp_updL (vp_updL (vp_updL (vp_updL (vp_updL g 0 ((s_X1_part x (0 : Int32) sz q).toInt64)) 9 ((s_X1_part y (0 : Int32) sz q).toInt64)) 1 ((s_X1_part x (1 : Int32) sz q).toInt64)) 10 ((s_X1_part y (1 : Int32) sz q).toInt64)) 2 ((s_X1_part x (2 : Int32) sz q).toInt64)))))) rfl ?_
  refine gj_aload_n C 0 dX0_build_24 rfl 1 rfl ?_
  refine gj_get C i hi (up_nx hij (hc0)) inX0 rfl 0 (by decide) w_201 (v := .ref (ad j)) rfl dX0_build_25 ?_
  refine gj_bipush C (v := 9) (by decide) dX0_build_28 ?_
  refine gj_iload C dX0_build_30 0 rfl ?_
  refine gj_iadd C dX0_build_32 ?_
  refine gj_seti (y := 11) (by decide) ?_
  refine gj_aload_n C 1 dX0_build_33 rfl 2 rfl ?_
  refine gj_iload_n C 3 dX0_build_34 rfl 4 rfl ?_
  refine gj_iload C dX0_build_35 0 rfl ?_
  refine gj_callVi C mi_X1_part w_597 d hd (up_nx (fun z => hjd z.symm) (hc2)) rfl (c_X1_part d e y (2 : Int32) rm sz nn q (up_nx (fun z => hjd z.symm) (hc2)) (up_nx (fun z => hje z.symm) (hc3)) hd he hde hsz) mc_X1_part ⟨Nat.le_of_ble_eq_true rfl, Nat.le_of_ble_eq_true rfl⟩ (rest := [.int 11, .ref (ad j)]) rfl (Nat.le_of_ble_eq_true rfl) dX0_build_37 (fun r u h => ?_)
  obtain ⟨hr_, hu_⟩ := h; rw [hr_]; subst hu_
  refine gj_i2l C dX0_build_40 ?_
  refine gj_last C j hj (va_up_self _ _ _) (by unfold vp_in; decide) dX0_build_41 ?_
  refine gj_setf (bx_uu _ _ _ _) ?_
  refine gj_setf (g := va_up f j (.inl (ca 1, 12, .inr (.inl (vp_updL (vp_updL (vp_updL (vp_updL (vp_updL (vp_updL g 0 ((s_X1_part x (0 : Int32) sz q).toInt64)) 9 ((s_X1_part y (0 : Int32) sz q).toInt64)) 1 ((s_X1_part x (1 : Int32) sz q).toInt64)) 10 ((s_X1_part y (1 : Int32) sz q).toInt64)) 2 ((s_X1_part x (2 : Int32) sz q).toInt64)) 11 ((s_X1_part y (2 : Int32) sz q).toInt64)))))) rfl ?_
  refine gj_iinc C (v := 3) (lv' := [(4, .int 3), (0, .ref (ad i)), (1, .ref (ad d)), (2, .int x), (3, .int y)]) dX0_build_42 0 rfl (by decide) (by decide) rfl ?_
  refine gj_goto C 3 dX0_build_45 (by decide) ?_
  refine gj_iload C dX0_build_3 0 rfl ?_
  refine gj_iconst C (v := 3) (by decide) dX0_build_5 ?_
  refine gj_icmp_ge C 48 dX0_build_6 (by decide) (fun c_4 => ?_) (fun c_4 => absurd (by decide) c_4)
  refine gj_aload_n C 0 dX0_build_48 rfl 1 rfl ?_
  refine gj_iconst C (v := 0) (by decide) dX0_build_49 ?_
  refine gj_iconst C (v := 3) (by decide) dX0_build_50 ?_
  refine gj_iconst C (v := 1) (by decide) dX0_build_51 ?_
  refine gj_callVv C mi_X0_multiply w_598 i hi (up_nx hij (hc0)) rfl (c_amul1 i j (vp_updL (vp_updL (vp_updL (vp_updL (vp_updL (vp_updL g 0 ((s_X1_part x (0 : Int32) sz q).toInt64)) 9 ((s_X1_part y (0 : Int32) sz q).toInt64)) 1 ((s_X1_part x (1 : Int32) sz q).toInt64)) 10 ((s_X1_part y (1 : Int32) sz q).toInt64)) 2 ((s_X1_part x (2 : Int32) sz q).toInt64)) 11 ((s_X1_part y (2 : Int32) sz q).toInt64)) (up_nx hij (hc0)) (va_up_self _ _ _) hi hj hij) mc_X0_multiply ⟨Nat.le_of_ble_eq_true rfl, Nat.le_of_ble_eq_true rfl⟩ (rest := []) rfl (Nat.le_of_ble_eq_true rfl) dX0_build_52 (fun u h => ?_)
  subst h
  refine gj_setf (bx_uu _ _ _ _) ?_
  refine gj_aload_n C 0 dX0_build_55 rfl 1 rfl ?_
  refine gj_iconst C (v := 0) (by decide) dX0_build_56 ?_
  refine gj_iconst C (v := 1) (by decide) dX0_build_57 ?_
  refine gj_iconst C (v := 2) (by decide) dX0_build_58 ?_
  refine gj_callVv C mi_X0_multiply w_598 i hi (up_nx hij (hc0)) rfl (c_amul2 i j (vp_updL (vp_updL (vp_updL (vp_updL (vp_updL (vp_updL (vp_updL (vp_updL (vp_updL g 0 ((s_X1_part x (0 : Int32) sz q).toInt64)) 9 ((s_X1_part y (0 : Int32) sz q).toInt64)) 1 ((s_X1_part x (1 : Int32) sz q).toInt64)) 10 ((s_X1_part y (1 : Int32) sz q).toInt64)) 2 ((s_X1_part x (2 : Int32) sz q).toInt64)) 11 ((s_X1_part y (2 : Int32) sz q).toInt64)) 3 ((((vp_updL (vp_updL (vp_updL (vp_updL (vp_updL (vp_updL g 0 ((s_X1_part x (0 : Int32) sz q).toInt64)) 9 ((s_X1_part y (0 : Int32) sz q).toInt64)) 1 ((s_X1_part x (1 : Int32) sz q).toInt64)) 10 ((s_X1_part y (1 : Int32) sz q).toInt64)) 2 ((s_X1_part x (2 : Int32) sz q).toInt64)) 11 ((s_X1_part y (2 : Int32) sz q).toInt64)) 1) * ((vp_updL (vp_updL (vp_updL (vp_updL (vp_updL (vp_updL g 0 ((s_X1_part x (0 : Int32) sz q).toInt64)) 9 ((s_X1_part y (0 : Int32) sz q).toInt64)) 1 ((s_X1_part x (1 : Int32) sz q).toInt64)) 10 ((s_X1_part y (1 : Int32) sz q).toInt64)) 2 ((s_X1_part x (2 : Int32) sz q).toInt64)) 11 ((s_X1_part y (2 : Int32) sz q).toInt64)) 11)) - (((vp_updL (vp_updL (vp_updL (vp_updL (vp_updL (vp_updL g 0 ((s_X1_part x (0 : Int32) sz q).toInt64)) 9 ((s_X1_part y (0 : Int32) sz q).toInt64)) 1 ((s_X1_part x (1 : Int32) sz q).toInt64)) 10 ((s_X1_part y (1 : Int32) sz q).toInt64)) 2 ((s_X1_part x (2 : Int32) sz q).toInt64)) 11 ((s_X1_part y (2 : Int32) sz q).toInt64)) 2) * ((vp_updL (vp_updL (vp_updL (vp_updL (vp_updL (vp_updL g 0 ((s_X1_part x (0 : Int32) sz q).toInt64)) 9 ((s_X1_part y (0 : Int32) sz q).toInt64)) 1 ((s_X1_part x (1 : Int32) sz q).toInt64)) 10 ((s_X1_part y (1 : Int32) sz q).toInt64)) 2 ((s_X1_part x (2 : Int32) sz q).toInt64)) 11 ((s_X1_part y (2 : Int32) sz q).toInt64)) 10)))) 4 ((((vp_updL (vp_updL (vp_updL (vp_updL (vp_updL (vp_updL g 0 ((s_X1_part x (0 : Int32) sz q).toInt64)) 9 ((s_X1_part y (0 : Int32) sz q).toInt64)) 1 ((s_X1_part x (1 : Int32) sz q).toInt64)) 10 ((s_X1_part y (1 : Int32) sz q).toInt64)) 2 ((s_X1_part x (2 : Int32) sz q).toInt64)) 11 ((s_X1_part y (2 : Int32) sz q).toInt64)) 2) * ((vp_updL (vp_updL (vp_updL (vp_updL (vp_updL (vp_updL g 0 ((s_X1_part x (0 : Int32) sz q).toInt64)) 9 ((s_X1_part y (0 : Int32) sz q).toInt64)) 1 ((s_X1_part x (1 : Int32) sz q).toInt64)) 10 ((s_X1_part y (1 : Int32) sz q).toInt64)) 2 ((s_X1_part x (2 : Int32) sz q).toInt64)) 11 ((s_X1_part y (2 : Int32) sz q).toInt64)) 9)) - (((vp_updL (vp_updL (vp_updL (vp_updL (vp_updL (vp_updL g 0 ((s_X1_part x (0 : Int32) sz q).toInt64)) 9 ((s_X1_part y (0 : Int32) sz q).toInt64)) 1 ((s_X1_part x (1 : Int32) sz q).toInt64)) 10 ((s_X1_part y (1 : Int32) sz q).toInt64)) 2 ((s_X1_part x (2 : Int32) sz q).toInt64)) 11 ((s_X1_part y (2 : Int32) sz q).toInt64)) 0) * ((vp_updL (vp_updL (vp_updL (vp_updL (vp_updL (vp_updL g 0 ((s_X1_part x (0 : Int32) sz q).toInt64)) 9 ((s_X1_part y (0 : Int32) sz q).toInt64)) 1 ((s_X1_part x (1 : Int32) sz q).toInt64)) 10 ((s_X1_part y (1 : Int32) sz q).toInt64)) 2 ((s_X1_part x (2 : Int32) sz q).toInt64)) 11 ((s_X1_part y (2 : Int32) sz q).toInt64)) 11)))) 5 ((((vp_updL (vp_updL (vp_updL (vp_updL (vp_updL (vp_updL g 0 ((s_X1_part x (0 : Int32) sz q).toInt64)) 9 ((s_X1_part y (0 : Int32) sz q).toInt64)) 1 ((s_X1_part x (1 : Int32) sz q).toInt64)) 10 ((s_X1_part y (1 : Int32) sz q).toInt64)) 2 ((s_X1_part x (2 : Int32) sz q).toInt64)) 11 ((s_X1_part y (2 : Int32) sz q).toInt64)) 0) * ((vp_updL (vp_updL (vp_updL (vp_updL (vp_updL (vp_updL g 0 ((s_X1_part x (0 : Int32) sz q).toInt64)) 9 ((s_X1_part y (0 : Int32) sz q).toInt64)) 1 ((s_X1_part x (1 : Int32) sz q).toInt64)) 10 ((s_X1_part y (1 : Int32) sz q).toInt64)) 2 ((s_X1_part x (2 : Int32) sz q).toInt64)) 11 ((s_X1_part y (2 : Int32) sz q).toInt64)) 10)) - (((vp_updL (vp_updL (vp_updL (vp_updL (vp_updL (vp_updL g 0 ((s_X1_part x (0 : Int32) sz q).toInt64)) 9 ((s_X1_part y (0 : Int32) sz q).toInt64)) 1 ((s_X1_part x (1 : Int32) sz q).toInt64)) 10 ((s_X1_part y (1 : Int32) sz q).toInt64)) 2 ((s_X1_part x (2 : Int32) sz q).toInt64)) 11 ((s_X1_part y (2 : Int32) sz q).toInt64)) 1) * ((vp_updL (vp_updL (vp_updL (vp_updL (vp_updL (vp_updL g 0 ((s_X1_part x (0 : Int32) sz q).toInt64)) 9 ((s_X1_part y (0 : Int32) sz q).toInt64)) 1 ((s_X1_part x (1 : Int32) sz q).toInt64)) 10 ((s_X1_part y (1 : Int32) sz q).toInt64)) 2 ((s_X1_part x (2 : Int32) sz q).toInt64)) 11 ((s_X1_part y (2 : Int32) sz q).toInt64)) 9)))) (up_nx hij (hc0)) (va_up_self _ _ _) hi hj hij) mc_X0_multiply ⟨Nat.le_of_ble_eq_true rfl, Nat.le_of_ble_eq_true rfl⟩ (rest := []) rfl (Nat.le_of_ble_eq_true rfl) dX0_build_59 (fun u h => ?_)
  subst h
  refine gj_setf (bx_uu _ _ _ _) ?_
  exact RT _ _ _ (congrArg (fun z => va_up f j (.inl (ca 1, 12, .inr (.inl z)))) (armC_eq _ _ _ _ _ _ _)) dX0_build_62
set_option maxHeartbeats 400000 in
set_option maxRecDepth 100000 in
theorem c_X4_begin {l : Launch} {D : va_G} {ca ss ad : Nat → Nat} {f : Nat → va_E} (i : Nat) (j : Nat) (q : Int32) (tl : Int32) (mt : Int32) (g : Nat → Int32) (hc0 : f i = .inr (4, [.ref (ad j), .int tl, .int mt])) (hc1 : f j = .inl (ca 0, 96, .inl g)) (hi : i < 108) (hj : j < 108) (hij : i ≠ j) : gMv l D ca ss ad 108 yX4_begin cX4_begin 2 none 1 f [.ref (ad i), .int q] (fun u => u = va_up (va_up f j (.inl (ca 0, 96, .inl (kI (0 : Int32))))) i (.inr (4, [.ref (ad j), .int q, .int 0]))) := by
  refine gMv_ofK (by decide +kernel) (Nat.le_of_ble_eq_true rfl) (lv0 := [(0, .ref (ad i)), (1, .int q)]) rfl (fun pT eT sT mT aT below meth cT AT QT C RT => ?_)
  have C : gX pT sT mT aT meth cT AT D ca ss 2 RX4 cX4_begin none := C
  refine gj_aload_n C 0 dX4_begin_0 rfl 0 rfl ?_
  refine gj_get C i hi hc0 inX4 rfl 0 (by decide) w_149 (v := .ref (ad j)) rfl dX4_begin_1 ?_
  refine gj_iconst C (v := 0) (by decide) dX4_begin_4 ?_
  refine gj_callSv C w_516 w_515 (c_J7_fill_53178 j (0 : Int32) 96 g hc1 hj (by omega)) mc_J7_fill_53178 ⟨Nat.le_of_ble_eq_true rfl, Nat.le_of_ble_eq_true rfl⟩ (rest := []) rfl (Nat.le_of_ble_eq_true rfl) dX4_begin_5 (fun u h => ?_)
  subst h
  refine gj_aload_n C 0 dX4_begin_8 rfl 0 rfl ?_
  refine gj_iload_n C 1 dX4_begin_9 rfl 1 rfl ?_
  refine gj_putS C i hi (up_nx hij (hc0)) inX4 rfl 1 (by decide) tyX4 tyX4_ok nmX4 w_152 rfl (v := .int q) (fs' := [.ref (ad j), .int q, .int mt]) rfl rfl (Nat.le_of_ble_eq_true rfl) rfl dX4_begin_10 ?_
  refine gj_aload_n C 0 dX4_begin_13 rfl 0 rfl ?_
  refine gj_iconst C (v := 0) (by decide) dX4_begin_14 ?_
  refine gj_putS C i hi (va_up_self _ _ _) inX4 rfl 2 (by decide) tyX4 tyX4_ok nmX4 w_153 rfl (v := .int 0) (fs' := [.ref (ad j), .int q, .int 0]) rfl rfl (Nat.le_of_ble_eq_true rfl) rfl dX4_begin_15 ?_
  refine gj_setf (bx_uu _ _ _ _) ?_
  exact RT _ _ _ rfl dX4_begin_18
def t_X4_hear_j (x : Int32) (y : Int32) (z : Int32) (q : Int32) (tl : Int32) (g : Nat → Int32) : Nat → Int32 := if tl < q then g else (upd (upd (upd g x.toNatClampNeg ((g x.toNatClampNeg) + 1)) y.toNatClampNeg (((upd g x.toNatClampNeg ((g x.toNatClampNeg) + 1)) y.toNatClampNeg) + 1)) z.toNatClampNeg (((upd (upd g x.toNatClampNeg ((g x.toNatClampNeg) + 1)) y.toNatClampNeg (((upd g x.toNatClampNeg ((g x.toNatClampNeg) + 1)) y.toNatClampNeg) + 1)) z.toNatClampNeg) + 1))
def t_X4_hear_i_2 (q : Int32) (tl : Int32) (mt : Int32) : Int32 := if tl < q then mt else (mt + 1)
set_option maxHeartbeats 400000 in
set_option maxRecDepth 100000 in
theorem c_X4_hear {l : Launch} {D : va_G} {ca ss ad : Nat → Nat} {f : Nat → va_E} (i : Nat) (j : Nat) (x : Int32) (y : Int32) (z : Int32) (q : Int32) (tl : Int32) (mt : Int32) (g : Nat → Int32) (hc0 : f i = .inr (4, [.ref (ad j), .int tl, .int mt])) (hc1 : f j = .inl (ca 0, 96, .inl g)) (hi : i < 108) (hj : j < 108) (hij : i ≠ j) (hx : vp_in x 96) (hy : vp_in y 96) (hz : vp_in z 96) : gMv l D ca ss ad 108 yX4_hear cX4_hear 5 none 0 f [.ref (ad i), .int x, .int y, .int z, .int q] (fun u => u = va_up (va_up f j (.inl (ca 0, 96, .inl (t_X4_hear_j x y z q tl g)))) i (.inr (4, [.ref (ad j), .int tl, .int (t_X4_hear_i_2 q tl mt)]))) := by
  refine gMv_ofK (by decide +kernel) (Nat.le_of_ble_eq_true rfl) (lv0 := [(0, .ref (ad i)), (1, .int x), (2, .int y), (3, .int z), (4, .int q)]) rfl (fun pT eT sT mT aT below meth cT AT QT C RT => ?_)
  have C : gX pT sT mT aT meth cT AT D ca ss 5 RX4 cX4_hear none := C
  refine gj_setf (up_id hc1).symm ?_
  refine gj_setf (up_id (up_nx hij (hc0))).symm ?_
  refine gj_iload C dX4_hear_0 4 rfl ?_
  refine gj_aload_n C 0 dX4_hear_2 rfl 0 rfl ?_
  refine gj_get C i hi (va_up_self _ _ _) inX4 rfl 1 (by decide) w_152 (v := .int tl) rfl dX4_hear_3 ?_
  refine gj_icmp_gt C 49 dX4_hear_6 (by decide) (fun c_1 => ?_) (fun c_1 => ?_)
  · exact RT _ _ _ (by simp only [t_X4_hear_j, t_X4_hear_i_2, if_pos c_1]) dX4_hear_49
  · refine gj_aload_n C 0 dX4_hear_9 rfl 0 rfl ?_
    refine gj_get C i hi (va_up_self _ _ _) inX4 rfl 0 (by decide) w_149 (v := .ref (ad j)) rfl dX4_hear_10 ?_
    refine gj_iload_n C 1 dX4_hear_13 rfl 1 rfl ?_
    refine gj_dup2_11 C rfl rfl dX4_hear_14 ?_
    refine gj_iald C j hj (up_nx (fun q => hij q.symm) (va_up_self _ _ _)) hx dX4_hear_15 ?_
    refine gj_iconst C (v := 1) (by decide) dX4_hear_16 ?_
    refine gj_iadd C dX4_hear_17 ?_
    refine gj_iast C j hj (up_nx (fun q => hij q.symm) (va_up_self _ _ _)) hx dX4_hear_18 ?_
    refine gj_setf ((up_comm (fun q => hij q.symm)).trans (up_un (bx_uu _ _ _ _))) ?_
    refine gj_aload_n C 0 dX4_hear_19 rfl 0 rfl ?_
    refine gj_get C i hi (va_up_self _ _ _) inX4 rfl 0 (by decide) w_149 (v := .ref (ad j)) rfl dX4_hear_20 ?_
    refine gj_iload_n C 2 dX4_hear_23 rfl 2 rfl ?_
    refine gj_dup2_11 C rfl rfl dX4_hear_24 ?_
    refine gj_iald C j hj (up_nx (fun q => hij q.symm) (va_up_self _ _ _)) hy dX4_hear_25 ?_
    refine gj_iconst C (v := 1) (by decide) dX4_hear_26 ?_
    refine gj_iadd C dX4_hear_27 ?_
    refine gj_iast C j hj (up_nx (fun q => hij q.symm) (va_up_self _ _ _)) hy dX4_hear_28 ?_
    refine gj_setf ((up_comm (fun q => hij q.symm)).trans (up_un (bx_uu _ _ _ _))) ?_
    refine gj_aload_n C 0 dX4_hear_29 rfl 0 rfl ?_
    refine gj_get C i hi (va_up_self _ _ _) inX4 rfl 0 (by decide) w_149 (v := .ref (ad j)) rfl dX4_hear_30 ?_
    refine gj_iload_n C 3 dX4_hear_33 rfl 3 rfl ?_
    refine gj_dup2_11 C rfl rfl dX4_hear_34 ?_
    refine gj_iald C j hj (up_nx (fun q => hij q.symm) (va_up_self _ _ _)) hz dX4_hear_35 ?_
    refine gj_iconst C (v := 1) (by decide) dX4_hear_36 ?_
    refine gj_iadd C dX4_hear_37 ?_
    refine gj_iast C j hj (up_nx (fun q => hij q.symm) (va_up_self _ _ _)) hz dX4_hear_38 ?_
    refine gj_setf ((up_comm (fun q => hij q.symm)).trans (up_un (bx_uu _ _ _ _))) ?_
    refine gj_aload_n C 0 dX4_hear_39 rfl 0 rfl ?_
    refine gj_dup C rfl dX4_hear_40 ?_
    refine gj_get C i hi (va_up_self _ _ _) inX4 rfl 2 (by decide) w_153 (v := .int mt) rfl dX4_hear_41 ?_
    refine gj_iconst C (v := 1) (by decide) dX4_hear_44 ?_
    refine gj_iadd C dX4_hear_45 ?_
    refine gj_putS C i hi (va_up_self _ _ _) inX4 rfl 2 (by decide) tyX4 tyX4_ok nmX4 w_153 rfl (v := .int (mt + 1)) (fs' := [.ref (ad j), .int tl, .int (mt + 1)]) rfl rfl (Nat.le_of_ble_eq_true rfl) rfl dX4_hear_46 ?_
    refine gj_setf (bx_uu _ _ _ _) ?_
    exact RT _ _ _ (by simp only [t_X4_hear_j, t_X4_hear_i_2, if_neg c_1]) dX4_hear_49
