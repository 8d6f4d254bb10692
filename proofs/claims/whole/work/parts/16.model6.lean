/-- the arms of v, w laid out: v; v by w; v by (v by w) -/
def c0 (v w : Nat → Int64) : Int64 := v 1 * w 2 - v 2 * w 1
def c1 (v w : Nat → Int64) : Int64 := v 2 * w 0 - v 0 * w 2
def c2 (v w : Nat → Int64) : Int64 := v 0 * w 1 - v 1 * w 0
def cr (v w : Nat → Int64) : Nat → Int64 := fun j => if j = 0 then c0 v w else if j = 1 then c1 v w else c2 v w
def armF (g v w : Nat → Int64) : Nat → Int64 := fun j => if j < 3 then v j else if j < 6 then cr v w (j - 3) else if j < 9 then cr v (cr v w) (j - 6) else g j
def t3 (a b c : Int64) : Nat → Int64 := fun j => if j = 0 then a else if j = 1 then b else c
theorem upL_c {g g' : Nat → Int64} {k : Nat} {x y : Int64} (h : g = g') (e : x = y) : vp_updL g k x = vp_updL g' k y := by rw [h, e]
theorem arm_eq (g : Nat → Int64) (a b c x y z : Int64) : vp_updL (vp_updL (vp_updL (vp_updL (vp_updL (vp_updL (vp_updL (vp_updL (vp_updL (vp_updL (vp_updL (vp_updL g 0 a) 6 x) 1 b) 7 y) 2 c) 8 z) 3 (b * z - c * y)) 4 (c * x - a * z)) 5 (a * y - b * x)) 6 (b * (a * y - b * x) - c * (c * x - a * z))) 7 (c * (b * z - c * y) - a * (a * y - b * x))) 8 (a * (c * x - a * z) - b * (b * z - c * y)) = armF g (t3 a b c) (t3 x y z) := by
  funext j
  match j with
  | 0 => rfl
  | 1 => rfl
  | 2 => rfl
  | 3 => rfl
  | 4 => rfl
  | 5 => rfl
  | 6 => rfl
  | 7 => rfl
  | 8 => rfl
  | n + 9 =>
    have h : ∀ k, k < 9 → ¬ n + 9 = k := fun k hk => by omega
    simp only [vp_updL, armF, if_neg (h 0 (by omega)), if_neg (h 1 (by omega)), if_neg (h 2 (by omega)), if_neg (h 3 (by omega)), if_neg (h 4 (by omega)), if_neg (h 5 (by omega)), if_neg (h 6 (by omega)), if_neg (h 7 (by omega)), if_neg (h 8 (by omega)), if_neg (show ¬ n + 9 < 3 by omega), if_neg (show ¬ n + 9 < 6 by omega), if_neg (show ¬ n + 9 < 9 by omega)]
theorem lw_in {a w n : Nat} (h : a + w < n) (hn : n < 2 ^ 31) : vp_in (nI a + nI w) n := by rw [nI_add]; exact vp_in_nI h hn
theorem lw_cl {a w : Nat} (h : a + w < 2 ^ 31) : (nI a + nI w).toNatClampNeg = a + w := by rw [nI_add]; exact nI_clamp h
/-- the last of the first k spots with that rank, or -1 -/
def mSp (ro : Nat → Int32) (rank : Int32) : Nat → Int32
  | 0 => -1
  | p + 1 => if ro p = rank then nI p else mSp ro rank p
theorem ix3_in {i k : Nat} (hi : i < 12) (hk : k < 3) : vp_in (3 * nI i + nI k) 36 := by
  rw [show (3 : Int32) = nI 3 from rfl, pk_mul, nI_add]; exact vp_in_nI (by omega) (by omega)
theorem ix3_cl {i k : Nat} (hi : i < 12) (hk : k < 3) : (3 * nI i + nI k).toNatClampNeg = 3 * i + k := by
  rw [show (3 : Int32) = nI 3 from rfl, pk_mul, nI_add]; exact nI_clamp (by omega)
theorem w_n {w : Nat} (h : w < 3) : 0 ≤ (nI w).toInt ∧ (nI w).toInt ≤ 2 := by rw [nI_toInt (by omega)]; omega

set_option maxHeartbeats 1000000 in
set_option maxRecDepth 100000 in
theorem c_mul1 {l : Launch} {D : va_G} {ca ss ad : Nat → Nat} {f : Nat → va_E} (x : Nat) (g : Nat → Int64) (hc0 : f x = .inl (ca 1, 9, .inr (.inl g))) (hx : x < 108) : gMv l D ca ss ad 108 yX12_multiplies cX12_multiplies 4 none 0 f [.ref (ad x), .int 0, .int 6, .int 3] (fun u => u = va_up f x (.inl (ca 1, 9, .inr (.inl (vp_updL (vp_updL (vp_updL g 3 (((g 1) * (g 8)) - ((g 2) * (g 7)))) 4 (((g 2) * (g 6)) - ((g 0) * (g 8)))) 5 (((g 0) * (g 7)) - ((g 1) * (g 6)))))))) := by
  refine gMv_ofK (by decide +kernel) (Nat.le_of_ble_eq_true rfl) (lv0 := [(0, .ref (ad x)), (1, .int 0), (2, .int 6), (3, .int 3)]) rfl (fun pT eT sT mT aT below meth cT AT QT C RT => ?_)
  have C : gX pT sT mT aT meth cT AT D ca ss 4 RX12 cX12_multiplies none := C
  refine gj_aload_n C 0 dX12_multiplies_0 rfl 0 rfl ?_
  refine gj_iload_n C 3 dX12_multiplies_1 rfl 3 rfl ?_
  refine gj_aload_n C 0 dX12_multiplies_2 rfl 0 rfl ?_
  refine gj_iload_n C 1 dX12_multiplies_3 rfl 1 rfl ?_
  refine gj_iconst C (v := 1) (by decide) dX12_multiplies_4 ?_
  refine gj_iadd C dX12_multiplies_5 ?_
  refine gj_seti (y := 1) (by decide) ?_
  refine gj_lald C x hx hc0 (by unfold vp_in; decide) dX12_multiplies_6 ?_
  refine gj_setl (y := g 1) rfl ?_
  refine gj_aload_n C 0 dX12_multiplies_7 rfl 0 rfl ?_
  refine gj_iload_n C 2 dX12_multiplies_8 rfl 2 rfl ?_
  refine gj_iconst C (v := 2) (by decide) dX12_multiplies_9 ?_
  refine gj_iadd C dX12_multiplies_10 ?_
  refine gj_seti (y := 8) (by decide) ?_
  refine gj_lald C x hx hc0 (by unfold vp_in; decide) dX12_multiplies_11 ?_
  refine gj_setl (y := g 8) rfl ?_
  refine gj_lmul C dX12_multiplies_12 ?_
  refine gj_aload_n C 0 dX12_multiplies_13 rfl 0 rfl ?_
  refine gj_iload_n C 1 dX12_multiplies_14 rfl 1 rfl ?_
  refine gj_iconst C (v := 2) (by decide) dX12_multiplies_15 ?_
  refine gj_iadd C dX12_multiplies_16 ?_
  refine gj_seti (y := 2) (by decide) ?_
  refine gj_lald C x hx hc0 (by unfold vp_in; decide) dX12_multiplies_17 ?_
  refine gj_setl (y := g 2) rfl ?_
  refine gj_aload_n C 0 dX12_multiplies_18 rfl 0 rfl ?_
  refine gj_iload_n C 2 dX12_multiplies_19 rfl 2 rfl ?_
  refine gj_iconst C (v := 1) (by decide) dX12_multiplies_20 ?_
  refine gj_iadd C dX12_multiplies_21 ?_
  refine gj_seti (y := 7) (by decide) ?_
  refine gj_lald C x hx hc0 (by unfold vp_in; decide) dX12_multiplies_22 ?_
  refine gj_setl (y := g 7) rfl ?_
  refine gj_lmul C dX12_multiplies_23 ?_
  refine gj_lsub C dX12_multiplies_24 ?_
  refine gj_last C x hx hc0 (by unfold vp_in; decide) dX12_multiplies_25 ?_
  refine gj_setf (g := va_up f x (.inl (ca 1, 9, .inr (.inl (vp_updL g 3 (((g 1) * (g 8)) - ((g 2) * (g 7)))))))) rfl ?_
  refine gj_aload_n C 0 dX12_multiplies_26 rfl 0 rfl ?_
  refine gj_iload_n C 3 dX12_multiplies_27 rfl 3 rfl ?_
  refine gj_iconst C (v := 1) (by decide) dX12_multiplies_28 ?_
  refine gj_iadd C dX12_multiplies_29 ?_
  refine gj_seti (y := 4) (by decide) ?_
  refine gj_aload_n C 0 dX12_multiplies_30 rfl 0 rfl ?_
  refine gj_iload_n C 1 dX12_multiplies_31 rfl 1 rfl ?_
  refine gj_iconst C (v := 2) (by decide) dX12_multiplies_32 ?_
  refine gj_iadd C dX12_multiplies_33 ?_
  refine gj_seti (y := 2) (by decide) ?_
  refine gj_lald C x hx (va_up_self _ _ _) (by unfold vp_in; decide) dX12_multiplies_34 ?_
  refine gj_setl (y := g 2) rfl ?_
  refine gj_aload_n C 0 dX12_multiplies_35 rfl 0 rfl ?_
  refine gj_iload_n C 2 dX12_multiplies_36 rfl 2 rfl ?_
  refine gj_lald C x hx (va_up_self _ _ _) (by unfold vp_in; decide) dX12_multiplies_37 ?_
  refine gj_setl (y := g 6) rfl ?_
  refine gj_lmul C dX12_multiplies_38 ?_
  refine gj_aload_n C 0 dX12_multiplies_39 rfl 0 rfl ?_
  refine gj_iload_n C 1 dX12_multiplies_40 rfl 1 rfl ?_
  refine gj_lald C x hx (va_up_self _ _ _) (by unfold vp_in; decide) dX12_multiplies_41 ?_
  refine gj_setl (y := g 0) rfl ?_
  refine gj_aload_n C 0 dX12_multiplies_42 rfl 0 rfl ?_
  refine gj_iload_n C 2 dX12_multiplies_43 rfl 2 rfl ?_
  refine gj_iconst C (v := 2) (by decide) dX12_multiplies_44 ?_
  refine gj_iadd C dX12_multiplies_45 ?_
  refine gj_seti (y := 8) (by decide) ?_
  refine gj_lald C x hx (va_up_self _ _ _) (by unfold vp_in; decide) dX12_multiplies_46 ?_
  refine gj_setl (y := g 8) rfl ?_
  refine gj_lmul C dX12_multiplies_47 ?_
  refine gj_lsub C dX12_multiplies_48 ?_
  refine gj_last C x hx (va_up_self _ _ _) (by unfold vp_in; decide) dX12_multiplies_49 ?_
  refine gj_setf (bx_uu _ _ _ _) ?_
  refine gj_setf (g := va_up f x (.inl (ca 1, 9, .inr (.inl (vp_updL (vp_updL g 3 (((g 1) * (g 8)) - ((g 2) * (g 7)))) 4 (((g 2) * (g 6)) - ((g 0) * (g 8)))))))) rfl ?_
  refine gj_aload_n C 0 dX12_multiplies_50 rfl 0 rfl ?_
  refine gj_iload_n C 3 dX12_multiplies_51 rfl 3 rfl ?_
  refine gj_iconst C (v := 2) (by decide) dX12_multiplies_52 ?_
  refine gj_iadd C dX12_multiplies_53 ?_
  refine gj_seti (y := 5) (by decide) ?_
  refine gj_aload_n C 0 dX12_multiplies_54 rfl 0 rfl ?_
  refine gj_iload_n C 1 dX12_multiplies_55 rfl 1 rfl ?_
  refine gj_lald C x hx (va_up_self _ _ _) (by unfold vp_in; decide) dX12_multiplies_56 ?_
  refine gj_setl (y := g 0) rfl ?_
  refine gj_aload_n C 0 dX12_multiplies_57 rfl 0 rfl ?_
  refine gj_iload_n C 2 dX12_multiplies_58 rfl 2 rfl ?_
  refine gj_iconst C (v := 1) (by decide) dX12_multiplies_59 ?_
  refine gj_iadd C dX12_multiplies_60 ?_
  refine gj_seti (y := 7) (by decide) ?_
  refine gj_lald C x hx (va_up_self _ _ _) (by unfold vp_in; decide) dX12_multiplies_61 ?_
  refine gj_setl (y := g 7) rfl ?_
  refine gj_lmul C dX12_multiplies_62 ?_
  refine gj_aload_n C 0 dX12_multiplies_63 rfl 0 rfl ?_
  refine gj_iload_n C 1 dX12_multiplies_64 rfl 1 rfl ?_
  refine gj_iconst C (v := 1) (by decide) dX12_multiplies_65 ?_
  refine gj_iadd C dX12_multiplies_66 ?_
  refine gj_seti (y := 1) (by decide) ?_
  refine gj_lald C x hx (va_up_self _ _ _) (by unfold vp_in; decide) dX12_multiplies_67 ?_
  refine gj_setl (y := g 1) rfl ?_
  refine gj_aload_n C 0 dX12_multiplies_68 rfl 0 rfl ?_
  refine gj_iload_n C 2 dX12_multiplies_69 rfl 2 rfl ?_
  refine gj_lald C x hx (va_up_self _ _ _) (by unfold vp_in; decide) dX12_multiplies_70 ?_
  refine gj_setl (y := g 6) rfl ?_
  refine gj_lmul C dX12_multiplies_71 ?_
  refine gj_lsub C dX12_multiplies_72 ?_
  refine gj_last C x hx (va_up_self _ _ _) (by unfold vp_in; decide) dX12_multiplies_73 ?_
  refine gj_setf (bx_uu _ _ _ _) ?_
  refine gj_setf (g := va_up f x (.inl (ca 1, 9, .inr (.inl (vp_updL (vp_updL (vp_updL g 3 (((g 1) * (g 8)) - ((g 2) * (g 7)))) 4 (((g 2) * (g 6)) - ((g 0) * (g 8)))) 5 (((g 0) * (g 7)) - ((g 1) * (g 6)))))))) rfl ?_
  exact RT _ _ _ rfl dX12_multiplies_74
set_option maxHeartbeats 1000000 in
set_option maxRecDepth 100000 in
theorem c_mul2 {l : Launch} {D : va_G} {ca ss ad : Nat → Nat} {f : Nat → va_E} (x : Nat) (g : Nat → Int64) (hc0 : f x = .inl (ca 1, 9, .inr (.inl g))) (hx : x < 108) : gMv l D ca ss ad 108 yX12_multiplies cX12_multiplies 4 none 0 f [.ref (ad x), .int 0, .int 3, .int 6] (fun u => u = va_up f x (.inl (ca 1, 9, .inr (.inl (vp_updL (vp_updL (vp_updL g 6 (((g 1) * (g 5)) - ((g 2) * (g 4)))) 7 (((g 2) * (g 3)) - ((g 0) * (g 5)))) 8 (((g 0) * (g 4)) - ((g 1) * (g 3)))))))) := by
  refine gMv_ofK (by decide +kernel) (Nat.le_of_ble_eq_true rfl) (lv0 := [(0, .ref (ad x)), (1, .int 0), (2, .int 3), (3, .int 6)]) rfl (fun pT eT sT mT aT below meth cT AT QT C RT => ?_)
  have C : gX pT sT mT aT meth cT AT D ca ss 4 RX12 cX12_multiplies none := C
  refine gj_aload_n C 0 dX12_multiplies_0 rfl 0 rfl ?_
  refine gj_iload_n C 3 dX12_multiplies_1 rfl 3 rfl ?_
  refine gj_aload_n C 0 dX12_multiplies_2 rfl 0 rfl ?_
  refine gj_iload_n C 1 dX12_multiplies_3 rfl 1 rfl ?_
  refine gj_iconst C (v := 1) (by decide) dX12_multiplies_4 ?_
  refine gj_iadd C dX12_multiplies_5 ?_
  refine gj_seti (y := 1) (by decide) ?_
  refine gj_lald C x hx hc0 (by unfold vp_in; decide) dX12_multiplies_6 ?_
  refine gj_setl (y := g 1) rfl ?_
  refine gj_aload_n C 0 dX12_multiplies_7 rfl 0 rfl ?_
  refine gj_iload_n C 2 dX12_multiplies_8 rfl 2 rfl ?_
  refine gj_iconst C (v := 2) (by decide) dX12_multiplies_9 ?_
  refine gj_iadd C dX12_multiplies_10 ?_
  refine gj_seti (y := 5) (by decide) ?_
  refine gj_lald C x hx hc0 (by unfold vp_in; decide) dX12_multiplies_11 ?_
  refine gj_setl (y := g 5) rfl ?_
  refine gj_lmul C dX12_multiplies_12 ?_
  refine gj_aload_n C 0 dX12_multiplies_13 rfl 0 rfl ?_
  refine gj_iload_n C 1 dX12_multiplies_14 rfl 1 rfl ?_
  refine gj_iconst C (v := 2) (by decide) dX12_multiplies_15 ?_
  refine gj_iadd C dX12_multiplies_16 ?_
  refine gj_seti (y := 2) (by decide) ?_
  refine gj_lald C x hx hc0 (by unfold vp_in; decide) dX12_multiplies_17 ?_
  refine gj_setl (y := g 2) rfl ?_
  refine gj_aload_n C 0 dX12_multiplies_18 rfl 0 rfl ?_
  refine gj_iload_n C 2 dX12_multiplies_19 rfl 2 rfl ?_
  refine gj_iconst C (v := 1) (by decide) dX12_multiplies_20 ?_
  refine gj_iadd C dX12_multiplies_21 ?_
  refine gj_seti (y := 4) (by decide) ?_
  refine gj_lald C x hx hc0 (by unfold vp_in; decide) dX12_multiplies_22 ?_
  refine gj_setl (y := g 4) rfl ?_
  refine gj_lmul C dX12_multiplies_23 ?_
  refine gj_lsub C dX12_multiplies_24 ?_
  refine gj_last C x hx hc0 (by unfold vp_in; decide) dX12_multiplies_25 ?_
  refine gj_setf (g := va_up f x (.inl (ca 1, 9, .inr (.inl (vp_updL g 6 (((g 1) * (g 5)) - ((g 2) * (g 4)))))))) rfl ?_
  refine gj_aload_n C 0 dX12_multiplies_26 rfl 0 rfl ?_
  refine gj_iload_n C 3 dX12_multiplies_27 rfl 3 rfl ?_
  refine gj_iconst C (v := 1) (by decide) dX12_multiplies_28 ?_
  refine gj_iadd C dX12_multiplies_29 ?_
  refine gj_seti (y := 7) (by decide) ?_
  refine gj_aload_n C 0 dX12_multiplies_30 rfl 0 rfl ?_
  refine gj_iload_n C 1 dX12_multiplies_31 rfl 1 rfl ?_
  refine gj_iconst C (v := 2) (by decide) dX12_multiplies_32 ?_
  refine gj_iadd C dX12_multiplies_33 ?_
  refine gj_seti (y := 2) (by decide) ?_
  refine gj_lald C x hx (va_up_self _ _ _) (by unfold vp_in; decide) dX12_multiplies_34 ?_
  refine gj_setl (y := g 2) rfl ?_
  refine gj_aload_n C 0 dX12_multiplies_35 rfl 0 rfl ?_
  refine gj_iload_n C 2 dX12_multiplies_36 rfl 2 rfl ?_
  refine gj_lald C x hx (va_up_self _ _ _) (by unfold vp_in; decide) dX12_multiplies_37 ?_
  refine gj_setl (y := g 3) rfl ?_
  refine gj_lmul C dX12_multiplies_38 ?_
  refine gj_aload_n C 0 dX12_multiplies_39 rfl 0 rfl ?_
  refine gj_iload_n C 1 dX12_multiplies_40 rfl 1 rfl ?_
  refine gj_lald C x hx (va_up_self _ _ _) (by unfold vp_in; decide) dX12_multiplies_41 ?_
  refine gj_setl (y := g 0) rfl ?_
  refine gj_aload_n C 0 dX12_multiplies_42 rfl 0 rfl ?_
  refine gj_iload_n C 2 dX12_multiplies_43 rfl 2 rfl ?_
  refine gj_iconst C (v := 2) (by decide) dX12_multiplies_44 ?_
  refine gj_iadd C dX12_multiplies_45 ?_
  refine gj_seti (y := 5) (by decide) ?_
  refine gj_lald C x hx (va_up_self _ _ _) (by unfold vp_in; decide) dX12_multiplies_46 ?_
  refine gj_setl (y := g 5) rfl ?_
  refine gj_lmul C dX12_multiplies_47 ?_
  refine gj_lsub C dX12_multiplies_48 ?_
  refine gj_last C x hx (va_up_self _ _ _) (by unfold vp_in; decide) dX12_multiplies_49 ?_
  refine gj_setf (bx_uu _ _ _ _) ?_
  refine gj_setf (g := va_up f x (.inl (ca 1, 9, .inr (.inl (vp_updL (vp_updL g 6 (((g 1) * (g 5)) - ((g 2) * (g 4)))) 7 (((g 2) * (g 3)) - ((g 0) * (g 5)))))))) rfl ?_
  refine gj_aload_n C 0 dX12_multiplies_50 rfl 0 rfl ?_
  refine gj_iload_n C 3 dX12_multiplies_51 rfl 3 rfl ?_
  refine gj_iconst C (v := 2) (by decide) dX12_multiplies_52 ?_
  refine gj_iadd C dX12_multiplies_53 ?_
  refine gj_seti (y := 8) (by decide) ?_
  refine gj_aload_n C 0 dX12_multiplies_54 rfl 0 rfl ?_
  refine gj_iload_n C 1 dX12_multiplies_55 rfl 1 rfl ?_
  refine gj_lald C x hx (va_up_self _ _ _) (by unfold vp_in; decide) dX12_multiplies_56 ?_
  refine gj_setl (y := g 0) rfl ?_
  refine gj_aload_n C 0 dX12_multiplies_57 rfl 0 rfl ?_
  refine gj_iload_n C 2 dX12_multiplies_58 rfl 2 rfl ?_
  refine gj_iconst C (v := 1) (by decide) dX12_multiplies_59 ?_
  refine gj_iadd C dX12_multiplies_60 ?_
  refine gj_seti (y := 4) (by decide) ?_
  refine gj_lald C x hx (va_up_self _ _ _) (by unfold vp_in; decide) dX12_multiplies_61 ?_
  refine gj_setl (y := g 4) rfl ?_
  refine gj_lmul C dX12_multiplies_62 ?_
  refine gj_aload_n C 0 dX12_multiplies_63 rfl 0 rfl ?_
  refine gj_iload_n C 1 dX12_multiplies_64 rfl 1 rfl ?_
  refine gj_iconst C (v := 1) (by decide) dX12_multiplies_65 ?_
  refine gj_iadd C dX12_multiplies_66 ?_
  refine gj_seti (y := 1) (by decide) ?_
  refine gj_lald C x hx (va_up_self _ _ _) (by unfold vp_in; decide) dX12_multiplies_67 ?_
  refine gj_setl (y := g 1) rfl ?_
  refine gj_aload_n C 0 dX12_multiplies_68 rfl 0 rfl ?_
  refine gj_iload_n C 2 dX12_multiplies_69 rfl 2 rfl ?_
  refine gj_lald C x hx (va_up_self _ _ _) (by unfold vp_in; decide) dX12_multiplies_70 ?_
  refine gj_setl (y := g 3) rfl ?_
  refine gj_lmul C dX12_multiplies_71 ?_
  refine gj_lsub C dX12_multiplies_72 ?_
  refine gj_last C x hx (va_up_self _ _ _) (by unfold vp_in; decide) dX12_multiplies_73 ?_
  refine gj_setf (bx_uu _ _ _ _) ?_
  refine gj_setf (g := va_up f x (.inl (ca 1, 9, .inr (.inl (vp_updL (vp_updL (vp_updL g 6 (((g 1) * (g 5)) - ((g 2) * (g 4)))) 7 (((g 2) * (g 3)) - ((g 0) * (g 5)))) 8 (((g 0) * (g 4)) - ((g 1) * (g 3)))))))) rfl ?_
  exact RT _ _ _ rfl dX12_multiplies_74
set_option maxHeartbeats 1000000 in
set_option maxRecDepth 100000 in
theorem c_X12_arms {l : Launch} {D : va_G} {ca ss ad : Nat → Nat} {f : Nat → va_E} (x : Nat) (k a b : Int32) (la dr go lo ma pa tu su : Int32) (di : Nat → Int32) (g : Nat → Int64) (hc0 : f 87 = .inr (11, mF ad la dr go lo ma pa tu su)) (hc1 : f 92 = .inl (ca 0, 60, .inl di)) (hc2 : f x = .inl (ca 1, 9, .inr (.inl g))) (hx : x < 108) (hx1 : 87 ≠ x) (hx2 : 92 ≠ x) (ha : dIn k a) (hb : dIn k b) : gMv l D ca ss ad 108 yX12_arms cX12_arms 6 none 1 f [.ref (ad 87), .ref (ad x), .int k, .int a, .int b] (fun u => u = va_up f x (.inl (ca 1, 9, .inr (.inl (armF g (t3 (s_X12_of k a (0 : Int32) di).toInt64 (s_X12_of k a (1 : Int32) di).toInt64 (s_X12_of k a (2 : Int32) di).toInt64) (t3 (s_X12_of k b (0 : Int32) di).toInt64 (s_X12_of k b (1 : Int32) di).toInt64 (s_X12_of k b (2 : Int32) di).toInt64)))))) := by
  refine gMv_ofK (by decide +kernel) (Nat.le_of_ble_eq_true rfl) (lv0 := [(0, .ref (ad 87)), (1, .ref (ad x)), (2, .int k), (3, .int a), (4, .int b)]) rfl (fun pT eT sT mT aT below meth cT AT QT C RT => ?_)
  have C : gX pT sT mT aT meth cT AT D ca ss 6 RX12 cX12_arms none := C
  refine gj_iconst C (v := 0) (by decide) dX12_arms_0 ?_
  refine gj_istore C (lv' := [(5, .int 0), (0, .ref (ad 87)), (1, .ref (ad x)), (2, .int k), (3, .int a), (4, .int b)]) dX12_arms_1 (by decide) rfl ?_
  refine gj_iload C dX12_arms_3 0 rfl ?_
  refine gj_iconst C (v := 3) (by decide) dX12_arms_5 ?_
  refine gj_icmp_ge C 45 dX12_arms_6 (by decide) (fun c_1 => absurd c_1 (by decide)) (fun c_1 => ?_)
  refine gj_aload_n C 1 dX12_arms_9 rfl 2 rfl ?_
  refine gj_iload C dX12_arms_10 0 rfl ?_
  refine gj_aload_n C 0 dX12_arms_12 rfl 1 rfl ?_
  refine gj_iload_n C 2 dX12_arms_13 rfl 3 rfl ?_
  refine gj_iload_n C 3 dX12_arms_14 rfl 4 rfl ?_
  refine gj_iload C dX12_arms_15 0 rfl ?_
  refine gj_callVi C mi_X12_of w_1006 87 (by decide) hc0 rfl (c_X12_of k a (0 : Int32) la dr go lo ma pa tu su di hc0 hc1 ha w0) mc_X12_of ⟨Nat.le_of_ble_eq_true rfl, Nat.le_of_ble_eq_true rfl⟩ (rest := [.int 0, .ref (ad x)]) rfl (Nat.le_of_ble_eq_true rfl) dX12_arms_17 (fun r u h => ?_)
  obtain ⟨rfl, h⟩ := h
  rw [h]
  refine gj_i2l C dX12_arms_20 ?_
  refine gj_last C x hx hc2 (by unfold vp_in; decide) dX12_arms_21 ?_
  refine gj_setf (g := va_up f x (.inl (ca 1, 9, .inr (.inl (vp_updL g 0 ((s_X12_of k a (0 : Int32) di).toInt64)))))) rfl ?_
  refine gj_aload_n C 1 dX12_arms_22 rfl 2 rfl ?_
  refine gj_bipush C (v := 6) (by decide) dX12_arms_23 ?_
  refine gj_iload C dX12_arms_25 0 rfl ?_
  refine gj_iadd C dX12_arms_27 ?_
  refine gj_seti (y := 6) (by decide) ?_
  refine gj_aload_n C 0 dX12_arms_28 rfl 1 rfl ?_
  refine gj_iload_n C 2 dX12_arms_29 rfl 3 rfl ?_
  refine gj_iload C dX12_arms_30 5 rfl ?_
  refine gj_iload C dX12_arms_32 0 rfl ?_
  refine gj_callVi C mi_X12_of w_1006 87 (by decide) (up_nx hx1 (hc0)) rfl (c_X12_of k b (0 : Int32) la dr go lo ma pa tu su di (up_nx hx1 (hc0)) (up_nx hx2 (hc1)) hb w0) mc_X12_of ⟨Nat.le_of_ble_eq_true rfl, Nat.le_of_ble_eq_true rfl⟩ (rest := [.int 6, .ref (ad x)]) rfl (Nat.le_of_ble_eq_true rfl) dX12_arms_34 (fun r u h => ?_)
  obtain ⟨rfl, rfl⟩ := h
  refine gj_i2l C dX12_arms_37 ?_
  refine gj_last C x hx (va_up_self _ _ _) (by unfold vp_in; decide) dX12_arms_38 ?_
  refine gj_setf (bx_uu _ _ _ _) ?_
  refine gj_setf (g := va_up f x (.inl (ca 1, 9, .inr (.inl (vp_updL (vp_updL g 0 ((s_X12_of k a (0 : Int32) di).toInt64)) 6 ((s_X12_of k b (0 : Int32) di).toInt64)))))) rfl ?_
  refine gj_iinc C (v := 1) (lv' := [(5, .int 1), (0, .ref (ad 87)), (1, .ref (ad x)), (2, .int k), (3, .int a), (4, .int b)]) dX12_arms_39 0 rfl (by decide) (by decide) rfl ?_
  refine gj_goto C 3 dX12_arms_42 (by decide) ?_
  refine gj_iload C dX12_arms_3 0 rfl ?_
  refine gj_iconst C (v := 3) (by decide) dX12_arms_5 ?_
  refine gj_icmp_ge C 45 dX12_arms_6 (by decide) (fun c_2 => absurd c_2 (by decide)) (fun c_2 => ?_)
  refine gj_aload_n C 1 dX12_arms_9 rfl 2 rfl ?_
  refine gj_iload C dX12_arms_10 0 rfl ?_
  refine gj_aload_n C 0 dX12_arms_12 rfl 1 rfl ?_
  refine gj_iload_n C 2 dX12_arms_13 rfl 3 rfl ?_
  refine gj_iload_n C 3 dX12_arms_14 rfl 4 rfl ?_
  refine gj_iload C dX12_arms_15 0 rfl ?_
  refine gj_callVi C mi_X12_of w_1006 87 (by decide) (up_nx hx1 (hc0)) rfl (c_X12_of k a (1 : Int32) la dr go lo ma pa tu su di (up_nx hx1 (hc0)) (up_nx hx2 (hc1)) ha w1) mc_X12_of ⟨Nat.le_of_ble_eq_true rfl, Nat.le_of_ble_eq_true rfl⟩ (rest := [.int 1, .ref (ad x)]) rfl (Nat.le_of_ble_eq_true rfl) dX12_arms_17 (fun r u h => ?_)
  obtain ⟨rfl, rfl⟩ := h
  refine gj_i2l C dX12_arms_20 ?_
  refine gj_last C x hx (va_up_self _ _ _) (by unfold vp_in; decide) dX12_arms_21 ?_
  refine gj_setf (bx_uu _ _ _ _) ?_
  refine gj_setf (g := va_up f x (.inl (ca 1, 9, .inr (.inl (vp_updL (vp_updL (vp_updL g 0 ((s_X12_of k a (0 : Int32) di).toInt64)) 6 ((s_X12_of k b (0 : Int32) di).toInt64)) 1 ((s_X12_of k a (1 : Int32) di).toInt64)))))) rfl ?_
  refine gj_aload_n C 1 dX12_arms_22 rfl 2 rfl ?_
  refine gj_bipush C (v := 6) (by decide) dX12_arms_23 ?_
  refine gj_iload C dX12_arms_25 0 rfl ?_
  refine gj_iadd C dX12_arms_27 ?_
  refine gj_seti (y := 7) (by decide) ?_
  refine gj_aload_n C 0 dX12_arms_28 rfl 1 rfl ?_
  refine gj_iload_n C 2 dX12_arms_29 rfl 3 rfl ?_
  refine gj_iload C dX12_arms_30 5 rfl ?_
  refine gj_iload C dX12_arms_32 0 rfl ?_
  refine gj_callVi C mi_X12_of w_1006 87 (by decide) (up_nx hx1 (hc0)) rfl (c_X12_of k b (1 : Int32) la dr go lo ma pa tu su di (up_nx hx1 (hc0)) (up_nx hx2 (hc1)) hb w1) mc_X12_of ⟨Nat.le_of_ble_eq_true rfl, Nat.le_of_ble_eq_true rfl⟩ (rest := [.int 7, .ref (ad x)]) rfl (Nat.le_of_ble_eq_true rfl) dX12_arms_34 (fun r u h => ?_)
  obtain ⟨rfl, rfl⟩ := h
  refine gj_i2l C dX12_arms_37 ?_
  refine gj_last C x hx (va_up_self _ _ _) (by unfold vp_in; decide) dX12_arms_38 ?_
  refine gj_setf (bx_uu _ _ _ _) ?_
  refine gj_setf (g := va_up f x (.inl (ca 1, 9, .inr (.inl (vp_updL (vp_updL (vp_updL (vp_updL g 0 ((s_X12_of k a (0 : Int32) di).toInt64)) 6 ((s_X12_of k b (0 : Int32) di).toInt64)) 1 ((s_X12_of k a (1 : Int32) di).toInt64)) 7 ((s_X12_of k b (1 : Int32) di).toInt64)))))) rfl ?_
  refine gj_iinc C (v := 2) (lv' := [(5, .int 2), (0, .ref (ad 87)), (1, .ref (ad x)), (2, .int k), (3, .int a), (4, .int b)]) dX12_arms_39 0 rfl (by decide) (by decide) rfl ?_
  refine gj_goto C 3 dX12_arms_42 (by decide) ?_
  refine gj_iload C dX12_arms_3 0 rfl ?_
  refine gj_iconst C (v := 3) (by decide) dX12_arms_5 ?_
  refine gj_icmp_ge C 45 dX12_arms_6 (by decide) (fun c_3 => absurd c_3 (by decide)) (fun c_3 => ?_)
  refine gj_aload_n C 1 dX12_arms_9 rfl 2 rfl ?_
  refine gj_iload C dX12_arms_10 0 rfl ?_
  refine gj_aload_n C 0 dX12_arms_12 rfl 1 rfl ?_
  refine gj_iload_n C 2 dX12_arms_13 rfl 3 rfl ?_
  refine gj_iload_n C 3 dX12_arms_14 rfl 4 rfl ?_
  refine gj_iload C dX12_arms_15 0 rfl ?_
  refine gj_callVi C mi_X12_of w_1006 87 (by decide) (up_nx hx1 (hc0)) rfl (c_X12_of k a (2 : Int32) la dr go lo ma pa tu su di (up_nx hx1 (hc0)) (up_nx hx2 (hc1)) ha w2) mc_X12_of ⟨Nat.le_of_ble_eq_true rfl, Nat.le_of_ble_eq_true rfl⟩ (rest := [.int 2, .ref (ad x)]) rfl (Nat.le_of_ble_eq_true rfl) dX12_arms_17 (fun r u h => ?_)
  obtain ⟨rfl, rfl⟩ := h
  refine gj_i2l C dX12_arms_20 ?_
  refine gj_last C x hx (va_up_self _ _ _) (by unfold vp_in; decide) dX12_arms_21 ?_
  refine gj_setf (bx_uu _ _ _ _) ?_
  refine gj_setf (g := va_up f x (.inl (ca 1, 9, .inr (.inl (vp_updL (vp_updL (vp_updL (vp_updL (vp_updL g 0 ((s_X12_of k a (0 : Int32) di).toInt64)) 6 ((s_X12_of k b (0 : Int32) di).toInt64)) 1 ((s_X12_of k a (1 : Int32) di).toInt64)) 7 ((s_X12_of k b (1 : Int32) di).toInt64)) 2 ((s_X12_of k a (2 : Int32) di).toInt64)))))) rfl ?_
  refine gj_aload_n C 1 dX12_arms_22 rfl 2 rfl ?_
  refine gj_bipush C (v := 6) (by decide) dX12_arms_23 ?_
  refine gj_iload C dX12_arms_25 0 rfl ?_
  refine gj_iadd C dX12_arms_27 ?_
  refine gj_seti (y := 8) (by decide) ?_
  refine gj_aload_n C 0 dX12_arms_28 rfl 1 rfl ?_
  refine gj_iload_n C 2 dX12_arms_29 rfl 3 rfl ?_
  refine gj_iload C dX12_arms_30 5 rfl ?_
  refine gj_iload C dX12_arms_32 0 rfl ?_
  refine gj_callVi C mi_X12_of w_1006 87 (by decide) (up_nx hx1 (hc0)) rfl (c_X12_of k b (2 : Int32) la dr go lo ma pa tu su di (up_nx hx1 (hc0)) (up_nx hx2 (hc1)) hb w2) mc_X12_of ⟨Nat.le_of_ble_eq_true rfl, Nat.le_of_ble_eq_true rfl⟩ (rest := [.int 8, .ref (ad x)]) rfl (Nat.le_of_ble_eq_true rfl) dX12_arms_34 (fun r u h => ?_)
  obtain ⟨rfl, rfl⟩ := h
  refine gj_i2l C dX12_arms_37 ?_
  refine gj_last C x hx (va_up_self _ _ _) (by unfold vp_in; decide) dX12_arms_38 ?_
  refine gj_setf (bx_uu _ _ _ _) ?_
  refine gj_setf (g := va_up f x (.inl (ca 1, 9, .inr (.inl (vp_updL (vp_updL (vp_updL (vp_updL (vp_updL (vp_updL g 0 ((s_X12_of k a (0 : Int32) di).toInt64)) 6 ((s_X12_of k b (0 : Int32) di).toInt64)) 1 ((s_X12_of k a (1 : Int32) di).toInt64)) 7 ((s_X12_of k b (1 : Int32) di).toInt64)) 2 ((s_X12_of k a (2 : Int32) di).toInt64)) 8 ((s_X12_of k b (2 : Int32) di).toInt64)))))) rfl ?_
  refine gj_iinc C (v := 3) (lv' := [(5, .int 3), (0, .ref (ad 87)), (1, .ref (ad x)), (2, .int k), (3, .int a), (4, .int b)]) dX12_arms_39 0 rfl (by decide) (by decide) rfl ?_
  refine gj_goto C 3 dX12_arms_42 (by decide) ?_
  refine gj_iload C dX12_arms_3 0 rfl ?_
  refine gj_iconst C (v := 3) (by decide) dX12_arms_5 ?_
  refine gj_icmp_ge C 45 dX12_arms_6 (by decide) (fun c_4 => ?_) (fun c_4 => absurd (by decide) c_4)
  refine gj_aload_n C 1 dX12_arms_45 rfl 2 rfl ?_
  refine gj_iconst C (v := 0) (by decide) dX12_arms_46 ?_
  refine gj_bipush C (v := 6) (by decide) dX12_arms_47 ?_
  refine gj_iconst C (v := 3) (by decide) dX12_arms_49 ?_
  refine gj_callSv C w_1113 w_1112 (c_mul1 x (vp_updL (vp_updL (vp_updL (vp_updL (vp_updL (vp_updL g 0 ((s_X12_of k a (0 : Int32) di).toInt64)) 6 ((s_X12_of k b (0 : Int32) di).toInt64)) 1 ((s_X12_of k a (1 : Int32) di).toInt64)) 7 ((s_X12_of k b (1 : Int32) di).toInt64)) 2 ((s_X12_of k a (2 : Int32) di).toInt64)) 8 ((s_X12_of k b (2 : Int32) di).toInt64)) (va_up_self _ _ _) hx) mc_X12_multiplies ⟨Nat.le_of_ble_eq_true rfl, Nat.le_of_ble_eq_true rfl⟩ (rest := []) rfl (Nat.le_of_ble_eq_true rfl) dX12_arms_50 (fun u h => ?_)
  subst h
  refine gj_setf (bx_uu _ _ _ _) ?_
  refine gj_aload_n C 1 dX12_arms_53 rfl 2 rfl ?_
  refine gj_iconst C (v := 0) (by decide) dX12_arms_54 ?_
  refine gj_iconst C (v := 3) (by decide) dX12_arms_55 ?_
  refine gj_bipush C (v := 6) (by decide) dX12_arms_56 ?_
  refine gj_callSv C w_1113 w_1112 (c_mul2 x (vp_updL (vp_updL (vp_updL (vp_updL (vp_updL (vp_updL (vp_updL (vp_updL (vp_updL g 0 ((s_X12_of k a (0 : Int32) di).toInt64)) 6 ((s_X12_of k b (0 : Int32) di).toInt64)) 1 ((s_X12_of k a (1 : Int32) di).toInt64)) 7 ((s_X12_of k b (1 : Int32) di).toInt64)) 2 ((s_X12_of k a (2 : Int32) di).toInt64)) 8 ((s_X12_of k b (2 : Int32) di).toInt64)) 3 ((((vp_updL (vp_updL (vp_updL (vp_updL (vp_updL (vp_updL g 0 ((s_X12_of k a (0 : Int32) di).toInt64)) 6 ((s_X12_of k b (0 : Int32) di).toInt64)) 1 ((s_X12_of k a (1 : Int32) di).toInt64)) 7 ((s_X12_of k b (1 : Int32) di).toInt64)) 2 ((s_X12_of k a (2 : Int32) di).toInt64)) 8 ((s_X12_of k b (2 : Int32) di).toInt64)) 1) * ((vp_updL (vp_updL (vp_updL (vp_updL (vp_updL (vp_updL g 0 ((s_X12_of k a (0 : Int32) di).toInt64)) 6 ((s_X12_of k b (0 : Int32) di).toInt64)) 1 ((s_X12_of k a (1 : Int32) di).toInt64)) 7 ((s_X12_of k b (1 : Int32) di).toInt64)) 2 ((s_X12_of k a (2 : Int32) di).toInt64)) 8 ((s_X12_of k b (2 : Int32) di).toInt64)) 8)) - (((vp_updL (vp_updL (vp_updL (vp_updL (vp_updL (vp_updL g 0 ((s_X12_of k a (0 : Int32) di).toInt64)) 6 ((s_X12_of k b (0 : Int32) di).toInt64)) 1 ((s_X12_of k a (1 : Int32) di).toInt64)) 7 ((s_X12_of k b (1 : Int32) di).toInt64)) 2 ((s_X12_of k a (2 : Int32) di).toInt64)) 8 ((s_X12_of k b (2 : Int32) di).toInt64)) 2) * ((vp_updL (vp_updL (vp_updL (vp_updL (vp_updL (vp_updL g 0 ((s_X12_of k a (0 : Int32) di).toInt64)) 6 ((s_X12_of k b (0 : Int32) di).toInt64)) 1 ((s_X12_of k a (1 : Int32) di).toInt64)) 7 ((s_X12_of k b (1 : Int32) di).toInt64)) 2 ((s_X12_of k a (2 : Int32) di).toInt64)) 8 ((s_X12_of k b (2 : Int32) di).toInt64)) 7)))) 4 ((((vp_updL (vp_updL (vp_updL (vp_updL (vp_updL (vp_updL g 0 ((s_X12_of k a (0 : Int32) di).toInt64)) 6 ((s_X12_of k b (0 : Int32) di).toInt64)) 1 ((s_X12_of k a (1 : Int32) di).toInt64)) 7 ((s_X12_of k b (1 : Int32) di).toInt64)) 2 ((s_X12_of k a (2 : Int32) di).toInt64)) 8 ((s_X12_of k b (2 : Int32) di).toInt64)) 2) * ((vp_updL (vp_updL (vp_updL (vp_updL (vp_updL (vp_updL g 0 ((s_X12_of k a (0 : Int32) di).toInt64)) 6 ((s_X12_of k b (0 : Int32) di).toInt64)) 1 ((s_X12_of k a (1 : Int32) di).toInt64)) 7 ((s_X12_of k b (1 : Int32) di).toInt64)) 2 ((s_X12_of k a (2 : Int32) di).toInt64)) 8 ((s_X12_of k b (2 : Int32) di).toInt64)) 6)) - (((vp_updL (vp_updL (vp_updL (vp_updL (vp_updL (vp_updL g 0 ((s_X12_of k a (0 : Int32) di).toInt64)) 6 ((s_X12_of k b (0 : Int32) di).toInt64)) 1 ((s_X12_of k a (1 : Int32) di).toInt64)) 7 ((s_X12_of k b (1 : Int32) di).toInt64)) 2 ((s_X12_of k a (2 : Int32) di).toInt64)) 8 ((s_X12_of k b (2 : Int32) di).toInt64)) 0) * ((vp_updL (vp_updL (vp_updL (vp_updL (vp_updL (vp_updL g 0 ((s_X12_of k a (0 : Int32) di).toInt64)) 6 ((s_X12_of k b (0 : Int32) di).toInt64)) 1 ((s_X12_of k a (1 : Int32) di).toInt64)) 7 ((s_X12_of k b (1 : Int32) di).toInt64)) 2 ((s_X12_of k a (2 : Int32) di).toInt64)) 8 ((s_X12_of k b (2 : Int32) di).toInt64)) 8)))) 5 ((((vp_updL (vp_updL (vp_updL (vp_updL (vp_updL (vp_updL g 0 ((s_X12_of k a (0 : Int32) di).toInt64)) 6 ((s_X12_of k b (0 : Int32) di).toInt64)) 1 ((s_X12_of k a (1 : Int32) di).toInt64)) 7 ((s_X12_of k b (1 : Int32) di).toInt64)) 2 ((s_X12_of k a (2 : Int32) di).toInt64)) 8 ((s_X12_of k b (2 : Int32) di).toInt64)) 0) * ((vp_updL (vp_updL (vp_updL (vp_updL (vp_updL (vp_updL g 0 ((s_X12_of k a (0 : Int32) di).toInt64)) 6 ((s_X12_of k b (0 : Int32) di).toInt64)) 1 ((s_X12_of k a (1 : Int32) di).toInt64)) 7 ((s_X12_of k b (1 : Int32) di).toInt64)) 2 ((s_X12_of k a (2 : Int32) di).toInt64)) 8 ((s_X12_of k b (2 : Int32) di).toInt64)) 7)) - (((vp_updL (vp_updL (vp_updL (vp_updL (vp_updL (vp_updL g 0 ((s_X12_of k a (0 : Int32) di).toInt64)) 6 ((s_X12_of k b (0 : Int32) di).toInt64)) 1 ((s_X12_of k a (1 : Int32) di).toInt64)) 7 ((s_X12_of k b (1 : Int32) di).toInt64)) 2 ((s_X12_of k a (2 : Int32) di).toInt64)) 8 ((s_X12_of k b (2 : Int32) di).toInt64)) 1) * ((vp_updL (vp_updL (vp_updL (vp_updL (vp_updL (vp_updL g 0 ((s_X12_of k a (0 : Int32) di).toInt64)) 6 ((s_X12_of k b (0 : Int32) di).toInt64)) 1 ((s_X12_of k a (1 : Int32) di).toInt64)) 7 ((s_X12_of k b (1 : Int32) di).toInt64)) 2 ((s_X12_of k a (2 : Int32) di).toInt64)) 8 ((s_X12_of k b (2 : Int32) di).toInt64)) 6)))) (va_up_self _ _ _) hx) mc_X12_multiplies ⟨Nat.le_of_ble_eq_true rfl, Nat.le_of_ble_eq_true rfl⟩ (rest := []) rfl (Nat.le_of_ble_eq_true rfl) dX12_arms_58 (fun u h => ?_)
  subst h
  refine gj_setf (bx_uu _ _ _ _) ?_
  exact RT _ _ _ (congrArg (fun z => va_up f x (.inl (ca 1, 9, .inr (.inl z)))) (arm_eq _ _ _ _ _ _ _)) dX12_arms_61
def s_X12_nearest (a : Int64) (b : Int64) : Int64 := if 0 ≤ (lg_cmp (((2 * a) + b) - ((2 * a) + b) / (2 * b) * (2 * b)) 0) then (((2 * a) + b) / (2 * b)) else ((((2 * a) + b) / (2 * b)) - 1)
set_option maxHeartbeats 1000000 in
set_option maxRecDepth 100000 in
theorem c_X12_nearest {l : Launch} {D : va_G} {ca ss ad : Nat → Nat} {f : Nat → va_E}  (a : Int64) (b : Int64)   (hz : ¬ 2 * b = 0) : gMl l D ca ss ad 108 yX12_nearest cX12_nearest 10 (some .long) 0 f [.long a, .long b] (fun r u => r = s_X12_nearest a b ∧ u = f) := by
  refine gMl_ofK (by decide +kernel) (Nat.le_of_ble_eq_true rfl) (lv0 := [(0, .long a), (2, .long b)]) rfl (fun pT eT sT mT aT below meth cT AT QT C RT => ?_)
  have C : gX pT sT mT aT meth cT AT D ca ss 10 RX12 cX12_nearest (some .long) := C
  refine gj_ldc2 C (v := 2) w_946 dX12_nearest_0 ?_
  refine gj_lload_n C 0 dX12_nearest_3 rfl 0 rfl ?_
  refine gj_lmul C dX12_nearest_4 ?_
  refine gj_lload_n C 2 dX12_nearest_5 rfl 1 rfl ?_
  refine gj_ladd C dX12_nearest_6 ?_
  refine gj_lstore C (lv' := [(4, .long ((2 * a) + b)), (0, .long a), (2, .long b)]) dX12_nearest_7 (by decide) rfl ?_
  refine gj_ldc2 C (v := 2) w_946 dX12_nearest_9 ?_
  refine gj_lload_n C 2 dX12_nearest_12 rfl 2 rfl ?_
  refine gj_lmul C dX12_nearest_13 ?_
  refine gj_lstore C (lv' := [(6, .long (2 * b)), (4, .long ((2 * a) + b)), (0, .long a), (2, .long b)]) dX12_nearest_14 (by decide) rfl ?_
  refine gj_lload C dX12_nearest_16 1 rfl ?_
  refine gj_lload C dX12_nearest_18 0 rfl ?_
  refine gj_ldiv C hz dX12_nearest_20 ?_
  refine gj_lstore C (lv' := [(8, .long (((2 * a) + b) / (2 * b))), (6, .long (2 * b)), (4, .long ((2 * a) + b)), (0, .long a), (2, .long b)]) dX12_nearest_21 (by decide) rfl ?_
  refine gj_lload C dX12_nearest_23 2 rfl ?_
  refine gj_lload C dX12_nearest_25 1 rfl ?_
  refine gj_lrem C hz dX12_nearest_27 ?_
  refine gj_lconst C (v := 0) rfl dX12_nearest_28 ?_
  refine gj_lcmp C dX12_nearest_29 ?_
  refine gj_if_ge C 40 dX12_nearest_30 (by decide) (fun c_1 => ?_) (fun c_1 => ?_)
  · refine gj_lload C dX12_nearest_40 0 rfl ?_
    exact RT _ _ _ _ ⟨by unfold s_X12_nearest; rw [if_pos c_1], rfl⟩ dX12_nearest_42
  · refine gj_lload C dX12_nearest_33 0 rfl ?_
    refine gj_lconst C (v := 1) rfl dX12_nearest_35 ?_
    refine gj_lsub C dX12_nearest_36 ?_
    refine gj_goto C 42 dX12_nearest_37 (by decide) ?_
    exact RT _ _ _ _ ⟨by unfold s_X12_nearest; rw [if_neg c_1], rfl⟩ dX12_nearest_42
def s_X12_isNone (g : Nat → Int64) : Int32 := if (lg_cmp (g 3) 0) = 0 then (if (lg_cmp (g 4) 0) = 0 then (if (lg_cmp (g 5) 0) = 0 then (1) else (0)) else (0)) else (0)
theorem b_X12_isNone (g : Nat → Int64) : s_X12_isNone g = 0 ∨ s_X12_isNone g = 1 := by
  unfold s_X12_isNone
  repeat' split
  all_goals first | exact Or.inl rfl | exact Or.inr rfl
set_option maxHeartbeats 1000000 in
set_option maxRecDepth 100000 in
theorem c_X12_isNone {l : Launch} {D : va_G} {ca ss ad : Nat → Nat} {f : Nat → va_E}  (x : Nat) (g : Nat → Int64) (hc0 : f x = .inl (ca 1, 9, .inr (.inl g))) (hx : x < 108) : gMi l D ca ss ad 108 yX12_isNone cX12_isNone 1 (some .boolean) 0 f [.ref (ad x)] (fun r u => r = s_X12_isNone g ∧ u = f) := by
  refine gMz_ofK (by decide +kernel) (Nat.le_of_ble_eq_true rfl) (lv0 := [(0, .ref (ad x))]) rfl (fun pT eT sT mT aT below meth cT AT QT C RT => ?_)
  have C : gX pT sT mT aT meth cT AT D ca ss 1 RX12 cX12_isNone (some .boolean) := C
  refine gj_aload_n C 0 dX12_isNone_0 rfl 0 rfl ?_
  refine gj_iconst C (v := 3) (by decide) dX12_isNone_1 ?_
  refine gj_lald C x hx hc0 (by unfold vp_in; decide) dX12_isNone_2 ?_
  refine gj_setl (y := g 3) rfl ?_
  refine gj_lconst C (v := 0) rfl dX12_isNone_3 ?_
  refine gj_lcmp C dX12_isNone_4 ?_
  refine gj_if_ne C 28 dX12_isNone_5 (by decide) (fun c_1 => ?_) (fun c_1 => ?_)
  · refine gj_iconst C (v := 0) (by decide) dX12_isNone_28 ?_
    exact RT _ _ _ _ (by decide) ⟨by unfold s_X12_isNone; rw [if_neg c_1], rfl⟩ dX12_isNone_29
  · refine gj_aload_n C 0 dX12_isNone_8 rfl 0 rfl ?_
    refine gj_iconst C (v := 4) (by decide) dX12_isNone_9 ?_
    refine gj_lald C x hx hc0 (by unfold vp_in; decide) dX12_isNone_10 ?_
    refine gj_setl (y := g 4) rfl ?_
    refine gj_lconst C (v := 0) rfl dX12_isNone_11 ?_
    refine gj_lcmp C dX12_isNone_12 ?_
    refine gj_if_ne C 28 dX12_isNone_13 (by decide) (fun c_2 => ?_) (fun c_2 => ?_)
    · refine gj_iconst C (v := 0) (by decide) dX12_isNone_28 ?_
      exact RT _ _ _ _ (by decide) ⟨by unfold s_X12_isNone; rw [if_pos c_1, if_neg c_2], rfl⟩ dX12_isNone_29
    · refine gj_aload_n C 0 dX12_isNone_16 rfl 0 rfl ?_
      refine gj_iconst C (v := 5) (by decide) dX12_isNone_17 ?_
      refine gj_lald C x hx hc0 (by unfold vp_in; decide) dX12_isNone_18 ?_
      refine gj_setl (y := g 5) rfl ?_
      refine gj_lconst C (v := 0) rfl dX12_isNone_19 ?_
      refine gj_lcmp C dX12_isNone_20 ?_
      refine gj_if_ne C 28 dX12_isNone_21 (by decide) (fun c_3 => ?_) (fun c_3 => ?_)
      · refine gj_iconst C (v := 0) (by decide) dX12_isNone_28 ?_
        exact RT _ _ _ _ (by decide) ⟨by unfold s_X12_isNone; rw [if_pos c_1, if_pos c_2, if_neg c_3], rfl⟩ dX12_isNone_29
      · refine gj_iconst C (v := 1) (by decide) dX12_isNone_24 ?_
        refine gj_goto C 29 dX12_isNone_25 (by decide) ?_
        exact RT _ _ _ _ (by decide) ⟨by unfold s_X12_isNone; rw [if_pos c_1, if_pos c_2, if_pos c_3], rfl⟩ dX12_isNone_29
def s_X12_coordinate (i : Nat) (w : Nat) (di : Nat → Int32) (sta : Nat → Int64) (spa : Nat → Int64) (sf : Nat → Int64) : Int32 := (s_X12_nearest (((0 + (((((0 + (((s_X12_of (0 : Int32) (nI i) (0 : Int32) di).toInt64) * (sta 0))) + (((s_X12_of (0 : Int32) (nI i) (1 : Int32) di).toInt64) * (sta 1))) + (((s_X12_of (0 : Int32) (nI i) (2 : Int32) di).toInt64) * (sta 2))) * (spa (0 + w))) * (sf 1))) + (((((0 + (((s_X12_of (0 : Int32) (nI i) (0 : Int32) di).toInt64) * (sta 3))) + (((s_X12_of (0 : Int32) (nI i) (1 : Int32) di).toInt64) * (sta 4))) + (((s_X12_of (0 : Int32) (nI i) (2 : Int32) di).toInt64) * (sta 5))) * (spa (3 + w))) * (sf 0))) + (((((0 + (((s_X12_of (0 : Int32) (nI i) (0 : Int32) di).toInt64) * (sta 6))) + (((s_X12_of (0 : Int32) (nI i) (1 : Int32) di).toInt64) * (sta 7))) + (((s_X12_of (0 : Int32) (nI i) (2 : Int32) di).toInt64) * (sta 8))) * (spa (6 + w))) * 1)) (sf 2)).toInt32
set_option maxHeartbeats 1000000 in
set_option maxRecDepth 100000 in
theorem c_X12_coordinate {l : Launch} {D : va_G} {ca ss ad : Nat → Nat} {f : Nat → va_E}  (i : Nat) (w : Nat) (la : Int32) (dr : Int32) (go : Int32) (lo : Int32) (ma : Int32) (pa : Int32) (tu : Int32) (su : Int32) (di : Nat → Int32) (sta : Nat → Int64) (spa : Nat → Int64) (sf : Nat → Int64) (hc0 : f 87 = .inr (11, mF ad la dr go lo ma pa tu su)) (hc1 : f 92 = .inl (ca 0, 60, .inl di)) (hc2 : f 99 = .inl (ca 1, 9, .inr (.inl sta))) (hc3 : f 100 = .inl (ca 1, 9, .inr (.inl spa))) (hc4 : f 101 = .inl (ca 1, 3, .inr (.inl sf))) (hi : i < 12) (hw : w < 3) (hz : ¬ 2 * sf 2 = 0) : gMi l D ca ss ad 108 yX12_coordinate cX12_coordinate 9 (some .int) 1 f [.ref (ad 87), .int (nI i), .int (nI w)] (fun r u => r = s_X12_coordinate i w di sta spa sf ∧ u = f) := by
  refine gMi_ofK (by decide +kernel) (Nat.le_of_ble_eq_true rfl) (lv0 := [(0, .ref (ad 87)), (1, .int (nI i)), (2, .int (nI w))]) rfl (fun pT eT sT mT aT below meth cT AT QT C RT => ?_)
  have C : gX pT sT mT aT meth cT AT D ca ss 9 RX12 cX12_coordinate (some .int) := C
  refine gj_lconst C (v := 0) rfl dX12_coordinate_0 ?_
  refine gj_lstore_n C (lv' := [(3, .long 0), (0, .ref (ad 87)), (1, .int (nI i)), (2, .int (nI w))]) 3 dX12_coordinate_1 rfl (by decide) rfl ?_
  refine gj_iconst C (v := 0) (by decide) dX12_coordinate_2 ?_
  refine gj_istore C (lv' := [(5, .int 0), (3, .long 0), (0, .ref (ad 87)), (1, .int (nI i)), (2, .int (nI w))]) dX12_coordinate_3 (by decide) rfl ?_
  refine gj_iload C dX12_coordinate_5 0 rfl ?_
  refine gj_iconst C (v := 3) (by decide) dX12_coordinate_7 ?_
  refine gj_icmp_ge C 110 dX12_coordinate_8 (by decide) (fun c_1 => absurd c_1 (by decide)) (fun c_1 => ?_)
  refine gj_lconst C (v := 0) rfl dX12_coordinate_11 ?_
  refine gj_lstore C (lv' := [(6, .long 0), (5, .int 0), (3, .long 0), (0, .ref (ad 87)), (1, .int (nI i)), (2, .int (nI w))]) dX12_coordinate_12 (by decide) rfl ?_
  refine gj_iconst C (v := 0) (by decide) dX12_coordinate_14 ?_
  refine gj_istore C (lv' := [(8, .int 0), (6, .long 0), (5, .int 0), (3, .long 0), (0, .ref (ad 87)), (1, .int (nI i)), (2, .int (nI w))]) dX12_coordinate_15 (by decide) rfl ?_
  refine gj_iload C dX12_coordinate_17 0 rfl ?_
  refine gj_iconst C (v := 3) (by decide) dX12_coordinate_19 ?_
  refine gj_icmp_ge C 56 dX12_coordinate_20 (by decide) (fun c_2 => absurd c_2 (by decide)) (fun c_2 => ?_)
  refine gj_lload C dX12_coordinate_23 1 rfl ?_
  refine gj_aload_n C 0 dX12_coordinate_25 rfl 4 rfl ?_
  refine gj_iconst C (v := 0) (by decide) dX12_coordinate_26 ?_
  refine gj_iload_n C 1 dX12_coordinate_27 rfl 5 rfl ?_
  refine gj_iload C dX12_coordinate_28 0 rfl ?_
  refine gj_callVi C mi_X12_of w_1006 87 (by decide) hc0 rfl (c_X12_of (0 : Int32) (nI i) (0 : Int32) la dr go lo ma pa tu su di hc0 hc1 (dIn_0 (by omega)) w0) mc_X12_of ⟨Nat.le_of_ble_eq_true rfl, Nat.le_of_ble_eq_true rfl⟩ (rest := [.long 0]) rfl (Nat.le_of_ble_eq_true rfl) dX12_coordinate_30 (fun r u h => ?_)
  obtain ⟨rfl, h⟩ := h
  rw [h]
  refine gj_i2l C dX12_coordinate_33 ?_
  refine gj_aload_n C 0 dX12_coordinate_34 rfl 4 rfl ?_
  refine gj_get C 87 (by decide) hc0 inX12 rfl 18 (by decide) w_867 (v := .ref (ad 99)) rfl dX12_coordinate_35 ?_
  refine gj_iconst C (v := 3) (by decide) dX12_coordinate_38 ?_
  refine gj_iload C dX12_coordinate_39 2 rfl ?_
  refine gj_imul C dX12_coordinate_41 ?_
  refine gj_seti (y := 0) (by decide) ?_
  refine gj_iload C dX12_coordinate_42 0 rfl ?_
  refine gj_iadd C dX12_coordinate_44 ?_
  refine gj_seti (y := 0) (by decide) ?_
  refine gj_lald C 99 (by decide) hc2 (by unfold vp_in; decide) dX12_coordinate_45 ?_
  refine gj_setl (y := sta 0) rfl ?_
  refine gj_lmul C dX12_coordinate_46 ?_
  refine gj_ladd C dX12_coordinate_47 ?_
  refine gj_lstore C (lv' := [(6, .long (0 + (((s_X12_of (0 : Int32) (nI i) (0 : Int32) di).toInt64) * (sta 0)))), (8, .int 0), (5, .int 0), (3, .long 0), (0, .ref (ad 87)), (1, .int (nI i)), (2, .int (nI w))]) dX12_coordinate_48 (by decide) rfl ?_
  refine gj_iinc C (v := 1) (lv' := [(8, .int 1), (6, .long (0 + (((s_X12_of (0 : Int32) (nI i) (0 : Int32) di).toInt64) * (sta 0)))), (5, .int 0), (3, .long 0), (0, .ref (ad 87)), (1, .int (nI i)), (2, .int (nI w))]) dX12_coordinate_50 1 rfl (by decide) (by decide) rfl ?_
  refine gj_goto C 17 dX12_coordinate_53 (by decide) ?_
  refine gj_iload C dX12_coordinate_17 0 rfl ?_
  refine gj_iconst C (v := 3) (by decide) dX12_coordinate_19 ?_
  refine gj_icmp_ge C 56 dX12_coordinate_20 (by decide) (fun c_3 => absurd c_3 (by decide)) (fun c_3 => ?_)
  refine gj_lload C dX12_coordinate_23 1 rfl ?_
  refine gj_aload_n C 0 dX12_coordinate_25 rfl 4 rfl ?_
  refine gj_iconst C (v := 0) (by decide) dX12_coordinate_26 ?_
  refine gj_iload_n C 1 dX12_coordinate_27 rfl 5 rfl ?_
  refine gj_iload C dX12_coordinate_28 0 rfl ?_
  refine gj_callVi C mi_X12_of w_1006 87 (by decide) hc0 rfl (c_X12_of (0 : Int32) (nI i) (1 : Int32) la dr go lo ma pa tu su di hc0 hc1 (dIn_0 (by omega)) w1) mc_X12_of ⟨Nat.le_of_ble_eq_true rfl, Nat.le_of_ble_eq_true rfl⟩ (rest := [.long (0 + (((s_X12_of (0 : Int32) (nI i) (0 : Int32) di).toInt64) * (sta 0)))]) rfl (Nat.le_of_ble_eq_true rfl) dX12_coordinate_30 (fun r u h => ?_)
  obtain ⟨rfl, h⟩ := h
  rw [h]
  refine gj_i2l C dX12_coordinate_33 ?_
  refine gj_aload_n C 0 dX12_coordinate_34 rfl 4 rfl ?_
  refine gj_get C 87 (by decide) hc0 inX12 rfl 18 (by decide) w_867 (v := .ref (ad 99)) rfl dX12_coordinate_35 ?_
  refine gj_iconst C (v := 3) (by decide) dX12_coordinate_38 ?_
  refine gj_iload C dX12_coordinate_39 2 rfl ?_
  refine gj_imul C dX12_coordinate_41 ?_
  refine gj_seti (y := 0) (by decide) ?_
  refine gj_iload C dX12_coordinate_42 0 rfl ?_
  refine gj_iadd C dX12_coordinate_44 ?_
  refine gj_seti (y := 1) (by decide) ?_
  refine gj_lald C 99 (by decide) hc2 (by unfold vp_in; decide) dX12_coordinate_45 ?_
  refine gj_setl (y := sta 1) rfl ?_
  refine gj_lmul C dX12_coordinate_46 ?_
  refine gj_ladd C dX12_coordinate_47 ?_
  refine gj_lstore C (lv' := [(6, .long ((0 + (((s_X12_of (0 : Int32) (nI i) (0 : Int32) di).toInt64) * (sta 0))) + (((s_X12_of (0 : Int32) (nI i) (1 : Int32) di).toInt64) * (sta 1)))), (8, .int 1), (5, .int 0), (3, .long 0), (0, .ref (ad 87)), (1, .int (nI i)), (2, .int (nI w))]) dX12_coordinate_48 (by decide) rfl ?_
  refine gj_iinc C (v := 2) (lv' := [(8, .int 2), (6, .long ((0 + (((s_X12_of (0 : Int32) (nI i) (0 : Int32) di).toInt64) * (sta 0))) + (((s_X12_of (0 : Int32) (nI i) (1 : Int32) di).toInt64) * (sta 1)))), (5, .int 0), (3, .long 0), (0, .ref (ad 87)), (1, .int (nI i)), (2, .int (nI w))]) dX12_coordinate_50 1 rfl (by decide) (by decide) rfl ?_
  refine gj_goto C 17 dX12_coordinate_53 (by decide) ?_
  refine gj_iload C dX12_coordinate_17 0 rfl ?_
  refine gj_iconst C (v := 3) (by decide) dX12_coordinate_19 ?_
  refine gj_icmp_ge C 56 dX12_coordinate_20 (by decide) (fun c_4 => absurd c_4 (by decide)) (fun c_4 => ?_)
  refine gj_lload C dX12_coordinate_23 1 rfl ?_
  refine gj_aload_n C 0 dX12_coordinate_25 rfl 4 rfl ?_
  refine gj_iconst C (v := 0) (by decide) dX12_coordinate_26 ?_
  refine gj_iload_n C 1 dX12_coordinate_27 rfl 5 rfl ?_
  refine gj_iload C dX12_coordinate_28 0 rfl ?_
  refine gj_callVi C mi_X12_of w_1006 87 (by decide) hc0 rfl (c_X12_of (0 : Int32) (nI i) (2 : Int32) la dr go lo ma pa tu su di hc0 hc1 (dIn_0 (by omega)) w2) mc_X12_of ⟨Nat.le_of_ble_eq_true rfl, Nat.le_of_ble_eq_true rfl⟩ (rest := [.long ((0 + (((s_X12_of (0 : Int32) (nI i) (0 : Int32) di).toInt64) * (sta 0))) + (((s_X12_of (0 : Int32) (nI i) (1 : Int32) di).toInt64) * (sta 1)))]) rfl (Nat.le_of_ble_eq_true rfl) dX12_coordinate_30 (fun r u h => ?_)
  obtain ⟨rfl, h⟩ := h
  rw [h]
  refine gj_i2l C dX12_coordinate_33 ?_
  refine gj_aload_n C 0 dX12_coordinate_34 rfl 4 rfl ?_
  refine gj_get C 87 (by decide) hc0 inX12 rfl 18 (by decide) w_867 (v := .ref (ad 99)) rfl dX12_coordinate_35 ?_
  refine gj_iconst C (v := 3) (by decide) dX12_coordinate_38 ?_
  refine gj_iload C dX12_coordinate_39 2 rfl ?_
  refine gj_imul C dX12_coordinate_41 ?_
  refine gj_seti (y := 0) (by decide) ?_
  refine gj_iload C dX12_coordinate_42 0 rfl ?_
  refine gj_iadd C dX12_coordinate_44 ?_
  refine gj_seti (y := 2) (by decide) ?_
  refine gj_lald C 99 (by decide) hc2 (by unfold vp_in; decide) dX12_coordinate_45 ?_
  refine gj_setl (y := sta 2) rfl ?_
  refine gj_lmul C dX12_coordinate_46 ?_
  refine gj_ladd C dX12_coordinate_47 ?_
  refine gj_lstore C (lv' := [(6, .long (((0 + (((s_X12_of (0 : Int32) (nI i) (0 : Int32) di).toInt64) * (sta 0))) + (((s_X12_of (0 : Int32) (nI i) (1 : Int32) di).toInt64) * (sta 1))) + (((s_X12_of (0 : Int32) (nI i) (2 : Int32) di).toInt64) * (sta 2)))), (8, .int 2), (5, .int 0), (3, .long 0), (0, .ref (ad 87)), (1, .int (nI i)), (2, .int (nI w))]) dX12_coordinate_48 (by decide) rfl ?_
  refine gj_iinc C (v := 3) (lv' := [(8, .int 3), (6, .long (((0 + (((s_X12_of (0 : Int32) (nI i) (0 : Int32) di).toInt64) * (sta 0))) + (((s_X12_of (0 : Int32) (nI i) (1 : Int32) di).toInt64) * (sta 1))) + (((s_X12_of (0 : Int32) (nI i) (2 : Int32) di).toInt64) * (sta 2)))), (5, .int 0), (3, .long 0), (0, .ref (ad 87)), (1, .int (nI i)), (2, .int (nI w))]) dX12_coordinate_50 1 rfl (by decide) (by decide) rfl ?_
  refine gj_goto C 17 dX12_coordinate_53 (by decide) ?_
  refine gj_iload C dX12_coordinate_17 0 rfl ?_
  refine gj_iconst C (v := 3) (by decide) dX12_coordinate_19 ?_
  refine gj_icmp_ge C 56 dX12_coordinate_20 (by decide) (fun c_5 => ?_) (fun c_5 => absurd (by decide) c_5)
  refine gj_lload_n C 3 dX12_coordinate_56 rfl 3 rfl ?_
  refine gj_lload C dX12_coordinate_57 1 rfl ?_
  refine gj_aload_n C 0 dX12_coordinate_59 rfl 4 rfl ?_
  refine gj_get C 87 (by decide) hc0 inX12 rfl 19 (by decide) w_868 (v := .ref (ad 100)) rfl dX12_coordinate_60 ?_
  refine gj_iconst C (v := 3) (by decide) dX12_coordinate_63 ?_
  refine gj_iload C dX12_coordinate_64 2 rfl ?_
  refine gj_imul C dX12_coordinate_66 ?_
  refine gj_seti (y := 0) (by decide) ?_
  refine gj_iload_n C 2 dX12_coordinate_67 rfl 6 rfl ?_
  refine gj_iadd C dX12_coordinate_68 ?_
  refine gj_lald C 100 (by decide) hc3 (lw_in (a := 0) (by omega) (by omega)) dX12_coordinate_69 ?_
  refine gj_setl (congrArg _ (lw_cl (a := 0) (by omega))) ?_
  refine gj_lmul C dX12_coordinate_70 ?_
  refine gj_iload C dX12_coordinate_71 2 rfl ?_
  refine gj_if_ne C 85 dX12_coordinate_73 (by decide) (fun c_6 => absurd (by decide) c_6) (fun c_6 => ?_)
  refine gj_aload_n C 0 dX12_coordinate_76 rfl 4 rfl ?_
  refine gj_get C 87 (by decide) hc0 inX12 rfl 20 (by decide) w_869 (v := .ref (ad 101)) rfl dX12_coordinate_77 ?_
  refine gj_iconst C (v := 1) (by decide) dX12_coordinate_80 ?_
  refine gj_lald C 101 (by decide) hc4 (by unfold vp_in; decide) dX12_coordinate_81 ?_
  refine gj_setl (y := sf 1) rfl ?_
  refine gj_goto C 101 dX12_coordinate_82 (by decide) ?_
  refine gj_lmul C dX12_coordinate_101 ?_
  refine gj_ladd C dX12_coordinate_102 ?_
  refine gj_lstore_n C (lv' := [(3, .long (0 + (((((0 + (((s_X12_of (0 : Int32) (nI i) (0 : Int32) di).toInt64) * (sta 0))) + (((s_X12_of (0 : Int32) (nI i) (1 : Int32) di).toInt64) * (sta 1))) + (((s_X12_of (0 : Int32) (nI i) (2 : Int32) di).toInt64) * (sta 2))) * (spa (0 + w))) * (sf 1)))), (8, .int 3), (6, .long (((0 + (((s_X12_of (0 : Int32) (nI i) (0 : Int32) di).toInt64) * (sta 0))) + (((s_X12_of (0 : Int32) (nI i) (1 : Int32) di).toInt64) * (sta 1))) + (((s_X12_of (0 : Int32) (nI i) (2 : Int32) di).toInt64) * (sta 2)))), (5, .int 0), (0, .ref (ad 87)), (1, .int (nI i)), (2, .int (nI w))]) 3 dX12_coordinate_103 rfl (by decide) rfl ?_
  refine gj_iinc C (v := 1) (lv' := [(5, .int 1), (3, .long (0 + (((((0 + (((s_X12_of (0 : Int32) (nI i) (0 : Int32) di).toInt64) * (sta 0))) + (((s_X12_of (0 : Int32) (nI i) (1 : Int32) di).toInt64) * (sta 1))) + (((s_X12_of (0 : Int32) (nI i) (2 : Int32) di).toInt64) * (sta 2))) * (spa (0 + w))) * (sf 1)))), (8, .int 3), (6, .long (((0 + (((s_X12_of (0 : Int32) (nI i) (0 : Int32) di).toInt64) * (sta 0))) + (((s_X12_of (0 : Int32) (nI i) (1 : Int32) di).toInt64) * (sta 1))) + (((s_X12_of (0 : Int32) (nI i) (2 : Int32) di).toInt64) * (sta 2)))), (0, .ref (ad 87)), (1, .int (nI i)), (2, .int (nI w))]) dX12_coordinate_104 3 rfl (by decide) (by decide) rfl ?_
  refine gj_goto C 5 dX12_coordinate_107 (by decide) ?_
  refine gj_iload C dX12_coordinate_5 0 rfl ?_
  refine gj_iconst C (v := 3) (by decide) dX12_coordinate_7 ?_
  refine gj_icmp_ge C 110 dX12_coordinate_8 (by decide) (fun c_7 => absurd c_7 (by decide)) (fun c_7 => ?_)
  refine gj_lconst C (v := 0) rfl dX12_coordinate_11 ?_
  refine gj_lstore C (lv' := [(6, .long 0), (5, .int 1), (3, .long (0 + (((((0 + (((s_X12_of (0 : Int32) (nI i) (0 : Int32) di).toInt64) * (sta 0))) + (((s_X12_of (0 : Int32) (nI i) (1 : Int32) di).toInt64) * (sta 1))) + (((s_X12_of (0 : Int32) (nI i) (2 : Int32) di).toInt64) * (sta 2))) * (spa (0 + w))) * (sf 1)))), (8, .int 3), (0, .ref (ad 87)), (1, .int (nI i)), (2, .int (nI w))]) dX12_coordinate_12 (by decide) rfl ?_
  refine gj_iconst C (v := 0) (by decide) dX12_coordinate_14 ?_
  refine gj_istore C (lv' := [(8, .int 0), (6, .long 0), (5, .int 1), (3, .long (0 + (((((0 + (((s_X12_of (0 : Int32) (nI i) (0 : Int32) di).toInt64) * (sta 0))) + (((s_X12_of (0 : Int32) (nI i) (1 : Int32) di).toInt64) * (sta 1))) + (((s_X12_of (0 : Int32) (nI i) (2 : Int32) di).toInt64) * (sta 2))) * (spa (0 + w))) * (sf 1)))), (0, .ref (ad 87)), (1, .int (nI i)), (2, .int (nI w))]) dX12_coordinate_15 (by decide) rfl ?_
  refine gj_iload C dX12_coordinate_17 0 rfl ?_
  refine gj_iconst C (v := 3) (by decide) dX12_coordinate_19 ?_
  refine gj_icmp_ge C 56 dX12_coordinate_20 (by decide) (fun c_8 => absurd c_8 (by decide)) (fun c_8 => ?_)
  refine gj_lload C dX12_coordinate_23 1 rfl ?_
  refine gj_aload_n C 0 dX12_coordinate_25 rfl 4 rfl ?_
  refine gj_iconst C (v := 0) (by decide) dX12_coordinate_26 ?_
  refine gj_iload_n C 1 dX12_coordinate_27 rfl 5 rfl ?_
  refine gj_iload C dX12_coordinate_28 0 rfl ?_
  refine gj_callVi C mi_X12_of w_1006 87 (by decide) hc0 rfl (c_X12_of (0 : Int32) (nI i) (0 : Int32) la dr go lo ma pa tu su di hc0 hc1 (dIn_0 (by omega)) w0) mc_X12_of ⟨Nat.le_of_ble_eq_true rfl, Nat.le_of_ble_eq_true rfl⟩ (rest := [.long 0]) rfl (Nat.le_of_ble_eq_true rfl) dX12_coordinate_30 (fun r u h => ?_)
  obtain ⟨rfl, h⟩ := h
  rw [h]
  refine gj_i2l C dX12_coordinate_33 ?_
  refine gj_aload_n C 0 dX12_coordinate_34 rfl 4 rfl ?_
  refine gj_get C 87 (by decide) hc0 inX12 rfl 18 (by decide) w_867 (v := .ref (ad 99)) rfl dX12_coordinate_35 ?_
  refine gj_iconst C (v := 3) (by decide) dX12_coordinate_38 ?_
  refine gj_iload C dX12_coordinate_39 2 rfl ?_
  refine gj_imul C dX12_coordinate_41 ?_
  refine gj_seti (y := 3) (by decide) ?_
  refine gj_iload C dX12_coordinate_42 0 rfl ?_
  refine gj_iadd C dX12_coordinate_44 ?_
  refine gj_seti (y := 3) (by decide) ?_
  refine gj_lald C 99 (by decide) hc2 (by unfold vp_in; decide) dX12_coordinate_45 ?_
  refine gj_setl (y := sta 3) rfl ?_
  refine gj_lmul C dX12_coordinate_46 ?_
  refine gj_ladd C dX12_coordinate_47 ?_
  refine gj_lstore C (lv' := [(6, .long (0 + (((s_X12_of (0 : Int32) (nI i) (0 : Int32) di).toInt64) * (sta 3)))), (8, .int 0), (5, .int 1), (3, .long (0 + (((((0 + (((s_X12_of (0 : Int32) (nI i) (0 : Int32) di).toInt64) * (sta 0))) + (((s_X12_of (0 : Int32) (nI i) (1 : Int32) di).toInt64) * (sta 1))) + (((s_X12_of (0 : Int32) (nI i) (2 : Int32) di).toInt64) * (sta 2))) * (spa (0 + w))) * (sf 1)))), (0, .ref (ad 87)), (1, .int (nI i)), (2, .int (nI w))]) dX12_coordinate_48 (by decide) rfl ?_
  refine gj_iinc C (v := 1) (lv' := [(8, .int 1), (6, .long (0 + (((s_X12_of (0 : Int32) (nI i) (0 : Int32) di).toInt64) * (sta 3)))), (5, .int 1), (3, .long (0 + (((((0 + (((s_X12_of (0 : Int32) (nI i) (0 : Int32) di).toInt64) * (sta 0))) + (((s_X12_of (0 : Int32) (nI i) (1 : Int32) di).toInt64) * (sta 1))) + (((s_X12_of (0 : Int32) (nI i) (2 : Int32) di).toInt64) * (sta 2))) * (spa (0 + w))) * (sf 1)))), (0, .ref (ad 87)), (1, .int (nI i)), (2, .int (nI w))]) dX12_coordinate_50 1 rfl (by decide) (by decide) rfl ?_
  refine gj_goto C 17 dX12_coordinate_53 (by decide) ?_
  refine gj_iload C dX12_coordinate_17 0 rfl ?_
  refine gj_iconst C (v := 3) (by decide) dX12_coordinate_19 ?_
  refine gj_icmp_ge C 56 dX12_coordinate_20 (by decide) (fun c_9 => absurd c_9 (by decide)) (fun c_9 => ?_)
  refine gj_lload C dX12_coordinate_23 1 rfl ?_
  refine gj_aload_n C 0 dX12_coordinate_25 rfl 4 rfl ?_
  refine gj_iconst C (v := 0) (by decide) dX12_coordinate_26 ?_
  refine gj_iload_n C 1 dX12_coordinate_27 rfl 5 rfl ?_
  refine gj_iload C dX12_coordinate_28 0 rfl ?_
  refine gj_callVi C mi_X12_of w_1006 87 (by decide) hc0 rfl (c_X12_of (0 : Int32) (nI i) (1 : Int32) la dr go lo ma pa tu su di hc0 hc1 (dIn_0 (by omega)) w1) mc_X12_of ⟨Nat.le_of_ble_eq_true rfl, Nat.le_of_ble_eq_true rfl⟩ (rest := [.long (0 + (((s_X12_of (0 : Int32) (nI i) (0 : Int32) di).toInt64) * (sta 3)))]) rfl (Nat.le_of_ble_eq_true rfl) dX12_coordinate_30 (fun r u h => ?_)
  obtain ⟨rfl, h⟩ := h
  rw [h]
  refine gj_i2l C dX12_coordinate_33 ?_
  refine gj_aload_n C 0 dX12_coordinate_34 rfl 4 rfl ?_
  refine gj_get C 87 (by decide) hc0 inX12 rfl 18 (by decide) w_867 (v := .ref (ad 99)) rfl dX12_coordinate_35 ?_
  refine gj_iconst C (v := 3) (by decide) dX12_coordinate_38 ?_
  refine gj_iload C dX12_coordinate_39 2 rfl ?_
  refine gj_imul C dX12_coordinate_41 ?_
  refine gj_seti (y := 3) (by decide) ?_
  refine gj_iload C dX12_coordinate_42 0 rfl ?_
  refine gj_iadd C dX12_coordinate_44 ?_
  refine gj_seti (y := 4) (by decide) ?_
  refine gj_lald C 99 (by decide) hc2 (by unfold vp_in; decide) dX12_coordinate_45 ?_
  refine gj_setl (y := sta 4) rfl ?_
  refine gj_lmul C dX12_coordinate_46 ?_
  refine gj_ladd C dX12_coordinate_47 ?_
  refine gj_lstore C (lv' := [(6, .long ((0 + (((s_X12_of (0 : Int32) (nI i) (0 : Int32) di).toInt64) * (sta 3))) + (((s_X12_of (0 : Int32) (nI i) (1 : Int32) di).toInt64) * (sta 4)))), (8, .int 1), (5, .int 1), (3, .long (0 + (((((0 + (((s_X12_of (0 : Int32) (nI i) (0 : Int32) di).toInt64) * (sta 0))) + (((s_X12_of (0 : Int32) (nI i) (1 : Int32) di).toInt64) * (sta 1))) + (((s_X12_of (0 : Int32) (nI i) (2 : Int32) di).toInt64) * (sta 2))) * (spa (0 + w))) * (sf 1)))), (0, .ref (ad 87)), (1, .int (nI i)), (2, .int (nI w))]) dX12_coordinate_48 (by decide) rfl ?_
  refine gj_iinc C (v := 2) (lv' := [(8, .int 2), (6, .long ((0 + (((s_X12_of (0 : Int32) (nI i) (0 : Int32) di).toInt64) * (sta 3))) + (((s_X12_of (0 : Int32) (nI i) (1 : Int32) di).toInt64) * (sta 4)))), (5, .int 1), (3, .long (0 + (((((0 + (((s_X12_of (0 : Int32) (nI i) (0 : Int32) di).toInt64) * (sta 0))) + (((s_X12_of (0 : Int32) (nI i) (1 : Int32) di).toInt64) * (sta 1))) + (((s_X12_of (0 : Int32) (nI i) (2 : Int32) di).toInt64) * (sta 2))) * (spa (0 + w))) * (sf 1)))), (0, .ref (ad 87)), (1, .int (nI i)), (2, .int (nI w))]) dX12_coordinate_50 1 rfl (by decide) (by decide) rfl ?_
  refine gj_goto C 17 dX12_coordinate_53 (by decide) ?_
  refine gj_iload C dX12_coordinate_17 0 rfl ?_
  refine gj_iconst C (v := 3) (by decide) dX12_coordinate_19 ?_
  refine gj_icmp_ge C 56 dX12_coordinate_20 (by decide) (fun c_10 => absurd c_10 (by decide)) (fun c_10 => ?_)
  refine gj_lload C dX12_coordinate_23 1 rfl ?_
  refine gj_aload_n C 0 dX12_coordinate_25 rfl 4 rfl ?_
  refine gj_iconst C (v := 0) (by decide) dX12_coordinate_26 ?_
  refine gj_iload_n C 1 dX12_coordinate_27 rfl 5 rfl ?_
  refine gj_iload C dX12_coordinate_28 0 rfl ?_
  refine gj_callVi C mi_X12_of w_1006 87 (by decide) hc0 rfl (c_X12_of (0 : Int32) (nI i) (2 : Int32) la dr go lo ma pa tu su di hc0 hc1 (dIn_0 (by omega)) w2) mc_X12_of ⟨Nat.le_of_ble_eq_true rfl, Nat.le_of_ble_eq_true rfl⟩ (rest := [.long ((0 + (((s_X12_of (0 : Int32) (nI i) (0 : Int32) di).toInt64) * (sta 3))) + (((s_X12_of (0 : Int32) (nI i) (1 : Int32) di).toInt64) * (sta 4)))]) rfl (Nat.le_of_ble_eq_true rfl) dX12_coordinate_30 (fun r u h => ?_)
  obtain ⟨rfl, h⟩ := h
  rw [h]
  refine gj_i2l C dX12_coordinate_33 ?_
  refine gj_aload_n C 0 dX12_coordinate_34 rfl 4 rfl ?_
  refine gj_get C 87 (by decide) hc0 inX12 rfl 18 (by decide) w_867 (v := .ref (ad 99)) rfl dX12_coordinate_35 ?_
  refine gj_iconst C (v := 3) (by decide) dX12_coordinate_38 ?_
  refine gj_iload C dX12_coordinate_39 2 rfl ?_
  refine gj_imul C dX12_coordinate_41 ?_
  refine gj_seti (y := 3) (by decide) ?_
  refine gj_iload C dX12_coordinate_42 0 rfl ?_
  refine gj_iadd C dX12_coordinate_44 ?_
  refine gj_seti (y := 5) (by decide) ?_
  refine gj_lald C 99 (by decide) hc2 (by unfold vp_in; decide) dX12_coordinate_45 ?_
  refine gj_setl (y := sta 5) rfl ?_
  refine gj_lmul C dX12_coordinate_46 ?_
  refine gj_ladd C dX12_coordinate_47 ?_
  refine gj_lstore C (lv' := [(6, .long (((0 + (((s_X12_of (0 : Int32) (nI i) (0 : Int32) di).toInt64) * (sta 3))) + (((s_X12_of (0 : Int32) (nI i) (1 : Int32) di).toInt64) * (sta 4))) + (((s_X12_of (0 : Int32) (nI i) (2 : Int32) di).toInt64) * (sta 5)))), (8, .int 2), (5, .int 1), (3, .long (0 + (((((0 + (((s_X12_of (0 : Int32) (nI i) (0 : Int32) di).toInt64) * (sta 0))) + (((s_X12_of (0 : Int32) (nI i) (1 : Int32) di).toInt64) * (sta 1))) + (((s_X12_of (0 : Int32) (nI i) (2 : Int32) di).toInt64) * (sta 2))) * (spa (0 + w))) * (sf 1)))), (0, .ref (ad 87)), (1, .int (nI i)), (2, .int (nI w))]) dX12_coordinate_48 (by decide) rfl ?_
  refine gj_iinc C (v := 3) (lv' := [(8, .int 3), (6, .long (((0 + (((s_X12_of (0 : Int32) (nI i) (0 : Int32) di).toInt64) * (sta 3))) + (((s_X12_of (0 : Int32) (nI i) (1 : Int32) di).toInt64) * (sta 4))) + (((s_X12_of (0 : Int32) (nI i) (2 : Int32) di).toInt64) * (sta 5)))), (5, .int 1), (3, .long (0 + (((((0 + (((s_X12_of (0 : Int32) (nI i) (0 : Int32) di).toInt64) * (sta 0))) + (((s_X12_of (0 : Int32) (nI i) (1 : Int32) di).toInt64) * (sta 1))) + (((s_X12_of (0 : Int32) (nI i) (2 : Int32) di).toInt64) * (sta 2))) * (spa (0 + w))) * (sf 1)))), (0, .ref (ad 87)), (1, .int (nI i)), (2, .int (nI w))]) dX12_coordinate_50 1 rfl (by decide) (by decide) rfl ?_
  refine gj_goto C 17 dX12_coordinate_53 (by decide) ?_
  refine gj_iload C dX12_coordinate_17 0 rfl ?_
  refine gj_iconst C (v := 3) (by decide) dX12_coordinate_19 ?_
  refine gj_icmp_ge C 56 dX12_coordinate_20 (by decide) (fun c_11 => ?_) (fun c_11 => absurd (by decide) c_11)
  refine gj_lload_n C 3 dX12_coordinate_56 rfl 3 rfl ?_
  refine gj_lload C dX12_coordinate_57 1 rfl ?_
  refine gj_aload_n C 0 dX12_coordinate_59 rfl 4 rfl ?_
  refine gj_get C 87 (by decide) hc0 inX12 rfl 19 (by decide) w_868 (v := .ref (ad 100)) rfl dX12_coordinate_60 ?_
  refine gj_iconst C (v := 3) (by decide) dX12_coordinate_63 ?_
  refine gj_iload C dX12_coordinate_64 2 rfl ?_
  refine gj_imul C dX12_coordinate_66 ?_
  refine gj_seti (y := 3) (by decide) ?_
  refine gj_iload_n C 2 dX12_coordinate_67 rfl 6 rfl ?_
  refine gj_iadd C dX12_coordinate_68 ?_
  refine gj_lald C 100 (by decide) hc3 (lw_in (a := 3) (by omega) (by omega)) dX12_coordinate_69 ?_
  refine gj_setl (congrArg _ (lw_cl (a := 3) (by omega))) ?_
  refine gj_lmul C dX12_coordinate_70 ?_
  refine gj_iload C dX12_coordinate_71 2 rfl ?_
  refine gj_if_ne C 85 dX12_coordinate_73 (by decide) (fun c_12 => ?_) (fun c_12 => absurd c_12 (by decide))
  refine gj_iload C dX12_coordinate_85 2 rfl ?_
  refine gj_iconst C (v := 1) (by decide) dX12_coordinate_87 ?_
  refine gj_icmp_ne C 100 dX12_coordinate_88 (by decide) (fun c_13 => absurd (by decide) c_13) (fun c_13 => ?_)
  refine gj_aload_n C 0 dX12_coordinate_91 rfl 4 rfl ?_
  refine gj_get C 87 (by decide) hc0 inX12 rfl 20 (by decide) w_869 (v := .ref (ad 101)) rfl dX12_coordinate_92 ?_
  refine gj_iconst C (v := 0) (by decide) dX12_coordinate_95 ?_
  refine gj_lald C 101 (by decide) hc4 (by unfold vp_in; decide) dX12_coordinate_96 ?_
  refine gj_setl (y := sf 0) rfl ?_
  refine gj_goto C 101 dX12_coordinate_97 (by decide) ?_
  refine gj_lmul C dX12_coordinate_101 ?_
  refine gj_ladd C dX12_coordinate_102 ?_
  refine gj_lstore_n C (lv' := [(3, .long ((0 + (((((0 + (((s_X12_of (0 : Int32) (nI i) (0 : Int32) di).toInt64) * (sta 0))) + (((s_X12_of (0 : Int32) (nI i) (1 : Int32) di).toInt64) * (sta 1))) + (((s_X12_of (0 : Int32) (nI i) (2 : Int32) di).toInt64) * (sta 2))) * (spa (0 + w))) * (sf 1))) + (((((0 + (((s_X12_of (0 : Int32) (nI i) (0 : Int32) di).toInt64) * (sta 3))) + (((s_X12_of (0 : Int32) (nI i) (1 : Int32) di).toInt64) * (sta 4))) + (((s_X12_of (0 : Int32) (nI i) (2 : Int32) di).toInt64) * (sta 5))) * (spa (3 + w))) * (sf 0)))), (8, .int 3), (6, .long (((0 + (((s_X12_of (0 : Int32) (nI i) (0 : Int32) di).toInt64) * (sta 3))) + (((s_X12_of (0 : Int32) (nI i) (1 : Int32) di).toInt64) * (sta 4))) + (((s_X12_of (0 : Int32) (nI i) (2 : Int32) di).toInt64) * (sta 5)))), (5, .int 1), (0, .ref (ad 87)), (1, .int (nI i)), (2, .int (nI w))]) 3 dX12_coordinate_103 rfl (by decide) rfl ?_
  refine gj_iinc C (v := 2) (lv' := [(5, .int 2), (3, .long ((0 + (((((0 + (((s_X12_of (0 : Int32) (nI i) (0 : Int32) di).toInt64) * (sta 0))) + (((s_X12_of (0 : Int32) (nI i) (1 : Int32) di).toInt64) * (sta 1))) + (((s_X12_of (0 : Int32) (nI i) (2 : Int32) di).toInt64) * (sta 2))) * (spa (0 + w))) * (sf 1))) + (((((0 + (((s_X12_of (0 : Int32) (nI i) (0 : Int32) di).toInt64) * (sta 3))) + (((s_X12_of (0 : Int32) (nI i) (1 : Int32) di).toInt64) * (sta 4))) + (((s_X12_of (0 : Int32) (nI i) (2 : Int32) di).toInt64) * (sta 5))) * (spa (3 + w))) * (sf 0)))), (8, .int 3), (6, .long (((0 + (((s_X12_of (0 : Int32) (nI i) (0 : Int32) di).toInt64) * (sta 3))) + (((s_X12_of (0 : Int32) (nI i) (1 : Int32) di).toInt64) * (sta 4))) + (((s_X12_of (0 : Int32) (nI i) (2 : Int32) di).toInt64) * (sta 5)))), (0, .ref (ad 87)), (1, .int (nI i)), (2, .int (nI w))]) dX12_coordinate_104 3 rfl (by decide) (by decide) rfl ?_
  refine gj_goto C 5 dX12_coordinate_107 (by decide) ?_
  refine gj_iload C dX12_coordinate_5 0 rfl ?_
  refine gj_iconst C (v := 3) (by decide) dX12_coordinate_7 ?_
  refine gj_icmp_ge C 110 dX12_coordinate_8 (by decide) (fun c_14 => absurd c_14 (by decide)) (fun c_14 => ?_)
  refine gj_lconst C (v := 0) rfl dX12_coordinate_11 ?_
  refine gj_lstore C (lv' := [(6, .long 0), (5, .int 2), (3, .long ((0 + (((((0 + (((s_X12_of (0 : Int32) (nI i) (0 : Int32) di).toInt64) * (sta 0))) + (((s_X12_of (0 : Int32) (nI i) (1 : Int32) di).toInt64) * (sta 1))) + (((s_X12_of (0 : Int32) (nI i) (2 : Int32) di).toInt64) * (sta 2))) * (spa (0 + w))) * (sf 1))) + (((((0 + (((s_X12_of (0 : Int32) (nI i) (0 : Int32) di).toInt64) * (sta 3))) + (((s_X12_of (0 : Int32) (nI i) (1 : Int32) di).toInt64) * (sta 4))) + (((s_X12_of (0 : Int32) (nI i) (2 : Int32) di).toInt64) * (sta 5))) * (spa (3 + w))) * (sf 0)))), (8, .int 3), (0, .ref (ad 87)), (1, .int (nI i)), (2, .int (nI w))]) dX12_coordinate_12 (by decide) rfl ?_
  refine gj_iconst C (v := 0) (by decide) dX12_coordinate_14 ?_
  refine gj_istore C (lv' := [(8, .int 0), (6, .long 0), (5, .int 2), (3, .long ((0 + (((((0 + (((s_X12_of (0 : Int32) (nI i) (0 : Int32) di).toInt64) * (sta 0))) + (((s_X12_of (0 : Int32) (nI i) (1 : Int32) di).toInt64) * (sta 1))) + (((s_X12_of (0 : Int32) (nI i) (2 : Int32) di).toInt64) * (sta 2))) * (spa (0 + w))) * (sf 1))) + (((((0 + (((s_X12_of (0 : Int32) (nI i) (0 : Int32) di).toInt64) * (sta 3))) + (((s_X12_of (0 : Int32) (nI i) (1 : Int32) di).toInt64) * (sta 4))) + (((s_X12_of (0 : Int32) (nI i) (2 : Int32) di).toInt64) * (sta 5))) * (spa (3 + w))) * (sf 0)))), (0, .ref (ad 87)), (1, .int (nI i)), (2, .int (nI w))]) dX12_coordinate_15 (by decide) rfl ?_
  refine gj_iload C dX12_coordinate_17 0 rfl ?_
  refine gj_iconst C (v := 3) (by decide) dX12_coordinate_19 ?_
  refine gj_icmp_ge C 56 dX12_coordinate_20 (by decide) (fun c_15 => absurd c_15 (by decide)) (fun c_15 => ?_)
  refine gj_lload C dX12_coordinate_23 1 rfl ?_
  refine gj_aload_n C 0 dX12_coordinate_25 rfl 4 rfl ?_
  refine gj_iconst C (v := 0) (by decide) dX12_coordinate_26 ?_
  refine gj_iload_n C 1 dX12_coordinate_27 rfl 5 rfl ?_
  refine gj_iload C dX12_coordinate_28 0 rfl ?_
  refine gj_callVi C mi_X12_of w_1006 87 (by decide) hc0 rfl (c_X12_of (0 : Int32) (nI i) (0 : Int32) la dr go lo ma pa tu su di hc0 hc1 (dIn_0 (by omega)) w0) mc_X12_of ⟨Nat.le_of_ble_eq_true rfl, Nat.le_of_ble_eq_true rfl⟩ (rest := [.long 0]) rfl (Nat.le_of_ble_eq_true rfl) dX12_coordinate_30 (fun r u h => ?_)
  obtain ⟨rfl, h⟩ := h
  rw [h]
  refine gj_i2l C dX12_coordinate_33 ?_
  refine gj_aload_n C 0 dX12_coordinate_34 rfl 4 rfl ?_
  refine gj_get C 87 (by decide) hc0 inX12 rfl 18 (by decide) w_867 (v := .ref (ad 99)) rfl dX12_coordinate_35 ?_
  refine gj_iconst C (v := 3) (by decide) dX12_coordinate_38 ?_
  refine gj_iload C dX12_coordinate_39 2 rfl ?_
  refine gj_imul C dX12_coordinate_41 ?_
  refine gj_seti (y := 6) (by decide) ?_
  refine gj_iload C dX12_coordinate_42 0 rfl ?_
  refine gj_iadd C dX12_coordinate_44 ?_
  refine gj_seti (y := 6) (by decide) ?_
  refine gj_lald C 99 (by decide) hc2 (by unfold vp_in; decide) dX12_coordinate_45 ?_
  refine gj_setl (y := sta 6) rfl ?_
  refine gj_lmul C dX12_coordinate_46 ?_
  refine gj_ladd C dX12_coordinate_47 ?_
  refine gj_lstore C (lv' := [(6, .long (0 + (((s_X12_of (0 : Int32) (nI i) (0 : Int32) di).toInt64) * (sta 6)))), (8, .int 0), (5, .int 2), (3, .long ((0 + (((((0 + (((s_X12_of (0 : Int32) (nI i) (0 : Int32) di).toInt64) * (sta 0))) + (((s_X12_of (0 : Int32) (nI i) (1 : Int32) di).toInt64) * (sta 1))) + (((s_X12_of (0 : Int32) (nI i) (2 : Int32) di).toInt64) * (sta 2))) * (spa (0 + w))) * (sf 1))) + (((((0 + (((s_X12_of (0 : Int32) (nI i) (0 : Int32) di).toInt64) * (sta 3))) + (((s_X12_of (0 : Int32) (nI i) (1 : Int32) di).toInt64) * (sta 4))) + (((s_X12_of (0 : Int32) (nI i) (2 : Int32) di).toInt64) * (sta 5))) * (spa (3 + w))) * (sf 0)))), (0, .ref (ad 87)), (1, .int (nI i)), (2, .int (nI w))]) dX12_coordinate_48 (by decide) rfl ?_
  refine gj_iinc C (v := 1) (lv' := [(8, .int 1), (6, .long (0 + (((s_X12_of (0 : Int32) (nI i) (0 : Int32) di).toInt64) * (sta 6)))), (5, .int 2), (3, .long ((0 + (((((0 + (((s_X12_of (0 : Int32) (nI i) (0 : Int32) di).toInt64) * (sta 0))) + (((s_X12_of (0 : Int32) (nI i) (1 : Int32) di).toInt64) * (sta 1))) + (((s_X12_of (0 : Int32) (nI i) (2 : Int32) di).toInt64) * (sta 2))) * (spa (0 + w))) * (sf 1))) + (((((0 + (((s_X12_of (0 : Int32) (nI i) (0 : Int32) di).toInt64) * (sta 3))) + (((s_X12_of (0 : Int32) (nI i) (1 : Int32) di).toInt64) * (sta 4))) + (((s_X12_of (0 : Int32) (nI i) (2 : Int32) di).toInt64) * (sta 5))) * (spa (3 + w))) * (sf 0)))), (0, .ref (ad 87)), (1, .int (nI i)), (2, .int (nI w))]) dX12_coordinate_50 1 rfl (by decide) (by decide) rfl ?_
  refine gj_goto C 17 dX12_coordinate_53 (by decide) ?_
  refine gj_iload C dX12_coordinate_17 0 rfl ?_
  refine gj_iconst C (v := 3) (by decide) dX12_coordinate_19 ?_
  refine gj_icmp_ge C 56 dX12_coordinate_20 (by decide) (fun c_16 => absurd c_16 (by decide)) (fun c_16 => ?_)
  refine gj_lload C dX12_coordinate_23 1 rfl ?_
  refine gj_aload_n C 0 dX12_coordinate_25 rfl 4 rfl ?_
  refine gj_iconst C (v := 0) (by decide) dX12_coordinate_26 ?_
  refine gj_iload_n C 1 dX12_coordinate_27 rfl 5 rfl ?_
  refine gj_iload C dX12_coordinate_28 0 rfl ?_
  refine gj_callVi C mi_X12_of w_1006 87 (by decide) hc0 rfl (c_X12_of (0 : Int32) (nI i) (1 : Int32) la dr go lo ma pa tu su di hc0 hc1 (dIn_0 (by omega)) w1) mc_X12_of ⟨Nat.le_of_ble_eq_true rfl, Nat.le_of_ble_eq_true rfl⟩ (rest := [.long (0 + (((s_X12_of (0 : Int32) (nI i) (0 : Int32) di).toInt64) * (sta 6)))]) rfl (Nat.le_of_ble_eq_true rfl) dX12_coordinate_30 (fun r u h => ?_)
  obtain ⟨rfl, h⟩ := h
  rw [h]
  refine gj_i2l C dX12_coordinate_33 ?_
  refine gj_aload_n C 0 dX12_coordinate_34 rfl 4 rfl ?_
  refine gj_get C 87 (by decide) hc0 inX12 rfl 18 (by decide) w_867 (v := .ref (ad 99)) rfl dX12_coordinate_35 ?_
  refine gj_iconst C (v := 3) (by decide) dX12_coordinate_38 ?_
  refine gj_iload C dX12_coordinate_39 2 rfl ?_
  refine gj_imul C dX12_coordinate_41 ?_
  refine gj_seti (y := 6) (by decide) ?_
  refine gj_iload C dX12_coordinate_42 0 rfl ?_
  refine gj_iadd C dX12_coordinate_44 ?_
  refine gj_seti (y := 7) (by decide) ?_
  refine gj_lald C 99 (by decide) hc2 (by unfold vp_in; decide) dX12_coordinate_45 ?_
  refine gj_setl (y := sta 7) rfl ?_
  refine gj_lmul C dX12_coordinate_46 ?_
  refine gj_ladd C dX12_coordinate_47 ?_
  refine gj_lstore C (lv' := [(6, .long ((0 + (((s_X12_of (0 : Int32) (nI i) (0 : Int32) di).toInt64) * (sta 6))) + (((s_X12_of (0 : Int32) (nI i) (1 : Int32) di).toInt64) * (sta 7)))), (8, .int 1), (5, .int 2), (3, .long ((0 + (((((0 + (((s_X12_of (0 : Int32) (nI i) (0 : Int32) di).toInt64) * (sta 0))) + (((s_X12_of (0 : Int32) (nI i) (1 : Int32) di).toInt64) * (sta 1))) + (((s_X12_of (0 : Int32) (nI i) (2 : Int32) di).toInt64) * (sta 2))) * (spa (0 + w))) * (sf 1))) + (((((0 + (((s_X12_of (0 : Int32) (nI i) (0 : Int32) di).toInt64) * (sta 3))) + (((s_X12_of (0 : Int32) (nI i) (1 : Int32) di).toInt64) * (sta 4))) + (((s_X12_of (0 : Int32) (nI i) (2 : Int32) di).toInt64) * (sta 5))) * (spa (3 + w))) * (sf 0)))), (0, .ref (ad 87)), (1, .int (nI i)), (2, .int (nI w))]) dX12_coordinate_48 (by decide) rfl ?_
  refine gj_iinc C (v := 2) (lv' := [(8, .int 2), (6, .long ((0 + (((s_X12_of (0 : Int32) (nI i) (0 : Int32) di).toInt64) * (sta 6))) + (((s_X12_of (0 : Int32) (nI i) (1 : Int32) di).toInt64) * (sta 7)))), (5, .int 2), (3, .long ((0 + (((((0 + (((s_X12_of (0 : Int32) (nI i) (0 : Int32) di).toInt64) * (sta 0))) + (((s_X12_of (0 : Int32) (nI i) (1 : Int32) di).toInt64) * (sta 1))) + (((s_X12_of (0 : Int32) (nI i) (2 : Int32) di).toInt64) * (sta 2))) * (spa (0 + w))) * (sf 1))) + (((((0 + (((s_X12_of (0 : Int32) (nI i) (0 : Int32) di).toInt64) * (sta 3))) + (((s_X12_of (0 : Int32) (nI i) (1 : Int32) di).toInt64) * (sta 4))) + (((s_X12_of (0 : Int32) (nI i) (2 : Int32) di).toInt64) * (sta 5))) * (spa (3 + w))) * (sf 0)))), (0, .ref (ad 87)), (1, .int (nI i)), (2, .int (nI w))]) dX12_coordinate_50 1 rfl (by decide) (by decide) rfl ?_
  refine gj_goto C 17 dX12_coordinate_53 (by decide) ?_
  refine gj_iload C dX12_coordinate_17 0 rfl ?_
  refine gj_iconst C (v := 3) (by decide) dX12_coordinate_19 ?_
  refine gj_icmp_ge C 56 dX12_coordinate_20 (by decide) (fun c_17 => absurd c_17 (by decide)) (fun c_17 => ?_)
  refine gj_lload C dX12_coordinate_23 1 rfl ?_
  refine gj_aload_n C 0 dX12_coordinate_25 rfl 4 rfl ?_
  refine gj_iconst C (v := 0) (by decide) dX12_coordinate_26 ?_
  refine gj_iload_n C 1 dX12_coordinate_27 rfl 5 rfl ?_
  refine gj_iload C dX12_coordinate_28 0 rfl ?_
  refine gj_callVi C mi_X12_of w_1006 87 (by decide) hc0 rfl (c_X12_of (0 : Int32) (nI i) (2 : Int32) la dr go lo ma pa tu su di hc0 hc1 (dIn_0 (by omega)) w2) mc_X12_of ⟨Nat.le_of_ble_eq_true rfl, Nat.le_of_ble_eq_true rfl⟩ (rest := [.long ((0 + (((s_X12_of (0 : Int32) (nI i) (0 : Int32) di).toInt64) * (sta 6))) + (((s_X12_of (0 : Int32) (nI i) (1 : Int32) di).toInt64) * (sta 7)))]) rfl (Nat.le_of_ble_eq_true rfl) dX12_coordinate_30 (fun r u h => ?_)
  obtain ⟨rfl, h⟩ := h
  rw [h]
  refine gj_i2l C dX12_coordinate_33 ?_
  refine gj_aload_n C 0 dX12_coordinate_34 rfl 4 rfl ?_
  refine gj_get C 87 (by decide) hc0 inX12 rfl 18 (by decide) w_867 (v := .ref (ad 99)) rfl dX12_coordinate_35 ?_
  refine gj_iconst C (v := 3) (by decide) dX12_coordinate_38 ?_
  refine gj_iload C dX12_coordinate_39 2 rfl ?_
  refine gj_imul C dX12_coordinate_41 ?_
  refine gj_seti (y := 6) (by decide) ?_
  refine gj_iload C dX12_coordinate_42 0 rfl ?_
  refine gj_iadd C dX12_coordinate_44 ?_
  refine gj_seti (y := 8) (by decide) ?_
  refine gj_lald C 99 (by decide) hc2 (by unfold vp_in; decide) dX12_coordinate_45 ?_
  refine gj_setl (y := sta 8) rfl ?_
  refine gj_lmul C dX12_coordinate_46 ?_
  refine gj_ladd C dX12_coordinate_47 ?_
  refine gj_lstore C (lv' := [(6, .long (((0 + (((s_X12_of (0 : Int32) (nI i) (0 : Int32) di).toInt64) * (sta 6))) + (((s_X12_of (0 : Int32) (nI i) (1 : Int32) di).toInt64) * (sta 7))) + (((s_X12_of (0 : Int32) (nI i) (2 : Int32) di).toInt64) * (sta 8)))), (8, .int 2), (5, .int 2), (3, .long ((0 + (((((0 + (((s_X12_of (0 : Int32) (nI i) (0 : Int32) di).toInt64) * (sta 0))) + (((s_X12_of (0 : Int32) (nI i) (1 : Int32) di).toInt64) * (sta 1))) + (((s_X12_of (0 : Int32) (nI i) (2 : Int32) di).toInt64) * (sta 2))) * (spa (0 + w))) * (sf 1))) + (((((0 + (((s_X12_of (0 : Int32) (nI i) (0 : Int32) di).toInt64) * (sta 3))) + (((s_X12_of (0 : Int32) (nI i) (1 : Int32) di).toInt64) * (sta 4))) + (((s_X12_of (0 : Int32) (nI i) (2 : Int32) di).toInt64) * (sta 5))) * (spa (3 + w))) * (sf 0)))), (0, .ref (ad 87)), (1, .int (nI i)), (2, .int (nI w))]) dX12_coordinate_48 (by decide) rfl ?_
  refine gj_iinc C (v := 3) (lv' := [(8, .int 3), (6, .long (((0 + (((s_X12_of (0 : Int32) (nI i) (0 : Int32) di).toInt64) * (sta 6))) + (((s_X12_of (0 : Int32) (nI i) (1 : Int32) di).toInt64) * (sta 7))) + (((s_X12_of (0 : Int32) (nI i) (2 : Int32) di).toInt64) * (sta 8)))), (5, .int 2), (3, .long ((0 + (((((0 + (((s_X12_of (0 : Int32) (nI i) (0 : Int32) di).toInt64) * (sta 0))) + (((s_X12_of (0 : Int32) (nI i) (1 : Int32) di).toInt64) * (sta 1))) + (((s_X12_of (0 : Int32) (nI i) (2 : Int32) di).toInt64) * (sta 2))) * (spa (0 + w))) * (sf 1))) + (((((0 + (((s_X12_of (0 : Int32) (nI i) (0 : Int32) di).toInt64) * (sta 3))) + (((s_X12_of (0 : Int32) (nI i) (1 : Int32) di).toInt64) * (sta 4))) + (((s_X12_of (0 : Int32) (nI i) (2 : Int32) di).toInt64) * (sta 5))) * (spa (3 + w))) * (sf 0)))), (0, .ref (ad 87)), (1, .int (nI i)), (2, .int (nI w))]) dX12_coordinate_50 1 rfl (by decide) (by decide) rfl ?_
  refine gj_goto C 17 dX12_coordinate_53 (by decide) ?_
  refine gj_iload C dX12_coordinate_17 0 rfl ?_
  refine gj_iconst C (v := 3) (by decide) dX12_coordinate_19 ?_
  refine gj_icmp_ge C 56 dX12_coordinate_20 (by decide) (fun c_18 => ?_) (fun c_18 => absurd (by decide) c_18)
  refine gj_lload_n C 3 dX12_coordinate_56 rfl 3 rfl ?_
  refine gj_lload C dX12_coordinate_57 1 rfl ?_
  refine gj_aload_n C 0 dX12_coordinate_59 rfl 4 rfl ?_
  refine gj_get C 87 (by decide) hc0 inX12 rfl 19 (by decide) w_868 (v := .ref (ad 100)) rfl dX12_coordinate_60 ?_
  refine gj_iconst C (v := 3) (by decide) dX12_coordinate_63 ?_
  refine gj_iload C dX12_coordinate_64 2 rfl ?_
  refine gj_imul C dX12_coordinate_66 ?_
  refine gj_seti (y := 6) (by decide) ?_
  refine gj_iload_n C 2 dX12_coordinate_67 rfl 6 rfl ?_
  refine gj_iadd C dX12_coordinate_68 ?_
  refine gj_lald C 100 (by decide) hc3 (lw_in (a := 6) (by omega) (by omega)) dX12_coordinate_69 ?_
  refine gj_setl (congrArg _ (lw_cl (a := 6) (by omega))) ?_
  refine gj_lmul C dX12_coordinate_70 ?_
  refine gj_iload C dX12_coordinate_71 2 rfl ?_
  refine gj_if_ne C 85 dX12_coordinate_73 (by decide) (fun c_19 => ?_) (fun c_19 => absurd c_19 (by decide))
  refine gj_iload C dX12_coordinate_85 2 rfl ?_
  refine gj_iconst C (v := 1) (by decide) dX12_coordinate_87 ?_
  refine gj_icmp_ne C 100 dX12_coordinate_88 (by decide) (fun c_20 => ?_) (fun c_20 => absurd c_20 (by decide))
  refine gj_lconst C (v := 1) rfl dX12_coordinate_100 ?_
  refine gj_lmul C dX12_coordinate_101 ?_
  refine gj_ladd C dX12_coordinate_102 ?_
  refine gj_lstore_n C (lv' := [(3, .long (((0 + (((((0 + (((s_X12_of (0 : Int32) (nI i) (0 : Int32) di).toInt64) * (sta 0))) + (((s_X12_of (0 : Int32) (nI i) (1 : Int32) di).toInt64) * (sta 1))) + (((s_X12_of (0 : Int32) (nI i) (2 : Int32) di).toInt64) * (sta 2))) * (spa (0 + w))) * (sf 1))) + (((((0 + (((s_X12_of (0 : Int32) (nI i) (0 : Int32) di).toInt64) * (sta 3))) + (((s_X12_of (0 : Int32) (nI i) (1 : Int32) di).toInt64) * (sta 4))) + (((s_X12_of (0 : Int32) (nI i) (2 : Int32) di).toInt64) * (sta 5))) * (spa (3 + w))) * (sf 0))) + (((((0 + (((s_X12_of (0 : Int32) (nI i) (0 : Int32) di).toInt64) * (sta 6))) + (((s_X12_of (0 : Int32) (nI i) (1 : Int32) di).toInt64) * (sta 7))) + (((s_X12_of (0 : Int32) (nI i) (2 : Int32) di).toInt64) * (sta 8))) * (spa (6 + w))) * 1))), (8, .int 3), (6, .long (((0 + (((s_X12_of (0 : Int32) (nI i) (0 : Int32) di).toInt64) * (sta 6))) + (((s_X12_of (0 : Int32) (nI i) (1 : Int32) di).toInt64) * (sta 7))) + (((s_X12_of (0 : Int32) (nI i) (2 : Int32) di).toInt64) * (sta 8)))), (5, .int 2), (0, .ref (ad 87)), (1, .int (nI i)), (2, .int (nI w))]) 3 dX12_coordinate_103 rfl (by decide) rfl ?_
  refine gj_iinc C (v := 3) (lv' := [(5, .int 3), (3, .long (((0 + (((((0 + (((s_X12_of (0 : Int32) (nI i) (0 : Int32) di).toInt64) * (sta 0))) + (((s_X12_of (0 : Int32) (nI i) (1 : Int32) di).toInt64) * (sta 1))) + (((s_X12_of (0 : Int32) (nI i) (2 : Int32) di).toInt64) * (sta 2))) * (spa (0 + w))) * (sf 1))) + (((((0 + (((s_X12_of (0 : Int32) (nI i) (0 : Int32) di).toInt64) * (sta 3))) + (((s_X12_of (0 : Int32) (nI i) (1 : Int32) di).toInt64) * (sta 4))) + (((s_X12_of (0 : Int32) (nI i) (2 : Int32) di).toInt64) * (sta 5))) * (spa (3 + w))) * (sf 0))) + (((((0 + (((s_X12_of (0 : Int32) (nI i) (0 : Int32) di).toInt64) * (sta 6))) + (((s_X12_of (0 : Int32) (nI i) (1 : Int32) di).toInt64) * (sta 7))) + (((s_X12_of (0 : Int32) (nI i) (2 : Int32) di).toInt64) * (sta 8))) * (spa (6 + w))) * 1))), (8, .int 3), (6, .long (((0 + (((s_X12_of (0 : Int32) (nI i) (0 : Int32) di).toInt64) * (sta 6))) + (((s_X12_of (0 : Int32) (nI i) (1 : Int32) di).toInt64) * (sta 7))) + (((s_X12_of (0 : Int32) (nI i) (2 : Int32) di).toInt64) * (sta 8)))), (0, .ref (ad 87)), (1, .int (nI i)), (2, .int (nI w))]) dX12_coordinate_104 3 rfl (by decide) (by decide) rfl ?_
  refine gj_goto C 5 dX12_coordinate_107 (by decide) ?_
  refine gj_iload C dX12_coordinate_5 0 rfl ?_
  refine gj_iconst C (v := 3) (by decide) dX12_coordinate_7 ?_
  refine gj_icmp_ge C 110 dX12_coordinate_8 (by decide) (fun c_21 => ?_) (fun c_21 => absurd (by decide) c_21)
  refine gj_lload_n C 3 dX12_coordinate_110 rfl 1 rfl ?_
  refine gj_aload_n C 0 dX12_coordinate_111 rfl 4 rfl ?_
  refine gj_get C 87 (by decide) hc0 inX12 rfl 20 (by decide) w_869 (v := .ref (ad 101)) rfl dX12_coordinate_112 ?_
  refine gj_iconst C (v := 2) (by decide) dX12_coordinate_115 ?_
  refine gj_lald C 101 (by decide) hc4 (by unfold vp_in; decide) dX12_coordinate_116 ?_
  refine gj_setl (y := sf 2) rfl ?_
  refine gj_callSl C w_1123 w_1122 (c_X12_nearest (((0 + (((((0 + (((s_X12_of (0 : Int32) (nI i) (0 : Int32) di).toInt64) * (sta 0))) + (((s_X12_of (0 : Int32) (nI i) (1 : Int32) di).toInt64) * (sta 1))) + (((s_X12_of (0 : Int32) (nI i) (2 : Int32) di).toInt64) * (sta 2))) * (spa (0 + w))) * (sf 1))) + (((((0 + (((s_X12_of (0 : Int32) (nI i) (0 : Int32) di).toInt64) * (sta 3))) + (((s_X12_of (0 : Int32) (nI i) (1 : Int32) di).toInt64) * (sta 4))) + (((s_X12_of (0 : Int32) (nI i) (2 : Int32) di).toInt64) * (sta 5))) * (spa (3 + w))) * (sf 0))) + (((((0 + (((s_X12_of (0 : Int32) (nI i) (0 : Int32) di).toInt64) * (sta 6))) + (((s_X12_of (0 : Int32) (nI i) (1 : Int32) di).toInt64) * (sta 7))) + (((s_X12_of (0 : Int32) (nI i) (2 : Int32) di).toInt64) * (sta 8))) * (spa (6 + w))) * 1)) (sf 2) hz) mc_X12_nearest ⟨Nat.le_of_ble_eq_true rfl, Nat.le_of_ble_eq_true rfl⟩ (rest := []) rfl (Nat.le_of_ble_eq_true rfl) dX12_coordinate_117 (fun r u h => ?_)
  obtain ⟨rfl, h⟩ := h
  rw [h]
  refine gj_l2i C dX12_coordinate_120 ?_
  exact RT _ _ _ _ ⟨rfl, rfl⟩ dX12_coordinate_121
set_option maxHeartbeats 1000000 in
set_option maxRecDepth 100000 in
theorem c_X12_spotOf {l : Launch} {D : va_G} {ca ss ad : Nat → Nat} {f : Nat → va_E}  (q : Int32) (la : Int32) (dr : Int32) (go : Int32) (lo : Int32) (ma : Int32) (pa : Int32) (tu : Int32) (su : Int32) (ro : Nat → Int32) (hc0 : f 87 = .inr (11, mF ad la dr go lo ma pa tu su)) (hc1 : f 97 = .inl (ca 0, 8, .inl ro))  : gMi l D ca ss ad 108 yX12_spotOf cX12_spotOf 4 (some .int) 0 f [.ref (ad 87), .int q] (fun r u => r = mSp ro q 8 ∧ u = f) := by
  refine gMi_ofK (by decide +kernel) (Nat.le_of_ble_eq_true rfl) (lv0 := [(0, .ref (ad 87)), (1, .int q)]) rfl (fun pT eT sT mT aT below meth cT AT QT C RT => ?_)
  have C : gX pT sT mT aT meth cT AT D ca ss 4 RX12 cX12_spotOf (some .int) := C
  refine gj_iconst C (v := (-1)) (by decide) dX12_spotOf_0 ?_
  refine gj_seti (y := mSp ro q 0) rfl ?_
  refine gj_istore_n C (lv' := [(2, .int (mSp ro q 0)), (0, .ref (ad 87)), (1, .int q)]) 2 dX12_spotOf_1 rfl (by decide) rfl ?_
  refine gj_iconst C (v := 0) (by decide) dX12_spotOf_2 ?_
  refine gj_seti (y := nI 0) rfl ?_
  refine gj_istore_n C (lv' := [(3, .int (nI 0)), (2, .int (mSp ro q 0)), (0, .ref (ad 87)), (1, .int q)]) 3 dX12_spotOf_3 rfl (by decide) rfl ?_
  have loop_1 : ∀ (m0 t0 : Nat), t0 + m0 = 8 → gJ pT l eT (Rm 0) sT mT aT below meth cT AT QT D ad 108 4 (f) [(3, .int (nI t0)), (2, .int (mSp ro q t0)), (0, .ref (ad 87)), (1, .int q)] 4 [] := by
    intro m0
    induction m0 with
    | zero =>
      intro t0 hk_t0 
      obtain rfl : t0 = 8 := (by omega)
      refine gj_iload_n C 3 dX12_spotOf_4 rfl 0 rfl ?_
      refine gj_bipush C (v := 8) (by decide) dX12_spotOf_5 ?_
      refine gj_icmp_ge C 32 dX12_spotOf_7 (by decide) (fun c_3 => ?_) (fun c_3 => absurd (Int32.le_refl _) c_3)
      refine gj_iload_n C 2 dX12_spotOf_32 rfl 1 rfl ?_
      exact RT _ _ _ _ ⟨rfl, rfl⟩ dX12_spotOf_33
    | succ m0 ih_2 =>
      intro t0 hk_t0 
      refine gj_iload_n C 3 dX12_spotOf_4 rfl 0 rfl ?_
      refine gj_bipush C (v := 8) (by decide) dX12_spotOf_5 ?_
      refine gj_icmp_ge C 32 dX12_spotOf_7 (by decide) (fun c_4 => absurd c_4 (show ¬ (8 : Int32) ≤ nI t0 from nI_ge (b := 8) (by omega) (by omega))) (fun c_4 => ?_)
      refine gj_aload_n C 0 dX12_spotOf_10 rfl 2 rfl ?_
      refine gj_get C 87 (by decide) hc0 inX12 rfl 14 (by decide) w_863 (v := .ref (ad 97)) rfl dX12_spotOf_11 ?_
      refine gj_iload_n C 3 dX12_spotOf_14 rfl 0 rfl ?_
      refine gj_iald C 97 (by decide) hc1 (vp_in_nI (by omega) (by omega)) dX12_spotOf_15 ?_
      refine gj_seti (congrArg _ (nI_clamp (by omega))) ?_
      refine gj_iload_n C 1 dX12_spotOf_16 rfl 3 rfl ?_
      refine gj_icmp_ne C 24 dX12_spotOf_17 (by decide) (fun c_5 => ?_) (fun c_5 => ?_)
      · refine gj_iload_n C 2 dX12_spotOf_24 rfl 1 rfl ?_
        refine gj_seti (y := mSp ro q (t0 + 1)) (show mSp ro q (t0 + 1) = _ from (if_neg c_5).trans (rfl)).symm ?_
        refine gj_istore_n C (lv' := [(2, .int (mSp ro q (t0 + 1))), (3, .int (nI t0)), (0, .ref (ad 87)), (1, .int q)]) 2 dX12_spotOf_25 rfl (by decide) rfl ?_
        refine gj_iinc C (v := nI (t0 + 1)) (lv' := [(3, .int (nI (t0 + 1))), (2, .int (mSp ro q (t0 + 1))), (0, .ref (ad 87)), (1, .int q)]) dX12_spotOf_26 1 rfl (nI_1 _) (by decide) rfl ?_
        refine gj_goto C 4 dX12_spotOf_29 (by decide) ?_
        refine gj_lv [0, 1, 2, 3] rfl ?_
        exact ih_2 (t0 + 1) (by omega)
      · refine gj_iload_n C 3 dX12_spotOf_20 rfl 0 rfl ?_
        refine gj_goto C 25 dX12_spotOf_21 (by decide) ?_
        refine gj_seti (y := mSp ro q (t0 + 1)) (show mSp ro q (t0 + 1) = _ from (if_pos c_5).trans (rfl)).symm ?_
        refine gj_istore_n C (lv' := [(2, .int (mSp ro q (t0 + 1))), (3, .int (nI t0)), (0, .ref (ad 87)), (1, .int q)]) 2 dX12_spotOf_25 rfl (by decide) rfl ?_
        refine gj_iinc C (v := nI (t0 + 1)) (lv' := [(3, .int (nI (t0 + 1))), (2, .int (mSp ro q (t0 + 1))), (0, .ref (ad 87)), (1, .int q)]) dX12_spotOf_26 1 rfl (nI_1 _) (by decide) rfl ?_
        refine gj_goto C 4 dX12_spotOf_29 (by decide) ?_
        refine gj_lv [0, 1, 2, 3] rfl ?_
        exact ih_2 (t0 + 1) (by omega)
  refine gj_lv [0, 1, 2, 3] rfl ?_
  exact loop_1 (8 - 0) 0 (by omega)
def s_X12_farOf (p : Nat) (i : Nat) (di : Nat → Int32) (pl : Nat → Int32) : Int32 := ((0 + (s_X12_apart (s_X12_of (1 : Int32) (nI p) (0 : Int32) di) (pl (3 * i + 0)))) + (s_X12_apart (s_X12_of (1 : Int32) (nI p) (1 : Int32) di) (pl (3 * i + 1)))) + (s_X12_apart (s_X12_of (1 : Int32) (nI p) (2 : Int32) di) (pl (3 * i + 2)))
set_option maxHeartbeats 1000000 in
set_option maxRecDepth 100000 in
theorem c_X12_farOf {l : Launch} {D : va_G} {ca ss ad : Nat → Nat} {f : Nat → va_E}  (p : Nat) (i : Nat) (la : Int32) (dr : Int32) (go : Int32) (lo : Int32) (ma : Int32) (pa : Int32) (tu : Int32) (su : Int32) (di : Nat → Int32) (pl : Nat → Int32) (hc0 : f 87 = .inr (11, mF ad la dr go lo ma pa tu su)) (hc1 : f 92 = .inl (ca 0, 60, .inl di)) (hc2 : f 102 = .inl (ca 0, 36, .inl pl)) (hp : p < 8) (hi : i < 12) : gMi l D ca ss ad 108 yX12_farOf cX12_farOf 5 (some .int) 1 f [.ref (ad 87), .int (nI p), .int (nI i)] (fun r u => r = s_X12_farOf p i di pl ∧ u = f) := by
  refine gMi_ofK (by decide +kernel) (Nat.le_of_ble_eq_true rfl) (lv0 := [(0, .ref (ad 87)), (1, .int (nI p)), (2, .int (nI i))]) rfl (fun pT eT sT mT aT below meth cT AT QT C RT => ?_)
  have C : gX pT sT mT aT meth cT AT D ca ss 5 RX12 cX12_farOf (some .int) := C
  refine gj_iconst C (v := 0) (by decide) dX12_farOf_0 ?_
  refine gj_istore_n C (lv' := [(3, .int 0), (0, .ref (ad 87)), (1, .int (nI p)), (2, .int (nI i))]) 3 dX12_farOf_1 rfl (by decide) rfl ?_
  refine gj_iconst C (v := 0) (by decide) dX12_farOf_2 ?_
  refine gj_istore C (lv' := [(4, .int 0), (3, .int 0), (0, .ref (ad 87)), (1, .int (nI p)), (2, .int (nI i))]) dX12_farOf_3 (by decide) rfl ?_
  refine gj_iload C dX12_farOf_5 0 rfl ?_
  refine gj_iconst C (v := 3) (by decide) dX12_farOf_7 ?_
  refine gj_icmp_ge C 42 dX12_farOf_8 (by decide) (fun c_1 => absurd c_1 (by decide)) (fun c_1 => ?_)
  refine gj_iload_n C 3 dX12_farOf_11 rfl 1 rfl ?_
  refine gj_aload_n C 0 dX12_farOf_12 rfl 2 rfl ?_
  refine gj_iconst C (v := 1) (by decide) dX12_farOf_13 ?_
  refine gj_iload_n C 1 dX12_farOf_14 rfl 3 rfl ?_
  refine gj_iload C dX12_farOf_15 0 rfl ?_
  refine gj_callVi C mi_X12_of w_1006 87 (by decide) hc0 rfl (c_X12_of (1 : Int32) (nI p) (0 : Int32) la dr go lo ma pa tu su di hc0 hc1 (dIn_1 (by omega)) w0) mc_X12_of ⟨Nat.le_of_ble_eq_true rfl, Nat.le_of_ble_eq_true rfl⟩ (rest := [.int 0]) rfl (Nat.le_of_ble_eq_true rfl) dX12_farOf_17 (fun r u h => ?_)
  obtain ⟨rfl, h⟩ := h
  rw [h]
  refine gj_aload_n C 0 dX12_farOf_20 rfl 2 rfl ?_
  refine gj_get C 87 (by decide) hc0 inX12 rfl 21 (by decide) w_870 (v := .ref (ad 102)) rfl dX12_farOf_21 ?_
  refine gj_iconst C (v := 3) (by decide) dX12_farOf_24 ?_
  refine gj_iload_n C 2 dX12_farOf_25 rfl 4 rfl ?_
  refine gj_imul C dX12_farOf_26 ?_
  refine gj_iload C dX12_farOf_27 0 rfl ?_
  refine gj_iadd C dX12_farOf_29 ?_
  refine gj_iald C 102 (by decide) hc2 (ix3_in (k := 0) (by omega) (by omega)) dX12_farOf_30 ?_
  refine gj_seti (congrArg _ (ix3_cl (k := 0) (by omega) (by omega))) ?_
  refine gj_callSi C w_1086 w_1085 (c_X12_apart (s_X12_of (1 : Int32) (nI p) (0 : Int32) di) (pl (3 * i + 0))) mc_X12_apart ⟨Nat.le_of_ble_eq_true rfl, Nat.le_of_ble_eq_true rfl⟩ (rest := [.int 0]) rfl (Nat.le_of_ble_eq_true rfl) dX12_farOf_31 (fun r u h => ?_)
  obtain ⟨rfl, h⟩ := h
  rw [h]
  refine gj_iadd C dX12_farOf_34 ?_
  refine gj_istore_n C (lv' := [(3, .int (0 + (s_X12_apart (s_X12_of (1 : Int32) (nI p) (0 : Int32) di) (pl (3 * i + 0))))), (4, .int 0), (0, .ref (ad 87)), (1, .int (nI p)), (2, .int (nI i))]) 3 dX12_farOf_35 rfl (by decide) rfl ?_
  refine gj_iinc C (v := 1) (lv' := [(4, .int 1), (3, .int (0 + (s_X12_apart (s_X12_of (1 : Int32) (nI p) (0 : Int32) di) (pl (3 * i + 0))))), (0, .ref (ad 87)), (1, .int (nI p)), (2, .int (nI i))]) dX12_farOf_36 1 rfl (by decide) (by decide) rfl ?_
  refine gj_goto C 5 dX12_farOf_39 (by decide) ?_
  refine gj_iload C dX12_farOf_5 0 rfl ?_
  refine gj_iconst C (v := 3) (by decide) dX12_farOf_7 ?_
  refine gj_icmp_ge C 42 dX12_farOf_8 (by decide) (fun c_2 => absurd c_2 (by decide)) (fun c_2 => ?_)
  refine gj_iload_n C 3 dX12_farOf_11 rfl 1 rfl ?_
  refine gj_aload_n C 0 dX12_farOf_12 rfl 2 rfl ?_
  refine gj_iconst C (v := 1) (by decide) dX12_farOf_13 ?_
  refine gj_iload_n C 1 dX12_farOf_14 rfl 3 rfl ?_
  refine gj_iload C dX12_farOf_15 0 rfl ?_
  refine gj_callVi C mi_X12_of w_1006 87 (by decide) hc0 rfl (c_X12_of (1 : Int32) (nI p) (1 : Int32) la dr go lo ma pa tu su di hc0 hc1 (dIn_1 (by omega)) w1) mc_X12_of ⟨Nat.le_of_ble_eq_true rfl, Nat.le_of_ble_eq_true rfl⟩ (rest := [.int (0 + (s_X12_apart (s_X12_of (1 : Int32) (nI p) (0 : Int32) di) (pl (3 * i + 0))))]) rfl (Nat.le_of_ble_eq_true rfl) dX12_farOf_17 (fun r u h => ?_)
  obtain ⟨rfl, h⟩ := h
  rw [h]
  refine gj_aload_n C 0 dX12_farOf_20 rfl 2 rfl ?_
  refine gj_get C 87 (by decide) hc0 inX12 rfl 21 (by decide) w_870 (v := .ref (ad 102)) rfl dX12_farOf_21 ?_
  refine gj_iconst C (v := 3) (by decide) dX12_farOf_24 ?_
  refine gj_iload_n C 2 dX12_farOf_25 rfl 4 rfl ?_
  refine gj_imul C dX12_farOf_26 ?_
  refine gj_iload C dX12_farOf_27 0 rfl ?_
  refine gj_iadd C dX12_farOf_29 ?_
  refine gj_iald C 102 (by decide) hc2 (ix3_in (k := 1) (by omega) (by omega)) dX12_farOf_30 ?_
  refine gj_seti (congrArg _ (ix3_cl (k := 1) (by omega) (by omega))) ?_
  refine gj_callSi C w_1086 w_1085 (c_X12_apart (s_X12_of (1 : Int32) (nI p) (1 : Int32) di) (pl (3 * i + 1))) mc_X12_apart ⟨Nat.le_of_ble_eq_true rfl, Nat.le_of_ble_eq_true rfl⟩ (rest := [.int (0 + (s_X12_apart (s_X12_of (1 : Int32) (nI p) (0 : Int32) di) (pl (3 * i + 0))))]) rfl (Nat.le_of_ble_eq_true rfl) dX12_farOf_31 (fun r u h => ?_)
  obtain ⟨rfl, h⟩ := h
  rw [h]
  refine gj_iadd C dX12_farOf_34 ?_
  refine gj_istore_n C (lv' := [(3, .int ((0 + (s_X12_apart (s_X12_of (1 : Int32) (nI p) (0 : Int32) di) (pl (3 * i + 0)))) + (s_X12_apart (s_X12_of (1 : Int32) (nI p) (1 : Int32) di) (pl (3 * i + 1))))), (4, .int 1), (0, .ref (ad 87)), (1, .int (nI p)), (2, .int (nI i))]) 3 dX12_farOf_35 rfl (by decide) rfl ?_
  refine gj_iinc C (v := 2) (lv' := [(4, .int 2), (3, .int ((0 + (s_X12_apart (s_X12_of (1 : Int32) (nI p) (0 : Int32) di) (pl (3 * i + 0)))) + (s_X12_apart (s_X12_of (1 : Int32) (nI p) (1 : Int32) di) (pl (3 * i + 1))))), (0, .ref (ad 87)), (1, .int (nI p)), (2, .int (nI i))]) dX12_farOf_36 1 rfl (by decide) (by decide) rfl ?_
  refine gj_goto C 5 dX12_farOf_39 (by decide) ?_
  refine gj_iload C dX12_farOf_5 0 rfl ?_
  refine gj_iconst C (v := 3) (by decide) dX12_farOf_7 ?_
  refine gj_icmp_ge C 42 dX12_farOf_8 (by decide) (fun c_3 => absurd c_3 (by decide)) (fun c_3 => ?_)
  refine gj_iload_n C 3 dX12_farOf_11 rfl 1 rfl ?_
  refine gj_aload_n C 0 dX12_farOf_12 rfl 2 rfl ?_
  refine gj_iconst C (v := 1) (by decide) dX12_farOf_13 ?_
  refine gj_iload_n C 1 dX12_farOf_14 rfl 3 rfl ?_
  refine gj_iload C dX12_farOf_15 0 rfl ?_
  refine gj_callVi C mi_X12_of w_1006 87 (by decide) hc0 rfl (c_X12_of (1 : Int32) (nI p) (2 : Int32) la dr go lo ma pa tu su di hc0 hc1 (dIn_1 (by omega)) w2) mc_X12_of ⟨Nat.le_of_ble_eq_true rfl, Nat.le_of_ble_eq_true rfl⟩ (rest := [.int ((0 + (s_X12_apart (s_X12_of (1 : Int32) (nI p) (0 : Int32) di) (pl (3 * i + 0)))) + (s_X12_apart (s_X12_of (1 : Int32) (nI p) (1 : Int32) di) (pl (3 * i + 1))))]) rfl (Nat.le_of_ble_eq_true rfl) dX12_farOf_17 (fun r u h => ?_)
  obtain ⟨rfl, h⟩ := h
  rw [h]
  refine gj_aload_n C 0 dX12_farOf_20 rfl 2 rfl ?_
  refine gj_get C 87 (by decide) hc0 inX12 rfl 21 (by decide) w_870 (v := .ref (ad 102)) rfl dX12_farOf_21 ?_
  refine gj_iconst C (v := 3) (by decide) dX12_farOf_24 ?_
  refine gj_iload_n C 2 dX12_farOf_25 rfl 4 rfl ?_
  refine gj_imul C dX12_farOf_26 ?_
  refine gj_iload C dX12_farOf_27 0 rfl ?_
  refine gj_iadd C dX12_farOf_29 ?_
  refine gj_iald C 102 (by decide) hc2 (ix3_in (k := 2) (by omega) (by omega)) dX12_farOf_30 ?_
  refine gj_seti (congrArg _ (ix3_cl (k := 2) (by omega) (by omega))) ?_
  refine gj_callSi C w_1086 w_1085 (c_X12_apart (s_X12_of (1 : Int32) (nI p) (2 : Int32) di) (pl (3 * i + 2))) mc_X12_apart ⟨Nat.le_of_ble_eq_true rfl, Nat.le_of_ble_eq_true rfl⟩ (rest := [.int ((0 + (s_X12_apart (s_X12_of (1 : Int32) (nI p) (0 : Int32) di) (pl (3 * i + 0)))) + (s_X12_apart (s_X12_of (1 : Int32) (nI p) (1 : Int32) di) (pl (3 * i + 1))))]) rfl (Nat.le_of_ble_eq_true rfl) dX12_farOf_31 (fun r u h => ?_)
  obtain ⟨rfl, h⟩ := h
  rw [h]
  refine gj_iadd C dX12_farOf_34 ?_
  refine gj_istore_n C (lv' := [(3, .int (((0 + (s_X12_apart (s_X12_of (1 : Int32) (nI p) (0 : Int32) di) (pl (3 * i + 0)))) + (s_X12_apart (s_X12_of (1 : Int32) (nI p) (1 : Int32) di) (pl (3 * i + 1)))) + (s_X12_apart (s_X12_of (1 : Int32) (nI p) (2 : Int32) di) (pl (3 * i + 2))))), (4, .int 2), (0, .ref (ad 87)), (1, .int (nI p)), (2, .int (nI i))]) 3 dX12_farOf_35 rfl (by decide) rfl ?_
  refine gj_iinc C (v := 3) (lv' := [(4, .int 3), (3, .int (((0 + (s_X12_apart (s_X12_of (1 : Int32) (nI p) (0 : Int32) di) (pl (3 * i + 0)))) + (s_X12_apart (s_X12_of (1 : Int32) (nI p) (1 : Int32) di) (pl (3 * i + 1)))) + (s_X12_apart (s_X12_of (1 : Int32) (nI p) (2 : Int32) di) (pl (3 * i + 2))))), (0, .ref (ad 87)), (1, .int (nI p)), (2, .int (nI i))]) dX12_farOf_36 1 rfl (by decide) (by decide) rfl ?_
  refine gj_goto C 5 dX12_farOf_39 (by decide) ?_
  refine gj_iload C dX12_farOf_5 0 rfl ?_
  refine gj_iconst C (v := 3) (by decide) dX12_farOf_7 ?_
  refine gj_icmp_ge C 42 dX12_farOf_8 (by decide) (fun c_4 => ?_) (fun c_4 => absurd (by decide) c_4)
  refine gj_iload_n C 3 dX12_farOf_42 rfl 1 rfl ?_
  exact RT _ _ _ _ ⟨rfl, rfl⟩ dX12_farOf_43
