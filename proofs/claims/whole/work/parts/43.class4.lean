/-- x, y, z at the three places of the direction i -/
def w3 (g : Nat → Int32) (i : Nat) (x y z : Int32) : Nat → Int32 := fun k => if k = 3 * i then x else if k = 3 * i + 1 then y else if k = 3 * i + 2 then z else g k
theorem w3_0 (g : Nat → Int32) (i : Nat) (x y z : Int32) : w3 g i x y z (3 * i) = x := if_pos rfl
theorem w3_1 (g : Nat → Int32) (i : Nat) (x y z : Int32) : w3 g i x y z (3 * i + 1) = y := (if_neg (by omega)).trans (if_pos rfl)
theorem w3_2 (g : Nat → Int32) (i : Nat) (x y z : Int32) : w3 g i x y z (3 * i + 2) = z := (if_neg (by omega)).trans ((if_neg (by omega)).trans (if_pos rfl))
theorem w3_u0 (g : Nat → Int32) (i : Nat) (x y z v : Int32) : upd (w3 g i x y z) (3 * i) v = w3 g i v y z := by
  funext k
  by_cases h : k = 3 * i
  · subst h; rw [pk_us, w3_0]
  · rw [pk_un h]; unfold w3; rw [if_neg h, if_neg h]
theorem w3_u1 (g : Nat → Int32) (i : Nat) (x y z v : Int32) : upd (w3 g i x y z) (3 * i + 1) v = w3 g i x v z := by
  funext k
  by_cases h : k = 3 * i + 1
  · subst h; rw [pk_us, w3_1]
  · rw [pk_un h]; unfold w3
    by_cases h2 : k = 3 * i
    · rw [if_pos h2, if_pos h2]
    · rw [if_neg h2, if_neg h2, if_neg h, if_neg h]
theorem w3_u2 (g : Nat → Int32) (i : Nat) (x y z v : Int32) : upd (w3 g i x y z) (3 * i + 2) v = w3 g i x y v := by
  funext k
  by_cases h : k = 3 * i + 2
  · subst h; rw [pk_us, w3_2]
  · rw [pk_un h]; unfold w3
    by_cases h2 : k = 3 * i
    · rw [if_pos h2, if_pos h2]
    · rw [if_neg h2, if_neg h2]
      by_cases h3 : k = 3 * i + 1
      · rw [if_pos h3, if_pos h3]
      · rw [if_neg h3, if_neg h3, if_neg h, if_neg h]
theorem w3_new (g : Nat → Int32) (i : Nat) (x y z : Int32) : upd (upd (upd g (3 * i) x) (3 * i + 1) y) (3 * i + 2) z = w3 g i x y z := by
  funext k
  by_cases h2 : k = 3 * i + 2
  · subst h2; rw [pk_us, w3_2]
  · rw [pk_un h2]
    by_cases h1 : k = 3 * i + 1
    · subst h1; rw [pk_us, w3_1]
    · rw [pk_un h1]
      by_cases h0 : k = 3 * i
      · subst h0; rw [pk_us, w3_0]
      · rw [pk_un h0]; unfold w3; rw [if_neg h0, if_neg h1, if_neg h2]
theorem i3_c (i c : Nat) : (3 : Int32) * nI i + nI c = nI (3 * i + c) := by
  rw [show (3 : Int32) = nI 3 from rfl, pk_mul, nI_add]
theorem i3_0 (i : Nat) : (3 : Int32) * nI i = nI (3 * i) := by
  rw [show (3 : Int32) = nI 3 from rfl, pk_mul]
theorem has_nI {i n : Nat} (h : i < n) (hn : n ≤ 12) : ¬ s_X1_has (nI i) (nI n) = 0 := by
  unfold s_X1_has
  rw [if_neg (show ¬ nI i < 0 from nI_nlt (b := 0) (by omega) (by omega)), if_neg (nI_ge (by omega) (by omega))]
  decide
theorem szk {n nn : Nat} (h : n * 3 ≤ nn) (hn : nn ≤ 36) : 0 ≤ (nI n).toInt ∧ 3 * (nI n).toInt ≤ nn ∧ nn ≤ 36 := by
  rw [nI_toInt (by omega)]; omega
/-- what the class makes of a part by noise -/
def cNoise (v q d : Int32) : Int32 := if (-100) < (if (v + nLot d (2 * q + 1) - q) < 100 then (v + nLot d (2 * q + 1) - q) else 100) then (if (v + nLot d (2 * q + 1) - q) < 100 then (v + nLot d (2 * q + 1) - q) else 100) else (-100)

set_option maxHeartbeats 400000 in
set_option maxRecDepth 100000 in
theorem c_quarter0 {l : Launch} {D : va_G} {ca ss ad : Nat → Nat} {f : Nat → va_E} (iN tN n1 : Nat) (g : Nat → Int32) (x y z : Int32) (hc0 : f 4 = .inr (1, [.ref (ad 5), .int 8, .int (nI n1)])) (hc1 : f 5 = .inl (ca 0, 24, .inl (w3 g iN x y z))) (hi : iN < n1) (hn1 : n1 ≤ 8) (ht : tN ≤ 3) : gMv l D ca ss ad 108 yX1_quarter cX1_quarter 8 none 1 f [.ref (ad 4), .int (nI iN), .int 0, .int (nI tN)] (fun u => u = va_up f 5 (.inl (ca 0, 24, .inl (w3 g iN x ((r1 y z tN).1) ((r1 y z tN).2))))) := by
  refine gMv_ofK (by decide +kernel) (Nat.le_of_ble_eq_true rfl) (lv0 := [(0, .ref (ad 4)), (1, .int (nI iN)), (2, .int 0), (3, .int (nI tN))]) rfl (fun pT eT sT mT aT below meth cT AT QT C RT => ?_)
  have C : gX pT sT mT aT meth cT AT D ca ss 8 RX1 cX1_quarter none := C
  refine gj_aload_n C 0 dX1_quarter_0 rfl 0 rfl ?_
  refine gj_iload_n C 1 dX1_quarter_1 rfl 1 rfl ?_
  refine gj_callVi C mi_X1_has w_429 4 (by decide) hc0 rfl (c_X1_has 4 5 (nI iN) (8 : Int32) (nI n1) 24 (w3 g iN x y z) hc0 hc1 (by decide) (by decide) (by decide)) mc_X1_has ⟨Nat.le_of_ble_eq_true rfl, Nat.le_of_ble_eq_true rfl⟩ (rest := []) rfl (Nat.le_of_ble_eq_true rfl) dX1_quarter_2 (fun r u h => ?_)
  obtain ⟨hr_, h⟩ := h; rw [hr_]
  rw [h]
  refine gj_if_eq C 17 dX1_quarter_5 (by decide) (fun c_1 => absurd c_1 (has_nI hi (by omega))) (fun c_1 => ?_)
  refine gj_iload_n C 2 dX1_quarter_8 rfl 2 rfl ?_
  refine gj_iconst C (v := 0) (by decide) dX1_quarter_9 ?_
  refine gj_iconst C (v := 2) (by decide) dX1_quarter_10 ?_
  refine gj_callSNi C w_381 w_430 (c_X11_isWithin (0 : Int32) (0 : Int32) (2 : Int32)) mc_X11_isWithin ⟨Nat.le_of_ble_eq_true rfl, Nat.le_of_ble_eq_true rfl⟩ (rest := []) rfl (Nat.le_of_ble_eq_true rfl) dX1_quarter_11 (fun r u h => ?_)
  obtain ⟨hr_, h⟩ := h; rw [hr_]
  rw [h]
  refine gj_if_ne C 18 dX1_quarter_14 (by decide) (fun c_2 => ?_) (fun c_2 => absurd c_2 (by decide +kernel))
  refine gj_iconst C (v := 3) (by decide) dX1_quarter_18 ?_
  refine gj_iload_n C 1 dX1_quarter_19 rfl 1 rfl ?_
  refine gj_imul C dX1_quarter_20 ?_
  refine gj_iload_n C 2 dX1_quarter_21 rfl 2 rfl ?_
  refine gj_iconst C (v := 1) (by decide) dX1_quarter_22 ?_
  refine gj_iadd C dX1_quarter_23 ?_
  refine gj_seti (y := 1) (by decide) ?_
  refine gj_iconst C (v := 3) (by decide) dX1_quarter_24 ?_
  refine gj_irem C (by decide) dX1_quarter_25 ?_
  refine gj_seti (y := 1) (by decide) ?_
  refine gj_iadd C dX1_quarter_26 ?_
  refine gj_seti (y := nI (3 * iN + 1)) (i3_c iN 1) ?_
  refine gj_istore C (lv' := [(4, .int (nI (3 * iN + 1))), (0, .ref (ad 4)), (1, .int (nI iN)), (2, .int 0), (3, .int (nI tN))]) dX1_quarter_27 (by decide) rfl ?_
  refine gj_iconst C (v := 3) (by decide) dX1_quarter_29 ?_
  refine gj_iload_n C 1 dX1_quarter_30 rfl 2 rfl ?_
  refine gj_imul C dX1_quarter_31 ?_
  refine gj_iload_n C 2 dX1_quarter_32 rfl 3 rfl ?_
  refine gj_iconst C (v := 2) (by decide) dX1_quarter_33 ?_
  refine gj_iadd C dX1_quarter_34 ?_
  refine gj_seti (y := 2) (by decide) ?_
  refine gj_iconst C (v := 3) (by decide) dX1_quarter_35 ?_
  refine gj_irem C (by decide) dX1_quarter_36 ?_
  refine gj_seti (y := 2) (by decide) ?_
  refine gj_iadd C dX1_quarter_37 ?_
  refine gj_seti (y := nI (3 * iN + 2)) (i3_c iN 2) ?_
  refine gj_istore C (lv' := [(5, .int (nI (3 * iN + 2))), (4, .int (nI (3 * iN + 1))), (0, .ref (ad 4)), (1, .int (nI iN)), (2, .int 0), (3, .int (nI tN))]) dX1_quarter_38 (by decide) rfl ?_
  refine gj_iconst C (v := 0) (by decide) dX1_quarter_40 ?_
  refine gj_seti (y := nI 0) rfl ?_
  refine gj_istore C (lv' := [(6, .int (nI 0)), (5, .int (nI (3 * iN + 2))), (4, .int (nI (3 * iN + 1))), (0, .ref (ad 4)), (1, .int (nI iN)), (2, .int 0), (3, .int (nI tN))]) dX1_quarter_41 (by decide) rfl ?_
  refine gj_setf (up_id hc1).symm ?_
  refine gj_setf (g := va_up f 5 (.inl (ca 0, 24, .inl (w3 g iN x ((r1 y z 0).1) ((r1 y z 0).2))))) rfl ?_
  have loop_3 : ∀ (m0 t0 : Nat), t0 + m0 = tN → gJ pT l eT (Rm 1) sT mT aT below meth cT AT QT D ad 108 8 (va_up f 5 (.inl (ca 0, 24, .inl (w3 g iN x ((r1 y z t0).1) ((r1 y z t0).2))))) [(6, .int (nI t0)), (5, .int (nI (3 * iN + 2))), (4, .int (nI (3 * iN + 1))), (0, .ref (ad 4)), (1, .int (nI iN)), (2, .int 0), (3, .int (nI tN))] 43 [] := by
    intro m0
    induction m0 with
    | zero =>
      intro t0 hk_t0  
      refine gj_iload C dX1_quarter_43 0 rfl ?_
      refine gj_iload_n C 3 dX1_quarter_45 rfl 6 rfl ?_
      refine gj_icmp_ge C 88 dX1_quarter_46 (by decide) (fun c_5 => ?_) (fun c_5 => absurd (nI_le (by omega) (by omega)) c_5)
      exact RT _ _ _ (by obtain rfl : t0 = tN := (by omega); rfl) dX1_quarter_88
    | succ m0 ih_4 =>
      intro t0 hk_t0  
      refine gj_iload C dX1_quarter_43 0 rfl ?_
      refine gj_iload_n C 3 dX1_quarter_45 rfl 6 rfl ?_
      refine gj_icmp_ge C 88 dX1_quarter_46 (by decide) (fun c_6 => absurd c_6 (nI_ge (by omega) (by omega))) (fun c_6 => ?_)
      refine gj_aload_n C 0 dX1_quarter_49 rfl 3 rfl ?_
      refine gj_get C 4 (by decide) (up_nx (by decide) (hc0)) inX1 rfl 0 (by decide) w_94 (v := .ref (ad 5)) rfl dX1_quarter_50 ?_
      refine gj_iload C dX1_quarter_53 2 rfl ?_
      refine gj_iald C 5 (by decide) (va_up_self _ _ _) (vp_in_nI (by omega) (by omega)) dX1_quarter_55 ?_
      refine gj_seti ((congrArg _ (nI_clamp (show 3 * iN + 1 < 2 ^ 31 by omega))).trans (w3_1 _ _ _ _ _)) ?_
      refine gj_istore C (lv' := [(7, .int ((r1 y z t0).1)), (6, .int (nI t0)), (5, .int (nI (3 * iN + 2))), (4, .int (nI (3 * iN + 1))), (0, .ref (ad 4)), (1, .int (nI iN)), (2, .int 0), (3, .int (nI tN))]) dX1_quarter_56 (by decide) rfl ?_
      refine gj_aload_n C 0 dX1_quarter_58 rfl 4 rfl ?_
      refine gj_get C 4 (by decide) (up_nx (by decide) (hc0)) inX1 rfl 0 (by decide) w_94 (v := .ref (ad 5)) rfl dX1_quarter_59 ?_
      refine gj_iload C dX1_quarter_62 3 rfl ?_
      refine gj_aload_n C 0 dX1_quarter_64 rfl 4 rfl ?_
      refine gj_get C 4 (by decide) (up_nx (by decide) (hc0)) inX1 rfl 0 (by decide) w_94 (v := .ref (ad 5)) rfl dX1_quarter_65 ?_
      refine gj_iload C dX1_quarter_68 2 rfl ?_
      refine gj_iald C 5 (by decide) (va_up_self _ _ _) (vp_in_nI (by omega) (by omega)) dX1_quarter_70 ?_
      refine gj_seti ((congrArg _ (nI_clamp (show 3 * iN + 2 < 2 ^ 31 by omega))).trans (w3_2 _ _ _ _ _)) ?_
      refine gj_ineg C dX1_quarter_71 ?_
      refine gj_iast C 5 (by decide) (va_up_self _ _ _) (vp_in_nI (by omega) (by omega)) dX1_quarter_72 ?_
      refine gj_setf (bx_uu _ _ _ _) ?_
      refine gj_setf (g := va_up f 5 (.inl (ca 0, 24, .inl (w3 g iN x (-(r1 y z t0).2) ((r1 y z t0).2))))) (by rw [nI_clamp (show 3 * iN + 1 < 2 ^ 31 by omega), w3_u1]) ?_
      refine gj_aload_n C 0 dX1_quarter_73 rfl 4 rfl ?_
      refine gj_get C 4 (by decide) (up_nx (by decide) (hc0)) inX1 rfl 0 (by decide) w_94 (v := .ref (ad 5)) rfl dX1_quarter_74 ?_
      refine gj_iload C dX1_quarter_77 2 rfl ?_
      refine gj_iload C dX1_quarter_79 0 rfl ?_
      refine gj_iast C 5 (by decide) (va_up_self _ _ _) (vp_in_nI (by omega) (by omega)) dX1_quarter_81 ?_
      refine gj_setf (bx_uu _ _ _ _) ?_
      refine gj_setf (g := va_up f 5 (.inl (ca 0, 24, .inl (w3 g iN x ((r1 y z (t0 + 1)).1) ((r1 y z (t0 + 1)).2))))) (by rw [nI_clamp (show 3 * iN + 2 < 2 ^ 31 by omega), w3_u2]; rfl) ?_
      refine gj_iinc C (v := nI (t0 + 1)) (lv' := [(6, .int (nI (t0 + 1))), (7, .int ((r1 y z t0).1)), (5, .int (nI (3 * iN + 2))), (4, .int (nI (3 * iN + 1))), (0, .ref (ad 4)), (1, .int (nI iN)), (2, .int 0), (3, .int (nI tN))]) dX1_quarter_82 1 rfl (nI_1 _) (by decide) rfl ?_
      refine gj_goto C 43 dX1_quarter_85 (by decide) ?_
      refine gj_lv [0, 2, 3, 4, 5, 6, 7] rfl ?_
      exact ih_4 (t0 + 1) (by omega)
  refine gj_lv [0, 1, 2, 3, 4, 5, 6] rfl ?_
  exact loop_3 (tN - 0) 0 (by omega)
set_option maxHeartbeats 400000 in
set_option maxRecDepth 100000 in
theorem c_quarter1 {l : Launch} {D : va_G} {ca ss ad : Nat → Nat} {f : Nat → va_E} (iN tN n1 : Nat) (g : Nat → Int32) (x y z : Int32) (hc0 : f 4 = .inr (1, [.ref (ad 5), .int 8, .int (nI n1)])) (hc1 : f 5 = .inl (ca 0, 24, .inl (w3 g iN x y z))) (hi : iN < n1) (hn1 : n1 ≤ 8) (ht : tN ≤ 3) : gMv l D ca ss ad 108 yX1_quarter cX1_quarter 8 none 1 f [.ref (ad 4), .int (nI iN), .int 1, .int (nI tN)] (fun u => u = va_up f 5 (.inl (ca 0, 24, .inl (w3 g iN ((r2 x z tN).1) y ((r2 x z tN).2))))) := by
  refine gMv_ofK (by decide +kernel) (Nat.le_of_ble_eq_true rfl) (lv0 := [(0, .ref (ad 4)), (1, .int (nI iN)), (2, .int 1), (3, .int (nI tN))]) rfl (fun pT eT sT mT aT below meth cT AT QT C RT => ?_)
  have C : gX pT sT mT aT meth cT AT D ca ss 8 RX1 cX1_quarter none := C
  refine gj_aload_n C 0 dX1_quarter_0 rfl 0 rfl ?_
  refine gj_iload_n C 1 dX1_quarter_1 rfl 1 rfl ?_
  refine gj_callVi C mi_X1_has w_429 4 (by decide) hc0 rfl (c_X1_has 4 5 (nI iN) (8 : Int32) (nI n1) 24 (w3 g iN x y z) hc0 hc1 (by decide) (by decide) (by decide)) mc_X1_has ⟨Nat.le_of_ble_eq_true rfl, Nat.le_of_ble_eq_true rfl⟩ (rest := []) rfl (Nat.le_of_ble_eq_true rfl) dX1_quarter_2 (fun r u h => ?_)
  obtain ⟨hr_, h⟩ := h; rw [hr_]
  rw [h]
  refine gj_if_eq C 17 dX1_quarter_5 (by decide) (fun c_1 => absurd c_1 (has_nI hi (by omega))) (fun c_1 => ?_)
  refine gj_iload_n C 2 dX1_quarter_8 rfl 2 rfl ?_
  refine gj_iconst C (v := 0) (by decide) dX1_quarter_9 ?_
  refine gj_iconst C (v := 2) (by decide) dX1_quarter_10 ?_
  refine gj_callSNi C w_381 w_430 (c_X11_isWithin (1 : Int32) (0 : Int32) (2 : Int32)) mc_X11_isWithin ⟨Nat.le_of_ble_eq_true rfl, Nat.le_of_ble_eq_true rfl⟩ (rest := []) rfl (Nat.le_of_ble_eq_true rfl) dX1_quarter_11 (fun r u h => ?_)
  obtain ⟨hr_, h⟩ := h; rw [hr_]
  rw [h]
  refine gj_if_ne C 18 dX1_quarter_14 (by decide) (fun c_2 => ?_) (fun c_2 => absurd c_2 (by decide +kernel))
  refine gj_iconst C (v := 3) (by decide) dX1_quarter_18 ?_
  refine gj_iload_n C 1 dX1_quarter_19 rfl 1 rfl ?_
  refine gj_imul C dX1_quarter_20 ?_
  refine gj_iload_n C 2 dX1_quarter_21 rfl 2 rfl ?_
  refine gj_iconst C (v := 1) (by decide) dX1_quarter_22 ?_
  refine gj_iadd C dX1_quarter_23 ?_
  refine gj_seti (y := 2) (by decide) ?_
  refine gj_iconst C (v := 3) (by decide) dX1_quarter_24 ?_
  refine gj_irem C (by decide) dX1_quarter_25 ?_
  refine gj_seti (y := 2) (by decide) ?_
  refine gj_iadd C dX1_quarter_26 ?_
  refine gj_seti (y := nI (3 * iN + 2)) (i3_c iN 2) ?_
  refine gj_istore C (lv' := [(4, .int (nI (3 * iN + 2))), (0, .ref (ad 4)), (1, .int (nI iN)), (2, .int 1), (3, .int (nI tN))]) dX1_quarter_27 (by decide) rfl ?_
  refine gj_iconst C (v := 3) (by decide) dX1_quarter_29 ?_
  refine gj_iload_n C 1 dX1_quarter_30 rfl 2 rfl ?_
  refine gj_imul C dX1_quarter_31 ?_
  refine gj_iload_n C 2 dX1_quarter_32 rfl 3 rfl ?_
  refine gj_iconst C (v := 2) (by decide) dX1_quarter_33 ?_
  refine gj_iadd C dX1_quarter_34 ?_
  refine gj_seti (y := 3) (by decide) ?_
  refine gj_iconst C (v := 3) (by decide) dX1_quarter_35 ?_
  refine gj_irem C (by decide) dX1_quarter_36 ?_
  refine gj_seti (y := 0) (by decide) ?_
  refine gj_iadd C dX1_quarter_37 ?_
  refine gj_seti (y := nI (3 * iN)) (i3_c iN 0) ?_
  refine gj_istore C (lv' := [(5, .int (nI (3 * iN))), (4, .int (nI (3 * iN + 2))), (0, .ref (ad 4)), (1, .int (nI iN)), (2, .int 1), (3, .int (nI tN))]) dX1_quarter_38 (by decide) rfl ?_
  refine gj_iconst C (v := 0) (by decide) dX1_quarter_40 ?_
  refine gj_seti (y := nI 0) rfl ?_
  refine gj_istore C (lv' := [(6, .int (nI 0)), (5, .int (nI (3 * iN))), (4, .int (nI (3 * iN + 2))), (0, .ref (ad 4)), (1, .int (nI iN)), (2, .int 1), (3, .int (nI tN))]) dX1_quarter_41 (by decide) rfl ?_
  refine gj_setf (up_id hc1).symm ?_
  refine gj_setf (g := va_up f 5 (.inl (ca 0, 24, .inl (w3 g iN ((r2 x z 0).1) y ((r2 x z 0).2))))) rfl ?_
  have loop_3 : ∀ (m0 t0 : Nat), t0 + m0 = tN → gJ pT l eT (Rm 1) sT mT aT below meth cT AT QT D ad 108 8 (va_up f 5 (.inl (ca 0, 24, .inl (w3 g iN ((r2 x z t0).1) y ((r2 x z t0).2))))) [(6, .int (nI t0)), (5, .int (nI (3 * iN))), (4, .int (nI (3 * iN + 2))), (0, .ref (ad 4)), (1, .int (nI iN)), (2, .int 1), (3, .int (nI tN))] 43 [] := by
    intro m0
    induction m0 with
    | zero =>
      intro t0 hk_t0  
      refine gj_iload C dX1_quarter_43 0 rfl ?_
      refine gj_iload_n C 3 dX1_quarter_45 rfl 6 rfl ?_
      refine gj_icmp_ge C 88 dX1_quarter_46 (by decide) (fun c_5 => ?_) (fun c_5 => absurd (nI_le (by omega) (by omega)) c_5)
      exact RT _ _ _ (by obtain rfl : t0 = tN := (by omega); rfl) dX1_quarter_88
    | succ m0 ih_4 =>
      intro t0 hk_t0  
      refine gj_iload C dX1_quarter_43 0 rfl ?_
      refine gj_iload_n C 3 dX1_quarter_45 rfl 6 rfl ?_
      refine gj_icmp_ge C 88 dX1_quarter_46 (by decide) (fun c_6 => absurd c_6 (nI_ge (by omega) (by omega))) (fun c_6 => ?_)
      refine gj_aload_n C 0 dX1_quarter_49 rfl 3 rfl ?_
      refine gj_get C 4 (by decide) (up_nx (by decide) (hc0)) inX1 rfl 0 (by decide) w_94 (v := .ref (ad 5)) rfl dX1_quarter_50 ?_
      refine gj_iload C dX1_quarter_53 2 rfl ?_
      refine gj_iald C 5 (by decide) (va_up_self _ _ _) (vp_in_nI (by omega) (by omega)) dX1_quarter_55 ?_
      refine gj_seti ((congrArg _ (nI_clamp (show 3 * iN + 2 < 2 ^ 31 by omega))).trans (w3_2 _ _ _ _ _)) ?_
      refine gj_istore C (lv' := [(7, .int ((r2 x z t0).2)), (6, .int (nI t0)), (5, .int (nI (3 * iN))), (4, .int (nI (3 * iN + 2))), (0, .ref (ad 4)), (1, .int (nI iN)), (2, .int 1), (3, .int (nI tN))]) dX1_quarter_56 (by decide) rfl ?_
      refine gj_aload_n C 0 dX1_quarter_58 rfl 4 rfl ?_
      refine gj_get C 4 (by decide) (up_nx (by decide) (hc0)) inX1 rfl 0 (by decide) w_94 (v := .ref (ad 5)) rfl dX1_quarter_59 ?_
      refine gj_iload C dX1_quarter_62 3 rfl ?_
      refine gj_aload_n C 0 dX1_quarter_64 rfl 4 rfl ?_
      refine gj_get C 4 (by decide) (up_nx (by decide) (hc0)) inX1 rfl 0 (by decide) w_94 (v := .ref (ad 5)) rfl dX1_quarter_65 ?_
      refine gj_iload C dX1_quarter_68 2 rfl ?_
      refine gj_iald C 5 (by decide) (va_up_self _ _ _) (vp_in_nI (by omega) (by omega)) dX1_quarter_70 ?_
      refine gj_seti ((congrArg _ (nI_clamp (show 3 * iN < 2 ^ 31 by omega))).trans (w3_0 _ _ _ _ _)) ?_
      refine gj_ineg C dX1_quarter_71 ?_
      refine gj_iast C 5 (by decide) (va_up_self _ _ _) (vp_in_nI (by omega) (by omega)) dX1_quarter_72 ?_
      refine gj_setf (bx_uu _ _ _ _) ?_
      refine gj_setf (g := va_up f 5 (.inl (ca 0, 24, .inl (w3 g iN ((r2 x z t0).1) y (-(r2 x z t0).1))))) (by rw [nI_clamp (show 3 * iN + 2 < 2 ^ 31 by omega), w3_u2]) ?_
      refine gj_aload_n C 0 dX1_quarter_73 rfl 4 rfl ?_
      refine gj_get C 4 (by decide) (up_nx (by decide) (hc0)) inX1 rfl 0 (by decide) w_94 (v := .ref (ad 5)) rfl dX1_quarter_74 ?_
      refine gj_iload C dX1_quarter_77 2 rfl ?_
      refine gj_iload C dX1_quarter_79 0 rfl ?_
      refine gj_iast C 5 (by decide) (va_up_self _ _ _) (vp_in_nI (by omega) (by omega)) dX1_quarter_81 ?_
      refine gj_setf (bx_uu _ _ _ _) ?_
      refine gj_setf (g := va_up f 5 (.inl (ca 0, 24, .inl (w3 g iN ((r2 x z (t0 + 1)).1) y ((r2 x z (t0 + 1)).2))))) (by rw [nI_clamp (show 3 * iN < 2 ^ 31 by omega), w3_u0]; rfl) ?_
      refine gj_iinc C (v := nI (t0 + 1)) (lv' := [(6, .int (nI (t0 + 1))), (7, .int ((r2 x z t0).2)), (5, .int (nI (3 * iN))), (4, .int (nI (3 * iN + 2))), (0, .ref (ad 4)), (1, .int (nI iN)), (2, .int 1), (3, .int (nI tN))]) dX1_quarter_82 1 rfl (nI_1 _) (by decide) rfl ?_
      refine gj_goto C 43 dX1_quarter_85 (by decide) ?_
      refine gj_lv [0, 2, 3, 4, 5, 6, 7] rfl ?_
      exact ih_4 (t0 + 1) (by omega)
  refine gj_lv [0, 1, 2, 3, 4, 5, 6] rfl ?_
  exact loop_3 (tN - 0) 0 (by omega)
set_option maxHeartbeats 400000 in
set_option maxRecDepth 100000 in
theorem c_quarter2 {l : Launch} {D : va_G} {ca ss ad : Nat → Nat} {f : Nat → va_E} (iN tN n1 : Nat) (g : Nat → Int32) (x y z : Int32) (hc0 : f 4 = .inr (1, [.ref (ad 5), .int 8, .int (nI n1)])) (hc1 : f 5 = .inl (ca 0, 24, .inl (w3 g iN x y z))) (hi : iN < n1) (hn1 : n1 ≤ 8) (ht : tN ≤ 3) : gMv l D ca ss ad 108 yX1_quarter cX1_quarter 8 none 1 f [.ref (ad 4), .int (nI iN), .int 2, .int (nI tN)] (fun u => u = va_up f 5 (.inl (ca 0, 24, .inl (w3 g iN ((r3 x y tN).1) ((r3 x y tN).2) z)))) := by
  refine gMv_ofK (by decide +kernel) (Nat.le_of_ble_eq_true rfl) (lv0 := [(0, .ref (ad 4)), (1, .int (nI iN)), (2, .int 2), (3, .int (nI tN))]) rfl (fun pT eT sT mT aT below meth cT AT QT C RT => ?_)
  have C : gX pT sT mT aT meth cT AT D ca ss 8 RX1 cX1_quarter none := C
  refine gj_aload_n C 0 dX1_quarter_0 rfl 0 rfl ?_
  refine gj_iload_n C 1 dX1_quarter_1 rfl 1 rfl ?_
  refine gj_callVi C mi_X1_has w_429 4 (by decide) hc0 rfl (c_X1_has 4 5 (nI iN) (8 : Int32) (nI n1) 24 (w3 g iN x y z) hc0 hc1 (by decide) (by decide) (by decide)) mc_X1_has ⟨Nat.le_of_ble_eq_true rfl, Nat.le_of_ble_eq_true rfl⟩ (rest := []) rfl (Nat.le_of_ble_eq_true rfl) dX1_quarter_2 (fun r u h => ?_)
  obtain ⟨hr_, h⟩ := h; rw [hr_]
  rw [h]
  refine gj_if_eq C 17 dX1_quarter_5 (by decide) (fun c_1 => absurd c_1 (has_nI hi (by omega))) (fun c_1 => ?_)
  refine gj_iload_n C 2 dX1_quarter_8 rfl 2 rfl ?_
  refine gj_iconst C (v := 0) (by decide) dX1_quarter_9 ?_
  refine gj_iconst C (v := 2) (by decide) dX1_quarter_10 ?_
  refine gj_callSNi C w_381 w_430 (c_X11_isWithin (2 : Int32) (0 : Int32) (2 : Int32)) mc_X11_isWithin ⟨Nat.le_of_ble_eq_true rfl, Nat.le_of_ble_eq_true rfl⟩ (rest := []) rfl (Nat.le_of_ble_eq_true rfl) dX1_quarter_11 (fun r u h => ?_)
  obtain ⟨hr_, h⟩ := h; rw [hr_]
  rw [h]
  refine gj_if_ne C 18 dX1_quarter_14 (by decide) (fun c_2 => ?_) (fun c_2 => absurd c_2 (by decide +kernel))
  refine gj_iconst C (v := 3) (by decide) dX1_quarter_18 ?_
  refine gj_iload_n C 1 dX1_quarter_19 rfl 1 rfl ?_
  refine gj_imul C dX1_quarter_20 ?_
  refine gj_iload_n C 2 dX1_quarter_21 rfl 2 rfl ?_
  refine gj_iconst C (v := 1) (by decide) dX1_quarter_22 ?_
  refine gj_iadd C dX1_quarter_23 ?_
  refine gj_seti (y := 3) (by decide) ?_
  refine gj_iconst C (v := 3) (by decide) dX1_quarter_24 ?_
  refine gj_irem C (by decide) dX1_quarter_25 ?_
  refine gj_seti (y := 0) (by decide) ?_
  refine gj_iadd C dX1_quarter_26 ?_
  refine gj_seti (y := nI (3 * iN)) (i3_c iN 0) ?_
  refine gj_istore C (lv' := [(4, .int (nI (3 * iN))), (0, .ref (ad 4)), (1, .int (nI iN)), (2, .int 2), (3, .int (nI tN))]) dX1_quarter_27 (by decide) rfl ?_
  refine gj_iconst C (v := 3) (by decide) dX1_quarter_29 ?_
  refine gj_iload_n C 1 dX1_quarter_30 rfl 2 rfl ?_
  refine gj_imul C dX1_quarter_31 ?_
  refine gj_iload_n C 2 dX1_quarter_32 rfl 3 rfl ?_
  refine gj_iconst C (v := 2) (by decide) dX1_quarter_33 ?_
  refine gj_iadd C dX1_quarter_34 ?_
  refine gj_seti (y := 4) (by decide) ?_
  refine gj_iconst C (v := 3) (by decide) dX1_quarter_35 ?_
  refine gj_irem C (by decide) dX1_quarter_36 ?_
  refine gj_seti (y := 1) (by decide) ?_
  refine gj_iadd C dX1_quarter_37 ?_
  refine gj_seti (y := nI (3 * iN + 1)) (i3_c iN 1) ?_
  refine gj_istore C (lv' := [(5, .int (nI (3 * iN + 1))), (4, .int (nI (3 * iN))), (0, .ref (ad 4)), (1, .int (nI iN)), (2, .int 2), (3, .int (nI tN))]) dX1_quarter_38 (by decide) rfl ?_
  refine gj_iconst C (v := 0) (by decide) dX1_quarter_40 ?_
  refine gj_seti (y := nI 0) rfl ?_
  refine gj_istore C (lv' := [(6, .int (nI 0)), (5, .int (nI (3 * iN + 1))), (4, .int (nI (3 * iN))), (0, .ref (ad 4)), (1, .int (nI iN)), (2, .int 2), (3, .int (nI tN))]) dX1_quarter_41 (by decide) rfl ?_
  refine gj_setf (up_id hc1).symm ?_
  refine gj_setf (g := va_up f 5 (.inl (ca 0, 24, .inl (w3 g iN ((r3 x y 0).1) ((r3 x y 0).2) z)))) rfl ?_
  have loop_3 : ∀ (m0 t0 : Nat), t0 + m0 = tN → gJ pT l eT (Rm 1) sT mT aT below meth cT AT QT D ad 108 8 (va_up f 5 (.inl (ca 0, 24, .inl (w3 g iN ((r3 x y t0).1) ((r3 x y t0).2) z)))) [(6, .int (nI t0)), (5, .int (nI (3 * iN + 1))), (4, .int (nI (3 * iN))), (0, .ref (ad 4)), (1, .int (nI iN)), (2, .int 2), (3, .int (nI tN))] 43 [] := by
    intro m0
    induction m0 with
    | zero =>
      intro t0 hk_t0  
      refine gj_iload C dX1_quarter_43 0 rfl ?_
      refine gj_iload_n C 3 dX1_quarter_45 rfl 6 rfl ?_
      refine gj_icmp_ge C 88 dX1_quarter_46 (by decide) (fun c_5 => ?_) (fun c_5 => absurd (nI_le (by omega) (by omega)) c_5)
      exact RT _ _ _ (by obtain rfl : t0 = tN := (by omega); rfl) dX1_quarter_88
    | succ m0 ih_4 =>
      intro t0 hk_t0  
      refine gj_iload C dX1_quarter_43 0 rfl ?_
      refine gj_iload_n C 3 dX1_quarter_45 rfl 6 rfl ?_
      refine gj_icmp_ge C 88 dX1_quarter_46 (by decide) (fun c_6 => absurd c_6 (nI_ge (by omega) (by omega))) (fun c_6 => ?_)
      refine gj_aload_n C 0 dX1_quarter_49 rfl 3 rfl ?_
      refine gj_get C 4 (by decide) (up_nx (by decide) (hc0)) inX1 rfl 0 (by decide) w_94 (v := .ref (ad 5)) rfl dX1_quarter_50 ?_
      refine gj_iload C dX1_quarter_53 2 rfl ?_
      refine gj_iald C 5 (by decide) (va_up_self _ _ _) (vp_in_nI (by omega) (by omega)) dX1_quarter_55 ?_
      refine gj_seti ((congrArg _ (nI_clamp (show 3 * iN < 2 ^ 31 by omega))).trans (w3_0 _ _ _ _ _)) ?_
      refine gj_istore C (lv' := [(7, .int ((r3 x y t0).1)), (6, .int (nI t0)), (5, .int (nI (3 * iN + 1))), (4, .int (nI (3 * iN))), (0, .ref (ad 4)), (1, .int (nI iN)), (2, .int 2), (3, .int (nI tN))]) dX1_quarter_56 (by decide) rfl ?_
      refine gj_aload_n C 0 dX1_quarter_58 rfl 4 rfl ?_
      refine gj_get C 4 (by decide) (up_nx (by decide) (hc0)) inX1 rfl 0 (by decide) w_94 (v := .ref (ad 5)) rfl dX1_quarter_59 ?_
      refine gj_iload C dX1_quarter_62 3 rfl ?_
      refine gj_aload_n C 0 dX1_quarter_64 rfl 4 rfl ?_
      refine gj_get C 4 (by decide) (up_nx (by decide) (hc0)) inX1 rfl 0 (by decide) w_94 (v := .ref (ad 5)) rfl dX1_quarter_65 ?_
      refine gj_iload C dX1_quarter_68 2 rfl ?_
      refine gj_iald C 5 (by decide) (va_up_self _ _ _) (vp_in_nI (by omega) (by omega)) dX1_quarter_70 ?_
      refine gj_seti ((congrArg _ (nI_clamp (show 3 * iN + 1 < 2 ^ 31 by omega))).trans (w3_1 _ _ _ _ _)) ?_
      refine gj_ineg C dX1_quarter_71 ?_
      refine gj_iast C 5 (by decide) (va_up_self _ _ _) (vp_in_nI (by omega) (by omega)) dX1_quarter_72 ?_
      refine gj_setf (bx_uu _ _ _ _) ?_
      refine gj_setf (g := va_up f 5 (.inl (ca 0, 24, .inl (w3 g iN (-(r3 x y t0).2) ((r3 x y t0).2) z)))) (by rw [nI_clamp (show 3 * iN < 2 ^ 31 by omega), w3_u0]) ?_
      refine gj_aload_n C 0 dX1_quarter_73 rfl 4 rfl ?_
      refine gj_get C 4 (by decide) (up_nx (by decide) (hc0)) inX1 rfl 0 (by decide) w_94 (v := .ref (ad 5)) rfl dX1_quarter_74 ?_
      refine gj_iload C dX1_quarter_77 2 rfl ?_
      refine gj_iload C dX1_quarter_79 0 rfl ?_
      refine gj_iast C 5 (by decide) (va_up_self _ _ _) (vp_in_nI (by omega) (by omega)) dX1_quarter_81 ?_
      refine gj_setf (bx_uu _ _ _ _) ?_
      refine gj_setf (g := va_up f 5 (.inl (ca 0, 24, .inl (w3 g iN ((r3 x y (t0 + 1)).1) ((r3 x y (t0 + 1)).2) z)))) (by rw [nI_clamp (show 3 * iN + 1 < 2 ^ 31 by omega), w3_u1]; rfl) ?_
      refine gj_iinc C (v := nI (t0 + 1)) (lv' := [(6, .int (nI (t0 + 1))), (7, .int ((r3 x y t0).1)), (5, .int (nI (3 * iN + 1))), (4, .int (nI (3 * iN))), (0, .ref (ad 4)), (1, .int (nI iN)), (2, .int 2), (3, .int (nI tN))]) dX1_quarter_82 1 rfl (nI_1 _) (by decide) rfl ?_
      refine gj_goto C 43 dX1_quarter_85 (by decide) ?_
      refine gj_lv [0, 2, 3, 4, 5, 6, 7] rfl ?_
      exact ih_4 (t0 + 1) (by omega)
  refine gj_lv [0, 1, 2, 3, 4, 5, 6] rfl ?_
  exact loop_3 (tN - 0) 0 (by omega)
set_option maxHeartbeats 400000 in
set_option maxRecDepth 100000 in
theorem c_blur0 {l : Launch} {D : va_G} {ca ss ad : Nat → Nat} {f : Nat → va_E} (iN n1 : Nat) (q d : Int32) (g : Nat → Int32) (x y z : Int32) (hc0 : f 4 = .inr (1, [.ref (ad 5), .int 8, .int (nI n1)])) (hc1 : f 5 = .inl (ca 0, 24, .inl (w3 g iN x y z))) (hi : iN < n1) (hn1 : n1 ≤ 8) (hq : ¬ 1 ≤ q) : gMi l D ca ss ad 108 yX1_blur cX1_blur 7 (some .int) 1 f [.ref (ad 4), .int (nI iN), .int q, .int d] (fun r u => r = d ∧ u = f) := by
  refine gMi_ofK (by decide +kernel) (Nat.le_of_ble_eq_true rfl) (lv0 := [(0, .ref (ad 4)), (1, .int (nI iN)), (2, .int q), (3, .int d)]) rfl (fun pT eT sT mT aT below meth cT AT QT C RT => ?_)
  have C : gX pT sT mT aT meth cT AT D ca ss 7 RX1 cX1_blur (some .int) := C
  refine gj_aload_n C 0 dX1_blur_0 rfl 0 rfl ?_
  refine gj_iload_n C 1 dX1_blur_1 rfl 1 rfl ?_
  refine gj_callVi C mi_X1_has w_429 4 (by decide) hc0 rfl (c_X1_has 4 5 (nI iN) (8 : Int32) (nI n1) 24 (w3 g iN x y z) hc0 hc1 (by decide) (by decide) (by decide)) mc_X1_has ⟨Nat.le_of_ble_eq_true rfl, Nat.le_of_ble_eq_true rfl⟩ (rest := []) rfl (Nat.le_of_ble_eq_true rfl) dX1_blur_2 (fun r u h => ?_)
  obtain ⟨hr_, h⟩ := h; rw [hr_]
  rw [h]
  refine gj_if_eq C 13 dX1_blur_5 (by decide) (fun c_1 => absurd c_1 (has_nI hi (by omega))) (fun c_1 => ?_)
  refine gj_iload_n C 2 dX1_blur_8 rfl 2 rfl ?_
  refine gj_iconst C (v := 1) (by decide) dX1_blur_9 ?_
  refine gj_icmp_ge C 15 dX1_blur_10 (by decide) (fun c_2 => absurd c_2 hq) (fun c_2 => ?_)
  refine gj_iload_n C 3 dX1_blur_13 rfl 3 rfl ?_
  exact RT _ _ _ _ ⟨rfl, rfl⟩ dX1_blur_14
set_option maxHeartbeats 400000 in
set_option maxRecDepth 100000 in
theorem c_blur1 {l : Launch} {D : va_G} {ca ss ad : Nat → Nat} {f : Nat → va_E} (iN n1 : Nat) (q d : Int32) (g : Nat → Int32) (x y z : Int32) (hc0 : f 4 = .inr (1, [.ref (ad 5), .int 8, .int (nI n1)])) (hc1 : f 5 = .inl (ca 0, 24, .inl (w3 g iN x y z))) (hi : iN < n1) (hn1 : n1 ≤ 8) (hq : 1 ≤ q) (h2 : ¬ 2 * q + 1 = 0) : gMi l D ca ss ad 108 yX1_blur cX1_blur 7 (some .int) 1 f [.ref (ad 4), .int (nI iN), .int q, .int d] (fun r u => r = nDraw (nDraw (nDraw d)) ∧ u = va_up f 5 (.inl (ca 0, 24, .inl (w3 g iN (cNoise x q d) (cNoise y q (nDraw d)) (zFix (cNoise x q d) (cNoise y q (nDraw d)) (cNoise z q (nDraw (nDraw d)))))))) := by
  refine gMi_ofK (by decide +kernel) (Nat.le_of_ble_eq_true rfl) (lv0 := [(0, .ref (ad 4)), (1, .int (nI iN)), (2, .int q), (3, .int d)]) rfl (fun pT eT sT mT aT below meth cT AT QT C RT => ?_)
  have C : gX pT sT mT aT meth cT AT D ca ss 7 RX1 cX1_blur (some .int) := C
  refine gj_setf (up_id hc1).symm ?_
  refine gj_aload_n C 0 dX1_blur_0 rfl 0 rfl ?_
  refine gj_iload_n C 1 dX1_blur_1 rfl 1 rfl ?_
  refine gj_callVi C mi_X1_has w_429 4 (by decide) (up_nx (by decide) (hc0)) rfl (c_X1_has 4 5 (nI iN) (8 : Int32) (nI n1) 24 (w3 g iN x y z) (up_nx (by decide) (hc0)) (va_up_self _ _ _) (by decide) (by decide) (by decide)) mc_X1_has ⟨Nat.le_of_ble_eq_true rfl, Nat.le_of_ble_eq_true rfl⟩ (rest := []) rfl (Nat.le_of_ble_eq_true rfl) dX1_blur_2 (fun r u h => ?_)
  obtain ⟨hr_, hu_⟩ := h; rw [hr_]; subst hu_
  refine gj_if_eq C 13 dX1_blur_5 (by decide) (fun c_1 => absurd c_1 (has_nI hi (by omega))) (fun c_1 => ?_)
  refine gj_iload_n C 2 dX1_blur_8 rfl 2 rfl ?_
  refine gj_iconst C (v := 1) (by decide) dX1_blur_9 ?_
  refine gj_icmp_ge C 15 dX1_blur_10 (by decide) (fun c_2 => ?_) (fun c_2 => absurd hq c_2)
  refine gj_iload_n C 3 dX1_blur_15 rfl 3 rfl ?_
  refine gj_istore C (lv' := [(4, .int d), (0, .ref (ad 4)), (1, .int (nI iN)), (2, .int q), (3, .int d)]) dX1_blur_16 (by decide) rfl ?_
  refine gj_iconst C (v := 3) (by decide) dX1_blur_18 ?_
  refine gj_iload_n C 1 dX1_blur_19 rfl 2 rfl ?_
  refine gj_imul C dX1_blur_20 ?_
  refine gj_seti (y := nI (3 * iN + 0)) (i3_0 iN) ?_
  refine gj_istore C (lv' := [(5, .int (nI (3 * iN + 0))), (4, .int d), (0, .ref (ad 4)), (1, .int (nI iN)), (2, .int q), (3, .int d)]) dX1_blur_21 (by decide) rfl ?_
  refine gj_iload C dX1_blur_23 0 rfl ?_
  refine gj_iconst C (v := 3) (by decide) dX1_blur_25 ?_
  refine gj_iload_n C 1 dX1_blur_26 rfl 3 rfl ?_
  refine gj_imul C dX1_blur_27 ?_
  refine gj_iconst C (v := 3) (by decide) dX1_blur_28 ?_
  refine gj_iadd C dX1_blur_29 ?_
  refine gj_seti (y := nI (3 * iN + 3)) (i3_c iN 3) ?_
  refine gj_icmp_ge C 92 dX1_blur_30 (by decide) (fun c_3 => absurd c_3 (nI_ge (by omega) (by omega))) (fun c_3 => ?_)
  refine gj_ldc C (v := 1103515245) w_470 dX1_blur_33 ?_
  refine gj_iload C dX1_blur_35 1 rfl ?_
  refine gj_imul C dX1_blur_37 ?_
  refine gj_sipush C (v := 12345) (by decide) dX1_blur_38 ?_
  refine gj_iadd C dX1_blur_41 ?_
  refine gj_seti (y := nDraw d) rfl ?_
  refine gj_istore C (lv' := [(4, .int (nDraw d)), (5, .int (nI (3 * iN + 0))), (0, .ref (ad 4)), (1, .int (nI iN)), (2, .int q), (3, .int d)]) dX1_blur_42 (by decide) rfl ?_
  refine gj_aload_n C 0 dX1_blur_44 rfl 2 rfl ?_
  refine gj_get C 4 (by decide) (up_nx (by decide) (hc0)) inX1 rfl 0 (by decide) w_94 (v := .ref (ad 5)) rfl dX1_blur_45 ?_
  refine gj_iload C dX1_blur_48 1 rfl ?_
  refine gj_iald C 5 (by decide) (va_up_self _ _ _) (vp_in_nI (by omega) (by omega)) dX1_blur_50 ?_
  refine gj_seti ((congrArg _ (nI_clamp (show 3 * iN + 0 < 2 ^ 31 by omega))).trans (w3_0 _ _ _ _ _)) ?_
  refine gj_iload C dX1_blur_51 0 rfl ?_
  refine gj_bipush C (v := 16) (by decide) dX1_blur_53 ?_
  refine gj_iushr C dX1_blur_55 ?_
  refine gj_iconst C (v := 2) (by decide) dX1_blur_56 ?_
  refine gj_iload_n C 2 dX1_blur_57 rfl 4 rfl ?_
  refine gj_imul C dX1_blur_58 ?_
  refine gj_iconst C (v := 1) (by decide) dX1_blur_59 ?_
  refine gj_iadd C dX1_blur_60 ?_
  refine gj_irem C h2 dX1_blur_61 ?_
  refine gj_iadd C dX1_blur_62 ?_
  refine gj_iload_n C 2 dX1_blur_63 rfl 4 rfl ?_
  refine gj_isub C dX1_blur_64 ?_
  refine gj_istore C (lv' := [(6, .int ((x + ((((nDraw d).toUInt32 >>> ((16 : Int32).toUInt32 &&& Int32.toUInt32 31)).toInt32) - (((nDraw d).toUInt32 >>> ((16 : Int32).toUInt32 &&& Int32.toUInt32 31)).toInt32) / ((2 * q) + 1) * ((2 * q) + 1))) - q)), (4, .int (nDraw d)), (5, .int (nI (3 * iN + 0))), (0, .ref (ad 4)), (1, .int (nI iN)), (2, .int q), (3, .int d)]) dX1_blur_65 (by decide) rfl ?_
  refine gj_aload_n C 0 dX1_blur_67 rfl 3 rfl ?_
  refine gj_get C 4 (by decide) (up_nx (by decide) (hc0)) inX1 rfl 0 (by decide) w_94 (v := .ref (ad 5)) rfl dX1_blur_68 ?_
  refine gj_iload C dX1_blur_71 2 rfl ?_
  refine gj_bipush C (v := (-100)) (by decide) dX1_blur_73 ?_
  refine gj_bipush C (v := 100) (by decide) dX1_blur_75 ?_
  refine gj_iload C dX1_blur_77 0 rfl ?_
  refine gj_mmin C w_471 w_472 w_57 w_473 ⟨Nat.le_of_ble_eq_true rfl, Nat.le_of_ble_eq_true rfl⟩ (Nat.le_of_ble_eq_true rfl) dX1_blur_79 ?_
  refine gj_mmax C w_91 w_92 w_57 w_93 ⟨Nat.le_of_ble_eq_true rfl, Nat.le_of_ble_eq_true rfl⟩ (Nat.le_of_ble_eq_true rfl) dX1_blur_82 ?_
  refine gj_seti (y := (cNoise x q d)) rfl ?_
  refine gj_iast C 5 (by decide) (va_up_self _ _ _) (vp_in_nI (by omega) (by omega)) dX1_blur_85 ?_
  refine gj_setf (bx_uu _ _ _ _) ?_
  refine gj_setf (g := va_up f 5 (.inl (ca 0, 24, .inl (w3 g iN (cNoise x q d) y z)))) (by rw [nI_clamp (show 3 * iN + 0 < 2 ^ 31 by omega)]; exact congrArg (fun z => va_up f 5 (.inl (ca 0, 24, .inl z))) (w3_u0 g iN _ _ _ _)) ?_
  refine gj_iinc C (v := nI (3 * iN + 1)) (lv' := [(5, .int (nI (3 * iN + 1))), (6, .int ((x + ((((nDraw d).toUInt32 >>> ((16 : Int32).toUInt32 &&& Int32.toUInt32 31)).toInt32) - (((nDraw d).toUInt32 >>> ((16 : Int32).toUInt32 &&& Int32.toUInt32 31)).toInt32) / ((2 * q) + 1) * ((2 * q) + 1))) - q)), (4, .int (nDraw d)), (0, .ref (ad 4)), (1, .int (nI iN)), (2, .int q), (3, .int d)]) dX1_blur_86 2 rfl (nI_1 _) (by decide) rfl ?_
  refine gj_goto C 23 dX1_blur_89 (by decide) ?_
  refine gj_iload C dX1_blur_23 0 rfl ?_
  refine gj_iconst C (v := 3) (by decide) dX1_blur_25 ?_
  refine gj_iload_n C 1 dX1_blur_26 rfl 4 rfl ?_
  refine gj_imul C dX1_blur_27 ?_
  refine gj_iconst C (v := 3) (by decide) dX1_blur_28 ?_
  refine gj_iadd C dX1_blur_29 ?_
  refine gj_seti (y := nI (3 * iN + 3)) (i3_c iN 3) ?_
  refine gj_icmp_ge C 92 dX1_blur_30 (by decide) (fun c_4 => absurd c_4 (nI_ge (by omega) (by omega))) (fun c_4 => ?_)
  refine gj_ldc C (v := 1103515245) w_470 dX1_blur_33 ?_
  refine gj_iload C dX1_blur_35 2 rfl ?_
  refine gj_imul C dX1_blur_37 ?_
  refine gj_sipush C (v := 12345) (by decide) dX1_blur_38 ?_
  refine gj_iadd C dX1_blur_41 ?_
  refine gj_seti (y := nDraw (nDraw d)) rfl ?_
  refine gj_istore C (lv' := [(4, .int (nDraw (nDraw d))), (5, .int (nI (3 * iN + 1))), (6, .int ((x + ((((nDraw d).toUInt32 >>> ((16 : Int32).toUInt32 &&& Int32.toUInt32 31)).toInt32) - (((nDraw d).toUInt32 >>> ((16 : Int32).toUInt32 &&& Int32.toUInt32 31)).toInt32) / ((2 * q) + 1) * ((2 * q) + 1))) - q)), (0, .ref (ad 4)), (1, .int (nI iN)), (2, .int q), (3, .int d)]) dX1_blur_42 (by decide) rfl ?_
  refine gj_aload_n C 0 dX1_blur_44 rfl 3 rfl ?_
  refine gj_get C 4 (by decide) (up_nx (by decide) (hc0)) inX1 rfl 0 (by decide) w_94 (v := .ref (ad 5)) rfl dX1_blur_45 ?_
  refine gj_iload C dX1_blur_48 1 rfl ?_
  refine gj_iald C 5 (by decide) (va_up_self _ _ _) (vp_in_nI (by omega) (by omega)) dX1_blur_50 ?_
  refine gj_seti ((congrArg _ (nI_clamp (show 3 * iN + 1 < 2 ^ 31 by omega))).trans (w3_1 _ _ _ _ _)) ?_
  refine gj_iload C dX1_blur_51 0 rfl ?_
  refine gj_bipush C (v := 16) (by decide) dX1_blur_53 ?_
  refine gj_iushr C dX1_blur_55 ?_
  refine gj_iconst C (v := 2) (by decide) dX1_blur_56 ?_
  refine gj_iload_n C 2 dX1_blur_57 rfl 5 rfl ?_
  refine gj_imul C dX1_blur_58 ?_
  refine gj_iconst C (v := 1) (by decide) dX1_blur_59 ?_
  refine gj_iadd C dX1_blur_60 ?_
  refine gj_irem C h2 dX1_blur_61 ?_
  refine gj_iadd C dX1_blur_62 ?_
  refine gj_iload_n C 2 dX1_blur_63 rfl 5 rfl ?_
  refine gj_isub C dX1_blur_64 ?_
  refine gj_istore C (lv' := [(6, .int ((y + ((((nDraw (nDraw d)).toUInt32 >>> ((16 : Int32).toUInt32 &&& Int32.toUInt32 31)).toInt32) - (((nDraw (nDraw d)).toUInt32 >>> ((16 : Int32).toUInt32 &&& Int32.toUInt32 31)).toInt32) / ((2 * q) + 1) * ((2 * q) + 1))) - q)), (4, .int (nDraw (nDraw d))), (5, .int (nI (3 * iN + 1))), (0, .ref (ad 4)), (1, .int (nI iN)), (2, .int q), (3, .int d)]) dX1_blur_65 (by decide) rfl ?_
  refine gj_aload_n C 0 dX1_blur_67 rfl 3 rfl ?_
  refine gj_get C 4 (by decide) (up_nx (by decide) (hc0)) inX1 rfl 0 (by decide) w_94 (v := .ref (ad 5)) rfl dX1_blur_68 ?_
  refine gj_iload C dX1_blur_71 2 rfl ?_
  refine gj_bipush C (v := (-100)) (by decide) dX1_blur_73 ?_
  refine gj_bipush C (v := 100) (by decide) dX1_blur_75 ?_
  refine gj_iload C dX1_blur_77 0 rfl ?_
  refine gj_mmin C w_471 w_472 w_57 w_473 ⟨Nat.le_of_ble_eq_true rfl, Nat.le_of_ble_eq_true rfl⟩ (Nat.le_of_ble_eq_true rfl) dX1_blur_79 ?_
  refine gj_mmax C w_91 w_92 w_57 w_93 ⟨Nat.le_of_ble_eq_true rfl, Nat.le_of_ble_eq_true rfl⟩ (Nat.le_of_ble_eq_true rfl) dX1_blur_82 ?_
  refine gj_seti (y := (cNoise y q (nDraw d))) rfl ?_
  refine gj_iast C 5 (by decide) (va_up_self _ _ _) (vp_in_nI (by omega) (by omega)) dX1_blur_85 ?_
  refine gj_setf (bx_uu _ _ _ _) ?_
  refine gj_setf (g := va_up f 5 (.inl (ca 0, 24, .inl (w3 g iN (cNoise x q d) (cNoise y q (nDraw d)) z)))) (by rw [nI_clamp (show 3 * iN + 1 < 2 ^ 31 by omega), w3_u1]) ?_
  refine gj_iinc C (v := nI (3 * iN + 2)) (lv' := [(5, .int (nI (3 * iN + 2))), (6, .int ((y + ((((nDraw (nDraw d)).toUInt32 >>> ((16 : Int32).toUInt32 &&& Int32.toUInt32 31)).toInt32) - (((nDraw (nDraw d)).toUInt32 >>> ((16 : Int32).toUInt32 &&& Int32.toUInt32 31)).toInt32) / ((2 * q) + 1) * ((2 * q) + 1))) - q)), (4, .int (nDraw (nDraw d))), (0, .ref (ad 4)), (1, .int (nI iN)), (2, .int q), (3, .int d)]) dX1_blur_86 2 rfl (nI_1 _) (by decide) rfl ?_
  refine gj_goto C 23 dX1_blur_89 (by decide) ?_
  refine gj_iload C dX1_blur_23 0 rfl ?_
  refine gj_iconst C (v := 3) (by decide) dX1_blur_25 ?_
  refine gj_iload_n C 1 dX1_blur_26 rfl 4 rfl ?_
  refine gj_imul C dX1_blur_27 ?_
  refine gj_iconst C (v := 3) (by decide) dX1_blur_28 ?_
  refine gj_iadd C dX1_blur_29 ?_
  refine gj_seti (y := nI (3 * iN + 3)) (i3_c iN 3) ?_
  refine gj_icmp_ge C 92 dX1_blur_30 (by decide) (fun c_5 => absurd c_5 (nI_ge (by omega) (by omega))) (fun c_5 => ?_)
  refine gj_ldc C (v := 1103515245) w_470 dX1_blur_33 ?_
  refine gj_iload C dX1_blur_35 2 rfl ?_
  refine gj_imul C dX1_blur_37 ?_
  refine gj_sipush C (v := 12345) (by decide) dX1_blur_38 ?_
  refine gj_iadd C dX1_blur_41 ?_
  refine gj_seti (y := nDraw (nDraw (nDraw d))) rfl ?_
  refine gj_istore C (lv' := [(4, .int (nDraw (nDraw (nDraw d)))), (5, .int (nI (3 * iN + 2))), (6, .int ((y + ((((nDraw (nDraw d)).toUInt32 >>> ((16 : Int32).toUInt32 &&& Int32.toUInt32 31)).toInt32) - (((nDraw (nDraw d)).toUInt32 >>> ((16 : Int32).toUInt32 &&& Int32.toUInt32 31)).toInt32) / ((2 * q) + 1) * ((2 * q) + 1))) - q)), (0, .ref (ad 4)), (1, .int (nI iN)), (2, .int q), (3, .int d)]) dX1_blur_42 (by decide) rfl ?_
  refine gj_aload_n C 0 dX1_blur_44 rfl 3 rfl ?_
  refine gj_get C 4 (by decide) (up_nx (by decide) (hc0)) inX1 rfl 0 (by decide) w_94 (v := .ref (ad 5)) rfl dX1_blur_45 ?_
  refine gj_iload C dX1_blur_48 1 rfl ?_
  refine gj_iald C 5 (by decide) (va_up_self _ _ _) (vp_in_nI (by omega) (by omega)) dX1_blur_50 ?_
  refine gj_seti ((congrArg _ (nI_clamp (show 3 * iN + 2 < 2 ^ 31 by omega))).trans (w3_2 _ _ _ _ _)) ?_
  refine gj_iload C dX1_blur_51 0 rfl ?_
  refine gj_bipush C (v := 16) (by decide) dX1_blur_53 ?_
  refine gj_iushr C dX1_blur_55 ?_
  refine gj_iconst C (v := 2) (by decide) dX1_blur_56 ?_
  refine gj_iload_n C 2 dX1_blur_57 rfl 5 rfl ?_
  refine gj_imul C dX1_blur_58 ?_
  refine gj_iconst C (v := 1) (by decide) dX1_blur_59 ?_
  refine gj_iadd C dX1_blur_60 ?_
  refine gj_irem C h2 dX1_blur_61 ?_
  refine gj_iadd C dX1_blur_62 ?_
  refine gj_iload_n C 2 dX1_blur_63 rfl 5 rfl ?_
  refine gj_isub C dX1_blur_64 ?_
  refine gj_istore C (lv' := [(6, .int ((z + ((((nDraw (nDraw (nDraw d))).toUInt32 >>> ((16 : Int32).toUInt32 &&& Int32.toUInt32 31)).toInt32) - (((nDraw (nDraw (nDraw d))).toUInt32 >>> ((16 : Int32).toUInt32 &&& Int32.toUInt32 31)).toInt32) / ((2 * q) + 1) * ((2 * q) + 1))) - q)), (4, .int (nDraw (nDraw (nDraw d)))), (5, .int (nI (3 * iN + 2))), (0, .ref (ad 4)), (1, .int (nI iN)), (2, .int q), (3, .int d)]) dX1_blur_65 (by decide) rfl ?_
  refine gj_aload_n C 0 dX1_blur_67 rfl 3 rfl ?_
  refine gj_get C 4 (by decide) (up_nx (by decide) (hc0)) inX1 rfl 0 (by decide) w_94 (v := .ref (ad 5)) rfl dX1_blur_68 ?_
  refine gj_iload C dX1_blur_71 2 rfl ?_
  refine gj_bipush C (v := (-100)) (by decide) dX1_blur_73 ?_
  refine gj_bipush C (v := 100) (by decide) dX1_blur_75 ?_
  refine gj_iload C dX1_blur_77 0 rfl ?_
  refine gj_mmin C w_471 w_472 w_57 w_473 ⟨Nat.le_of_ble_eq_true rfl, Nat.le_of_ble_eq_true rfl⟩ (Nat.le_of_ble_eq_true rfl) dX1_blur_79 ?_
  refine gj_mmax C w_91 w_92 w_57 w_93 ⟨Nat.le_of_ble_eq_true rfl, Nat.le_of_ble_eq_true rfl⟩ (Nat.le_of_ble_eq_true rfl) dX1_blur_82 ?_
  refine gj_seti (y := (cNoise z q (nDraw (nDraw d)))) rfl ?_
  refine gj_iast C 5 (by decide) (va_up_self _ _ _) (vp_in_nI (by omega) (by omega)) dX1_blur_85 ?_
  refine gj_setf (bx_uu _ _ _ _) ?_
  refine gj_setf (g := va_up f 5 (.inl (ca 0, 24, .inl (w3 g iN (cNoise x q d) (cNoise y q (nDraw d)) (cNoise z q (nDraw (nDraw d))))))) (by rw [nI_clamp (show 3 * iN + 2 < 2 ^ 31 by omega), w3_u2]) ?_
  refine gj_iinc C (v := nI (3 * iN + 3)) (lv' := [(5, .int (nI (3 * iN + 3))), (6, .int ((z + ((((nDraw (nDraw (nDraw d))).toUInt32 >>> ((16 : Int32).toUInt32 &&& Int32.toUInt32 31)).toInt32) - (((nDraw (nDraw (nDraw d))).toUInt32 >>> ((16 : Int32).toUInt32 &&& Int32.toUInt32 31)).toInt32) / ((2 * q) + 1) * ((2 * q) + 1))) - q)), (4, .int (nDraw (nDraw (nDraw d)))), (0, .ref (ad 4)), (1, .int (nI iN)), (2, .int q), (3, .int d)]) dX1_blur_86 2 rfl (nI_1 _) (by decide) rfl ?_
  refine gj_goto C 23 dX1_blur_89 (by decide) ?_
  refine gj_iload C dX1_blur_23 0 rfl ?_
  refine gj_iconst C (v := 3) (by decide) dX1_blur_25 ?_
  refine gj_iload_n C 1 dX1_blur_26 rfl 4 rfl ?_
  refine gj_imul C dX1_blur_27 ?_
  refine gj_iconst C (v := 3) (by decide) dX1_blur_28 ?_
  refine gj_iadd C dX1_blur_29 ?_
  refine gj_seti (y := nI (3 * iN + 3)) (i3_c iN 3) ?_
  refine gj_icmp_ge C 92 dX1_blur_30 (by decide) (fun c_6 => ?_) (fun c_6 => absurd (Int32.le_refl _) c_6)
  refine gj_aload_n C 0 dX1_blur_92 rfl 3 rfl ?_
  refine gj_get C 4 (by decide) (up_nx (by decide) (hc0)) inX1 rfl 0 (by decide) w_94 (v := .ref (ad 5)) rfl dX1_blur_93 ?_
  refine gj_iconst C (v := 3) (by decide) dX1_blur_96 ?_
  refine gj_iload_n C 1 dX1_blur_97 rfl 4 rfl ?_
  refine gj_imul C dX1_blur_98 ?_
  refine gj_seti (y := nI (3 * iN)) (i3_0 iN) ?_
  refine gj_iald C 5 (by decide) (va_up_self _ _ _) (vp_in_nI (by omega) (by omega)) dX1_blur_99 ?_
  refine gj_seti ((congrArg _ (nI_clamp (show 3 * iN < 2 ^ 31 by omega))).trans (w3_0 _ _ _ _ _)) ?_
  refine gj_if_ne C 140 dX1_blur_100 (by decide) (fun c_7 => ?_) (fun c_7 => ?_)
  · refine gj_iload C dX1_blur_140 2 rfl ?_
    exact RT _ _ _ _ ⟨rfl, by rw [show zFix (cNoise x q d) (cNoise y q (nDraw d)) (cNoise z q (nDraw (nDraw d))) = (cNoise z q (nDraw (nDraw d))) from (if_neg c_7).trans (rfl)]⟩ dX1_blur_142
  · refine gj_aload_n C 0 dX1_blur_103 rfl 3 rfl ?_
    refine gj_get C 4 (by decide) (up_nx (by decide) (hc0)) inX1 rfl 0 (by decide) w_94 (v := .ref (ad 5)) rfl dX1_blur_104 ?_
    refine gj_iconst C (v := 3) (by decide) dX1_blur_107 ?_
    refine gj_iload_n C 1 dX1_blur_108 rfl 4 rfl ?_
    refine gj_imul C dX1_blur_109 ?_
    refine gj_iconst C (v := 1) (by decide) dX1_blur_110 ?_
    refine gj_iadd C dX1_blur_111 ?_
    refine gj_seti (y := nI (3 * iN + 1)) (i3_c iN 1) ?_
    refine gj_iald C 5 (by decide) (va_up_self _ _ _) (vp_in_nI (by omega) (by omega)) dX1_blur_112 ?_
    refine gj_seti ((congrArg _ (nI_clamp (show 3 * iN + 1 < 2 ^ 31 by omega))).trans (w3_1 _ _ _ _ _)) ?_
    refine gj_if_ne C 140 dX1_blur_113 (by decide) (fun c_8 => ?_) (fun c_8 => ?_)
    · refine gj_iload C dX1_blur_140 2 rfl ?_
      exact RT _ _ _ _ ⟨rfl, by rw [show zFix (cNoise x q d) (cNoise y q (nDraw d)) (cNoise z q (nDraw (nDraw d))) = (cNoise z q (nDraw (nDraw d))) from (if_pos c_7).trans ((if_neg c_8).trans (rfl))]⟩ dX1_blur_142
    · refine gj_aload_n C 0 dX1_blur_116 rfl 3 rfl ?_
      refine gj_get C 4 (by decide) (up_nx (by decide) (hc0)) inX1 rfl 0 (by decide) w_94 (v := .ref (ad 5)) rfl dX1_blur_117 ?_
      refine gj_iconst C (v := 3) (by decide) dX1_blur_120 ?_
      refine gj_iload_n C 1 dX1_blur_121 rfl 4 rfl ?_
      refine gj_imul C dX1_blur_122 ?_
      refine gj_iconst C (v := 2) (by decide) dX1_blur_123 ?_
      refine gj_iadd C dX1_blur_124 ?_
      refine gj_seti (y := nI (3 * iN + 2)) (i3_c iN 2) ?_
      refine gj_iald C 5 (by decide) (va_up_self _ _ _) (vp_in_nI (by omega) (by omega)) dX1_blur_125 ?_
      refine gj_seti ((congrArg _ (nI_clamp (show 3 * iN + 2 < 2 ^ 31 by omega))).trans (w3_2 _ _ _ _ _)) ?_
      refine gj_if_ne C 140 dX1_blur_126 (by decide) (fun c_9 => ?_) (fun c_9 => ?_)
      · refine gj_iload C dX1_blur_140 2 rfl ?_
        exact RT _ _ _ _ ⟨rfl, by rw [show zFix (cNoise x q d) (cNoise y q (nDraw d)) (cNoise z q (nDraw (nDraw d))) = (cNoise z q (nDraw (nDraw d))) from (if_pos c_7).trans ((if_pos c_8).trans ((if_neg c_9).trans (rfl)))]⟩ dX1_blur_142
      · refine gj_aload_n C 0 dX1_blur_129 rfl 3 rfl ?_
        refine gj_get C 4 (by decide) (up_nx (by decide) (hc0)) inX1 rfl 0 (by decide) w_94 (v := .ref (ad 5)) rfl dX1_blur_130 ?_
        refine gj_iconst C (v := 3) (by decide) dX1_blur_133 ?_
        refine gj_iload_n C 1 dX1_blur_134 rfl 4 rfl ?_
        refine gj_imul C dX1_blur_135 ?_
        refine gj_iconst C (v := 2) (by decide) dX1_blur_136 ?_
        refine gj_iadd C dX1_blur_137 ?_
        refine gj_seti (y := nI (3 * iN + 2)) (i3_c iN 2) ?_
        refine gj_iconst C (v := 1) (by decide) dX1_blur_138 ?_
        refine gj_iast C 5 (by decide) (va_up_self _ _ _) (vp_in_nI (by omega) (by omega)) dX1_blur_139 ?_
        refine gj_setf (bx_uu _ _ _ _) ?_
        refine gj_setf (g := va_up f 5 (.inl (ca 0, 24, .inl (w3 g iN (cNoise x q d) (cNoise y q (nDraw d)) 1)))) (by rw [nI_clamp (show 3 * iN + 2 < 2 ^ 31 by omega), w3_u2]) ?_
        refine gj_iload C dX1_blur_140 2 rfl ?_
        exact RT _ _ _ _ ⟨rfl, by rw [show zFix (cNoise x q d) (cNoise y q (nDraw d)) (cNoise z q (nDraw (nDraw d))) = 1 from (if_pos c_7).trans ((if_pos c_8).trans ((if_pos c_9).trans (rfl)))]⟩ dX1_blur_142
set_option maxHeartbeats 400000 in
set_option maxRecDepth 100000 in
theorem c_fillS {l : Launch} {D : va_G} {ca ss ad : Nat → Nat} {f : Nat → va_E} (n0 : Nat) (g tg : Nat → Int32) (hc0 : f 2 = .inr (1, [.ref (ad 3), .int 12, .int (nI n0)])) (hc1 : f 3 = .inl (ca 0, 36, .inl g)) (hc2 : f 8 = .inl (ca 0, 144, .inl tg)) (hn : n0 ≤ 12) : gMv l D ca ss ad 108 yX1_fillSides cX1_fillSides 4 none 3 f [.ref (ad 2), .ref (ad 8)] (fun u => ∃ jt : Nat → Int32, (∀ a b, a < n0 → b < n0 → jt (12 * a + b) = s_X1_sideOf (nI a) (nI b) (nI n0) g) ∧ u = va_up f 8 (.inl (ca 0, 144, .inl jt))) := by
  refine gMv_ofK (by decide +kernel) (Nat.le_of_ble_eq_true rfl) (lv0 := [(0, .ref (ad 2)), (1, .ref (ad 8))]) rfl (fun pT eT sT mT aT below meth cT AT QT C RT => ?_)
  have C : gX pT sT mT aT meth cT AT D ca ss 4 RX1 cX1_fillSides none := C
  refine gj_aload_n C 1 dX1_fillSides_0 rfl 1 rfl ?_
  refine gj_alen C 0 8 (by decide) hc2 rfl (v := 144) rfl dX1_fillSides_1 ?_
  refine gj_aload_n C 0 dX1_fillSides_2 rfl 0 rfl ?_
  refine gj_get C 2 (by decide) hc0 inX1 rfl 1 (by decide) w_95 (v := .int 12) rfl dX1_fillSides_3 ?_
  refine gj_aload_n C 0 dX1_fillSides_6 rfl 0 rfl ?_
  refine gj_get C 2 (by decide) hc0 inX1 rfl 1 (by decide) w_95 (v := .int 12) rfl dX1_fillSides_7 ?_
  refine gj_imul C dX1_fillSides_10 ?_
  refine gj_seti (y := 144) (by decide) ?_
  refine gj_icmp_ge C 15 dX1_fillSides_11 (by decide) (fun c_1 => ?_) (fun c_1 => absurd (by decide) c_1)
  refine gj_iconst C (v := 0) (by decide) dX1_fillSides_15 ?_
  refine gj_seti (y := nI 0) rfl ?_
  refine gj_istore_n C (lv' := [(2, .int (nI 0)), (0, .ref (ad 2)), (1, .ref (ad 8))]) 2 dX1_fillSides_16 rfl (by decide) rfl ?_
  refine gj_setf (up_id hc2).symm ?_
  have loop_2 : ∀ (m0 t0 : Nat), t0 + m0 = n0 → ∀ (jt : Nat → Int32), ∀ (hO : ∀ a b, a < t0 → b < n0 → jt (12 * a + b) = s_X1_sideOf (nI a) (nI b) (nI n0) g), gJ pT l eT (Rm 3) sT mT aT below meth cT AT QT D ad 108 4 (va_up f 8 (.inl (ca 0, 144, .inl jt))) [(2, .int (nI t0)), (0, .ref (ad 2)), (1, .ref (ad 8))] 17 [] := by
    intro m0
    induction m0 with
    | zero =>
      intro t0 hk_t0  jt hO
      refine gj_iload_n C 2 dX1_fillSides_17 rfl 0 rfl ?_
      refine gj_aload_n C 0 dX1_fillSides_18 rfl 1 rfl ?_
      refine gj_get C 2 (by decide) (up_nx (by decide) (hc0)) inX1 rfl 2 (by decide) w_96 (v := .int (nI n0)) rfl dX1_fillSides_19 ?_
      refine gj_icmp_ge C 63 dX1_fillSides_22 (by decide) (fun c_4 => ?_) (fun c_4 => absurd (nI_le (by omega) (by omega)) c_4)
      exact RT _ _ _ ⟨_, (fun a b ha hb => hO a b (by omega) hb), rfl⟩ dX1_fillSides_63
    | succ m0 ih_3 =>
      intro t0 hk_t0  jt hO
      refine gj_iload_n C 2 dX1_fillSides_17 rfl 0 rfl ?_
      refine gj_aload_n C 0 dX1_fillSides_18 rfl 1 rfl ?_
      refine gj_get C 2 (by decide) (up_nx (by decide) (hc0)) inX1 rfl 2 (by decide) w_96 (v := .int (nI n0)) rfl dX1_fillSides_19 ?_
      refine gj_icmp_ge C 63 dX1_fillSides_22 (by decide) (fun c_5 => absurd c_5 (nI_ge (by omega) (by omega))) (fun c_5 => ?_)
      refine gj_iconst C (v := 0) (by decide) dX1_fillSides_25 ?_
      refine gj_seti (y := nI 0) rfl ?_
      refine gj_istore_n C (lv' := [(3, .int (nI 0)), (2, .int (nI t0)), (0, .ref (ad 2)), (1, .ref (ad 8))]) 3 dX1_fillSides_26 rfl (by decide) rfl ?_
      have loop_6 : ∀ (m1 t1 : Nat), t1 + m1 = n0 → ∀ (jt : Nat → Int32), ∀ (hO : ∀ a b, a < t0 → b < n0 → jt (12 * a + b) = s_X1_sideOf (nI a) (nI b) (nI n0) g), ∀ (hI : ∀ b, b < t1 → jt (12 * t0 + b) = s_X1_sideOf (nI t0) (nI b) (nI n0) g), gJ pT l eT (Rm 3) sT mT aT below meth cT AT QT D ad 108 4 (va_up f 8 (.inl (ca 0, 144, .inl jt))) [(3, .int (nI t1)), (2, .int (nI t0)), (0, .ref (ad 2)), (1, .ref (ad 8))] 27 [] := by
        intro m1
        induction m1 with
        | zero =>
          intro t1 hk_t1  jt hO hI
          refine gj_iload_n C 3 dX1_fillSides_27 rfl 0 rfl ?_
          refine gj_aload_n C 0 dX1_fillSides_28 rfl 2 rfl ?_
          refine gj_get C 2 (by decide) (up_nx (by decide) (hc0)) inX1 rfl 2 (by decide) w_96 (v := .int (nI n0)) rfl dX1_fillSides_29 ?_
          refine gj_icmp_ge C 57 dX1_fillSides_32 (by decide) (fun c_8 => ?_) (fun c_8 => absurd (nI_le (by omega) (by omega)) c_8)
          refine gj_iinc C (v := nI (t0 + 1)) (lv' := [(2, .int (nI (t0 + 1))), (3, .int (nI t1)), (0, .ref (ad 2)), (1, .ref (ad 8))]) dX1_fillSides_57 1 rfl (nI_1 _) (by decide) rfl ?_
          refine gj_goto C 17 dX1_fillSides_60 (by decide) ?_
          refine gj_lv [0, 2, 3] rfl ?_
          exact ih_3 (t0 + 1) (by omega) _ (fun a b ha hb => if q : a < t0 then hO a b q hb else by obtain rfl : a = t0 := (by omega); exact hI b (by omega))
        | succ m1 ih_7 =>
          intro t1 hk_t1  jt hO hI
          refine gj_iload_n C 3 dX1_fillSides_27 rfl 0 rfl ?_
          refine gj_aload_n C 0 dX1_fillSides_28 rfl 2 rfl ?_
          refine gj_get C 2 (by decide) (up_nx (by decide) (hc0)) inX1 rfl 2 (by decide) w_96 (v := .int (nI n0)) rfl dX1_fillSides_29 ?_
          refine gj_icmp_ge C 57 dX1_fillSides_32 (by decide) (fun c_9 => absurd c_9 (nI_ge (by omega) (by omega))) (fun c_9 => ?_)
          refine gj_aload_n C 1 dX1_fillSides_35 rfl 3 rfl ?_
          refine gj_iload_n C 2 dX1_fillSides_36 rfl 1 rfl ?_
          refine gj_aload_n C 0 dX1_fillSides_37 rfl 2 rfl ?_
          refine gj_get C 2 (by decide) (up_nx (by decide) (hc0)) inX1 rfl 1 (by decide) w_95 (v := .int 12) rfl dX1_fillSides_38 ?_
          refine gj_imul C dX1_fillSides_41 ?_
          refine gj_iload_n C 3 dX1_fillSides_42 rfl 0 rfl ?_
          refine gj_iadd C dX1_fillSides_43 ?_
          refine gj_seti (y := nI (12 * t0 + t1)) (by rw [Int32.mul_comm]; exact lin_n (a := 12) (by omega)) ?_
          refine gj_aload_n C 0 dX1_fillSides_44 rfl 2 rfl ?_
          refine gj_iload_n C 2 dX1_fillSides_45 rfl 1 rfl ?_
          refine gj_iload_n C 3 dX1_fillSides_46 rfl 0 rfl ?_
          refine gj_callVi C mi_X1_sideOf w_526 2 (by decide) (up_nx (by decide) (hc0)) rfl (c_X1_sideOf 2 3 (nI t0) (nI t1) (12 : Int32) (nI n0) 36 g (up_nx (by decide) (hc0)) (up_nx (by decide) (hc1)) (by decide) (by decide) (by decide) (szk (by omega) (by omega))) mc_X1_sideOf ⟨Nat.le_of_ble_eq_true rfl, Nat.le_of_ble_eq_true rfl⟩ (rest := [.int (nI (12 * t0 + t1)), .ref (ad 8)]) rfl (Nat.le_of_ble_eq_true rfl) dX1_fillSides_47 (fun r u h => ?_)
          obtain ⟨hr_, hu_⟩ := h; rw [hr_]; subst hu_
          refine gj_iast C 8 (by decide) (va_up_self _ _ _) (vp_in_nI (by omega) (by omega)) dX1_fillSides_50 ?_
          refine gj_setf (bx_uu _ _ _ _) ?_
          refine gj_setf (g := va_up f 8 (.inl (ca 0, 144, .inl (upd jt (12 * t0 + t1) (s_X1_sideOf (nI t0) (nI t1) (nI n0) g))))) (by rw [nI_clamp (show 12 * t0 + t1 < 2 ^ 31 by omega)]) ?_
          refine gj_iinc C (v := nI (t1 + 1)) (lv' := [(3, .int (nI (t1 + 1))), (2, .int (nI t0)), (0, .ref (ad 2)), (1, .ref (ad 8))]) dX1_fillSides_51 0 rfl (nI_1 _) (by decide) rfl ?_
          refine gj_goto C 27 dX1_fillSides_54 (by decide) ?_
          refine gj_lv [0, 1, 2, 3] rfl ?_
          exact ih_7 (t1 + 1) (by omega) _ (fun a b ha hb => (pk_un (by omega)).trans (hO a b ha hb)) (fun b hb => if q : b < t1 then (pk_un (by omega)).trans (hI b q) else by obtain rfl : b = t1 := (by omega); exact pk_us)
      refine gj_lv [0, 1, 2, 3] rfl ?_
      exact loop_6 (n0 - 0) 0 (by omega) _ hO (fun b hb => absurd hb (Nat.not_lt_zero b))
  refine gj_lv [0, 1, 2] rfl ?_
  exact loop_2 (n0 - 0) 0 (by omega) _ (fun a b ha => absurd ha (Nat.not_lt_zero a))
set_option maxHeartbeats 400000 in
set_option maxRecDepth 100000 in
theorem c_fillP {l : Launch} {D : va_G} {ca ss ad : Nat → Nat} {f : Nat → va_E} (n1 : Nat) (g tg : Nat → Int32) (hc0 : f 4 = .inr (1, [.ref (ad 5), .int 8, .int (nI n1)])) (hc1 : f 5 = .inl (ca 0, 24, .inl g)) (hc2 : f 9 = .inl (ca 0, 64, .inl tg)) (hn : n1 ≤ 8) : gMv l D ca ss ad 108 yX1_fillSides cX1_fillSides 4 none 3 f [.ref (ad 4), .ref (ad 9)] (fun u => ∃ jt : Nat → Int32, (∀ a b, a < n1 → b < n1 → jt (8 * a + b) = s_X1_sideOf (nI a) (nI b) (nI n1) g) ∧ u = va_up f 9 (.inl (ca 0, 64, .inl jt))) := by
  refine gMv_ofK (by decide +kernel) (Nat.le_of_ble_eq_true rfl) (lv0 := [(0, .ref (ad 4)), (1, .ref (ad 9))]) rfl (fun pT eT sT mT aT below meth cT AT QT C RT => ?_)
  have C : gX pT sT mT aT meth cT AT D ca ss 4 RX1 cX1_fillSides none := C
  refine gj_aload_n C 1 dX1_fillSides_0 rfl 1 rfl ?_
  refine gj_alen C 0 9 (by decide) hc2 rfl (v := 64) rfl dX1_fillSides_1 ?_
  refine gj_aload_n C 0 dX1_fillSides_2 rfl 0 rfl ?_
  refine gj_get C 4 (by decide) hc0 inX1 rfl 1 (by decide) w_95 (v := .int 8) rfl dX1_fillSides_3 ?_
  refine gj_aload_n C 0 dX1_fillSides_6 rfl 0 rfl ?_
  refine gj_get C 4 (by decide) hc0 inX1 rfl 1 (by decide) w_95 (v := .int 8) rfl dX1_fillSides_7 ?_
  refine gj_imul C dX1_fillSides_10 ?_
  refine gj_seti (y := 64) (by decide) ?_
  refine gj_icmp_ge C 15 dX1_fillSides_11 (by decide) (fun c_1 => ?_) (fun c_1 => absurd (by decide) c_1)
  refine gj_iconst C (v := 0) (by decide) dX1_fillSides_15 ?_
  refine gj_seti (y := nI 0) rfl ?_
  refine gj_istore_n C (lv' := [(2, .int (nI 0)), (0, .ref (ad 4)), (1, .ref (ad 9))]) 2 dX1_fillSides_16 rfl (by decide) rfl ?_
  refine gj_setf (up_id hc2).symm ?_
  have loop_2 : ∀ (m0 t0 : Nat), t0 + m0 = n1 → ∀ (jt : Nat → Int32), ∀ (hO : ∀ a b, a < t0 → b < n1 → jt (8 * a + b) = s_X1_sideOf (nI a) (nI b) (nI n1) g), gJ pT l eT (Rm 3) sT mT aT below meth cT AT QT D ad 108 4 (va_up f 9 (.inl (ca 0, 64, .inl jt))) [(2, .int (nI t0)), (0, .ref (ad 4)), (1, .ref (ad 9))] 17 [] := by
    intro m0
    induction m0 with
    | zero =>
      intro t0 hk_t0  jt hO
      refine gj_iload_n C 2 dX1_fillSides_17 rfl 0 rfl ?_
      refine gj_aload_n C 0 dX1_fillSides_18 rfl 1 rfl ?_
      refine gj_get C 4 (by decide) (up_nx (by decide) (hc0)) inX1 rfl 2 (by decide) w_96 (v := .int (nI n1)) rfl dX1_fillSides_19 ?_
      refine gj_icmp_ge C 63 dX1_fillSides_22 (by decide) (fun c_4 => ?_) (fun c_4 => absurd (nI_le (by omega) (by omega)) c_4)
      exact RT _ _ _ ⟨_, (fun a b ha hb => hO a b (by omega) hb), rfl⟩ dX1_fillSides_63
    | succ m0 ih_3 =>
      intro t0 hk_t0  jt hO
      refine gj_iload_n C 2 dX1_fillSides_17 rfl 0 rfl ?_
      refine gj_aload_n C 0 dX1_fillSides_18 rfl 1 rfl ?_
      refine gj_get C 4 (by decide) (up_nx (by decide) (hc0)) inX1 rfl 2 (by decide) w_96 (v := .int (nI n1)) rfl dX1_fillSides_19 ?_
      refine gj_icmp_ge C 63 dX1_fillSides_22 (by decide) (fun c_5 => absurd c_5 (nI_ge (by omega) (by omega))) (fun c_5 => ?_)
      refine gj_iconst C (v := 0) (by decide) dX1_fillSides_25 ?_
      refine gj_seti (y := nI 0) rfl ?_
      refine gj_istore_n C (lv' := [(3, .int (nI 0)), (2, .int (nI t0)), (0, .ref (ad 4)), (1, .ref (ad 9))]) 3 dX1_fillSides_26 rfl (by decide) rfl ?_
      have loop_6 : ∀ (m1 t1 : Nat), t1 + m1 = n1 → ∀ (jt : Nat → Int32), ∀ (hO : ∀ a b, a < t0 → b < n1 → jt (8 * a + b) = s_X1_sideOf (nI a) (nI b) (nI n1) g), ∀ (hI : ∀ b, b < t1 → jt (8 * t0 + b) = s_X1_sideOf (nI t0) (nI b) (nI n1) g), gJ pT l eT (Rm 3) sT mT aT below meth cT AT QT D ad 108 4 (va_up f 9 (.inl (ca 0, 64, .inl jt))) [(3, .int (nI t1)), (2, .int (nI t0)), (0, .ref (ad 4)), (1, .ref (ad 9))] 27 [] := by
        intro m1
        induction m1 with
        | zero =>
          intro t1 hk_t1  jt hO hI
          refine gj_iload_n C 3 dX1_fillSides_27 rfl 0 rfl ?_
          refine gj_aload_n C 0 dX1_fillSides_28 rfl 2 rfl ?_
          refine gj_get C 4 (by decide) (up_nx (by decide) (hc0)) inX1 rfl 2 (by decide) w_96 (v := .int (nI n1)) rfl dX1_fillSides_29 ?_
          refine gj_icmp_ge C 57 dX1_fillSides_32 (by decide) (fun c_8 => ?_) (fun c_8 => absurd (nI_le (by omega) (by omega)) c_8)
          refine gj_iinc C (v := nI (t0 + 1)) (lv' := [(2, .int (nI (t0 + 1))), (3, .int (nI t1)), (0, .ref (ad 4)), (1, .ref (ad 9))]) dX1_fillSides_57 1 rfl (nI_1 _) (by decide) rfl ?_
          refine gj_goto C 17 dX1_fillSides_60 (by decide) ?_
          refine gj_lv [0, 2, 3] rfl ?_
          exact ih_3 (t0 + 1) (by omega) _ (fun a b ha hb => if q : a < t0 then hO a b q hb else by obtain rfl : a = t0 := (by omega); exact hI b (by omega))
        | succ m1 ih_7 =>
          intro t1 hk_t1  jt hO hI
          refine gj_iload_n C 3 dX1_fillSides_27 rfl 0 rfl ?_
          refine gj_aload_n C 0 dX1_fillSides_28 rfl 2 rfl ?_
          refine gj_get C 4 (by decide) (up_nx (by decide) (hc0)) inX1 rfl 2 (by decide) w_96 (v := .int (nI n1)) rfl dX1_fillSides_29 ?_
          refine gj_icmp_ge C 57 dX1_fillSides_32 (by decide) (fun c_9 => absurd c_9 (nI_ge (by omega) (by omega))) (fun c_9 => ?_)
          refine gj_aload_n C 1 dX1_fillSides_35 rfl 3 rfl ?_
          refine gj_iload_n C 2 dX1_fillSides_36 rfl 1 rfl ?_
          refine gj_aload_n C 0 dX1_fillSides_37 rfl 2 rfl ?_
          refine gj_get C 4 (by decide) (up_nx (by decide) (hc0)) inX1 rfl 1 (by decide) w_95 (v := .int 8) rfl dX1_fillSides_38 ?_
          refine gj_imul C dX1_fillSides_41 ?_
          refine gj_iload_n C 3 dX1_fillSides_42 rfl 0 rfl ?_
          refine gj_iadd C dX1_fillSides_43 ?_
          refine gj_seti (y := nI (8 * t0 + t1)) (by rw [Int32.mul_comm]; exact lin_n (a := 8) (by omega)) ?_
          refine gj_aload_n C 0 dX1_fillSides_44 rfl 2 rfl ?_
          refine gj_iload_n C 2 dX1_fillSides_45 rfl 1 rfl ?_
          refine gj_iload_n C 3 dX1_fillSides_46 rfl 0 rfl ?_
          refine gj_callVi C mi_X1_sideOf w_526 4 (by decide) (up_nx (by decide) (hc0)) rfl (c_X1_sideOf 4 5 (nI t0) (nI t1) (8 : Int32) (nI n1) 24 g (up_nx (by decide) (hc0)) (up_nx (by decide) (hc1)) (by decide) (by decide) (by decide) (szk (by omega) (by omega))) mc_X1_sideOf ⟨Nat.le_of_ble_eq_true rfl, Nat.le_of_ble_eq_true rfl⟩ (rest := [.int (nI (8 * t0 + t1)), .ref (ad 9)]) rfl (Nat.le_of_ble_eq_true rfl) dX1_fillSides_47 (fun r u h => ?_)
          obtain ⟨hr_, hu_⟩ := h; rw [hr_]; subst hu_
          refine gj_iast C 9 (by decide) (va_up_self _ _ _) (vp_in_nI (by omega) (by omega)) dX1_fillSides_50 ?_
          refine gj_setf (bx_uu _ _ _ _) ?_
          refine gj_setf (g := va_up f 9 (.inl (ca 0, 64, .inl (upd jt (8 * t0 + t1) (s_X1_sideOf (nI t0) (nI t1) (nI n1) g))))) (by rw [nI_clamp (show 8 * t0 + t1 < 2 ^ 31 by omega)]) ?_
          refine gj_iinc C (v := nI (t1 + 1)) (lv' := [(3, .int (nI (t1 + 1))), (2, .int (nI t0)), (0, .ref (ad 4)), (1, .ref (ad 9))]) dX1_fillSides_51 0 rfl (nI_1 _) (by decide) rfl ?_
          refine gj_goto C 27 dX1_fillSides_54 (by decide) ?_
          refine gj_lv [0, 1, 2, 3] rfl ?_
          exact ih_7 (t1 + 1) (by omega) _ (fun a b ha hb => (pk_un (by omega)).trans (hO a b ha hb)) (fun b hb => if q : b < t1 then (pk_un (by omega)).trans (hI b q) else by obtain rfl : b = t1 := (by omega); exact pk_us)
      refine gj_lv [0, 1, 2, 3] rfl ?_
      exact loop_6 (n1 - 0) 0 (by omega) _ hO (fun b hb => absurd hb (Nat.not_lt_zero b))
  refine gj_lv [0, 1, 2] rfl ?_
  exact loop_2 (n1 - 0) 0 (by omega) _ (fun a b ha => absurd ha (Nat.not_lt_zero a))
