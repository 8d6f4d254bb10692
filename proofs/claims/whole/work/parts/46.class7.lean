set_option maxHeartbeats 400000 in
set_option maxRecDepth 100000 in
theorem c_X3_tellOrders {l : Launch} {D : va_G} {ca ss ad : Nat → Nat} {f : Nat → va_E} {K : Type} {tw : K → (Nat → va_E) → Nat → va_E} {th : K → Int32 → Int32 → Int32 → Int32 → K} {T : Nat} (hT : gTal l D ca ss ad tw th T) (st : K) (pN qN rN cN n0 n1 : Nat) (t : tri) (cnt lk : Int32) (sg pg tg : Nat → Int32) (sS sP : Nat → Nat → Int32) (hc7 : f 7 = .inr (3, [.ref (ad 8), .ref (ad 9), .ref (ad 10), .ref (ad 11), .int cnt, .int lk])) (hc8 : f 8 = .inl (ca 0, 144, .inl sg)) (hc9 : f 9 = .inl (ca 0, 64, .inl pg)) (hc10 : f 10 = .inl (ca 0, 660, .inl tg)) (hn0 : n0 ≤ 12) (hn1 : n1 ≤ 8) (hp : pN < n1) (hq : qN < n1) (hr : rN < n1) (hss : ∀ a b, a < n0 → b < n0 → sg (12 * a + b) = sS a b) (hps : ∀ a b, a < n1 → b < n1 → pg (8 * a + b) = sP a b) (hc : cN < 220) (h0t : tg (3 * cN) = nI t.1) (h1t : tg (3 * cN + 1) = nI t.2.1) (h2t : tg (3 * cN + 2) = nI t.2.2) (hb0 : t.1 < n0) (hb1 : t.2.1 < n0) (hb2 : t.2.2 < n0) : gMv l D ca ss ad 108 yX3_tellOrders cX3_tellOrders 17 none 1 (tw st f) [.ref (ad 7), .int (nI pN), .int (nI qN), .int (nI rN), .int (nI (3 * cN)), .ref (ad T)] (fun u => u = tw (cTell th sP sS pN qN rN t st) f) := by
  refine gMv_ofK (by decide +kernel) (Nat.le_of_ble_eq_true rfl) (lv0 := [(0, .ref (ad 7)), (1, .int (nI pN)), (2, .int (nI qN)), (3, .int (nI rN)), (4, .int (nI (3 * cN))), (5, .ref (ad T))]) rfl (fun pT eT sT mT aT below meth cT AT QT C RT => ?_)
  have C : gX pT sT mT aT meth cT AT D ca ss 17 RX3 cX3_tellOrders none := C
  refine gj_aload_n C 0 dX3_tellOrders_0 rfl 0 rfl ?_
  refine gj_iload_n C 1 dX3_tellOrders_1 rfl 1 rfl ?_
  refine gj_iload_n C 2 dX3_tellOrders_2 rfl 2 rfl ?_
  refine gj_callVi C mi_X3_spotSide w_545 7 (by decide) (twk hT (by decide) hc7) rfl (c_X3_spotSide pN qN cnt lk pg (twk hT (by decide) hc7) (twk hT (by decide) hc9) (by omega) (by omega)) mc_X3_spotSide ⟨Nat.le_of_ble_eq_true rfl, Nat.le_of_ble_eq_true rfl⟩ (rest := []) rfl (Nat.le_of_ble_eq_true rfl) dX3_tellOrders_3 (fun r u h => ?_)
  obtain ⟨hr_, h⟩ := h; rw [hr_]
  rw [h]
  refine gj_seti (y := sP pN qN) (hps pN qN (by omega) (by omega)) ?_
  refine gj_istore C (lv' := [(6, .int (sP pN qN)), (0, .ref (ad 7)), (1, .int (nI pN)), (2, .int (nI qN)), (3, .int (nI rN)), (4, .int (nI (3 * cN))), (5, .ref (ad T))]) dX3_tellOrders_6 (by decide) rfl ?_
  refine gj_aload_n C 0 dX3_tellOrders_8 rfl 1 rfl ?_
  refine gj_iload_n C 2 dX3_tellOrders_9 rfl 3 rfl ?_
  refine gj_iload_n C 3 dX3_tellOrders_10 rfl 4 rfl ?_
  refine gj_callVi C mi_X3_spotSide w_545 7 (by decide) (twk hT (by decide) hc7) rfl (c_X3_spotSide qN rN cnt lk pg (twk hT (by decide) hc7) (twk hT (by decide) hc9) (by omega) (by omega)) mc_X3_spotSide ⟨Nat.le_of_ble_eq_true rfl, Nat.le_of_ble_eq_true rfl⟩ (rest := []) rfl (Nat.le_of_ble_eq_true rfl) dX3_tellOrders_11 (fun r u h => ?_)
  obtain ⟨hr_, h⟩ := h; rw [hr_]
  rw [h]
  refine gj_seti (y := sP qN rN) (hps qN rN (by omega) (by omega)) ?_
  refine gj_istore C (lv' := [(7, .int (sP qN rN)), (6, .int (sP pN qN)), (0, .ref (ad 7)), (1, .int (nI pN)), (2, .int (nI qN)), (3, .int (nI rN)), (4, .int (nI (3 * cN))), (5, .ref (ad T))]) dX3_tellOrders_14 (by decide) rfl ?_
  refine gj_aload_n C 0 dX3_tellOrders_16 rfl 2 rfl ?_
  refine gj_iload_n C 1 dX3_tellOrders_17 rfl 3 rfl ?_
  refine gj_iload_n C 3 dX3_tellOrders_18 rfl 5 rfl ?_
  refine gj_callVi C mi_X3_spotSide w_545 7 (by decide) (twk hT (by decide) hc7) rfl (c_X3_spotSide pN rN cnt lk pg (twk hT (by decide) hc7) (twk hT (by decide) hc9) (by omega) (by omega)) mc_X3_spotSide ⟨Nat.le_of_ble_eq_true rfl, Nat.le_of_ble_eq_true rfl⟩ (rest := []) rfl (Nat.le_of_ble_eq_true rfl) dX3_tellOrders_19 (fun r u h => ?_)
  obtain ⟨hr_, h⟩ := h; rw [hr_]
  rw [h]
  refine gj_seti (y := sP pN rN) (hps pN rN (by omega) (by omega)) ?_
  refine gj_istore C (lv' := [(8, .int (sP pN rN)), (7, .int (sP qN rN)), (6, .int (sP pN qN)), (0, .ref (ad 7)), (1, .int (nI pN)), (2, .int (nI qN)), (3, .int (nI rN)), (4, .int (nI (3 * cN))), (5, .ref (ad T))]) dX3_tellOrders_22 (by decide) rfl ?_
  refine gj_iload_n C 1 dX3_tellOrders_24 rfl 4 rfl ?_
  refine gj_iconst C (v := 0) (by decide) dX3_tellOrders_25 ?_
  refine gj_callSNi C w_557 w_556 (c_X11_pairOf (nI pN) (0 : Int32)) mc_X11_pairOf ⟨Nat.le_of_ble_eq_true rfl, Nat.le_of_ble_eq_true rfl⟩ (rest := []) rfl (Nat.le_of_ble_eq_true rfl) dX3_tellOrders_26 (fun r u h => ?_)
  obtain ⟨hr_, h⟩ := h; rw [hr_]
  rw [h]
  refine gj_seti (y := nI (12 * pN)) (pair0 pN) ?_
  refine gj_istore C (lv' := [(9, .int (nI (12 * pN))), (8, .int (sP pN rN)), (7, .int (sP qN rN)), (6, .int (sP pN qN)), (0, .ref (ad 7)), (1, .int (nI pN)), (2, .int (nI qN)), (3, .int (nI rN)), (4, .int (nI (3 * cN))), (5, .ref (ad T))]) dX3_tellOrders_29 (by decide) rfl ?_
  refine gj_iload_n C 2 dX3_tellOrders_31 rfl 6 rfl ?_
  refine gj_iconst C (v := 0) (by decide) dX3_tellOrders_32 ?_
  refine gj_callSNi C w_557 w_556 (c_X11_pairOf (nI qN) (0 : Int32)) mc_X11_pairOf ⟨Nat.le_of_ble_eq_true rfl, Nat.le_of_ble_eq_true rfl⟩ (rest := []) rfl (Nat.le_of_ble_eq_true rfl) dX3_tellOrders_33 (fun r u h => ?_)
  obtain ⟨hr_, h⟩ := h; rw [hr_]
  rw [h]
  refine gj_seti (y := nI (12 * qN)) (pair0 qN) ?_
  refine gj_istore C (lv' := [(10, .int (nI (12 * qN))), (9, .int (nI (12 * pN))), (8, .int (sP pN rN)), (7, .int (sP qN rN)), (6, .int (sP pN qN)), (0, .ref (ad 7)), (1, .int (nI pN)), (2, .int (nI qN)), (3, .int (nI rN)), (4, .int (nI (3 * cN))), (5, .ref (ad T))]) dX3_tellOrders_36 (by decide) rfl ?_
  refine gj_iload_n C 3 dX3_tellOrders_38 rfl 8 rfl ?_
  refine gj_iconst C (v := 0) (by decide) dX3_tellOrders_39 ?_
  refine gj_callSNi C w_557 w_556 (c_X11_pairOf (nI rN) (0 : Int32)) mc_X11_pairOf ⟨Nat.le_of_ble_eq_true rfl, Nat.le_of_ble_eq_true rfl⟩ (rest := []) rfl (Nat.le_of_ble_eq_true rfl) dX3_tellOrders_40 (fun r u h => ?_)
  obtain ⟨hr_, h⟩ := h; rw [hr_]
  rw [h]
  refine gj_seti (y := nI (12 * rN)) (pair0 rN) ?_
  refine gj_istore C (lv' := [(11, .int (nI (12 * rN))), (10, .int (nI (12 * qN))), (9, .int (nI (12 * pN))), (8, .int (sP pN rN)), (7, .int (sP qN rN)), (6, .int (sP pN qN)), (0, .ref (ad 7)), (1, .int (nI pN)), (2, .int (nI qN)), (3, .int (nI rN)), (4, .int (nI (3 * cN))), (5, .ref (ad T))]) dX3_tellOrders_43 (by decide) rfl ?_
  refine gj_iconst C (v := 0) (by decide) dX3_tellOrders_45 ?_
  refine gj_istore C (lv' := [(12, .int 0), (11, .int (nI (12 * rN))), (10, .int (nI (12 * qN))), (9, .int (nI (12 * pN))), (8, .int (sP pN rN)), (7, .int (sP qN rN)), (6, .int (sP pN qN)), (0, .ref (ad 7)), (1, .int (nI pN)), (2, .int (nI qN)), (3, .int (nI rN)), (4, .int (nI (3 * cN))), (5, .ref (ad T))]) dX3_tellOrders_46 (by decide) rfl ?_
  refine gj_iload C dX3_tellOrders_48 0 rfl ?_
  refine gj_iconst C (v := 2) (by decide) dX3_tellOrders_50 ?_
  refine gj_iadd C dX3_tellOrders_51 ?_
  refine gj_seti (y := 2) (by decide) ?_
  refine gj_getsN_ORDERS C w_559 dX3_tellOrders_52 ?_
  refine gj_tlen_ORDERS C (v := 18) (by decide) dX3_tellOrders_55 ?_
  refine gj_icmp_ge C 212 dX3_tellOrders_56 (by decide) (fun c_1 => absurd c_1 (by decide)) (fun c_1 => ?_)
  refine gj_aload_n C 0 dX3_tellOrders_59 rfl 7 rfl ?_
  refine gj_get C 7 (by decide) (twk hT (by decide) hc7) inX3 rfl 2 (by decide) w_122 (v := .ref (ad 10)) rfl dX3_tellOrders_60 ?_
  refine gj_iload C dX3_tellOrders_63 11 rfl ?_
  refine gj_getsN_ORDERS C w_559 dX3_tellOrders_65 ?_
  refine gj_iload C dX3_tellOrders_68 0 rfl ?_
  refine gj_ti_ORDERS C (by unfold vp_in; decide) dX3_tellOrders_70 ?_
  refine gj_seti (y := 0) (by decide +kernel) ?_
  refine gj_iadd C dX3_tellOrders_71 ?_
  refine gj_seti (y := nI (3 * cN)) (Int32.add_zero _) ?_
  refine gj_iald C 10 (by decide) (twk hT (by decide) hc10) (vp_in_nI (by omega) (by omega)) dX3_tellOrders_72 ?_
  refine gj_seti (y := nI t.1) ((congrArg _ (nI_clamp (show 3 * cN < 2 ^ 31 by omega))).trans h0t) ?_
  refine gj_istore C (lv' := [(13, .int (nI t.1)), (12, .int 0), (11, .int (nI (12 * rN))), (10, .int (nI (12 * qN))), (9, .int (nI (12 * pN))), (8, .int (sP pN rN)), (7, .int (sP qN rN)), (6, .int (sP pN qN)), (0, .ref (ad 7)), (1, .int (nI pN)), (2, .int (nI qN)), (3, .int (nI rN)), (4, .int (nI (3 * cN))), (5, .ref (ad T))]) dX3_tellOrders_73 (by decide) rfl ?_
  refine gj_aload_n C 0 dX3_tellOrders_75 rfl 8 rfl ?_
  refine gj_get C 7 (by decide) (twk hT (by decide) hc7) inX3 rfl 2 (by decide) w_122 (v := .ref (ad 10)) rfl dX3_tellOrders_76 ?_
  refine gj_iload C dX3_tellOrders_79 12 rfl ?_
  refine gj_getsN_ORDERS C w_559 dX3_tellOrders_81 ?_
  refine gj_iload C dX3_tellOrders_84 1 rfl ?_
  refine gj_iconst C (v := 1) (by decide) dX3_tellOrders_86 ?_
  refine gj_iadd C dX3_tellOrders_87 ?_
  refine gj_seti (y := 1) (by decide) ?_
  refine gj_ti_ORDERS C (by unfold vp_in; decide) dX3_tellOrders_88 ?_
  refine gj_seti (y := 1) (by decide +kernel) ?_
  refine gj_iadd C dX3_tellOrders_89 ?_
  refine gj_seti (y := nI (3 * cN + 1)) (nI_add _ 1) ?_
  refine gj_iald C 10 (by decide) (twk hT (by decide) hc10) (vp_in_nI (by omega) (by omega)) dX3_tellOrders_90 ?_
  refine gj_seti (y := nI t.2.1) ((congrArg _ (nI_clamp (show 3 * cN + 1 < 2 ^ 31 by omega))).trans h1t) ?_
  refine gj_istore C (lv' := [(14, .int (nI t.2.1)), (13, .int (nI t.1)), (12, .int 0), (11, .int (nI (12 * rN))), (10, .int (nI (12 * qN))), (9, .int (nI (12 * pN))), (8, .int (sP pN rN)), (7, .int (sP qN rN)), (6, .int (sP pN qN)), (0, .ref (ad 7)), (1, .int (nI pN)), (2, .int (nI qN)), (3, .int (nI rN)), (4, .int (nI (3 * cN))), (5, .ref (ad T))]) dX3_tellOrders_91 (by decide) rfl ?_
  refine gj_aload_n C 0 dX3_tellOrders_93 rfl 9 rfl ?_
  refine gj_get C 7 (by decide) (twk hT (by decide) hc7) inX3 rfl 2 (by decide) w_122 (v := .ref (ad 10)) rfl dX3_tellOrders_94 ?_
  refine gj_iload C dX3_tellOrders_97 13 rfl ?_
  refine gj_getsN_ORDERS C w_559 dX3_tellOrders_99 ?_
  refine gj_iload C dX3_tellOrders_102 2 rfl ?_
  refine gj_iconst C (v := 2) (by decide) dX3_tellOrders_104 ?_
  refine gj_iadd C dX3_tellOrders_105 ?_
  refine gj_seti (y := 2) (by decide) ?_
  refine gj_ti_ORDERS C (by unfold vp_in; decide) dX3_tellOrders_106 ?_
  refine gj_seti (y := 2) (by decide +kernel) ?_
  refine gj_iadd C dX3_tellOrders_107 ?_
  refine gj_seti (y := nI (3 * cN + 2)) (nI_add _ 2) ?_
  refine gj_iald C 10 (by decide) (twk hT (by decide) hc10) (vp_in_nI (by omega) (by omega)) dX3_tellOrders_108 ?_
  refine gj_seti (y := nI t.2.2) ((congrArg _ (nI_clamp (show 3 * cN + 2 < 2 ^ 31 by omega))).trans h2t) ?_
  refine gj_istore C (lv' := [(15, .int (nI t.2.2)), (14, .int (nI t.2.1)), (13, .int (nI t.1)), (12, .int 0), (11, .int (nI (12 * rN))), (10, .int (nI (12 * qN))), (9, .int (nI (12 * pN))), (8, .int (sP pN rN)), (7, .int (sP qN rN)), (6, .int (sP pN qN)), (0, .ref (ad 7)), (1, .int (nI pN)), (2, .int (nI qN)), (3, .int (nI rN)), (4, .int (nI (3 * cN))), (5, .ref (ad T))]) dX3_tellOrders_109 (by decide) rfl ?_
  refine gj_iload C dX3_tellOrders_111 9 rfl ?_
  refine gj_aload_n C 0 dX3_tellOrders_113 rfl 10 rfl ?_
  refine gj_get C 7 (by decide) (twk hT (by decide) hc7) inX3 rfl 0 (by decide) w_120 (v := .ref (ad 8)) rfl dX3_tellOrders_114 ?_
  refine gj_iload C dX3_tellOrders_117 2 rfl ?_
  refine gj_bipush C (v := 12) (by decide) dX3_tellOrders_119 ?_
  refine gj_imul C dX3_tellOrders_121 ?_
  refine gj_iload C dX3_tellOrders_122 1 rfl ?_
  refine gj_iadd C dX3_tellOrders_124 ?_
  refine gj_seti (y := nI (12 * t.1 + t.2.1)) m_lin ?_
  refine gj_iald C 8 (by decide) (twk hT (by decide) hc8) (vp_in_nI (by omega) (by omega)) dX3_tellOrders_125 ?_
  refine gj_seti (y := sS t.1 t.2.1) ((congrArg _ (nI_clamp (show 12 * t.1 + t.2.1 < 2 ^ 31 by omega))).trans (hss t.1 t.2.1 (by omega) (by omega))) ?_
  refine gj_isub C dX3_tellOrders_126 ?_
  refine gj_mabs C w_549 w_550 w_57 w_551 ⟨Nat.le_of_ble_eq_true rfl, Nat.le_of_ble_eq_true rfl⟩ (Nat.le_of_ble_eq_true rfl) dX3_tellOrders_127 ?_
  refine gj_istore C (lv' := [(16, .int (if 0 ≤ ((sP pN qN) - (sS t.1 t.2.1)) then ((sP pN qN) - (sS t.1 t.2.1)) else 0 - ((sP pN qN) - (sS t.1 t.2.1)))), (15, .int (nI t.2.2)), (14, .int (nI t.2.1)), (13, .int (nI t.1)), (12, .int 0), (11, .int (nI (12 * rN))), (10, .int (nI (12 * qN))), (9, .int (nI (12 * pN))), (8, .int (sP pN rN)), (7, .int (sP qN rN)), (6, .int (sP pN qN)), (0, .ref (ad 7)), (1, .int (nI pN)), (2, .int (nI qN)), (3, .int (nI rN)), (4, .int (nI (3 * cN))), (5, .ref (ad T))]) dX3_tellOrders_130 (by decide) rfl ?_
  refine gj_iload C dX3_tellOrders_132 0 rfl ?_
  refine gj_iload C dX3_tellOrders_134 9 rfl ?_
  refine gj_aload_n C 0 dX3_tellOrders_136 rfl 11 rfl ?_
  refine gj_get C 7 (by decide) (twk hT (by decide) hc7) inX3 rfl 0 (by decide) w_120 (v := .ref (ad 8)) rfl dX3_tellOrders_137 ?_
  refine gj_iload C dX3_tellOrders_140 2 rfl ?_
  refine gj_bipush C (v := 12) (by decide) dX3_tellOrders_142 ?_
  refine gj_imul C dX3_tellOrders_144 ?_
  refine gj_iload C dX3_tellOrders_145 1 rfl ?_
  refine gj_iadd C dX3_tellOrders_147 ?_
  refine gj_seti (y := nI (12 * t.2.1 + t.2.2)) m_lin ?_
  refine gj_iald C 8 (by decide) (twk hT (by decide) hc8) (vp_in_nI (by omega) (by omega)) dX3_tellOrders_148 ?_
  refine gj_seti (y := sS t.2.1 t.2.2) ((congrArg _ (nI_clamp (show 12 * t.2.1 + t.2.2 < 2 ^ 31 by omega))).trans (hss t.2.1 t.2.2 (by omega) (by omega))) ?_
  refine gj_isub C dX3_tellOrders_149 ?_
  refine gj_mabs C w_549 w_550 w_57 w_551 ⟨Nat.le_of_ble_eq_true rfl, Nat.le_of_ble_eq_true rfl⟩ (Nat.le_of_ble_eq_true rfl) dX3_tellOrders_150 ?_
  refine gj_mmax C w_561 w_92 w_57 w_93 ⟨Nat.le_of_ble_eq_true rfl, Nat.le_of_ble_eq_true rfl⟩ (Nat.le_of_ble_eq_true rfl) dX3_tellOrders_153 ?_
  refine gj_istore C (lv' := [(16, .int (if (if 0 ≤ ((sP pN qN) - (sS t.1 t.2.1)) then ((sP pN qN) - (sS t.1 t.2.1)) else 0 - ((sP pN qN) - (sS t.1 t.2.1))) < (if 0 ≤ ((sP qN rN) - (sS t.2.1 t.2.2)) then ((sP qN rN) - (sS t.2.1 t.2.2)) else 0 - ((sP qN rN) - (sS t.2.1 t.2.2))) then (if 0 ≤ ((sP qN rN) - (sS t.2.1 t.2.2)) then ((sP qN rN) - (sS t.2.1 t.2.2)) else 0 - ((sP qN rN) - (sS t.2.1 t.2.2))) else (if 0 ≤ ((sP pN qN) - (sS t.1 t.2.1)) then ((sP pN qN) - (sS t.1 t.2.1)) else 0 - ((sP pN qN) - (sS t.1 t.2.1))))), (15, .int (nI t.2.2)), (14, .int (nI t.2.1)), (13, .int (nI t.1)), (12, .int 0), (11, .int (nI (12 * rN))), (10, .int (nI (12 * qN))), (9, .int (nI (12 * pN))), (8, .int (sP pN rN)), (7, .int (sP qN rN)), (6, .int (sP pN qN)), (0, .ref (ad 7)), (1, .int (nI pN)), (2, .int (nI qN)), (3, .int (nI rN)), (4, .int (nI (3 * cN))), (5, .ref (ad T))]) dX3_tellOrders_156 (by decide) rfl ?_
  refine gj_iload C dX3_tellOrders_158 0 rfl ?_
  refine gj_iload C dX3_tellOrders_160 8 rfl ?_
  refine gj_aload_n C 0 dX3_tellOrders_162 rfl 11 rfl ?_
  refine gj_get C 7 (by decide) (twk hT (by decide) hc7) inX3 rfl 0 (by decide) w_120 (v := .ref (ad 8)) rfl dX3_tellOrders_163 ?_
  refine gj_iload C dX3_tellOrders_166 3 rfl ?_
  refine gj_bipush C (v := 12) (by decide) dX3_tellOrders_168 ?_
  refine gj_imul C dX3_tellOrders_170 ?_
  refine gj_iload C dX3_tellOrders_171 1 rfl ?_
  refine gj_iadd C dX3_tellOrders_173 ?_
  refine gj_seti (y := nI (12 * t.1 + t.2.2)) m_lin ?_
  refine gj_iald C 8 (by decide) (twk hT (by decide) hc8) (vp_in_nI (by omega) (by omega)) dX3_tellOrders_174 ?_
  refine gj_seti (y := sS t.1 t.2.2) ((congrArg _ (nI_clamp (show 12 * t.1 + t.2.2 < 2 ^ 31 by omega))).trans (hss t.1 t.2.2 (by omega) (by omega))) ?_
  refine gj_isub C dX3_tellOrders_175 ?_
  refine gj_mabs C w_549 w_550 w_57 w_551 ⟨Nat.le_of_ble_eq_true rfl, Nat.le_of_ble_eq_true rfl⟩ (Nat.le_of_ble_eq_true rfl) dX3_tellOrders_176 ?_
  refine gj_mmax C w_561 w_92 w_57 w_93 ⟨Nat.le_of_ble_eq_true rfl, Nat.le_of_ble_eq_true rfl⟩ (Nat.le_of_ble_eq_true rfl) dX3_tellOrders_179 ?_
  refine gj_seti (y := cNeed sP sS pN qN rN t.1 t.2.1 t.2.2) rfl ?_
  refine gj_istore C (lv' := [(16, .int (cNeed sP sS pN qN rN t.1 t.2.1 t.2.2)), (15, .int (nI t.2.2)), (14, .int (nI t.2.1)), (13, .int (nI t.1)), (12, .int 0), (11, .int (nI (12 * rN))), (10, .int (nI (12 * qN))), (9, .int (nI (12 * pN))), (8, .int (sP pN rN)), (7, .int (sP qN rN)), (6, .int (sP pN qN)), (0, .ref (ad 7)), (1, .int (nI pN)), (2, .int (nI qN)), (3, .int (nI rN)), (4, .int (nI (3 * cN))), (5, .ref (ad T))]) dX3_tellOrders_182 (by decide) rfl ?_
  refine gj_aload C dX3_tellOrders_184 16 rfl ?_
  refine gj_iload C dX3_tellOrders_186 7 rfl ?_
  refine gj_iload C dX3_tellOrders_188 3 rfl ?_
  refine gj_iadd C dX3_tellOrders_190 ?_
  refine gj_seti (y := nI (12 * pN + t.1)) (nI_add _ _) ?_
  refine gj_iload C dX3_tellOrders_191 6 rfl ?_
  refine gj_iload C dX3_tellOrders_193 2 rfl ?_
  refine gj_iadd C dX3_tellOrders_195 ?_
  refine gj_seti (y := nI (12 * qN + t.2.1)) (nI_add _ _) ?_
  refine gj_iload C dX3_tellOrders_196 5 rfl ?_
  refine gj_iload C dX3_tellOrders_198 1 rfl ?_
  refine gj_iadd C dX3_tellOrders_200 ?_
  refine gj_seti (y := nI (12 * rN + t.2.2)) (nI_add _ _) ?_
  refine gj_iload C dX3_tellOrders_201 0 rfl ?_
  refine gj_hear C hT (vp_in_nI (by omega) (by omega)) (vp_in_nI (by omega) (by omega)) (vp_in_nI (by omega) (by omega)) ⟨Nat.le_of_ble_eq_true rfl, Nat.le_of_ble_eq_true rfl⟩ dX3_tellOrders_203 ?_
  refine gj_setf (g := tw (cOne th sP sS pN qN rN t.1 t.2.1 t.2.2 st) f) rfl ?_
  refine gj_iinc C (v := 3) (lv' := [(12, .int 3), (16, .int (cNeed sP sS pN qN rN t.1 t.2.1 t.2.2)), (15, .int (nI t.2.2)), (14, .int (nI t.2.1)), (13, .int (nI t.1)), (11, .int (nI (12 * rN))), (10, .int (nI (12 * qN))), (9, .int (nI (12 * pN))), (8, .int (sP pN rN)), (7, .int (sP qN rN)), (6, .int (sP pN qN)), (0, .ref (ad 7)), (1, .int (nI pN)), (2, .int (nI qN)), (3, .int (nI rN)), (4, .int (nI (3 * cN))), (5, .ref (ad T))]) dX3_tellOrders_206 4 rfl (by decide) (by decide) rfl ?_
  refine gj_goto C 48 dX3_tellOrders_209 (by decide) ?_
  refine gj_iload C dX3_tellOrders_48 0 rfl ?_
  refine gj_iconst C (v := 2) (by decide) dX3_tellOrders_50 ?_
  refine gj_iadd C dX3_tellOrders_51 ?_
  refine gj_seti (y := 5) (by decide) ?_
  refine gj_getsN_ORDERS C w_559 dX3_tellOrders_52 ?_
  refine gj_tlen_ORDERS C (v := 18) (by decide) dX3_tellOrders_55 ?_
  refine gj_icmp_ge C 212 dX3_tellOrders_56 (by decide) (fun c_2 => absurd c_2 (by decide)) (fun c_2 => ?_)
  refine gj_aload_n C 0 dX3_tellOrders_59 rfl 11 rfl ?_
  refine gj_get C 7 (by decide) (twk hT (by decide) hc7) inX3 rfl 2 (by decide) w_122 (v := .ref (ad 10)) rfl dX3_tellOrders_60 ?_
  refine gj_iload C dX3_tellOrders_63 15 rfl ?_
  refine gj_getsN_ORDERS C w_559 dX3_tellOrders_65 ?_
  refine gj_iload C dX3_tellOrders_68 0 rfl ?_
  refine gj_ti_ORDERS C (by unfold vp_in; decide) dX3_tellOrders_70 ?_
  refine gj_seti (y := 0) (by decide +kernel) ?_
  refine gj_iadd C dX3_tellOrders_71 ?_
  refine gj_seti (y := nI (3 * cN)) (Int32.add_zero _) ?_
  refine gj_iald C 10 (by decide) (twk hT (by decide) hc10) (vp_in_nI (by omega) (by omega)) dX3_tellOrders_72 ?_
  refine gj_seti (y := nI t.1) ((congrArg _ (nI_clamp (show 3 * cN < 2 ^ 31 by omega))).trans h0t) ?_
  refine gj_istore C (lv' := [(13, .int (nI t.1)), (12, .int 3), (16, .int (cNeed sP sS pN qN rN t.1 t.2.1 t.2.2)), (15, .int (nI t.2.2)), (14, .int (nI t.2.1)), (11, .int (nI (12 * rN))), (10, .int (nI (12 * qN))), (9, .int (nI (12 * pN))), (8, .int (sP pN rN)), (7, .int (sP qN rN)), (6, .int (sP pN qN)), (0, .ref (ad 7)), (1, .int (nI pN)), (2, .int (nI qN)), (3, .int (nI rN)), (4, .int (nI (3 * cN))), (5, .ref (ad T))]) dX3_tellOrders_73 (by decide) rfl ?_
  refine gj_aload_n C 0 dX3_tellOrders_75 rfl 11 rfl ?_
  refine gj_get C 7 (by decide) (twk hT (by decide) hc7) inX3 rfl 2 (by decide) w_122 (v := .ref (ad 10)) rfl dX3_tellOrders_76 ?_
  refine gj_iload C dX3_tellOrders_79 15 rfl ?_
  refine gj_getsN_ORDERS C w_559 dX3_tellOrders_81 ?_
  refine gj_iload C dX3_tellOrders_84 1 rfl ?_
  refine gj_iconst C (v := 1) (by decide) dX3_tellOrders_86 ?_
  refine gj_iadd C dX3_tellOrders_87 ?_
  refine gj_seti (y := 4) (by decide) ?_
  refine gj_ti_ORDERS C (by unfold vp_in; decide) dX3_tellOrders_88 ?_
  refine gj_seti (y := 2) (by decide +kernel) ?_
  refine gj_iadd C dX3_tellOrders_89 ?_
  refine gj_seti (y := nI (3 * cN + 2)) (nI_add _ 2) ?_
  refine gj_iald C 10 (by decide) (twk hT (by decide) hc10) (vp_in_nI (by omega) (by omega)) dX3_tellOrders_90 ?_
  refine gj_seti (y := nI t.2.2) ((congrArg _ (nI_clamp (show 3 * cN + 2 < 2 ^ 31 by omega))).trans h2t) ?_
  refine gj_istore C (lv' := [(14, .int (nI t.2.2)), (13, .int (nI t.1)), (12, .int 3), (16, .int (cNeed sP sS pN qN rN t.1 t.2.1 t.2.2)), (15, .int (nI t.2.2)), (11, .int (nI (12 * rN))), (10, .int (nI (12 * qN))), (9, .int (nI (12 * pN))), (8, .int (sP pN rN)), (7, .int (sP qN rN)), (6, .int (sP pN qN)), (0, .ref (ad 7)), (1, .int (nI pN)), (2, .int (nI qN)), (3, .int (nI rN)), (4, .int (nI (3 * cN))), (5, .ref (ad T))]) dX3_tellOrders_91 (by decide) rfl ?_
  refine gj_aload_n C 0 dX3_tellOrders_93 rfl 11 rfl ?_
  refine gj_get C 7 (by decide) (twk hT (by decide) hc7) inX3 rfl 2 (by decide) w_122 (v := .ref (ad 10)) rfl dX3_tellOrders_94 ?_
  refine gj_iload C dX3_tellOrders_97 15 rfl ?_
  refine gj_getsN_ORDERS C w_559 dX3_tellOrders_99 ?_
  refine gj_iload C dX3_tellOrders_102 2 rfl ?_
  refine gj_iconst C (v := 2) (by decide) dX3_tellOrders_104 ?_
  refine gj_iadd C dX3_tellOrders_105 ?_
  refine gj_seti (y := 5) (by decide) ?_
  refine gj_ti_ORDERS C (by unfold vp_in; decide) dX3_tellOrders_106 ?_
  refine gj_seti (y := 1) (by decide +kernel) ?_
  refine gj_iadd C dX3_tellOrders_107 ?_
  refine gj_seti (y := nI (3 * cN + 1)) (nI_add _ 1) ?_
  refine gj_iald C 10 (by decide) (twk hT (by decide) hc10) (vp_in_nI (by omega) (by omega)) dX3_tellOrders_108 ?_
  refine gj_seti (y := nI t.2.1) ((congrArg _ (nI_clamp (show 3 * cN + 1 < 2 ^ 31 by omega))).trans h1t) ?_
  refine gj_istore C (lv' := [(15, .int (nI t.2.1)), (14, .int (nI t.2.2)), (13, .int (nI t.1)), (12, .int 3), (16, .int (cNeed sP sS pN qN rN t.1 t.2.1 t.2.2)), (11, .int (nI (12 * rN))), (10, .int (nI (12 * qN))), (9, .int (nI (12 * pN))), (8, .int (sP pN rN)), (7, .int (sP qN rN)), (6, .int (sP pN qN)), (0, .ref (ad 7)), (1, .int (nI pN)), (2, .int (nI qN)), (3, .int (nI rN)), (4, .int (nI (3 * cN))), (5, .ref (ad T))]) dX3_tellOrders_109 (by decide) rfl ?_
  refine gj_iload C dX3_tellOrders_111 10 rfl ?_
  refine gj_aload_n C 0 dX3_tellOrders_113 rfl 11 rfl ?_
  refine gj_get C 7 (by decide) (twk hT (by decide) hc7) inX3 rfl 0 (by decide) w_120 (v := .ref (ad 8)) rfl dX3_tellOrders_114 ?_
  refine gj_iload C dX3_tellOrders_117 2 rfl ?_
  refine gj_bipush C (v := 12) (by decide) dX3_tellOrders_119 ?_
  refine gj_imul C dX3_tellOrders_121 ?_
  refine gj_iload C dX3_tellOrders_122 1 rfl ?_
  refine gj_iadd C dX3_tellOrders_124 ?_
  refine gj_seti (y := nI (12 * t.1 + t.2.2)) m_lin ?_
  refine gj_iald C 8 (by decide) (twk hT (by decide) hc8) (vp_in_nI (by omega) (by omega)) dX3_tellOrders_125 ?_
  refine gj_seti (y := sS t.1 t.2.2) ((congrArg _ (nI_clamp (show 12 * t.1 + t.2.2 < 2 ^ 31 by omega))).trans (hss t.1 t.2.2 (by omega) (by omega))) ?_
  refine gj_isub C dX3_tellOrders_126 ?_
  refine gj_mabs C w_549 w_550 w_57 w_551 ⟨Nat.le_of_ble_eq_true rfl, Nat.le_of_ble_eq_true rfl⟩ (Nat.le_of_ble_eq_true rfl) dX3_tellOrders_127 ?_
  refine gj_istore C (lv' := [(16, .int (if 0 ≤ ((sP pN qN) - (sS t.1 t.2.2)) then ((sP pN qN) - (sS t.1 t.2.2)) else 0 - ((sP pN qN) - (sS t.1 t.2.2)))), (15, .int (nI t.2.1)), (14, .int (nI t.2.2)), (13, .int (nI t.1)), (12, .int 3), (11, .int (nI (12 * rN))), (10, .int (nI (12 * qN))), (9, .int (nI (12 * pN))), (8, .int (sP pN rN)), (7, .int (sP qN rN)), (6, .int (sP pN qN)), (0, .ref (ad 7)), (1, .int (nI pN)), (2, .int (nI qN)), (3, .int (nI rN)), (4, .int (nI (3 * cN))), (5, .ref (ad T))]) dX3_tellOrders_130 (by decide) rfl ?_
  refine gj_iload C dX3_tellOrders_132 0 rfl ?_
  refine gj_iload C dX3_tellOrders_134 9 rfl ?_
  refine gj_aload_n C 0 dX3_tellOrders_136 rfl 11 rfl ?_
  refine gj_get C 7 (by decide) (twk hT (by decide) hc7) inX3 rfl 0 (by decide) w_120 (v := .ref (ad 8)) rfl dX3_tellOrders_137 ?_
  refine gj_iload C dX3_tellOrders_140 2 rfl ?_
  refine gj_bipush C (v := 12) (by decide) dX3_tellOrders_142 ?_
  refine gj_imul C dX3_tellOrders_144 ?_
  refine gj_iload C dX3_tellOrders_145 1 rfl ?_
  refine gj_iadd C dX3_tellOrders_147 ?_
  refine gj_seti (y := nI (12 * t.2.2 + t.2.1)) m_lin ?_
  refine gj_iald C 8 (by decide) (twk hT (by decide) hc8) (vp_in_nI (by omega) (by omega)) dX3_tellOrders_148 ?_
  refine gj_seti (y := sS t.2.2 t.2.1) ((congrArg _ (nI_clamp (show 12 * t.2.2 + t.2.1 < 2 ^ 31 by omega))).trans (hss t.2.2 t.2.1 (by omega) (by omega))) ?_
  refine gj_isub C dX3_tellOrders_149 ?_
  refine gj_mabs C w_549 w_550 w_57 w_551 ⟨Nat.le_of_ble_eq_true rfl, Nat.le_of_ble_eq_true rfl⟩ (Nat.le_of_ble_eq_true rfl) dX3_tellOrders_150 ?_
  refine gj_mmax C w_561 w_92 w_57 w_93 ⟨Nat.le_of_ble_eq_true rfl, Nat.le_of_ble_eq_true rfl⟩ (Nat.le_of_ble_eq_true rfl) dX3_tellOrders_153 ?_
  refine gj_istore C (lv' := [(16, .int (if (if 0 ≤ ((sP pN qN) - (sS t.1 t.2.2)) then ((sP pN qN) - (sS t.1 t.2.2)) else 0 - ((sP pN qN) - (sS t.1 t.2.2))) < (if 0 ≤ ((sP qN rN) - (sS t.2.2 t.2.1)) then ((sP qN rN) - (sS t.2.2 t.2.1)) else 0 - ((sP qN rN) - (sS t.2.2 t.2.1))) then (if 0 ≤ ((sP qN rN) - (sS t.2.2 t.2.1)) then ((sP qN rN) - (sS t.2.2 t.2.1)) else 0 - ((sP qN rN) - (sS t.2.2 t.2.1))) else (if 0 ≤ ((sP pN qN) - (sS t.1 t.2.2)) then ((sP pN qN) - (sS t.1 t.2.2)) else 0 - ((sP pN qN) - (sS t.1 t.2.2))))), (15, .int (nI t.2.1)), (14, .int (nI t.2.2)), (13, .int (nI t.1)), (12, .int 3), (11, .int (nI (12 * rN))), (10, .int (nI (12 * qN))), (9, .int (nI (12 * pN))), (8, .int (sP pN rN)), (7, .int (sP qN rN)), (6, .int (sP pN qN)), (0, .ref (ad 7)), (1, .int (nI pN)), (2, .int (nI qN)), (3, .int (nI rN)), (4, .int (nI (3 * cN))), (5, .ref (ad T))]) dX3_tellOrders_156 (by decide) rfl ?_
  refine gj_iload C dX3_tellOrders_158 0 rfl ?_
  refine gj_iload C dX3_tellOrders_160 8 rfl ?_
  refine gj_aload_n C 0 dX3_tellOrders_162 rfl 11 rfl ?_
  refine gj_get C 7 (by decide) (twk hT (by decide) hc7) inX3 rfl 0 (by decide) w_120 (v := .ref (ad 8)) rfl dX3_tellOrders_163 ?_
  refine gj_iload C dX3_tellOrders_166 3 rfl ?_
  refine gj_bipush C (v := 12) (by decide) dX3_tellOrders_168 ?_
  refine gj_imul C dX3_tellOrders_170 ?_
  refine gj_iload C dX3_tellOrders_171 1 rfl ?_
  refine gj_iadd C dX3_tellOrders_173 ?_
  refine gj_seti (y := nI (12 * t.1 + t.2.1)) m_lin ?_
  refine gj_iald C 8 (by decide) (twk hT (by decide) hc8) (vp_in_nI (by omega) (by omega)) dX3_tellOrders_174 ?_
  refine gj_seti (y := sS t.1 t.2.1) ((congrArg _ (nI_clamp (show 12 * t.1 + t.2.1 < 2 ^ 31 by omega))).trans (hss t.1 t.2.1 (by omega) (by omega))) ?_
  refine gj_isub C dX3_tellOrders_175 ?_
  refine gj_mabs C w_549 w_550 w_57 w_551 ⟨Nat.le_of_ble_eq_true rfl, Nat.le_of_ble_eq_true rfl⟩ (Nat.le_of_ble_eq_true rfl) dX3_tellOrders_176 ?_
  refine gj_mmax C w_561 w_92 w_57 w_93 ⟨Nat.le_of_ble_eq_true rfl, Nat.le_of_ble_eq_true rfl⟩ (Nat.le_of_ble_eq_true rfl) dX3_tellOrders_179 ?_
  refine gj_seti (y := cNeed sP sS pN qN rN t.1 t.2.2 t.2.1) rfl ?_
  refine gj_istore C (lv' := [(16, .int (cNeed sP sS pN qN rN t.1 t.2.2 t.2.1)), (15, .int (nI t.2.1)), (14, .int (nI t.2.2)), (13, .int (nI t.1)), (12, .int 3), (11, .int (nI (12 * rN))), (10, .int (nI (12 * qN))), (9, .int (nI (12 * pN))), (8, .int (sP pN rN)), (7, .int (sP qN rN)), (6, .int (sP pN qN)), (0, .ref (ad 7)), (1, .int (nI pN)), (2, .int (nI qN)), (3, .int (nI rN)), (4, .int (nI (3 * cN))), (5, .ref (ad T))]) dX3_tellOrders_182 (by decide) rfl ?_
  refine gj_aload C dX3_tellOrders_184 16 rfl ?_
  refine gj_iload C dX3_tellOrders_186 7 rfl ?_
  refine gj_iload C dX3_tellOrders_188 3 rfl ?_
  refine gj_iadd C dX3_tellOrders_190 ?_
  refine gj_seti (y := nI (12 * pN + t.1)) (nI_add _ _) ?_
  refine gj_iload C dX3_tellOrders_191 6 rfl ?_
  refine gj_iload C dX3_tellOrders_193 2 rfl ?_
  refine gj_iadd C dX3_tellOrders_195 ?_
  refine gj_seti (y := nI (12 * qN + t.2.2)) (nI_add _ _) ?_
  refine gj_iload C dX3_tellOrders_196 5 rfl ?_
  refine gj_iload C dX3_tellOrders_198 1 rfl ?_
  refine gj_iadd C dX3_tellOrders_200 ?_
  refine gj_seti (y := nI (12 * rN + t.2.1)) (nI_add _ _) ?_
  refine gj_iload C dX3_tellOrders_201 0 rfl ?_
  refine gj_hear C hT (vp_in_nI (by omega) (by omega)) (vp_in_nI (by omega) (by omega)) (vp_in_nI (by omega) (by omega)) ⟨Nat.le_of_ble_eq_true rfl, Nat.le_of_ble_eq_true rfl⟩ dX3_tellOrders_203 ?_
  refine gj_setf (g := tw (cOne th sP sS pN qN rN t.1 t.2.2 t.2.1 (cOne th sP sS pN qN rN t.1 t.2.1 t.2.2 st)) f) rfl ?_
  refine gj_iinc C (v := 6) (lv' := [(12, .int 6), (16, .int (cNeed sP sS pN qN rN t.1 t.2.2 t.2.1)), (15, .int (nI t.2.1)), (14, .int (nI t.2.2)), (13, .int (nI t.1)), (11, .int (nI (12 * rN))), (10, .int (nI (12 * qN))), (9, .int (nI (12 * pN))), (8, .int (sP pN rN)), (7, .int (sP qN rN)), (6, .int (sP pN qN)), (0, .ref (ad 7)), (1, .int (nI pN)), (2, .int (nI qN)), (3, .int (nI rN)), (4, .int (nI (3 * cN))), (5, .ref (ad T))]) dX3_tellOrders_206 4 rfl (by decide) (by decide) rfl ?_
  refine gj_goto C 48 dX3_tellOrders_209 (by decide) ?_
  refine gj_iload C dX3_tellOrders_48 0 rfl ?_
  refine gj_iconst C (v := 2) (by decide) dX3_tellOrders_50 ?_
  refine gj_iadd C dX3_tellOrders_51 ?_
  refine gj_seti (y := 8) (by decide) ?_
  refine gj_getsN_ORDERS C w_559 dX3_tellOrders_52 ?_
  refine gj_tlen_ORDERS C (v := 18) (by decide) dX3_tellOrders_55 ?_
  refine gj_icmp_ge C 212 dX3_tellOrders_56 (by decide) (fun c_3 => absurd c_3 (by decide)) (fun c_3 => ?_)
  refine gj_aload_n C 0 dX3_tellOrders_59 rfl 11 rfl ?_
  refine gj_get C 7 (by decide) (twk hT (by decide) hc7) inX3 rfl 2 (by decide) w_122 (v := .ref (ad 10)) rfl dX3_tellOrders_60 ?_
  refine gj_iload C dX3_tellOrders_63 15 rfl ?_
  refine gj_getsN_ORDERS C w_559 dX3_tellOrders_65 ?_
  refine gj_iload C dX3_tellOrders_68 0 rfl ?_
  refine gj_ti_ORDERS C (by unfold vp_in; decide) dX3_tellOrders_70 ?_
  refine gj_seti (y := 1) (by decide +kernel) ?_
  refine gj_iadd C dX3_tellOrders_71 ?_
  refine gj_seti (y := nI (3 * cN + 1)) (nI_add _ 1) ?_
  refine gj_iald C 10 (by decide) (twk hT (by decide) hc10) (vp_in_nI (by omega) (by omega)) dX3_tellOrders_72 ?_
  refine gj_seti (y := nI t.2.1) ((congrArg _ (nI_clamp (show 3 * cN + 1 < 2 ^ 31 by omega))).trans h1t) ?_
  refine gj_istore C (lv' := [(13, .int (nI t.2.1)), (12, .int 6), (16, .int (cNeed sP sS pN qN rN t.1 t.2.2 t.2.1)), (15, .int (nI t.2.1)), (14, .int (nI t.2.2)), (11, .int (nI (12 * rN))), (10, .int (nI (12 * qN))), (9, .int (nI (12 * pN))), (8, .int (sP pN rN)), (7, .int (sP qN rN)), (6, .int (sP pN qN)), (0, .ref (ad 7)), (1, .int (nI pN)), (2, .int (nI qN)), (3, .int (nI rN)), (4, .int (nI (3 * cN))), (5, .ref (ad T))]) dX3_tellOrders_73 (by decide) rfl ?_
  refine gj_aload_n C 0 dX3_tellOrders_75 rfl 11 rfl ?_
  refine gj_get C 7 (by decide) (twk hT (by decide) hc7) inX3 rfl 2 (by decide) w_122 (v := .ref (ad 10)) rfl dX3_tellOrders_76 ?_
  refine gj_iload C dX3_tellOrders_79 15 rfl ?_
  refine gj_getsN_ORDERS C w_559 dX3_tellOrders_81 ?_
  refine gj_iload C dX3_tellOrders_84 1 rfl ?_
  refine gj_iconst C (v := 1) (by decide) dX3_tellOrders_86 ?_
  refine gj_iadd C dX3_tellOrders_87 ?_
  refine gj_seti (y := 7) (by decide) ?_
  refine gj_ti_ORDERS C (by unfold vp_in; decide) dX3_tellOrders_88 ?_
  refine gj_seti (y := 0) (by decide +kernel) ?_
  refine gj_iadd C dX3_tellOrders_89 ?_
  refine gj_seti (y := nI (3 * cN)) (Int32.add_zero _) ?_
  refine gj_iald C 10 (by decide) (twk hT (by decide) hc10) (vp_in_nI (by omega) (by omega)) dX3_tellOrders_90 ?_
  refine gj_seti (y := nI t.1) ((congrArg _ (nI_clamp (show 3 * cN < 2 ^ 31 by omega))).trans h0t) ?_
  refine gj_istore C (lv' := [(14, .int (nI t.1)), (13, .int (nI t.2.1)), (12, .int 6), (16, .int (cNeed sP sS pN qN rN t.1 t.2.2 t.2.1)), (15, .int (nI t.2.1)), (11, .int (nI (12 * rN))), (10, .int (nI (12 * qN))), (9, .int (nI (12 * pN))), (8, .int (sP pN rN)), (7, .int (sP qN rN)), (6, .int (sP pN qN)), (0, .ref (ad 7)), (1, .int (nI pN)), (2, .int (nI qN)), (3, .int (nI rN)), (4, .int (nI (3 * cN))), (5, .ref (ad T))]) dX3_tellOrders_91 (by decide) rfl ?_
  refine gj_aload_n C 0 dX3_tellOrders_93 rfl 11 rfl ?_
  refine gj_get C 7 (by decide) (twk hT (by decide) hc7) inX3 rfl 2 (by decide) w_122 (v := .ref (ad 10)) rfl dX3_tellOrders_94 ?_
  refine gj_iload C dX3_tellOrders_97 15 rfl ?_
  refine gj_getsN_ORDERS C w_559 dX3_tellOrders_99 ?_
  refine gj_iload C dX3_tellOrders_102 2 rfl ?_
  refine gj_iconst C (v := 2) (by decide) dX3_tellOrders_104 ?_
  refine gj_iadd C dX3_tellOrders_105 ?_
  refine gj_seti (y := 8) (by decide) ?_
  refine gj_ti_ORDERS C (by unfold vp_in; decide) dX3_tellOrders_106 ?_
  refine gj_seti (y := 2) (by decide +kernel) ?_
  refine gj_iadd C dX3_tellOrders_107 ?_
  refine gj_seti (y := nI (3 * cN + 2)) (nI_add _ 2) ?_
  refine gj_iald C 10 (by decide) (twk hT (by decide) hc10) (vp_in_nI (by omega) (by omega)) dX3_tellOrders_108 ?_
  refine gj_seti (y := nI t.2.2) ((congrArg _ (nI_clamp (show 3 * cN + 2 < 2 ^ 31 by omega))).trans h2t) ?_
  refine gj_istore C (lv' := [(15, .int (nI t.2.2)), (14, .int (nI t.1)), (13, .int (nI t.2.1)), (12, .int 6), (16, .int (cNeed sP sS pN qN rN t.1 t.2.2 t.2.1)), (11, .int (nI (12 * rN))), (10, .int (nI (12 * qN))), (9, .int (nI (12 * pN))), (8, .int (sP pN rN)), (7, .int (sP qN rN)), (6, .int (sP pN qN)), (0, .ref (ad 7)), (1, .int (nI pN)), (2, .int (nI qN)), (3, .int (nI rN)), (4, .int (nI (3 * cN))), (5, .ref (ad T))]) dX3_tellOrders_109 (by decide) rfl ?_
  refine gj_iload C dX3_tellOrders_111 10 rfl ?_
  refine gj_aload_n C 0 dX3_tellOrders_113 rfl 11 rfl ?_
  refine gj_get C 7 (by decide) (twk hT (by decide) hc7) inX3 rfl 0 (by decide) w_120 (v := .ref (ad 8)) rfl dX3_tellOrders_114 ?_
  refine gj_iload C dX3_tellOrders_117 2 rfl ?_
  refine gj_bipush C (v := 12) (by decide) dX3_tellOrders_119 ?_
  refine gj_imul C dX3_tellOrders_121 ?_
  refine gj_iload C dX3_tellOrders_122 1 rfl ?_
  refine gj_iadd C dX3_tellOrders_124 ?_
  refine gj_seti (y := nI (12 * t.2.1 + t.1)) m_lin ?_
  refine gj_iald C 8 (by decide) (twk hT (by decide) hc8) (vp_in_nI (by omega) (by omega)) dX3_tellOrders_125 ?_
  refine gj_seti (y := sS t.2.1 t.1) ((congrArg _ (nI_clamp (show 12 * t.2.1 + t.1 < 2 ^ 31 by omega))).trans (hss t.2.1 t.1 (by omega) (by omega))) ?_
  refine gj_isub C dX3_tellOrders_126 ?_
  refine gj_mabs C w_549 w_550 w_57 w_551 ⟨Nat.le_of_ble_eq_true rfl, Nat.le_of_ble_eq_true rfl⟩ (Nat.le_of_ble_eq_true rfl) dX3_tellOrders_127 ?_
  refine gj_istore C (lv' := [(16, .int (if 0 ≤ ((sP pN qN) - (sS t.2.1 t.1)) then ((sP pN qN) - (sS t.2.1 t.1)) else 0 - ((sP pN qN) - (sS t.2.1 t.1)))), (15, .int (nI t.2.2)), (14, .int (nI t.1)), (13, .int (nI t.2.1)), (12, .int 6), (11, .int (nI (12 * rN))), (10, .int (nI (12 * qN))), (9, .int (nI (12 * pN))), (8, .int (sP pN rN)), (7, .int (sP qN rN)), (6, .int (sP pN qN)), (0, .ref (ad 7)), (1, .int (nI pN)), (2, .int (nI qN)), (3, .int (nI rN)), (4, .int (nI (3 * cN))), (5, .ref (ad T))]) dX3_tellOrders_130 (by decide) rfl ?_
  refine gj_iload C dX3_tellOrders_132 0 rfl ?_
  refine gj_iload C dX3_tellOrders_134 9 rfl ?_
  refine gj_aload_n C 0 dX3_tellOrders_136 rfl 11 rfl ?_
  refine gj_get C 7 (by decide) (twk hT (by decide) hc7) inX3 rfl 0 (by decide) w_120 (v := .ref (ad 8)) rfl dX3_tellOrders_137 ?_
  refine gj_iload C dX3_tellOrders_140 2 rfl ?_
  refine gj_bipush C (v := 12) (by decide) dX3_tellOrders_142 ?_
  refine gj_imul C dX3_tellOrders_144 ?_
  refine gj_iload C dX3_tellOrders_145 1 rfl ?_
  refine gj_iadd C dX3_tellOrders_147 ?_
  refine gj_seti (y := nI (12 * t.1 + t.2.2)) m_lin ?_
  refine gj_iald C 8 (by decide) (twk hT (by decide) hc8) (vp_in_nI (by omega) (by omega)) dX3_tellOrders_148 ?_
  refine gj_seti (y := sS t.1 t.2.2) ((congrArg _ (nI_clamp (show 12 * t.1 + t.2.2 < 2 ^ 31 by omega))).trans (hss t.1 t.2.2 (by omega) (by omega))) ?_
  refine gj_isub C dX3_tellOrders_149 ?_
  refine gj_mabs C w_549 w_550 w_57 w_551 ⟨Nat.le_of_ble_eq_true rfl, Nat.le_of_ble_eq_true rfl⟩ (Nat.le_of_ble_eq_true rfl) dX3_tellOrders_150 ?_
  refine gj_mmax C w_561 w_92 w_57 w_93 ⟨Nat.le_of_ble_eq_true rfl, Nat.le_of_ble_eq_true rfl⟩ (Nat.le_of_ble_eq_true rfl) dX3_tellOrders_153 ?_
  refine gj_istore C (lv' := [(16, .int (if (if 0 ≤ ((sP pN qN) - (sS t.2.1 t.1)) then ((sP pN qN) - (sS t.2.1 t.1)) else 0 - ((sP pN qN) - (sS t.2.1 t.1))) < (if 0 ≤ ((sP qN rN) - (sS t.1 t.2.2)) then ((sP qN rN) - (sS t.1 t.2.2)) else 0 - ((sP qN rN) - (sS t.1 t.2.2))) then (if 0 ≤ ((sP qN rN) - (sS t.1 t.2.2)) then ((sP qN rN) - (sS t.1 t.2.2)) else 0 - ((sP qN rN) - (sS t.1 t.2.2))) else (if 0 ≤ ((sP pN qN) - (sS t.2.1 t.1)) then ((sP pN qN) - (sS t.2.1 t.1)) else 0 - ((sP pN qN) - (sS t.2.1 t.1))))), (15, .int (nI t.2.2)), (14, .int (nI t.1)), (13, .int (nI t.2.1)), (12, .int 6), (11, .int (nI (12 * rN))), (10, .int (nI (12 * qN))), (9, .int (nI (12 * pN))), (8, .int (sP pN rN)), (7, .int (sP qN rN)), (6, .int (sP pN qN)), (0, .ref (ad 7)), (1, .int (nI pN)), (2, .int (nI qN)), (3, .int (nI rN)), (4, .int (nI (3 * cN))), (5, .ref (ad T))]) dX3_tellOrders_156 (by decide) rfl ?_
  refine gj_iload C dX3_tellOrders_158 0 rfl ?_
  refine gj_iload C dX3_tellOrders_160 8 rfl ?_
  refine gj_aload_n C 0 dX3_tellOrders_162 rfl 11 rfl ?_
  refine gj_get C 7 (by decide) (twk hT (by decide) hc7) inX3 rfl 0 (by decide) w_120 (v := .ref (ad 8)) rfl dX3_tellOrders_163 ?_
  refine gj_iload C dX3_tellOrders_166 3 rfl ?_
  refine gj_bipush C (v := 12) (by decide) dX3_tellOrders_168 ?_
  refine gj_imul C dX3_tellOrders_170 ?_
  refine gj_iload C dX3_tellOrders_171 1 rfl ?_
  refine gj_iadd C dX3_tellOrders_173 ?_
  refine gj_seti (y := nI (12 * t.2.1 + t.2.2)) m_lin ?_
  refine gj_iald C 8 (by decide) (twk hT (by decide) hc8) (vp_in_nI (by omega) (by omega)) dX3_tellOrders_174 ?_
  refine gj_seti (y := sS t.2.1 t.2.2) ((congrArg _ (nI_clamp (show 12 * t.2.1 + t.2.2 < 2 ^ 31 by omega))).trans (hss t.2.1 t.2.2 (by omega) (by omega))) ?_
  refine gj_isub C dX3_tellOrders_175 ?_
  refine gj_mabs C w_549 w_550 w_57 w_551 ⟨Nat.le_of_ble_eq_true rfl, Nat.le_of_ble_eq_true rfl⟩ (Nat.le_of_ble_eq_true rfl) dX3_tellOrders_176 ?_
  refine gj_mmax C w_561 w_92 w_57 w_93 ⟨Nat.le_of_ble_eq_true rfl, Nat.le_of_ble_eq_true rfl⟩ (Nat.le_of_ble_eq_true rfl) dX3_tellOrders_179 ?_
  refine gj_seti (y := cNeed sP sS pN qN rN t.2.1 t.1 t.2.2) rfl ?_
  refine gj_istore C (lv' := [(16, .int (cNeed sP sS pN qN rN t.2.1 t.1 t.2.2)), (15, .int (nI t.2.2)), (14, .int (nI t.1)), (13, .int (nI t.2.1)), (12, .int 6), (11, .int (nI (12 * rN))), (10, .int (nI (12 * qN))), (9, .int (nI (12 * pN))), (8, .int (sP pN rN)), (7, .int (sP qN rN)), (6, .int (sP pN qN)), (0, .ref (ad 7)), (1, .int (nI pN)), (2, .int (nI qN)), (3, .int (nI rN)), (4, .int (nI (3 * cN))), (5, .ref (ad T))]) dX3_tellOrders_182 (by decide) rfl ?_
  refine gj_aload C dX3_tellOrders_184 16 rfl ?_
  refine gj_iload C dX3_tellOrders_186 7 rfl ?_
  refine gj_iload C dX3_tellOrders_188 3 rfl ?_
  refine gj_iadd C dX3_tellOrders_190 ?_
  refine gj_seti (y := nI (12 * pN + t.2.1)) (nI_add _ _) ?_
  refine gj_iload C dX3_tellOrders_191 6 rfl ?_
  refine gj_iload C dX3_tellOrders_193 2 rfl ?_
  refine gj_iadd C dX3_tellOrders_195 ?_
  refine gj_seti (y := nI (12 * qN + t.1)) (nI_add _ _) ?_
  refine gj_iload C dX3_tellOrders_196 5 rfl ?_
  refine gj_iload C dX3_tellOrders_198 1 rfl ?_
  refine gj_iadd C dX3_tellOrders_200 ?_
  refine gj_seti (y := nI (12 * rN + t.2.2)) (nI_add _ _) ?_
  refine gj_iload C dX3_tellOrders_201 0 rfl ?_
  refine gj_hear C hT (vp_in_nI (by omega) (by omega)) (vp_in_nI (by omega) (by omega)) (vp_in_nI (by omega) (by omega)) ⟨Nat.le_of_ble_eq_true rfl, Nat.le_of_ble_eq_true rfl⟩ dX3_tellOrders_203 ?_
  refine gj_setf (g := tw (cOne th sP sS pN qN rN t.2.1 t.1 t.2.2 (cOne th sP sS pN qN rN t.1 t.2.2 t.2.1 (cOne th sP sS pN qN rN t.1 t.2.1 t.2.2 st))) f) rfl ?_
  refine gj_iinc C (v := 9) (lv' := [(12, .int 9), (16, .int (cNeed sP sS pN qN rN t.2.1 t.1 t.2.2)), (15, .int (nI t.2.2)), (14, .int (nI t.1)), (13, .int (nI t.2.1)), (11, .int (nI (12 * rN))), (10, .int (nI (12 * qN))), (9, .int (nI (12 * pN))), (8, .int (sP pN rN)), (7, .int (sP qN rN)), (6, .int (sP pN qN)), (0, .ref (ad 7)), (1, .int (nI pN)), (2, .int (nI qN)), (3, .int (nI rN)), (4, .int (nI (3 * cN))), (5, .ref (ad T))]) dX3_tellOrders_206 4 rfl (by decide) (by decide) rfl ?_
  refine gj_goto C 48 dX3_tellOrders_209 (by decide) ?_
  refine gj_iload C dX3_tellOrders_48 0 rfl ?_
  refine gj_iconst C (v := 2) (by decide) dX3_tellOrders_50 ?_
  refine gj_iadd C dX3_tellOrders_51 ?_
  refine gj_seti (y := 11) (by decide) ?_
  refine gj_getsN_ORDERS C w_559 dX3_tellOrders_52 ?_
  refine gj_tlen_ORDERS C (v := 18) (by decide) dX3_tellOrders_55 ?_
  refine gj_icmp_ge C 212 dX3_tellOrders_56 (by decide) (fun c_4 => absurd c_4 (by decide)) (fun c_4 => ?_)
  refine gj_aload_n C 0 dX3_tellOrders_59 rfl 11 rfl ?_
  refine gj_get C 7 (by decide) (twk hT (by decide) hc7) inX3 rfl 2 (by decide) w_122 (v := .ref (ad 10)) rfl dX3_tellOrders_60 ?_
  refine gj_iload C dX3_tellOrders_63 15 rfl ?_
  refine gj_getsN_ORDERS C w_559 dX3_tellOrders_65 ?_
  refine gj_iload C dX3_tellOrders_68 0 rfl ?_
  refine gj_ti_ORDERS C (by unfold vp_in; decide) dX3_tellOrders_70 ?_
  refine gj_seti (y := 1) (by decide +kernel) ?_
  refine gj_iadd C dX3_tellOrders_71 ?_
  refine gj_seti (y := nI (3 * cN + 1)) (nI_add _ 1) ?_
  refine gj_iald C 10 (by decide) (twk hT (by decide) hc10) (vp_in_nI (by omega) (by omega)) dX3_tellOrders_72 ?_
  refine gj_seti (y := nI t.2.1) ((congrArg _ (nI_clamp (show 3 * cN + 1 < 2 ^ 31 by omega))).trans h1t) ?_
  refine gj_istore C (lv' := [(13, .int (nI t.2.1)), (12, .int 9), (16, .int (cNeed sP sS pN qN rN t.2.1 t.1 t.2.2)), (15, .int (nI t.2.2)), (14, .int (nI t.1)), (11, .int (nI (12 * rN))), (10, .int (nI (12 * qN))), (9, .int (nI (12 * pN))), (8, .int (sP pN rN)), (7, .int (sP qN rN)), (6, .int (sP pN qN)), (0, .ref (ad 7)), (1, .int (nI pN)), (2, .int (nI qN)), (3, .int (nI rN)), (4, .int (nI (3 * cN))), (5, .ref (ad T))]) dX3_tellOrders_73 (by decide) rfl ?_
  refine gj_aload_n C 0 dX3_tellOrders_75 rfl 11 rfl ?_
  refine gj_get C 7 (by decide) (twk hT (by decide) hc7) inX3 rfl 2 (by decide) w_122 (v := .ref (ad 10)) rfl dX3_tellOrders_76 ?_
  refine gj_iload C dX3_tellOrders_79 15 rfl ?_
  refine gj_getsN_ORDERS C w_559 dX3_tellOrders_81 ?_
  refine gj_iload C dX3_tellOrders_84 1 rfl ?_
  refine gj_iconst C (v := 1) (by decide) dX3_tellOrders_86 ?_
  refine gj_iadd C dX3_tellOrders_87 ?_
  refine gj_seti (y := 10) (by decide) ?_
  refine gj_ti_ORDERS C (by unfold vp_in; decide) dX3_tellOrders_88 ?_
  refine gj_seti (y := 2) (by decide +kernel) ?_
  refine gj_iadd C dX3_tellOrders_89 ?_
  refine gj_seti (y := nI (3 * cN + 2)) (nI_add _ 2) ?_
  refine gj_iald C 10 (by decide) (twk hT (by decide) hc10) (vp_in_nI (by omega) (by omega)) dX3_tellOrders_90 ?_
  refine gj_seti (y := nI t.2.2) ((congrArg _ (nI_clamp (show 3 * cN + 2 < 2 ^ 31 by omega))).trans h2t) ?_
  refine gj_istore C (lv' := [(14, .int (nI t.2.2)), (13, .int (nI t.2.1)), (12, .int 9), (16, .int (cNeed sP sS pN qN rN t.2.1 t.1 t.2.2)), (15, .int (nI t.2.2)), (11, .int (nI (12 * rN))), (10, .int (nI (12 * qN))), (9, .int (nI (12 * pN))), (8, .int (sP pN rN)), (7, .int (sP qN rN)), (6, .int (sP pN qN)), (0, .ref (ad 7)), (1, .int (nI pN)), (2, .int (nI qN)), (3, .int (nI rN)), (4, .int (nI (3 * cN))), (5, .ref (ad T))]) dX3_tellOrders_91 (by decide) rfl ?_
  refine gj_aload_n C 0 dX3_tellOrders_93 rfl 11 rfl ?_
  refine gj_get C 7 (by decide) (twk hT (by decide) hc7) inX3 rfl 2 (by decide) w_122 (v := .ref (ad 10)) rfl dX3_tellOrders_94 ?_
  refine gj_iload C dX3_tellOrders_97 15 rfl ?_
  refine gj_getsN_ORDERS C w_559 dX3_tellOrders_99 ?_
  refine gj_iload C dX3_tellOrders_102 2 rfl ?_
  refine gj_iconst C (v := 2) (by decide) dX3_tellOrders_104 ?_
  refine gj_iadd C dX3_tellOrders_105 ?_
  refine gj_seti (y := 11) (by decide) ?_
  refine gj_ti_ORDERS C (by unfold vp_in; decide) dX3_tellOrders_106 ?_
  refine gj_seti (y := 0) (by decide +kernel) ?_
  refine gj_iadd C dX3_tellOrders_107 ?_
  refine gj_seti (y := nI (3 * cN)) (Int32.add_zero _) ?_
  refine gj_iald C 10 (by decide) (twk hT (by decide) hc10) (vp_in_nI (by omega) (by omega)) dX3_tellOrders_108 ?_
  refine gj_seti (y := nI t.1) ((congrArg _ (nI_clamp (show 3 * cN < 2 ^ 31 by omega))).trans h0t) ?_
  refine gj_istore C (lv' := [(15, .int (nI t.1)), (14, .int (nI t.2.2)), (13, .int (nI t.2.1)), (12, .int 9), (16, .int (cNeed sP sS pN qN rN t.2.1 t.1 t.2.2)), (11, .int (nI (12 * rN))), (10, .int (nI (12 * qN))), (9, .int (nI (12 * pN))), (8, .int (sP pN rN)), (7, .int (sP qN rN)), (6, .int (sP pN qN)), (0, .ref (ad 7)), (1, .int (nI pN)), (2, .int (nI qN)), (3, .int (nI rN)), (4, .int (nI (3 * cN))), (5, .ref (ad T))]) dX3_tellOrders_109 (by decide) rfl ?_
  refine gj_iload C dX3_tellOrders_111 10 rfl ?_
  refine gj_aload_n C 0 dX3_tellOrders_113 rfl 11 rfl ?_
  refine gj_get C 7 (by decide) (twk hT (by decide) hc7) inX3 rfl 0 (by decide) w_120 (v := .ref (ad 8)) rfl dX3_tellOrders_114 ?_
  refine gj_iload C dX3_tellOrders_117 2 rfl ?_
  refine gj_bipush C (v := 12) (by decide) dX3_tellOrders_119 ?_
  refine gj_imul C dX3_tellOrders_121 ?_
  refine gj_iload C dX3_tellOrders_122 1 rfl ?_
  refine gj_iadd C dX3_tellOrders_124 ?_
  refine gj_seti (y := nI (12 * t.2.1 + t.2.2)) m_lin ?_
  refine gj_iald C 8 (by decide) (twk hT (by decide) hc8) (vp_in_nI (by omega) (by omega)) dX3_tellOrders_125 ?_
  refine gj_seti (y := sS t.2.1 t.2.2) ((congrArg _ (nI_clamp (show 12 * t.2.1 + t.2.2 < 2 ^ 31 by omega))).trans (hss t.2.1 t.2.2 (by omega) (by omega))) ?_
  refine gj_isub C dX3_tellOrders_126 ?_
  refine gj_mabs C w_549 w_550 w_57 w_551 ⟨Nat.le_of_ble_eq_true rfl, Nat.le_of_ble_eq_true rfl⟩ (Nat.le_of_ble_eq_true rfl) dX3_tellOrders_127 ?_
  refine gj_istore C (lv' := [(16, .int (if 0 ≤ ((sP pN qN) - (sS t.2.1 t.2.2)) then ((sP pN qN) - (sS t.2.1 t.2.2)) else 0 - ((sP pN qN) - (sS t.2.1 t.2.2)))), (15, .int (nI t.1)), (14, .int (nI t.2.2)), (13, .int (nI t.2.1)), (12, .int 9), (11, .int (nI (12 * rN))), (10, .int (nI (12 * qN))), (9, .int (nI (12 * pN))), (8, .int (sP pN rN)), (7, .int (sP qN rN)), (6, .int (sP pN qN)), (0, .ref (ad 7)), (1, .int (nI pN)), (2, .int (nI qN)), (3, .int (nI rN)), (4, .int (nI (3 * cN))), (5, .ref (ad T))]) dX3_tellOrders_130 (by decide) rfl ?_
  refine gj_iload C dX3_tellOrders_132 0 rfl ?_
  refine gj_iload C dX3_tellOrders_134 9 rfl ?_
  refine gj_aload_n C 0 dX3_tellOrders_136 rfl 11 rfl ?_
  refine gj_get C 7 (by decide) (twk hT (by decide) hc7) inX3 rfl 0 (by decide) w_120 (v := .ref (ad 8)) rfl dX3_tellOrders_137 ?_
  refine gj_iload C dX3_tellOrders_140 2 rfl ?_
  refine gj_bipush C (v := 12) (by decide) dX3_tellOrders_142 ?_
  refine gj_imul C dX3_tellOrders_144 ?_
  refine gj_iload C dX3_tellOrders_145 1 rfl ?_
  refine gj_iadd C dX3_tellOrders_147 ?_
  refine gj_seti (y := nI (12 * t.2.2 + t.1)) m_lin ?_
  refine gj_iald C 8 (by decide) (twk hT (by decide) hc8) (vp_in_nI (by omega) (by omega)) dX3_tellOrders_148 ?_
  refine gj_seti (y := sS t.2.2 t.1) ((congrArg _ (nI_clamp (show 12 * t.2.2 + t.1 < 2 ^ 31 by omega))).trans (hss t.2.2 t.1 (by omega) (by omega))) ?_
  refine gj_isub C dX3_tellOrders_149 ?_
  refine gj_mabs C w_549 w_550 w_57 w_551 ⟨Nat.le_of_ble_eq_true rfl, Nat.le_of_ble_eq_true rfl⟩ (Nat.le_of_ble_eq_true rfl) dX3_tellOrders_150 ?_
  refine gj_mmax C w_561 w_92 w_57 w_93 ⟨Nat.le_of_ble_eq_true rfl, Nat.le_of_ble_eq_true rfl⟩ (Nat.le_of_ble_eq_true rfl) dX3_tellOrders_153 ?_
  refine gj_istore C (lv' := [(16, .int (if (if 0 ≤ ((sP pN qN) - (sS t.2.1 t.2.2)) then ((sP pN qN) - (sS t.2.1 t.2.2)) else 0 - ((sP pN qN) - (sS t.2.1 t.2.2))) < (if 0 ≤ ((sP qN rN) - (sS t.2.2 t.1)) then ((sP qN rN) - (sS t.2.2 t.1)) else 0 - ((sP qN rN) - (sS t.2.2 t.1))) then (if 0 ≤ ((sP qN rN) - (sS t.2.2 t.1)) then ((sP qN rN) - (sS t.2.2 t.1)) else 0 - ((sP qN rN) - (sS t.2.2 t.1))) else (if 0 ≤ ((sP pN qN) - (sS t.2.1 t.2.2)) then ((sP pN qN) - (sS t.2.1 t.2.2)) else 0 - ((sP pN qN) - (sS t.2.1 t.2.2))))), (15, .int (nI t.1)), (14, .int (nI t.2.2)), (13, .int (nI t.2.1)), (12, .int 9), (11, .int (nI (12 * rN))), (10, .int (nI (12 * qN))), (9, .int (nI (12 * pN))), (8, .int (sP pN rN)), (7, .int (sP qN rN)), (6, .int (sP pN qN)), (0, .ref (ad 7)), (1, .int (nI pN)), (2, .int (nI qN)), (3, .int (nI rN)), (4, .int (nI (3 * cN))), (5, .ref (ad T))]) dX3_tellOrders_156 (by decide) rfl ?_
  refine gj_iload C dX3_tellOrders_158 0 rfl ?_
  refine gj_iload C dX3_tellOrders_160 8 rfl ?_
  refine gj_aload_n C 0 dX3_tellOrders_162 rfl 11 rfl ?_
  refine gj_get C 7 (by decide) (twk hT (by decide) hc7) inX3 rfl 0 (by decide) w_120 (v := .ref (ad 8)) rfl dX3_tellOrders_163 ?_
  refine gj_iload C dX3_tellOrders_166 3 rfl ?_
  refine gj_bipush C (v := 12) (by decide) dX3_tellOrders_168 ?_
  refine gj_imul C dX3_tellOrders_170 ?_
  refine gj_iload C dX3_tellOrders_171 1 rfl ?_
  refine gj_iadd C dX3_tellOrders_173 ?_
  refine gj_seti (y := nI (12 * t.2.1 + t.1)) m_lin ?_
  refine gj_iald C 8 (by decide) (twk hT (by decide) hc8) (vp_in_nI (by omega) (by omega)) dX3_tellOrders_174 ?_
  refine gj_seti (y := sS t.2.1 t.1) ((congrArg _ (nI_clamp (show 12 * t.2.1 + t.1 < 2 ^ 31 by omega))).trans (hss t.2.1 t.1 (by omega) (by omega))) ?_
  refine gj_isub C dX3_tellOrders_175 ?_
  refine gj_mabs C w_549 w_550 w_57 w_551 ⟨Nat.le_of_ble_eq_true rfl, Nat.le_of_ble_eq_true rfl⟩ (Nat.le_of_ble_eq_true rfl) dX3_tellOrders_176 ?_
  refine gj_mmax C w_561 w_92 w_57 w_93 ⟨Nat.le_of_ble_eq_true rfl, Nat.le_of_ble_eq_true rfl⟩ (Nat.le_of_ble_eq_true rfl) dX3_tellOrders_179 ?_
  refine gj_seti (y := cNeed sP sS pN qN rN t.2.1 t.2.2 t.1) rfl ?_
  refine gj_istore C (lv' := [(16, .int (cNeed sP sS pN qN rN t.2.1 t.2.2 t.1)), (15, .int (nI t.1)), (14, .int (nI t.2.2)), (13, .int (nI t.2.1)), (12, .int 9), (11, .int (nI (12 * rN))), (10, .int (nI (12 * qN))), (9, .int (nI (12 * pN))), (8, .int (sP pN rN)), (7, .int (sP qN rN)), (6, .int (sP pN qN)), (0, .ref (ad 7)), (1, .int (nI pN)), (2, .int (nI qN)), (3, .int (nI rN)), (4, .int (nI (3 * cN))), (5, .ref (ad T))]) dX3_tellOrders_182 (by decide) rfl ?_
  refine gj_aload C dX3_tellOrders_184 16 rfl ?_
  refine gj_iload C dX3_tellOrders_186 7 rfl ?_
  refine gj_iload C dX3_tellOrders_188 3 rfl ?_
  refine gj_iadd C dX3_tellOrders_190 ?_
  refine gj_seti (y := nI (12 * pN + t.2.1)) (nI_add _ _) ?_
  refine gj_iload C dX3_tellOrders_191 6 rfl ?_
  refine gj_iload C dX3_tellOrders_193 2 rfl ?_
  refine gj_iadd C dX3_tellOrders_195 ?_
  refine gj_seti (y := nI (12 * qN + t.2.2)) (nI_add _ _) ?_
  refine gj_iload C dX3_tellOrders_196 5 rfl ?_
  refine gj_iload C dX3_tellOrders_198 1 rfl ?_
  refine gj_iadd C dX3_tellOrders_200 ?_
  refine gj_seti (y := nI (12 * rN + t.1)) (nI_add _ _) ?_
  refine gj_iload C dX3_tellOrders_201 0 rfl ?_
  refine gj_hear C hT (vp_in_nI (by omega) (by omega)) (vp_in_nI (by omega) (by omega)) (vp_in_nI (by omega) (by omega)) ⟨Nat.le_of_ble_eq_true rfl, Nat.le_of_ble_eq_true rfl⟩ dX3_tellOrders_203 ?_
  refine gj_setf (g := tw (cOne th sP sS pN qN rN t.2.1 t.2.2 t.1 (cOne th sP sS pN qN rN t.2.1 t.1 t.2.2 (cOne th sP sS pN qN rN t.1 t.2.2 t.2.1 (cOne th sP sS pN qN rN t.1 t.2.1 t.2.2 st)))) f) rfl ?_
  refine gj_iinc C (v := 12) (lv' := [(12, .int 12), (16, .int (cNeed sP sS pN qN rN t.2.1 t.2.2 t.1)), (15, .int (nI t.1)), (14, .int (nI t.2.2)), (13, .int (nI t.2.1)), (11, .int (nI (12 * rN))), (10, .int (nI (12 * qN))), (9, .int (nI (12 * pN))), (8, .int (sP pN rN)), (7, .int (sP qN rN)), (6, .int (sP pN qN)), (0, .ref (ad 7)), (1, .int (nI pN)), (2, .int (nI qN)), (3, .int (nI rN)), (4, .int (nI (3 * cN))), (5, .ref (ad T))]) dX3_tellOrders_206 4 rfl (by decide) (by decide) rfl ?_
  refine gj_goto C 48 dX3_tellOrders_209 (by decide) ?_
  refine gj_iload C dX3_tellOrders_48 0 rfl ?_
  refine gj_iconst C (v := 2) (by decide) dX3_tellOrders_50 ?_
  refine gj_iadd C dX3_tellOrders_51 ?_
  refine gj_seti (y := 14) (by decide) ?_
  refine gj_getsN_ORDERS C w_559 dX3_tellOrders_52 ?_
  refine gj_tlen_ORDERS C (v := 18) (by decide) dX3_tellOrders_55 ?_
  refine gj_icmp_ge C 212 dX3_tellOrders_56 (by decide) (fun c_5 => absurd c_5 (by decide)) (fun c_5 => ?_)
  refine gj_aload_n C 0 dX3_tellOrders_59 rfl 11 rfl ?_
  refine gj_get C 7 (by decide) (twk hT (by decide) hc7) inX3 rfl 2 (by decide) w_122 (v := .ref (ad 10)) rfl dX3_tellOrders_60 ?_
  refine gj_iload C dX3_tellOrders_63 15 rfl ?_
  refine gj_getsN_ORDERS C w_559 dX3_tellOrders_65 ?_
  refine gj_iload C dX3_tellOrders_68 0 rfl ?_
  refine gj_ti_ORDERS C (by unfold vp_in; decide) dX3_tellOrders_70 ?_
  refine gj_seti (y := 2) (by decide +kernel) ?_
  refine gj_iadd C dX3_tellOrders_71 ?_
  refine gj_seti (y := nI (3 * cN + 2)) (nI_add _ 2) ?_
  refine gj_iald C 10 (by decide) (twk hT (by decide) hc10) (vp_in_nI (by omega) (by omega)) dX3_tellOrders_72 ?_
  refine gj_seti (y := nI t.2.2) ((congrArg _ (nI_clamp (show 3 * cN + 2 < 2 ^ 31 by omega))).trans h2t) ?_
  refine gj_istore C (lv' := [(13, .int (nI t.2.2)), (12, .int 12), (16, .int (cNeed sP sS pN qN rN t.2.1 t.2.2 t.1)), (15, .int (nI t.1)), (14, .int (nI t.2.2)), (11, .int (nI (12 * rN))), (10, .int (nI (12 * qN))), (9, .int (nI (12 * pN))), (8, .int (sP pN rN)), (7, .int (sP qN rN)), (6, .int (sP pN qN)), (0, .ref (ad 7)), (1, .int (nI pN)), (2, .int (nI qN)), (3, .int (nI rN)), (4, .int (nI (3 * cN))), (5, .ref (ad T))]) dX3_tellOrders_73 (by decide) rfl ?_
  refine gj_aload_n C 0 dX3_tellOrders_75 rfl 11 rfl ?_
  refine gj_get C 7 (by decide) (twk hT (by decide) hc7) inX3 rfl 2 (by decide) w_122 (v := .ref (ad 10)) rfl dX3_tellOrders_76 ?_
  refine gj_iload C dX3_tellOrders_79 15 rfl ?_
  refine gj_getsN_ORDERS C w_559 dX3_tellOrders_81 ?_
  refine gj_iload C dX3_tellOrders_84 1 rfl ?_
  refine gj_iconst C (v := 1) (by decide) dX3_tellOrders_86 ?_
  refine gj_iadd C dX3_tellOrders_87 ?_
  refine gj_seti (y := 13) (by decide) ?_
  refine gj_ti_ORDERS C (by unfold vp_in; decide) dX3_tellOrders_88 ?_
  refine gj_seti (y := 0) (by decide +kernel) ?_
  refine gj_iadd C dX3_tellOrders_89 ?_
  refine gj_seti (y := nI (3 * cN)) (Int32.add_zero _) ?_
  refine gj_iald C 10 (by decide) (twk hT (by decide) hc10) (vp_in_nI (by omega) (by omega)) dX3_tellOrders_90 ?_
  refine gj_seti (y := nI t.1) ((congrArg _ (nI_clamp (show 3 * cN < 2 ^ 31 by omega))).trans h0t) ?_
  refine gj_istore C (lv' := [(14, .int (nI t.1)), (13, .int (nI t.2.2)), (12, .int 12), (16, .int (cNeed sP sS pN qN rN t.2.1 t.2.2 t.1)), (15, .int (nI t.1)), (11, .int (nI (12 * rN))), (10, .int (nI (12 * qN))), (9, .int (nI (12 * pN))), (8, .int (sP pN rN)), (7, .int (sP qN rN)), (6, .int (sP pN qN)), (0, .ref (ad 7)), (1, .int (nI pN)), (2, .int (nI qN)), (3, .int (nI rN)), (4, .int (nI (3 * cN))), (5, .ref (ad T))]) dX3_tellOrders_91 (by decide) rfl ?_
  refine gj_aload_n C 0 dX3_tellOrders_93 rfl 11 rfl ?_
  refine gj_get C 7 (by decide) (twk hT (by decide) hc7) inX3 rfl 2 (by decide) w_122 (v := .ref (ad 10)) rfl dX3_tellOrders_94 ?_
  refine gj_iload C dX3_tellOrders_97 15 rfl ?_
  refine gj_getsN_ORDERS C w_559 dX3_tellOrders_99 ?_
  refine gj_iload C dX3_tellOrders_102 2 rfl ?_
  refine gj_iconst C (v := 2) (by decide) dX3_tellOrders_104 ?_
  refine gj_iadd C dX3_tellOrders_105 ?_
  refine gj_seti (y := 14) (by decide) ?_
  refine gj_ti_ORDERS C (by unfold vp_in; decide) dX3_tellOrders_106 ?_
  refine gj_seti (y := 1) (by decide +kernel) ?_
  refine gj_iadd C dX3_tellOrders_107 ?_
  refine gj_seti (y := nI (3 * cN + 1)) (nI_add _ 1) ?_
  refine gj_iald C 10 (by decide) (twk hT (by decide) hc10) (vp_in_nI (by omega) (by omega)) dX3_tellOrders_108 ?_
  refine gj_seti (y := nI t.2.1) ((congrArg _ (nI_clamp (show 3 * cN + 1 < 2 ^ 31 by omega))).trans h1t) ?_
  refine gj_istore C (lv' := [(15, .int (nI t.2.1)), (14, .int (nI t.1)), (13, .int (nI t.2.2)), (12, .int 12), (16, .int (cNeed sP sS pN qN rN t.2.1 t.2.2 t.1)), (11, .int (nI (12 * rN))), (10, .int (nI (12 * qN))), (9, .int (nI (12 * pN))), (8, .int (sP pN rN)), (7, .int (sP qN rN)), (6, .int (sP pN qN)), (0, .ref (ad 7)), (1, .int (nI pN)), (2, .int (nI qN)), (3, .int (nI rN)), (4, .int (nI (3 * cN))), (5, .ref (ad T))]) dX3_tellOrders_109 (by decide) rfl ?_
  refine gj_iload C dX3_tellOrders_111 10 rfl ?_
  refine gj_aload_n C 0 dX3_tellOrders_113 rfl 11 rfl ?_
  refine gj_get C 7 (by decide) (twk hT (by decide) hc7) inX3 rfl 0 (by decide) w_120 (v := .ref (ad 8)) rfl dX3_tellOrders_114 ?_
  refine gj_iload C dX3_tellOrders_117 2 rfl ?_
  refine gj_bipush C (v := 12) (by decide) dX3_tellOrders_119 ?_
  refine gj_imul C dX3_tellOrders_121 ?_
  refine gj_iload C dX3_tellOrders_122 1 rfl ?_
  refine gj_iadd C dX3_tellOrders_124 ?_
  refine gj_seti (y := nI (12 * t.2.2 + t.1)) m_lin ?_
  refine gj_iald C 8 (by decide) (twk hT (by decide) hc8) (vp_in_nI (by omega) (by omega)) dX3_tellOrders_125 ?_
  refine gj_seti (y := sS t.2.2 t.1) ((congrArg _ (nI_clamp (show 12 * t.2.2 + t.1 < 2 ^ 31 by omega))).trans (hss t.2.2 t.1 (by omega) (by omega))) ?_
  refine gj_isub C dX3_tellOrders_126 ?_
  refine gj_mabs C w_549 w_550 w_57 w_551 ⟨Nat.le_of_ble_eq_true rfl, Nat.le_of_ble_eq_true rfl⟩ (Nat.le_of_ble_eq_true rfl) dX3_tellOrders_127 ?_
  refine gj_istore C (lv' := [(16, .int (if 0 ≤ ((sP pN qN) - (sS t.2.2 t.1)) then ((sP pN qN) - (sS t.2.2 t.1)) else 0 - ((sP pN qN) - (sS t.2.2 t.1)))), (15, .int (nI t.2.1)), (14, .int (nI t.1)), (13, .int (nI t.2.2)), (12, .int 12), (11, .int (nI (12 * rN))), (10, .int (nI (12 * qN))), (9, .int (nI (12 * pN))), (8, .int (sP pN rN)), (7, .int (sP qN rN)), (6, .int (sP pN qN)), (0, .ref (ad 7)), (1, .int (nI pN)), (2, .int (nI qN)), (3, .int (nI rN)), (4, .int (nI (3 * cN))), (5, .ref (ad T))]) dX3_tellOrders_130 (by decide) rfl ?_
  refine gj_iload C dX3_tellOrders_132 0 rfl ?_
  refine gj_iload C dX3_tellOrders_134 9 rfl ?_
  refine gj_aload_n C 0 dX3_tellOrders_136 rfl 11 rfl ?_
  refine gj_get C 7 (by decide) (twk hT (by decide) hc7) inX3 rfl 0 (by decide) w_120 (v := .ref (ad 8)) rfl dX3_tellOrders_137 ?_
  refine gj_iload C dX3_tellOrders_140 2 rfl ?_
  refine gj_bipush C (v := 12) (by decide) dX3_tellOrders_142 ?_
  refine gj_imul C dX3_tellOrders_144 ?_
  refine gj_iload C dX3_tellOrders_145 1 rfl ?_
  refine gj_iadd C dX3_tellOrders_147 ?_
  refine gj_seti (y := nI (12 * t.1 + t.2.1)) m_lin ?_
  refine gj_iald C 8 (by decide) (twk hT (by decide) hc8) (vp_in_nI (by omega) (by omega)) dX3_tellOrders_148 ?_
  refine gj_seti (y := sS t.1 t.2.1) ((congrArg _ (nI_clamp (show 12 * t.1 + t.2.1 < 2 ^ 31 by omega))).trans (hss t.1 t.2.1 (by omega) (by omega))) ?_
  refine gj_isub C dX3_tellOrders_149 ?_
  refine gj_mabs C w_549 w_550 w_57 w_551 ⟨Nat.le_of_ble_eq_true rfl, Nat.le_of_ble_eq_true rfl⟩ (Nat.le_of_ble_eq_true rfl) dX3_tellOrders_150 ?_
  refine gj_mmax C w_561 w_92 w_57 w_93 ⟨Nat.le_of_ble_eq_true rfl, Nat.le_of_ble_eq_true rfl⟩ (Nat.le_of_ble_eq_true rfl) dX3_tellOrders_153 ?_
  refine gj_istore C (lv' := [(16, .int (if (if 0 ≤ ((sP pN qN) - (sS t.2.2 t.1)) then ((sP pN qN) - (sS t.2.2 t.1)) else 0 - ((sP pN qN) - (sS t.2.2 t.1))) < (if 0 ≤ ((sP qN rN) - (sS t.1 t.2.1)) then ((sP qN rN) - (sS t.1 t.2.1)) else 0 - ((sP qN rN) - (sS t.1 t.2.1))) then (if 0 ≤ ((sP qN rN) - (sS t.1 t.2.1)) then ((sP qN rN) - (sS t.1 t.2.1)) else 0 - ((sP qN rN) - (sS t.1 t.2.1))) else (if 0 ≤ ((sP pN qN) - (sS t.2.2 t.1)) then ((sP pN qN) - (sS t.2.2 t.1)) else 0 - ((sP pN qN) - (sS t.2.2 t.1))))), (15, .int (nI t.2.1)), (14, .int (nI t.1)), (13, .int (nI t.2.2)), (12, .int 12), (11, .int (nI (12 * rN))), (10, .int (nI (12 * qN))), (9, .int (nI (12 * pN))), (8, .int (sP pN rN)), (7, .int (sP qN rN)), (6, .int (sP pN qN)), (0, .ref (ad 7)), (1, .int (nI pN)), (2, .int (nI qN)), (3, .int (nI rN)), (4, .int (nI (3 * cN))), (5, .ref (ad T))]) dX3_tellOrders_156 (by decide) rfl ?_
  refine gj_iload C dX3_tellOrders_158 0 rfl ?_
  refine gj_iload C dX3_tellOrders_160 8 rfl ?_
  refine gj_aload_n C 0 dX3_tellOrders_162 rfl 11 rfl ?_
  refine gj_get C 7 (by decide) (twk hT (by decide) hc7) inX3 rfl 0 (by decide) w_120 (v := .ref (ad 8)) rfl dX3_tellOrders_163 ?_
  refine gj_iload C dX3_tellOrders_166 3 rfl ?_
  refine gj_bipush C (v := 12) (by decide) dX3_tellOrders_168 ?_
  refine gj_imul C dX3_tellOrders_170 ?_
  refine gj_iload C dX3_tellOrders_171 1 rfl ?_
  refine gj_iadd C dX3_tellOrders_173 ?_
  refine gj_seti (y := nI (12 * t.2.2 + t.2.1)) m_lin ?_
  refine gj_iald C 8 (by decide) (twk hT (by decide) hc8) (vp_in_nI (by omega) (by omega)) dX3_tellOrders_174 ?_
  refine gj_seti (y := sS t.2.2 t.2.1) ((congrArg _ (nI_clamp (show 12 * t.2.2 + t.2.1 < 2 ^ 31 by omega))).trans (hss t.2.2 t.2.1 (by omega) (by omega))) ?_
  refine gj_isub C dX3_tellOrders_175 ?_
  refine gj_mabs C w_549 w_550 w_57 w_551 ⟨Nat.le_of_ble_eq_true rfl, Nat.le_of_ble_eq_true rfl⟩ (Nat.le_of_ble_eq_true rfl) dX3_tellOrders_176 ?_
  refine gj_mmax C w_561 w_92 w_57 w_93 ⟨Nat.le_of_ble_eq_true rfl, Nat.le_of_ble_eq_true rfl⟩ (Nat.le_of_ble_eq_true rfl) dX3_tellOrders_179 ?_
  refine gj_seti (y := cNeed sP sS pN qN rN t.2.2 t.1 t.2.1) rfl ?_
  refine gj_istore C (lv' := [(16, .int (cNeed sP sS pN qN rN t.2.2 t.1 t.2.1)), (15, .int (nI t.2.1)), (14, .int (nI t.1)), (13, .int (nI t.2.2)), (12, .int 12), (11, .int (nI (12 * rN))), (10, .int (nI (12 * qN))), (9, .int (nI (12 * pN))), (8, .int (sP pN rN)), (7, .int (sP qN rN)), (6, .int (sP pN qN)), (0, .ref (ad 7)), (1, .int (nI pN)), (2, .int (nI qN)), (3, .int (nI rN)), (4, .int (nI (3 * cN))), (5, .ref (ad T))]) dX3_tellOrders_182 (by decide) rfl ?_
  refine gj_aload C dX3_tellOrders_184 16 rfl ?_
  refine gj_iload C dX3_tellOrders_186 7 rfl ?_
  refine gj_iload C dX3_tellOrders_188 3 rfl ?_
  refine gj_iadd C dX3_tellOrders_190 ?_
  refine gj_seti (y := nI (12 * pN + t.2.2)) (nI_add _ _) ?_
  refine gj_iload C dX3_tellOrders_191 6 rfl ?_
  refine gj_iload C dX3_tellOrders_193 2 rfl ?_
  refine gj_iadd C dX3_tellOrders_195 ?_
  refine gj_seti (y := nI (12 * qN + t.1)) (nI_add _ _) ?_
  refine gj_iload C dX3_tellOrders_196 5 rfl ?_
  refine gj_iload C dX3_tellOrders_198 1 rfl ?_
  refine gj_iadd C dX3_tellOrders_200 ?_
  refine gj_seti (y := nI (12 * rN + t.2.1)) (nI_add _ _) ?_
  refine gj_iload C dX3_tellOrders_201 0 rfl ?_
  refine gj_hear C hT (vp_in_nI (by omega) (by omega)) (vp_in_nI (by omega) (by omega)) (vp_in_nI (by omega) (by omega)) ⟨Nat.le_of_ble_eq_true rfl, Nat.le_of_ble_eq_true rfl⟩ dX3_tellOrders_203 ?_
  refine gj_setf (g := tw (cOne th sP sS pN qN rN t.2.2 t.1 t.2.1 (cOne th sP sS pN qN rN t.2.1 t.2.2 t.1 (cOne th sP sS pN qN rN t.2.1 t.1 t.2.2 (cOne th sP sS pN qN rN t.1 t.2.2 t.2.1 (cOne th sP sS pN qN rN t.1 t.2.1 t.2.2 st))))) f) rfl ?_
  refine gj_iinc C (v := 15) (lv' := [(12, .int 15), (16, .int (cNeed sP sS pN qN rN t.2.2 t.1 t.2.1)), (15, .int (nI t.2.1)), (14, .int (nI t.1)), (13, .int (nI t.2.2)), (11, .int (nI (12 * rN))), (10, .int (nI (12 * qN))), (9, .int (nI (12 * pN))), (8, .int (sP pN rN)), (7, .int (sP qN rN)), (6, .int (sP pN qN)), (0, .ref (ad 7)), (1, .int (nI pN)), (2, .int (nI qN)), (3, .int (nI rN)), (4, .int (nI (3 * cN))), (5, .ref (ad T))]) dX3_tellOrders_206 4 rfl (by decide) (by decide) rfl ?_
  refine gj_goto C 48 dX3_tellOrders_209 (by decide) ?_
  refine gj_iload C dX3_tellOrders_48 0 rfl ?_
  refine gj_iconst C (v := 2) (by decide) dX3_tellOrders_50 ?_
  refine gj_iadd C dX3_tellOrders_51 ?_
  refine gj_seti (y := 17) (by decide) ?_
  refine gj_getsN_ORDERS C w_559 dX3_tellOrders_52 ?_
  refine gj_tlen_ORDERS C (v := 18) (by decide) dX3_tellOrders_55 ?_
  refine gj_icmp_ge C 212 dX3_tellOrders_56 (by decide) (fun c_6 => absurd c_6 (by decide)) (fun c_6 => ?_)
  refine gj_aload_n C 0 dX3_tellOrders_59 rfl 11 rfl ?_
  refine gj_get C 7 (by decide) (twk hT (by decide) hc7) inX3 rfl 2 (by decide) w_122 (v := .ref (ad 10)) rfl dX3_tellOrders_60 ?_
  refine gj_iload C dX3_tellOrders_63 15 rfl ?_
  refine gj_getsN_ORDERS C w_559 dX3_tellOrders_65 ?_
  refine gj_iload C dX3_tellOrders_68 0 rfl ?_
  refine gj_ti_ORDERS C (by unfold vp_in; decide) dX3_tellOrders_70 ?_
  refine gj_seti (y := 2) (by decide +kernel) ?_
  refine gj_iadd C dX3_tellOrders_71 ?_
  refine gj_seti (y := nI (3 * cN + 2)) (nI_add _ 2) ?_
  refine gj_iald C 10 (by decide) (twk hT (by decide) hc10) (vp_in_nI (by omega) (by omega)) dX3_tellOrders_72 ?_
  refine gj_seti (y := nI t.2.2) ((congrArg _ (nI_clamp (show 3 * cN + 2 < 2 ^ 31 by omega))).trans h2t) ?_
  refine gj_istore C (lv' := [(13, .int (nI t.2.2)), (12, .int 15), (16, .int (cNeed sP sS pN qN rN t.2.2 t.1 t.2.1)), (15, .int (nI t.2.1)), (14, .int (nI t.1)), (11, .int (nI (12 * rN))), (10, .int (nI (12 * qN))), (9, .int (nI (12 * pN))), (8, .int (sP pN rN)), (7, .int (sP qN rN)), (6, .int (sP pN qN)), (0, .ref (ad 7)), (1, .int (nI pN)), (2, .int (nI qN)), (3, .int (nI rN)), (4, .int (nI (3 * cN))), (5, .ref (ad T))]) dX3_tellOrders_73 (by decide) rfl ?_
  refine gj_aload_n C 0 dX3_tellOrders_75 rfl 11 rfl ?_
  refine gj_get C 7 (by decide) (twk hT (by decide) hc7) inX3 rfl 2 (by decide) w_122 (v := .ref (ad 10)) rfl dX3_tellOrders_76 ?_
  refine gj_iload C dX3_tellOrders_79 15 rfl ?_
  refine gj_getsN_ORDERS C w_559 dX3_tellOrders_81 ?_
  refine gj_iload C dX3_tellOrders_84 1 rfl ?_
  refine gj_iconst C (v := 1) (by decide) dX3_tellOrders_86 ?_
  refine gj_iadd C dX3_tellOrders_87 ?_
  refine gj_seti (y := 16) (by decide) ?_
  refine gj_ti_ORDERS C (by unfold vp_in; decide) dX3_tellOrders_88 ?_
  refine gj_seti (y := 1) (by decide +kernel) ?_
  refine gj_iadd C dX3_tellOrders_89 ?_
  refine gj_seti (y := nI (3 * cN + 1)) (nI_add _ 1) ?_
  refine gj_iald C 10 (by decide) (twk hT (by decide) hc10) (vp_in_nI (by omega) (by omega)) dX3_tellOrders_90 ?_
  refine gj_seti (y := nI t.2.1) ((congrArg _ (nI_clamp (show 3 * cN + 1 < 2 ^ 31 by omega))).trans h1t) ?_
  refine gj_istore C (lv' := [(14, .int (nI t.2.1)), (13, .int (nI t.2.2)), (12, .int 15), (16, .int (cNeed sP sS pN qN rN t.2.2 t.1 t.2.1)), (15, .int (nI t.2.1)), (11, .int (nI (12 * rN))), (10, .int (nI (12 * qN))), (9, .int (nI (12 * pN))), (8, .int (sP pN rN)), (7, .int (sP qN rN)), (6, .int (sP pN qN)), (0, .ref (ad 7)), (1, .int (nI pN)), (2, .int (nI qN)), (3, .int (nI rN)), (4, .int (nI (3 * cN))), (5, .ref (ad T))]) dX3_tellOrders_91 (by decide) rfl ?_
  refine gj_aload_n C 0 dX3_tellOrders_93 rfl 11 rfl ?_
  refine gj_get C 7 (by decide) (twk hT (by decide) hc7) inX3 rfl 2 (by decide) w_122 (v := .ref (ad 10)) rfl dX3_tellOrders_94 ?_
  refine gj_iload C dX3_tellOrders_97 15 rfl ?_
  refine gj_getsN_ORDERS C w_559 dX3_tellOrders_99 ?_
  refine gj_iload C dX3_tellOrders_102 2 rfl ?_
  refine gj_iconst C (v := 2) (by decide) dX3_tellOrders_104 ?_
  refine gj_iadd C dX3_tellOrders_105 ?_
  refine gj_seti (y := 17) (by decide) ?_
  refine gj_ti_ORDERS C (by unfold vp_in; decide) dX3_tellOrders_106 ?_
  refine gj_seti (y := 0) (by decide +kernel) ?_
  refine gj_iadd C dX3_tellOrders_107 ?_
  refine gj_seti (y := nI (3 * cN)) (Int32.add_zero _) ?_
  refine gj_iald C 10 (by decide) (twk hT (by decide) hc10) (vp_in_nI (by omega) (by omega)) dX3_tellOrders_108 ?_
  refine gj_seti (y := nI t.1) ((congrArg _ (nI_clamp (show 3 * cN < 2 ^ 31 by omega))).trans h0t) ?_
  refine gj_istore C (lv' := [(15, .int (nI t.1)), (14, .int (nI t.2.1)), (13, .int (nI t.2.2)), (12, .int 15), (16, .int (cNeed sP sS pN qN rN t.2.2 t.1 t.2.1)), (11, .int (nI (12 * rN))), (10, .int (nI (12 * qN))), (9, .int (nI (12 * pN))), (8, .int (sP pN rN)), (7, .int (sP qN rN)), (6, .int (sP pN qN)), (0, .ref (ad 7)), (1, .int (nI pN)), (2, .int (nI qN)), (3, .int (nI rN)), (4, .int (nI (3 * cN))), (5, .ref (ad T))]) dX3_tellOrders_109 (by decide) rfl ?_
  refine gj_iload C dX3_tellOrders_111 10 rfl ?_
  refine gj_aload_n C 0 dX3_tellOrders_113 rfl 11 rfl ?_
  refine gj_get C 7 (by decide) (twk hT (by decide) hc7) inX3 rfl 0 (by decide) w_120 (v := .ref (ad 8)) rfl dX3_tellOrders_114 ?_
  refine gj_iload C dX3_tellOrders_117 2 rfl ?_
  refine gj_bipush C (v := 12) (by decide) dX3_tellOrders_119 ?_
  refine gj_imul C dX3_tellOrders_121 ?_
  refine gj_iload C dX3_tellOrders_122 1 rfl ?_
  refine gj_iadd C dX3_tellOrders_124 ?_
  refine gj_seti (y := nI (12 * t.2.2 + t.2.1)) m_lin ?_
  refine gj_iald C 8 (by decide) (twk hT (by decide) hc8) (vp_in_nI (by omega) (by omega)) dX3_tellOrders_125 ?_
  refine gj_seti (y := sS t.2.2 t.2.1) ((congrArg _ (nI_clamp (show 12 * t.2.2 + t.2.1 < 2 ^ 31 by omega))).trans (hss t.2.2 t.2.1 (by omega) (by omega))) ?_
  refine gj_isub C dX3_tellOrders_126 ?_
  refine gj_mabs C w_549 w_550 w_57 w_551 ⟨Nat.le_of_ble_eq_true rfl, Nat.le_of_ble_eq_true rfl⟩ (Nat.le_of_ble_eq_true rfl) dX3_tellOrders_127 ?_
  refine gj_istore C (lv' := [(16, .int (if 0 ≤ ((sP pN qN) - (sS t.2.2 t.2.1)) then ((sP pN qN) - (sS t.2.2 t.2.1)) else 0 - ((sP pN qN) - (sS t.2.2 t.2.1)))), (15, .int (nI t.1)), (14, .int (nI t.2.1)), (13, .int (nI t.2.2)), (12, .int 15), (11, .int (nI (12 * rN))), (10, .int (nI (12 * qN))), (9, .int (nI (12 * pN))), (8, .int (sP pN rN)), (7, .int (sP qN rN)), (6, .int (sP pN qN)), (0, .ref (ad 7)), (1, .int (nI pN)), (2, .int (nI qN)), (3, .int (nI rN)), (4, .int (nI (3 * cN))), (5, .ref (ad T))]) dX3_tellOrders_130 (by decide) rfl ?_
  refine gj_iload C dX3_tellOrders_132 0 rfl ?_
  refine gj_iload C dX3_tellOrders_134 9 rfl ?_
  refine gj_aload_n C 0 dX3_tellOrders_136 rfl 11 rfl ?_
  refine gj_get C 7 (by decide) (twk hT (by decide) hc7) inX3 rfl 0 (by decide) w_120 (v := .ref (ad 8)) rfl dX3_tellOrders_137 ?_
  refine gj_iload C dX3_tellOrders_140 2 rfl ?_
  refine gj_bipush C (v := 12) (by decide) dX3_tellOrders_142 ?_
  refine gj_imul C dX3_tellOrders_144 ?_
  refine gj_iload C dX3_tellOrders_145 1 rfl ?_
  refine gj_iadd C dX3_tellOrders_147 ?_
  refine gj_seti (y := nI (12 * t.2.1 + t.1)) m_lin ?_
  refine gj_iald C 8 (by decide) (twk hT (by decide) hc8) (vp_in_nI (by omega) (by omega)) dX3_tellOrders_148 ?_
  refine gj_seti (y := sS t.2.1 t.1) ((congrArg _ (nI_clamp (show 12 * t.2.1 + t.1 < 2 ^ 31 by omega))).trans (hss t.2.1 t.1 (by omega) (by omega))) ?_
  refine gj_isub C dX3_tellOrders_149 ?_
  refine gj_mabs C w_549 w_550 w_57 w_551 ⟨Nat.le_of_ble_eq_true rfl, Nat.le_of_ble_eq_true rfl⟩ (Nat.le_of_ble_eq_true rfl) dX3_tellOrders_150 ?_
  refine gj_mmax C w_561 w_92 w_57 w_93 ⟨Nat.le_of_ble_eq_true rfl, Nat.le_of_ble_eq_true rfl⟩ (Nat.le_of_ble_eq_true rfl) dX3_tellOrders_153 ?_
  refine gj_istore C (lv' := [(16, .int (if (if 0 ≤ ((sP pN qN) - (sS t.2.2 t.2.1)) then ((sP pN qN) - (sS t.2.2 t.2.1)) else 0 - ((sP pN qN) - (sS t.2.2 t.2.1))) < (if 0 ≤ ((sP qN rN) - (sS t.2.1 t.1)) then ((sP qN rN) - (sS t.2.1 t.1)) else 0 - ((sP qN rN) - (sS t.2.1 t.1))) then (if 0 ≤ ((sP qN rN) - (sS t.2.1 t.1)) then ((sP qN rN) - (sS t.2.1 t.1)) else 0 - ((sP qN rN) - (sS t.2.1 t.1))) else (if 0 ≤ ((sP pN qN) - (sS t.2.2 t.2.1)) then ((sP pN qN) - (sS t.2.2 t.2.1)) else 0 - ((sP pN qN) - (sS t.2.2 t.2.1))))), (15, .int (nI t.1)), (14, .int (nI t.2.1)), (13, .int (nI t.2.2)), (12, .int 15), (11, .int (nI (12 * rN))), (10, .int (nI (12 * qN))), (9, .int (nI (12 * pN))), (8, .int (sP pN rN)), (7, .int (sP qN rN)), (6, .int (sP pN qN)), (0, .ref (ad 7)), (1, .int (nI pN)), (2, .int (nI qN)), (3, .int (nI rN)), (4, .int (nI (3 * cN))), (5, .ref (ad T))]) dX3_tellOrders_156 (by decide) rfl ?_
  refine gj_iload C dX3_tellOrders_158 0 rfl ?_
  refine gj_iload C dX3_tellOrders_160 8 rfl ?_
  refine gj_aload_n C 0 dX3_tellOrders_162 rfl 11 rfl ?_
  refine gj_get C 7 (by decide) (twk hT (by decide) hc7) inX3 rfl 0 (by decide) w_120 (v := .ref (ad 8)) rfl dX3_tellOrders_163 ?_
  refine gj_iload C dX3_tellOrders_166 3 rfl ?_
  refine gj_bipush C (v := 12) (by decide) dX3_tellOrders_168 ?_
  refine gj_imul C dX3_tellOrders_170 ?_
  refine gj_iload C dX3_tellOrders_171 1 rfl ?_
  refine gj_iadd C dX3_tellOrders_173 ?_
  refine gj_seti (y := nI (12 * t.2.2 + t.1)) m_lin ?_
  refine gj_iald C 8 (by decide) (twk hT (by decide) hc8) (vp_in_nI (by omega) (by omega)) dX3_tellOrders_174 ?_
  refine gj_seti (y := sS t.2.2 t.1) ((congrArg _ (nI_clamp (show 12 * t.2.2 + t.1 < 2 ^ 31 by omega))).trans (hss t.2.2 t.1 (by omega) (by omega))) ?_
  refine gj_isub C dX3_tellOrders_175 ?_
  refine gj_mabs C w_549 w_550 w_57 w_551 ⟨Nat.le_of_ble_eq_true rfl, Nat.le_of_ble_eq_true rfl⟩ (Nat.le_of_ble_eq_true rfl) dX3_tellOrders_176 ?_
  refine gj_mmax C w_561 w_92 w_57 w_93 ⟨Nat.le_of_ble_eq_true rfl, Nat.le_of_ble_eq_true rfl⟩ (Nat.le_of_ble_eq_true rfl) dX3_tellOrders_179 ?_
  refine gj_seti (y := cNeed sP sS pN qN rN t.2.2 t.2.1 t.1) rfl ?_
  refine gj_istore C (lv' := [(16, .int (cNeed sP sS pN qN rN t.2.2 t.2.1 t.1)), (15, .int (nI t.1)), (14, .int (nI t.2.1)), (13, .int (nI t.2.2)), (12, .int 15), (11, .int (nI (12 * rN))), (10, .int (nI (12 * qN))), (9, .int (nI (12 * pN))), (8, .int (sP pN rN)), (7, .int (sP qN rN)), (6, .int (sP pN qN)), (0, .ref (ad 7)), (1, .int (nI pN)), (2, .int (nI qN)), (3, .int (nI rN)), (4, .int (nI (3 * cN))), (5, .ref (ad T))]) dX3_tellOrders_182 (by decide) rfl ?_
  refine gj_aload C dX3_tellOrders_184 16 rfl ?_
  refine gj_iload C dX3_tellOrders_186 7 rfl ?_
  refine gj_iload C dX3_tellOrders_188 3 rfl ?_
  refine gj_iadd C dX3_tellOrders_190 ?_
  refine gj_seti (y := nI (12 * pN + t.2.2)) (nI_add _ _) ?_
  refine gj_iload C dX3_tellOrders_191 6 rfl ?_
  refine gj_iload C dX3_tellOrders_193 2 rfl ?_
  refine gj_iadd C dX3_tellOrders_195 ?_
  refine gj_seti (y := nI (12 * qN + t.2.1)) (nI_add _ _) ?_
  refine gj_iload C dX3_tellOrders_196 5 rfl ?_
  refine gj_iload C dX3_tellOrders_198 1 rfl ?_
  refine gj_iadd C dX3_tellOrders_200 ?_
  refine gj_seti (y := nI (12 * rN + t.1)) (nI_add _ _) ?_
  refine gj_iload C dX3_tellOrders_201 0 rfl ?_
  refine gj_hear C hT (vp_in_nI (by omega) (by omega)) (vp_in_nI (by omega) (by omega)) (vp_in_nI (by omega) (by omega)) ⟨Nat.le_of_ble_eq_true rfl, Nat.le_of_ble_eq_true rfl⟩ dX3_tellOrders_203 ?_
  refine gj_setf (g := tw (cOne th sP sS pN qN rN t.2.2 t.2.1 t.1 (cOne th sP sS pN qN rN t.2.2 t.1 t.2.1 (cOne th sP sS pN qN rN t.2.1 t.2.2 t.1 (cOne th sP sS pN qN rN t.2.1 t.1 t.2.2 (cOne th sP sS pN qN rN t.1 t.2.2 t.2.1 (cOne th sP sS pN qN rN t.1 t.2.1 t.2.2 st)))))) f) rfl ?_
  refine gj_iinc C (v := 18) (lv' := [(12, .int 18), (16, .int (cNeed sP sS pN qN rN t.2.2 t.2.1 t.1)), (15, .int (nI t.1)), (14, .int (nI t.2.1)), (13, .int (nI t.2.2)), (11, .int (nI (12 * rN))), (10, .int (nI (12 * qN))), (9, .int (nI (12 * pN))), (8, .int (sP pN rN)), (7, .int (sP qN rN)), (6, .int (sP pN qN)), (0, .ref (ad 7)), (1, .int (nI pN)), (2, .int (nI qN)), (3, .int (nI rN)), (4, .int (nI (3 * cN))), (5, .ref (ad T))]) dX3_tellOrders_206 4 rfl (by decide) (by decide) rfl ?_
  refine gj_goto C 48 dX3_tellOrders_209 (by decide) ?_
  refine gj_iload C dX3_tellOrders_48 0 rfl ?_
  refine gj_iconst C (v := 2) (by decide) dX3_tellOrders_50 ?_
  refine gj_iadd C dX3_tellOrders_51 ?_
  refine gj_seti (y := 20) (by decide) ?_
  refine gj_getsN_ORDERS C w_559 dX3_tellOrders_52 ?_
  refine gj_tlen_ORDERS C (v := 18) (by decide) dX3_tellOrders_55 ?_
  refine gj_icmp_ge C 212 dX3_tellOrders_56 (by decide) (fun c_7 => ?_) (fun c_7 => absurd (by decide) c_7)
  exact RT _ _ _ rfl dX3_tellOrders_212
set_option maxHeartbeats 400000 in
set_option maxRecDepth 100000 in
theorem c_X3_lookAround {l : Launch} {D : va_G} {ca ss ad : Nat → Nat} {f : Nat → va_E} {K : Type} {tw : K → (Nat → va_E) → Nat → va_E} {th : K → Int32 → Int32 → Int32 → Int32 → K} {T : Nat} (hT : gTal l D ca ss ad tw th T) (st : K) (pN qN rN n0 n1 : Nat) (L : List tri) (bk lk : Int32) (sg pg tg kg : Nat → Int32) (sS sP : Nat → Nat → Int32) (hc7 : f 7 = .inr (3, [.ref (ad 8), .ref (ad 9), .ref (ad 10), .ref (ad 11), .int (nI L.length), .int lk])) (hc8 : f 8 = .inl (ca 0, 144, .inl sg)) (hc9 : f 9 = .inl (ca 0, 64, .inl pg)) (hc10 : f 10 = .inl (ca 0, 660, .inl tg)) (hc11 : f 11 = .inl (ca 0, 660, .inl kg)) (hn0 : n0 ≤ 12) (hn1 : n1 ≤ 8) (hp : pN < n1) (hq : qN < n1) (hr : rN < n1) (hss : ∀ a b, a < n0 → b < n0 → sg (12 * a + b) = sS a b) (hps : ∀ a b, a < n1 → b < n1 → pg (8 * a + b) = sP a b) (hTk : triOk sS bk n0 L tg kg) : gMv l D ca ss ad 108 yX3_lookAround cX3_lookAround 13 none 2 (tw st f) [.ref (ad 7), .int (nI pN), .int (nI qN), .int (nI rN), .int bk, .ref (ad T)] (fun u => u = va_up (tw (cLook th sP sS bk L pN qN rN (lk, st)).2 f) 7 (.inr (3, [.ref (ad 8), .ref (ad 9), .ref (ad 10), .ref (ad 11), .int (nI L.length), .int ((cLook th sP sS bk L pN qN rN (lk, st)).1)]))) := by
  refine gMv_ofK (by decide +kernel) (Nat.le_of_ble_eq_true rfl) (lv0 := [(0, .ref (ad 7)), (1, .int (nI pN)), (2, .int (nI qN)), (3, .int (nI rN)), (4, .int bk), (5, .ref (ad T))]) rfl (fun pT eT sT mT aT below meth cT AT QT C RT => ?_)
  have C : gX pT sT mT aT meth cT AT D ca ss 13 RX3 cX3_lookAround none := C
  have hLl := hTk.1
  refine gj_aload_n C 0 dX3_lookAround_0 rfl 0 rfl ?_
  refine gj_iload_n C 1 dX3_lookAround_1 rfl 1 rfl ?_
  refine gj_iload_n C 2 dX3_lookAround_2 rfl 2 rfl ?_
  refine gj_callVi C mi_X3_spotSide w_545 7 (by decide) (twk hT (by decide) hc7) rfl (c_X3_spotSide pN qN (nI L.length) lk pg (twk hT (by decide) hc7) (twk hT (by decide) hc9) (by omega) (by omega)) mc_X3_spotSide ⟨Nat.le_of_ble_eq_true rfl, Nat.le_of_ble_eq_true rfl⟩ (rest := []) rfl (Nat.le_of_ble_eq_true rfl) dX3_lookAround_3 (fun r u h => ?_)
  obtain ⟨hr_, h⟩ := h; rw [hr_]
  rw [h]
  refine gj_seti (y := sP pN qN) (hps pN qN (by omega) (by omega)) ?_
  refine gj_istore C (lv' := [(6, .int (sP pN qN)), (0, .ref (ad 7)), (1, .int (nI pN)), (2, .int (nI qN)), (3, .int (nI rN)), (4, .int bk), (5, .ref (ad T))]) dX3_lookAround_6 (by decide) rfl ?_
  refine gj_aload_n C 0 dX3_lookAround_8 rfl 1 rfl ?_
  refine gj_iload_n C 2 dX3_lookAround_9 rfl 3 rfl ?_
  refine gj_iload_n C 3 dX3_lookAround_10 rfl 4 rfl ?_
  refine gj_callVi C mi_X3_spotSide w_545 7 (by decide) (twk hT (by decide) hc7) rfl (c_X3_spotSide qN rN (nI L.length) lk pg (twk hT (by decide) hc7) (twk hT (by decide) hc9) (by omega) (by omega)) mc_X3_spotSide ⟨Nat.le_of_ble_eq_true rfl, Nat.le_of_ble_eq_true rfl⟩ (rest := []) rfl (Nat.le_of_ble_eq_true rfl) dX3_lookAround_11 (fun r u h => ?_)
  obtain ⟨hr_, h⟩ := h; rw [hr_]
  rw [h]
  refine gj_seti (y := sP qN rN) (hps qN rN (by omega) (by omega)) ?_
  refine gj_istore C (lv' := [(7, .int (sP qN rN)), (6, .int (sP pN qN)), (0, .ref (ad 7)), (1, .int (nI pN)), (2, .int (nI qN)), (3, .int (nI rN)), (4, .int bk), (5, .ref (ad T))]) dX3_lookAround_14 (by decide) rfl ?_
  refine gj_aload_n C 0 dX3_lookAround_16 rfl 2 rfl ?_
  refine gj_iload_n C 1 dX3_lookAround_17 rfl 3 rfl ?_
  refine gj_iload_n C 3 dX3_lookAround_18 rfl 5 rfl ?_
  refine gj_callVi C mi_X3_spotSide w_545 7 (by decide) (twk hT (by decide) hc7) rfl (c_X3_spotSide pN rN (nI L.length) lk pg (twk hT (by decide) hc7) (twk hT (by decide) hc9) (by omega) (by omega)) mc_X3_spotSide ⟨Nat.le_of_ble_eq_true rfl, Nat.le_of_ble_eq_true rfl⟩ (rest := []) rfl (Nat.le_of_ble_eq_true rfl) dX3_lookAround_19 (fun r u h => ?_)
  obtain ⟨hr_, h⟩ := h; rw [hr_]
  rw [h]
  refine gj_seti (y := sP pN rN) (hps pN rN (by omega) (by omega)) ?_
  refine gj_istore C (lv' := [(8, .int (sP pN rN)), (7, .int (sP qN rN)), (6, .int (sP pN qN)), (0, .ref (ad 7)), (1, .int (nI pN)), (2, .int (nI qN)), (3, .int (nI rN)), (4, .int bk), (5, .ref (ad T))]) dX3_lookAround_22 (by decide) rfl ?_
  refine gj_iconst C (v := 0) (by decide) dX3_lookAround_24 ?_
  refine gj_iload C dX3_lookAround_25 2 rfl ?_
  refine gj_iload C dX3_lookAround_27 1 rfl ?_
  refine gj_iload C dX3_lookAround_29 0 rfl ?_
  refine gj_iload C dX3_lookAround_31 7 rfl ?_
  refine gj_callSNi C w_496 w_540 (c_X11_keyNumber (0 : Int32) (sP pN qN) (sP qN rN) (sP pN rN) bk) mc_X11_keyNumber ⟨Nat.le_of_ble_eq_true rfl, Nat.le_of_ble_eq_true rfl⟩ (rest := []) rfl (Nat.le_of_ble_eq_true rfl) dX3_lookAround_33 (fun r u h => ?_)
  obtain ⟨hr_, h⟩ := h; rw [hr_]
  rw [h]
  refine gj_seti (y := cKey sP bk 0 pN qN rN) rfl ?_
  refine gj_istore C (lv' := [(9, .int (cKey sP bk 0 pN qN rN)), (8, .int (sP pN rN)), (7, .int (sP qN rN)), (6, .int (sP pN qN)), (0, .ref (ad 7)), (1, .int (nI pN)), (2, .int (nI qN)), (3, .int (nI rN)), (4, .int bk), (5, .ref (ad T))]) dX3_lookAround_36 (by decide) rfl ?_
  refine gj_iconst C (v := 1) (by decide) dX3_lookAround_38 ?_
  refine gj_iload C dX3_lookAround_39 3 rfl ?_
  refine gj_iload C dX3_lookAround_41 2 rfl ?_
  refine gj_iload C dX3_lookAround_43 1 rfl ?_
  refine gj_iload C dX3_lookAround_45 8 rfl ?_
  refine gj_callSNi C w_496 w_540 (c_X11_keyNumber (1 : Int32) (sP pN qN) (sP qN rN) (sP pN rN) bk) mc_X11_keyNumber ⟨Nat.le_of_ble_eq_true rfl, Nat.le_of_ble_eq_true rfl⟩ (rest := []) rfl (Nat.le_of_ble_eq_true rfl) dX3_lookAround_47 (fun r u h => ?_)
  obtain ⟨hr_, h⟩ := h; rw [hr_]
  rw [h]
  refine gj_seti (y := cKey sP bk 1 pN qN rN) rfl ?_
  refine gj_istore C (lv' := [(10, .int (cKey sP bk 1 pN qN rN)), (9, .int (cKey sP bk 0 pN qN rN)), (8, .int (sP pN rN)), (7, .int (sP qN rN)), (6, .int (sP pN qN)), (0, .ref (ad 7)), (1, .int (nI pN)), (2, .int (nI qN)), (3, .int (nI rN)), (4, .int bk), (5, .ref (ad T))]) dX3_lookAround_50 (by decide) rfl ?_
  refine gj_iconst C (v := 2) (by decide) dX3_lookAround_52 ?_
  refine gj_iload C dX3_lookAround_53 4 rfl ?_
  refine gj_iload C dX3_lookAround_55 3 rfl ?_
  refine gj_iload C dX3_lookAround_57 2 rfl ?_
  refine gj_iload C dX3_lookAround_59 9 rfl ?_
  refine gj_callSNi C w_496 w_540 (c_X11_keyNumber (2 : Int32) (sP pN qN) (sP qN rN) (sP pN rN) bk) mc_X11_keyNumber ⟨Nat.le_of_ble_eq_true rfl, Nat.le_of_ble_eq_true rfl⟩ (rest := []) rfl (Nat.le_of_ble_eq_true rfl) dX3_lookAround_61 (fun r u h => ?_)
  obtain ⟨hr_, h⟩ := h; rw [hr_]
  rw [h]
  refine gj_seti (y := cKey sP bk 2 pN qN rN) rfl ?_
  refine gj_istore C (lv' := [(11, .int (cKey sP bk 2 pN qN rN)), (10, .int (cKey sP bk 1 pN qN rN)), (9, .int (cKey sP bk 0 pN qN rN)), (8, .int (sP pN rN)), (7, .int (sP qN rN)), (6, .int (sP pN qN)), (0, .ref (ad 7)), (1, .int (nI pN)), (2, .int (nI qN)), (3, .int (nI rN)), (4, .int bk), (5, .ref (ad T))]) dX3_lookAround_64 (by decide) rfl ?_
  refine gj_iconst C (v := 0) (by decide) dX3_lookAround_66 ?_
  refine gj_seti (y := nI (3 * 0)) rfl ?_
  refine gj_istore C (lv' := [(12, .int (nI (3 * 0))), (11, .int (cKey sP bk 2 pN qN rN)), (10, .int (cKey sP bk 1 pN qN rN)), (9, .int (cKey sP bk 0 pN qN rN)), (8, .int (sP pN rN)), (7, .int (sP qN rN)), (6, .int (sP pN qN)), (0, .ref (ad 7)), (1, .int (nI pN)), (2, .int (nI qN)), (3, .int (nI rN)), (4, .int bk), (5, .ref (ad T))]) dX3_lookAround_67 (by decide) rfl ?_
  refine gj_setf (up_id (twk hT (by decide) hc7)).symm ?_
  refine gj_setf (g := va_up (tw (cLkN th sP sS bk L pN qN rN (lk, st) 0).2 f) 7 (.inr (3, [.ref (ad 8), .ref (ad 9), .ref (ad 10), .ref (ad 11), .int (nI L.length), .int ((cLkN th sP sS bk L pN qN rN (lk, st) 0).1)]))) rfl ?_
  have loop_1 : ∀ (m0 t0 : Nat), t0 + m0 = L.length → gJ pT l eT (Rm 2) sT mT aT below meth cT AT QT D ad 108 13 (va_up (tw (cLkN th sP sS bk L pN qN rN (lk, st) t0).2 f) 7 (.inr (3, [.ref (ad 8), .ref (ad 9), .ref (ad 10), .ref (ad 11), .int (nI L.length), .int ((cLkN th sP sS bk L pN qN rN (lk, st) t0).1)]))) [(12, .int (nI (3 * t0))), (11, .int (cKey sP bk 2 pN qN rN)), (10, .int (cKey sP bk 1 pN qN rN)), (9, .int (cKey sP bk 0 pN qN rN)), (0, .ref (ad 7)), (1, .int (nI pN)), (2, .int (nI qN)), (3, .int (nI rN)), (4, .int bk), (5, .ref (ad T))] 69 [] := by
    intro m0
    induction m0 with
    | zero =>
      intro t0 hk_t0  
      refine gj_iload C dX3_lookAround_69 0 rfl ?_
      refine gj_iconst C (v := 3) (by decide) dX3_lookAround_71 ?_
      refine gj_aload_n C 0 dX3_lookAround_72 rfl 4 rfl ?_
      refine gj_get C 7 (by decide) (va_up_self _ _ _) inX3 rfl 4 (by decide) w_124 (v := .int (nI L.length)) rfl dX3_lookAround_73 ?_
      refine gj_imul C dX3_lookAround_76 ?_
      refine gj_seti (y := nI (3 * L.length)) (i3_0 L.length) ?_
      refine gj_icmp_ge C 162 dX3_lookAround_77 (by decide) (fun c_3 => ?_) (fun c_3 => absurd (nI_le (by omega) (by omega)) c_3)
      exact RT _ _ _ (by obtain rfl : t0 = L.length := (by omega); rfl) dX3_lookAround_162
    | succ m0 ih_2 =>
      intro t0 hk_t0  
      have hTri := hTk.2 t0 (by omega)
      refine gj_iload C dX3_lookAround_69 0 rfl ?_
      refine gj_iconst C (v := 3) (by decide) dX3_lookAround_71 ?_
      refine gj_aload_n C 0 dX3_lookAround_72 rfl 4 rfl ?_
      refine gj_get C 7 (by decide) (va_up_self _ _ _) inX3 rfl 4 (by decide) w_124 (v := .int (nI L.length)) rfl dX3_lookAround_73 ?_
      refine gj_imul C dX3_lookAround_76 ?_
      refine gj_seti (y := nI (3 * L.length)) (i3_0 L.length) ?_
      refine gj_icmp_ge C 162 dX3_lookAround_77 (by decide) (fun c_4 => absurd c_4 (nI_ge (by omega) (by omega))) (fun c_4 => ?_)
      refine gj_aload_n C 0 dX3_lookAround_80 rfl 4 rfl ?_
      refine gj_get C 7 (by decide) (va_up_self _ _ _) inX3 rfl 3 (by decide) w_123 (v := .ref (ad 11)) rfl dX3_lookAround_81 ?_
      refine gj_iload C dX3_lookAround_84 0 rfl ?_
      refine gj_iald C 11 (by decide) (up_nx (by decide) ((twk hT (by decide) hc11))) (vp_in_nI (by omega) (by omega)) dX3_lookAround_86 ?_
      refine gj_seti (y := cKey sS bk 0 (tGet L t0).1 (tGet L t0).2.1 (tGet L t0).2.2) ((congrArg _ (nI_clamp (show (3 * t0) < 2 ^ 31 by omega))).trans hTri.2.2.2.1) ?_
      refine gj_iload C dX3_lookAround_87 3 rfl ?_
      refine gj_isub C dX3_lookAround_89 ?_
      refine gj_mabs C w_549 w_550 w_57 w_551 ⟨Nat.le_of_ble_eq_true rfl, Nat.le_of_ble_eq_true rfl⟩ (Nat.le_of_ble_eq_true rfl) dX3_lookAround_90 ?_
      refine gj_seti (y := cAbs ((cKey sS bk 0 (tGet L t0).1 (tGet L t0).2.1 (tGet L t0).2.2) - (cKey sP bk 0 pN qN rN))) rfl ?_
      refine gj_iconst C (v := 1) (by decide) dX3_lookAround_93 ?_
      refine gj_icmp_gt C 156 dX3_lookAround_94 (by decide) (fun c_5 => ?_) (fun c_5 => ?_)
      · refine gj_iinc C (v := nI (3 * (t0 + 1))) (lv' := [(12, .int (nI (3 * (t0 + 1)))), (11, .int (cKey sP bk 2 pN qN rN)), (10, .int (cKey sP bk 1 pN qN rN)), (9, .int (cKey sP bk 0 pN qN rN)), (0, .ref (ad 7)), (1, .int (nI pN)), (2, .int (nI qN)), (3, .int (nI rN)), (4, .int bk), (5, .ref (ad T))]) dX3_lookAround_156 0 rfl ((nI_add _ 3).trans (congrArg nI (by omega))) (by decide) rfl ?_
        refine gj_goto C 69 dX3_lookAround_159 (by decide) ?_
        refine gj_setf (g := va_up (tw (cLkN th sP sS bk L pN qN rN (lk, st) (t0 + 1)).2 f) 7 (.inr (3, [.ref (ad 8), .ref (ad 9), .ref (ad 10), .ref (ad 11), .int (nI L.length), .int ((cLkN th sP sS bk L pN qN rN (lk, st) (t0 + 1)).1)]))) (by rw [show (cLkN th sP sS bk L pN qN rN (lk, st) (t0 + 1)) = _ from (congrArg (fun z => cLk1 th sP sS bk pN qN rN (tGet L z) (cLkN th sP sS bk L pN qN rN (lk, st) t0)) (Nat.zero_add t0)).trans ((if_pos c_5).trans (rfl))]) ?_
        refine gj_lv [0, 1, 2, 3, 4, 5, 6, 7, 8, 9] rfl ?_
        exact ih_2 (t0 + 1) (by omega)
      · refine gj_aload_n C 0 dX3_lookAround_97 rfl 4 rfl ?_
        refine gj_get C 7 (by decide) (va_up_self _ _ _) inX3 rfl 3 (by decide) w_123 (v := .ref (ad 11)) rfl dX3_lookAround_98 ?_
        refine gj_iload C dX3_lookAround_101 0 rfl ?_
        refine gj_iconst C (v := 1) (by decide) dX3_lookAround_103 ?_
        refine gj_iadd C dX3_lookAround_104 ?_
        refine gj_seti (y := nI (3 * t0 + 1)) (nI_add _ 1) ?_
        refine gj_iald C 11 (by decide) (up_nx (by decide) ((twk hT (by decide) hc11))) (vp_in_nI (by omega) (by omega)) dX3_lookAround_105 ?_
        refine gj_seti (y := cKey sS bk 1 (tGet L t0).1 (tGet L t0).2.1 (tGet L t0).2.2) ((congrArg _ (nI_clamp (show (3 * t0 + 1) < 2 ^ 31 by omega))).trans hTri.2.2.2.2.1) ?_
        refine gj_iload C dX3_lookAround_106 2 rfl ?_
        refine gj_isub C dX3_lookAround_108 ?_
        refine gj_mabs C w_549 w_550 w_57 w_551 ⟨Nat.le_of_ble_eq_true rfl, Nat.le_of_ble_eq_true rfl⟩ (Nat.le_of_ble_eq_true rfl) dX3_lookAround_109 ?_
        refine gj_seti (y := cAbs ((cKey sS bk 1 (tGet L t0).1 (tGet L t0).2.1 (tGet L t0).2.2) - (cKey sP bk 1 pN qN rN))) rfl ?_
        refine gj_iconst C (v := 1) (by decide) dX3_lookAround_112 ?_
        refine gj_icmp_gt C 156 dX3_lookAround_113 (by decide) (fun c_6 => ?_) (fun c_6 => ?_)
        · refine gj_iinc C (v := nI (3 * (t0 + 1))) (lv' := [(12, .int (nI (3 * (t0 + 1)))), (11, .int (cKey sP bk 2 pN qN rN)), (10, .int (cKey sP bk 1 pN qN rN)), (9, .int (cKey sP bk 0 pN qN rN)), (0, .ref (ad 7)), (1, .int (nI pN)), (2, .int (nI qN)), (3, .int (nI rN)), (4, .int bk), (5, .ref (ad T))]) dX3_lookAround_156 0 rfl ((nI_add _ 3).trans (congrArg nI (by omega))) (by decide) rfl ?_
          refine gj_goto C 69 dX3_lookAround_159 (by decide) ?_
          refine gj_setf (g := va_up (tw (cLkN th sP sS bk L pN qN rN (lk, st) (t0 + 1)).2 f) 7 (.inr (3, [.ref (ad 8), .ref (ad 9), .ref (ad 10), .ref (ad 11), .int (nI L.length), .int ((cLkN th sP sS bk L pN qN rN (lk, st) (t0 + 1)).1)]))) (by rw [show (cLkN th sP sS bk L pN qN rN (lk, st) (t0 + 1)) = _ from (congrArg (fun z => cLk1 th sP sS bk pN qN rN (tGet L z) (cLkN th sP sS bk L pN qN rN (lk, st) t0)) (Nat.zero_add t0)).trans ((if_neg c_5).trans ((if_pos c_6).trans (rfl)))]) ?_
          refine gj_lv [0, 1, 2, 3, 4, 5, 6, 7, 8, 9] rfl ?_
          exact ih_2 (t0 + 1) (by omega)
        · refine gj_aload_n C 0 dX3_lookAround_116 rfl 4 rfl ?_
          refine gj_get C 7 (by decide) (va_up_self _ _ _) inX3 rfl 3 (by decide) w_123 (v := .ref (ad 11)) rfl dX3_lookAround_117 ?_
          refine gj_iload C dX3_lookAround_120 0 rfl ?_
          refine gj_iconst C (v := 2) (by decide) dX3_lookAround_122 ?_
          refine gj_iadd C dX3_lookAround_123 ?_
          refine gj_seti (y := nI (3 * t0 + 2)) (nI_add _ 2) ?_
          refine gj_iald C 11 (by decide) (up_nx (by decide) ((twk hT (by decide) hc11))) (vp_in_nI (by omega) (by omega)) dX3_lookAround_124 ?_
          refine gj_seti (y := cKey sS bk 2 (tGet L t0).1 (tGet L t0).2.1 (tGet L t0).2.2) ((congrArg _ (nI_clamp (show (3 * t0 + 2) < 2 ^ 31 by omega))).trans hTri.2.2.2.2.2.1) ?_
          refine gj_iload C dX3_lookAround_125 1 rfl ?_
          refine gj_isub C dX3_lookAround_127 ?_
          refine gj_mabs C w_549 w_550 w_57 w_551 ⟨Nat.le_of_ble_eq_true rfl, Nat.le_of_ble_eq_true rfl⟩ (Nat.le_of_ble_eq_true rfl) dX3_lookAround_128 ?_
          refine gj_seti (y := cAbs ((cKey sS bk 2 (tGet L t0).1 (tGet L t0).2.1 (tGet L t0).2.2) - (cKey sP bk 2 pN qN rN))) rfl ?_
          refine gj_iconst C (v := 1) (by decide) dX3_lookAround_131 ?_
          refine gj_icmp_gt C 156 dX3_lookAround_132 (by decide) (fun c_7 => ?_) (fun c_7 => ?_)
          · refine gj_iinc C (v := nI (3 * (t0 + 1))) (lv' := [(12, .int (nI (3 * (t0 + 1)))), (11, .int (cKey sP bk 2 pN qN rN)), (10, .int (cKey sP bk 1 pN qN rN)), (9, .int (cKey sP bk 0 pN qN rN)), (0, .ref (ad 7)), (1, .int (nI pN)), (2, .int (nI qN)), (3, .int (nI rN)), (4, .int bk), (5, .ref (ad T))]) dX3_lookAround_156 0 rfl ((nI_add _ 3).trans (congrArg nI (by omega))) (by decide) rfl ?_
            refine gj_goto C 69 dX3_lookAround_159 (by decide) ?_
            refine gj_setf (g := va_up (tw (cLkN th sP sS bk L pN qN rN (lk, st) (t0 + 1)).2 f) 7 (.inr (3, [.ref (ad 8), .ref (ad 9), .ref (ad 10), .ref (ad 11), .int (nI L.length), .int ((cLkN th sP sS bk L pN qN rN (lk, st) (t0 + 1)).1)]))) (by rw [show (cLkN th sP sS bk L pN qN rN (lk, st) (t0 + 1)) = _ from (congrArg (fun z => cLk1 th sP sS bk pN qN rN (tGet L z) (cLkN th sP sS bk L pN qN rN (lk, st) t0)) (Nat.zero_add t0)).trans ((if_neg c_5).trans ((if_neg c_6).trans ((if_pos c_7).trans (rfl))))]) ?_
            refine gj_lv [0, 1, 2, 3, 4, 5, 6, 7, 8, 9] rfl ?_
            exact ih_2 (t0 + 1) (by omega)
          · refine gj_aload_n C 0 dX3_lookAround_135 rfl 4 rfl ?_
            refine gj_dup C rfl dX3_lookAround_136 ?_
            refine gj_get C 7 (by decide) (va_up_self _ _ _) inX3 rfl 5 (by decide) w_125 (v := .int ((cLkN th sP sS bk L pN qN rN (lk, st) t0).1)) rfl dX3_lookAround_137 ?_
            refine gj_iconst C (v := 1) (by decide) dX3_lookAround_140 ?_
            refine gj_iadd C dX3_lookAround_141 ?_
            refine gj_putS C 7 (by decide) (va_up_self _ _ _) inX3 rfl 5 (by decide) tyX3 tyX3_ok nmX3 w_125 rfl (v := .int (((cLkN th sP sS bk L pN qN rN (lk, st) t0).1) + 1)) (fs' := [.ref (ad 8), .ref (ad 9), .ref (ad 10), .ref (ad 11), .int (nI L.length), .int (((cLkN th sP sS bk L pN qN rN (lk, st) t0).1) + 1)]) rfl rfl (Nat.le_of_ble_eq_true rfl) rfl dX3_lookAround_142 ?_
            refine gj_setf (bx_uu _ _ _ _) ?_
            refine gj_aload_n C 0 dX3_lookAround_145 rfl 4 rfl ?_
            refine gj_iload_n C 1 dX3_lookAround_146 rfl 5 rfl ?_
            refine gj_iload_n C 2 dX3_lookAround_147 rfl 6 rfl ?_
            refine gj_iload_n C 3 dX3_lookAround_148 rfl 7 rfl ?_
            refine gj_iload C dX3_lookAround_149 0 rfl ?_
            refine gj_aload C dX3_lookAround_151 9 rfl ?_
            refine gj_setf (twc hT (by decide)) ?_
            refine gj_callVv C mi_X3_tellOrders w_552 7 (by decide) (twk hT (by decide) (va_up_self _ _ _)) rfl (c_X3_tellOrders (f := (va_up f 7 (.inr (3, [.ref (ad 8), .ref (ad 9), .ref (ad 10), .ref (ad 11), .int (nI L.length), .int (((cLkN th sP sS bk L pN qN rN (lk, st) t0).1) + 1)])))) hT (cLkN th sP sS bk L pN qN rN (lk, st) t0).2 pN qN rN t0 n0 n1 (tGet L t0) (nI L.length) (((cLkN th sP sS bk L pN qN rN (lk, st) t0).1) + 1) sg pg tg sS sP (va_up_self _ _ _) (up_nx (by decide) hc8) (up_nx (by decide) hc9) (up_nx (by decide) hc10) hn0 hn1 hp hq hr hss hps (by omega) hTri.1 hTri.2.1 hTri.2.2.1 hTri.2.2.2.2.2.2.1 hTri.2.2.2.2.2.2.2.1 hTri.2.2.2.2.2.2.2.2) mc_X3_tellOrders ⟨Nat.le_of_ble_eq_true rfl, Nat.le_of_ble_eq_true rfl⟩ (rest := []) rfl (Nat.le_of_ble_eq_true rfl) dX3_lookAround_153 (fun u h => ?_)
            rw [h]
            refine gj_setf (twc hT (by decide)).symm ?_
            refine gj_iinc C (v := nI (3 * (t0 + 1))) (lv' := [(12, .int (nI (3 * (t0 + 1)))), (11, .int (cKey sP bk 2 pN qN rN)), (10, .int (cKey sP bk 1 pN qN rN)), (9, .int (cKey sP bk 0 pN qN rN)), (0, .ref (ad 7)), (1, .int (nI pN)), (2, .int (nI qN)), (3, .int (nI rN)), (4, .int bk), (5, .ref (ad T))]) dX3_lookAround_156 0 rfl ((nI_add _ 3).trans (congrArg nI (by omega))) (by decide) rfl ?_
            refine gj_goto C 69 dX3_lookAround_159 (by decide) ?_
            refine gj_setf (g := va_up (tw (cLkN th sP sS bk L pN qN rN (lk, st) (t0 + 1)).2 f) 7 (.inr (3, [.ref (ad 8), .ref (ad 9), .ref (ad 10), .ref (ad 11), .int (nI L.length), .int ((cLkN th sP sS bk L pN qN rN (lk, st) (t0 + 1)).1)]))) (by rw [show (cLkN th sP sS bk L pN qN rN (lk, st) (t0 + 1)) = _ from (congrArg (fun z => cLk1 th sP sS bk pN qN rN (tGet L z) (cLkN th sP sS bk L pN qN rN (lk, st) t0)) (Nat.zero_add t0)).trans ((if_neg c_5).trans ((if_neg c_6).trans ((if_neg c_7).trans (rfl))))]) ?_
            refine gj_lv [0, 1, 2, 3, 4, 5, 6, 7, 8, 9] rfl ?_
            exact ih_2 (t0 + 1) (by omega)
  refine gj_lv [0, 1, 2, 3, 7, 8, 9, 10, 11, 12] rfl ?_
  exact loop_1 (L.length - 0) 0 (by omega)
