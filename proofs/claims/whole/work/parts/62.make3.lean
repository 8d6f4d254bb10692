theorem k_wsl {a : Nat → Nat} {M : Nat} {f : Nat → va_E} {L : List Nat} (h : List.range M = L) : gWn a M f = L.map (fun k => (a k, f k)) := by
  unfold gWn; rw [h]
theorem vp_q_ext {cA : ClassId} {n : Nat} {g g' : Nat → Option Nat} (h : ∀ j, j < n → g j = g' j) : vp_cell cA (n, .inr (.inr (.inr (.inr g)))) = vp_cell cA (n, .inr (.inr (.inr (.inr g')))) := arrV_ext (fun j hj => congrArg va_rf (h j hj))
theorem vp_i_ext {cA : ClassId} {n : Nat} {g g' : Nat → Int32} (h : ∀ j, j < n → g j = g' j) : vp_cell cA (n, .inl g) = vp_cell cA (n, .inl g') := arrV_ext (fun j hj => congrArg Value.int (h j hj))
theorem dX9_init_0 : decode cX9_init 0 = .ok (.aload_n 0, 1) := by decide +kernel
theorem dX9_init_1 : decode cX9_init 1 = .ok (.invokespecial 1, 3) := by decide +kernel
theorem dX9_init_4 : decode cX9_init 4 = .ok (.return_, 1) := by decide +kernel
def armsF (ca : Nat → Nat)  (a : Nat → Nat) : Nat → va_E := fun k => ([.inr (0, [.ref (a 1)]), .inl (ca 1, 12, .inr (.inl kL))] : List va_E).getD k (.inr (0, []))
set_option maxHeartbeats 4000000 in
set_option maxRecDepth 100000 in
theorem kc_Arms {l : Launch} {D : va_G} {ca ss : Nat → Nat} (h0 : Nat)  : kMv l D ca ss yX0_init cX0_init 1 1 1 12 h0 (.inr (0, [.null])) [] 2 (armsF ca) := by
  refine kMv_of (by decide +kernel) rfl (Nat.le_of_ble_eq_true rfl) (lv0 := [(0, .ref h0)]) rfl (fun pT eT sT mT aT below meth cT AT QT C hin RT => ?_)
  have C : kX pT sT mT aT meth cT AT D ca ss 1 RX0 cX0_init none := C
  refine kj_aload_n C 0 dX0_init_0 rfl 0 rfl ?_
  refine kj_objInit C w_200 ⟨(Nat.le_of_ble_eq_true rfl), (Nat.le_of_ble_eq_true rfl)⟩ (Nat.le_of_ble_eq_true rfl) dX0_init_1 ?_
  refine kj_aload_n C 0 dX0_init_4 rfl 0 rfl ?_
  refine kj_bipush C (v := 12) (by decide) dX0_init_5 ?_
  refine kj_newl C (N' := 12) (by decide) (by decide) (by decide) (Nat.le_of_ble_eq_true rfl) (Nat.le_of_ble_eq_true rfl) dX0_init_7 (fun q1 => ?_)
  refine kj_ws (ws' := [(h0, .inr (0, [.null])), (q1, .inl (ca 1, 12, .inr (.inl kL)))]) rfl ?_
  refine kj_putF C hin 0 rfl inX0 rfl 0 (by decide) tyX0 tyX0_ok nmX0 w_201 rfl rfl (v := .ref q1) rfl rfl (Nat.le_of_ble_eq_true rfl) (ws' := [(h0, .inr (0, [.ref q1])), (q1, .inl (ca 1, 12, .inr (.inl kL)))]) rfl dX0_init_9 ?_
  exact RT (fun k => ([h0, q1] : List Nat).getD k 0) _ _ _ (by rw [k_wsl (M := 2) (L := [0, 1]) (by decide)]; rfl) rfl dX0_init_12
def dir12F (ca : Nat → Nat)  (a : Nat → Nat) : Nat → va_E := fun k => ([.inr (1, [.ref (a 1), .int 12, .int 0]), .inl (ca 0, 36, .inl (kI 0))] : List va_E).getD k (.inr (0, []))
set_option maxHeartbeats 4000000 in
set_option maxRecDepth 100000 in
theorem kc_Dir12 {l : Launch} {D : va_G} {ca ss : Nat → Nat} (h0 : Nat)  : kMv l D ca ss yX1_init cX1_init 2 1 1 36 h0 (.inr (1, [.null, .int 0, .int 0])) [.int 12] 2 (dir12F ca) := by
  refine kMv_of (by decide +kernel) rfl (Nat.le_of_ble_eq_true rfl) (lv0 := [(0, .ref h0), (1, .int 12)]) rfl (fun pT eT sT mT aT below meth cT AT QT C hin RT => ?_)
  have C : kX pT sT mT aT meth cT AT D ca ss 2 RX1 cX1_init none := C
  refine kj_aload_n C 0 dX1_init_0 rfl 0 rfl ?_
  refine kj_objInit C w_90 ⟨(Nat.le_of_ble_eq_true rfl), (Nat.le_of_ble_eq_true rfl)⟩ (Nat.le_of_ble_eq_true rfl) dX1_init_1 ?_
  refine kj_aload_n C 0 dX1_init_4 rfl 0 rfl ?_
  refine kj_iload_n C 1 dX1_init_5 rfl 1 rfl ?_
  refine kj_iconst C (v := 0) (by decide) dX1_init_6 ?_
  refine kj_mmax C w_91 w_92 w_57 w_93 ⟨(Nat.le_of_ble_eq_true rfl), (Nat.le_of_ble_eq_true rfl)⟩ ⟨(Nat.le_of_ble_eq_true rfl), (Nat.le_of_ble_eq_true rfl)⟩ (Nat.le_of_ble_eq_true rfl) dX1_init_7 ?_
  refine kj_seti (y := 12) (by decide) ?_
  refine kj_putF C hin 0 rfl inX1 rfl 1 (by decide) tyX1 tyX1_ok nmX1 w_95 rfl rfl (v := .int 12) rfl rfl (Nat.le_of_ble_eq_true rfl) (ws' := [(h0, .inr (1, [.null, .int 12, .int 0]))]) rfl dX1_init_10 ?_
  refine kj_aload_n C 0 dX1_init_13 rfl 0 rfl ?_
  refine kj_iconst C (v := 3) (by decide) dX1_init_14 ?_
  refine kj_aload_n C 0 dX1_init_15 rfl 0 rfl ?_
  refine kj_get C 0 rfl inX1 rfl 1 (by decide) w_95 (v := .int 12) rfl dX1_init_16 ?_
  refine kj_imul C dX1_init_19 ?_
  refine kj_seti (y := 36) (by decide) ?_
  refine kj_newi C (N' := 36) (by decide) (by decide) (by decide) (Nat.le_of_ble_eq_true rfl) (Nat.le_of_ble_eq_true rfl) dX1_init_20 (fun q1 => ?_)
  refine kj_ws (ws' := [(h0, .inr (1, [.null, .int 12, .int 0])), (q1, .inl (ca 0, 36, .inl (kI 0)))]) rfl ?_
  refine kj_putF C hin 0 rfl inX1 rfl 0 (by decide) tyX1 tyX1_ok nmX1 w_94 rfl rfl (v := .ref q1) rfl rfl (Nat.le_of_ble_eq_true rfl) (ws' := [(h0, .inr (1, [.ref q1, .int 12, .int 0])), (q1, .inl (ca 0, 36, .inl (kI 0)))]) rfl dX1_init_22 ?_
  exact RT (fun k => ([h0, q1] : List Nat).getD k 0) _ _ _ (by rw [k_wsl (M := 2) (L := [0, 1]) (by decide)]; rfl) rfl dX1_init_25
def dir8F (ca : Nat → Nat)  (a : Nat → Nat) : Nat → va_E := fun k => ([.inr (1, [.ref (a 1), .int 8, .int 0]), .inl (ca 0, 24, .inl (kI 0))] : List va_E).getD k (.inr (0, []))
set_option maxHeartbeats 4000000 in
set_option maxRecDepth 100000 in
theorem kc_Dir8 {l : Launch} {D : va_G} {ca ss : Nat → Nat} (h0 : Nat)  : kMv l D ca ss yX1_init cX1_init 2 1 1 24 h0 (.inr (1, [.null, .int 0, .int 0])) [.int 8] 2 (dir8F ca) := by
  refine kMv_of (by decide +kernel) rfl (Nat.le_of_ble_eq_true rfl) (lv0 := [(0, .ref h0), (1, .int 8)]) rfl (fun pT eT sT mT aT below meth cT AT QT C hin RT => ?_)
  have C : kX pT sT mT aT meth cT AT D ca ss 2 RX1 cX1_init none := C
  refine kj_aload_n C 0 dX1_init_0 rfl 0 rfl ?_
  refine kj_objInit C w_90 ⟨(Nat.le_of_ble_eq_true rfl), (Nat.le_of_ble_eq_true rfl)⟩ (Nat.le_of_ble_eq_true rfl) dX1_init_1 ?_
  refine kj_aload_n C 0 dX1_init_4 rfl 0 rfl ?_
  refine kj_iload_n C 1 dX1_init_5 rfl 1 rfl ?_
  refine kj_iconst C (v := 0) (by decide) dX1_init_6 ?_
  refine kj_mmax C w_91 w_92 w_57 w_93 ⟨(Nat.le_of_ble_eq_true rfl), (Nat.le_of_ble_eq_true rfl)⟩ ⟨(Nat.le_of_ble_eq_true rfl), (Nat.le_of_ble_eq_true rfl)⟩ (Nat.le_of_ble_eq_true rfl) dX1_init_7 ?_
  refine kj_seti (y := 8) (by decide) ?_
  refine kj_putF C hin 0 rfl inX1 rfl 1 (by decide) tyX1 tyX1_ok nmX1 w_95 rfl rfl (v := .int 8) rfl rfl (Nat.le_of_ble_eq_true rfl) (ws' := [(h0, .inr (1, [.null, .int 8, .int 0]))]) rfl dX1_init_10 ?_
  refine kj_aload_n C 0 dX1_init_13 rfl 0 rfl ?_
  refine kj_iconst C (v := 3) (by decide) dX1_init_14 ?_
  refine kj_aload_n C 0 dX1_init_15 rfl 0 rfl ?_
  refine kj_get C 0 rfl inX1 rfl 1 (by decide) w_95 (v := .int 8) rfl dX1_init_16 ?_
  refine kj_imul C dX1_init_19 ?_
  refine kj_seti (y := 24) (by decide) ?_
  refine kj_newi C (N' := 24) (by decide) (by decide) (by decide) (Nat.le_of_ble_eq_true rfl) (Nat.le_of_ble_eq_true rfl) dX1_init_20 (fun q1 => ?_)
  refine kj_ws (ws' := [(h0, .inr (1, [.null, .int 8, .int 0])), (q1, .inl (ca 0, 24, .inl (kI 0)))]) rfl ?_
  refine kj_putF C hin 0 rfl inX1 rfl 0 (by decide) tyX1 tyX1_ok nmX1 w_94 rfl rfl (v := .ref q1) rfl rfl (Nat.le_of_ble_eq_true rfl) (ws' := [(h0, .inr (1, [.ref q1, .int 8, .int 0])), (q1, .inl (ca 0, 24, .inl (kI 0)))]) rfl dX1_init_22 ?_
  exact RT (fun k => ([h0, q1] : List Nat).getD k 0) _ _ _ (by rw [k_wsl (M := 2) (L := [0, 1]) (by decide)]; rfl) rfl dX1_init_25
def fixF (ca : Nat → Nat)  (a : Nat → Nat) : Nat → va_E := fun k => ([.inr (2, [.ref (a 1), .ref (a 2), .ref (a 3), .ref (a 4), .ref (a 5), .ref (a 6), .ref (a 7), .ref (a 9), .int 0, .int 0, .int 0, .int 0]), .inl (ca 0, 8, .inl (kI 0)), .inl (ca 0, 8, .inl (kI 0)), .inl (ca 0, 8, .inl (kI 0)), .inl (ca 0, 8, .inl (kI 0)), .inl (ca 0, 8, .inl (kI 0)), .inl (ca 0, 36, .inl (kI 0)), .inr (0, [.ref (a 8)]), .inl (ca 1, 12, .inr (.inl kL)), .inr (0, [.ref (a 10)]), .inl (ca 1, 12, .inr (.inl kL))] : List va_E).getD k (.inr (0, []))
set_option maxHeartbeats 4000000 in
set_option maxRecDepth 100000 in
theorem kc_Fix {l : Launch} {D : va_G} {ca ss : Nat → Nat} (h0 : Nat)  : kMv l D ca ss yX2_init cX2_init 1 2 10 102 h0 (.inr (2, [.null, .null, .null, .null, .null, .null, .null, .null, .int 0, .int 0, .int 0, .int 0])) [] 11 (fixF ca) := by
  refine kMv_of (by decide +kernel) rfl (Nat.le_of_ble_eq_true rfl) (lv0 := [(0, .ref h0)]) rfl (fun pT eT sT mT aT below meth cT AT QT C hin RT => ?_)
  have C : kX pT sT mT aT meth cT AT D ca ss 1 RX2 cX2_init none := C
  refine kj_aload_n C 0 dX2_init_0 rfl 0 rfl ?_
  refine kj_objInit C w_194 ⟨(Nat.le_of_ble_eq_true rfl), (Nat.le_of_ble_eq_true rfl)⟩ (Nat.le_of_ble_eq_true rfl) dX2_init_1 ?_
  refine kj_aload_n C 0 dX2_init_4 rfl 0 rfl ?_
  refine kj_bipush C (v := 8) (by decide) dX2_init_5 ?_
  refine kj_newi C (N' := 8) (by decide) (by decide) (by decide) (Nat.le_of_ble_eq_true rfl) (Nat.le_of_ble_eq_true rfl) dX2_init_7 (fun q1 => ?_)
  refine kj_ws (ws' := [(h0, .inr (2, [.null, .null, .null, .null, .null, .null, .null, .null, .int 0, .int 0, .int 0, .int 0])), (q1, .inl (ca 0, 8, .inl (kI 0)))]) rfl ?_
  refine kj_putF C hin 0 rfl inX2 rfl 0 (by decide) tyX2 tyX2_ok nmX2 w_206 rfl rfl (v := .ref q1) rfl rfl (Nat.le_of_ble_eq_true rfl) (ws' := [(h0, .inr (2, [.ref q1, .null, .null, .null, .null, .null, .null, .null, .int 0, .int 0, .int 0, .int 0])), (q1, .inl (ca 0, 8, .inl (kI 0)))]) rfl dX2_init_9 ?_
  refine kj_aload_n C 0 dX2_init_12 rfl 0 rfl ?_
  refine kj_bipush C (v := 8) (by decide) dX2_init_13 ?_
  refine kj_newi C (N' := 8) (by decide) (by decide) (by decide) (Nat.le_of_ble_eq_true rfl) (Nat.le_of_ble_eq_true rfl) dX2_init_15 (fun q2 => ?_)
  refine kj_ws (ws' := [(h0, .inr (2, [.ref q1, .null, .null, .null, .null, .null, .null, .null, .int 0, .int 0, .int 0, .int 0])), (q1, .inl (ca 0, 8, .inl (kI 0))), (q2, .inl (ca 0, 8, .inl (kI 0)))]) rfl ?_
  refine kj_putF C hin 0 rfl inX2 rfl 1 (by decide) tyX2 tyX2_ok nmX2 w_208 rfl rfl (v := .ref q2) rfl rfl (Nat.le_of_ble_eq_true rfl) (ws' := [(h0, .inr (2, [.ref q1, .ref q2, .null, .null, .null, .null, .null, .null, .int 0, .int 0, .int 0, .int 0])), (q1, .inl (ca 0, 8, .inl (kI 0))), (q2, .inl (ca 0, 8, .inl (kI 0)))]) rfl dX2_init_17 ?_
  refine kj_aload_n C 0 dX2_init_20 rfl 0 rfl ?_
  refine kj_bipush C (v := 8) (by decide) dX2_init_21 ?_
  refine kj_newi C (N' := 8) (by decide) (by decide) (by decide) (Nat.le_of_ble_eq_true rfl) (Nat.le_of_ble_eq_true rfl) dX2_init_23 (fun q3 => ?_)
  refine kj_ws (ws' := [(h0, .inr (2, [.ref q1, .ref q2, .null, .null, .null, .null, .null, .null, .int 0, .int 0, .int 0, .int 0])), (q1, .inl (ca 0, 8, .inl (kI 0))), (q2, .inl (ca 0, 8, .inl (kI 0))), (q3, .inl (ca 0, 8, .inl (kI 0)))]) rfl ?_
  refine kj_putF C hin 0 rfl inX2 rfl 2 (by decide) tyX2 tyX2_ok nmX2 w_210 rfl rfl (v := .ref q3) rfl rfl (Nat.le_of_ble_eq_true rfl) (ws' := [(h0, .inr (2, [.ref q1, .ref q2, .ref q3, .null, .null, .null, .null, .null, .int 0, .int 0, .int 0, .int 0])), (q1, .inl (ca 0, 8, .inl (kI 0))), (q2, .inl (ca 0, 8, .inl (kI 0))), (q3, .inl (ca 0, 8, .inl (kI 0)))]) rfl dX2_init_25 ?_
  refine kj_aload_n C 0 dX2_init_28 rfl 0 rfl ?_
  refine kj_bipush C (v := 8) (by decide) dX2_init_29 ?_
  refine kj_newi C (N' := 8) (by decide) (by decide) (by decide) (Nat.le_of_ble_eq_true rfl) (Nat.le_of_ble_eq_true rfl) dX2_init_31 (fun q4 => ?_)
  refine kj_ws (ws' := [(h0, .inr (2, [.ref q1, .ref q2, .ref q3, .null, .null, .null, .null, .null, .int 0, .int 0, .int 0, .int 0])), (q1, .inl (ca 0, 8, .inl (kI 0))), (q2, .inl (ca 0, 8, .inl (kI 0))), (q3, .inl (ca 0, 8, .inl (kI 0))), (q4, .inl (ca 0, 8, .inl (kI 0)))]) rfl ?_
  refine kj_putF C hin 0 rfl inX2 rfl 3 (by decide) tyX2 tyX2_ok nmX2 w_211 rfl rfl (v := .ref q4) rfl rfl (Nat.le_of_ble_eq_true rfl) (ws' := [(h0, .inr (2, [.ref q1, .ref q2, .ref q3, .ref q4, .null, .null, .null, .null, .int 0, .int 0, .int 0, .int 0])), (q1, .inl (ca 0, 8, .inl (kI 0))), (q2, .inl (ca 0, 8, .inl (kI 0))), (q3, .inl (ca 0, 8, .inl (kI 0))), (q4, .inl (ca 0, 8, .inl (kI 0)))]) rfl dX2_init_33 ?_
  refine kj_aload_n C 0 dX2_init_36 rfl 0 rfl ?_
  refine kj_bipush C (v := 8) (by decide) dX2_init_37 ?_
  refine kj_newi C (N' := 8) (by decide) (by decide) (by decide) (Nat.le_of_ble_eq_true rfl) (Nat.le_of_ble_eq_true rfl) dX2_init_39 (fun q5 => ?_)
  refine kj_ws (ws' := [(h0, .inr (2, [.ref q1, .ref q2, .ref q3, .ref q4, .null, .null, .null, .null, .int 0, .int 0, .int 0, .int 0])), (q1, .inl (ca 0, 8, .inl (kI 0))), (q2, .inl (ca 0, 8, .inl (kI 0))), (q3, .inl (ca 0, 8, .inl (kI 0))), (q4, .inl (ca 0, 8, .inl (kI 0))), (q5, .inl (ca 0, 8, .inl (kI 0)))]) rfl ?_
  refine kj_putF C hin 0 rfl inX2 rfl 4 (by decide) tyX2 tyX2_ok nmX2 w_213 rfl rfl (v := .ref q5) rfl rfl (Nat.le_of_ble_eq_true rfl) (ws' := [(h0, .inr (2, [.ref q1, .ref q2, .ref q3, .ref q4, .ref q5, .null, .null, .null, .int 0, .int 0, .int 0, .int 0])), (q1, .inl (ca 0, 8, .inl (kI 0))), (q2, .inl (ca 0, 8, .inl (kI 0))), (q3, .inl (ca 0, 8, .inl (kI 0))), (q4, .inl (ca 0, 8, .inl (kI 0))), (q5, .inl (ca 0, 8, .inl (kI 0)))]) rfl dX2_init_41 ?_
  refine kj_aload_n C 0 dX2_init_44 rfl 0 rfl ?_
  refine kj_bipush C (v := 36) (by decide) dX2_init_45 ?_
  refine kj_newi C (N' := 36) (by decide) (by decide) (by decide) (Nat.le_of_ble_eq_true rfl) (Nat.le_of_ble_eq_true rfl) dX2_init_47 (fun q6 => ?_)
  refine kj_ws (ws' := [(h0, .inr (2, [.ref q1, .ref q2, .ref q3, .ref q4, .ref q5, .null, .null, .null, .int 0, .int 0, .int 0, .int 0])), (q1, .inl (ca 0, 8, .inl (kI 0))), (q2, .inl (ca 0, 8, .inl (kI 0))), (q3, .inl (ca 0, 8, .inl (kI 0))), (q4, .inl (ca 0, 8, .inl (kI 0))), (q5, .inl (ca 0, 8, .inl (kI 0))), (q6, .inl (ca 0, 36, .inl (kI 0)))]) rfl ?_
  refine kj_putF C hin 0 rfl inX2 rfl 5 (by decide) tyX2 tyX2_ok nmX2 w_215 rfl rfl (v := .ref q6) rfl rfl (Nat.le_of_ble_eq_true rfl) (ws' := [(h0, .inr (2, [.ref q1, .ref q2, .ref q3, .ref q4, .ref q5, .ref q6, .null, .null, .int 0, .int 0, .int 0, .int 0])), (q1, .inl (ca 0, 8, .inl (kI 0))), (q2, .inl (ca 0, 8, .inl (kI 0))), (q3, .inl (ca 0, 8, .inl (kI 0))), (q4, .inl (ca 0, 8, .inl (kI 0))), (q5, .inl (ca 0, 8, .inl (kI 0))), (q6, .inl (ca 0, 36, .inl (kI 0)))]) rfl dX2_init_49 ?_
  refine kj_aload_n C 0 dX2_init_52 rfl 0 rfl ?_
  refine kj_new C (ci := 0) inX0 tyX0 tyX0_ok w_195 w_196 w_64 rfl (fs := [.null]) (fun j hj => by rcases (show j = 0 by omega) with rfl <;> rfl) (Nat.le_of_ble_eq_true rfl) (Nat.le_of_ble_eq_true rfl) dX2_init_53 (fun q7 => ?_)
  refine kj_ws (ws' := [(h0, .inr (2, [.ref q1, .ref q2, .ref q3, .ref q4, .ref q5, .ref q6, .null, .null, .int 0, .int 0, .int 0, .int 0])), (q1, .inl (ca 0, 8, .inl (kI 0))), (q2, .inl (ca 0, 8, .inl (kI 0))), (q3, .inl (ca 0, 8, .inl (kI 0))), (q4, .inl (ca 0, 8, .inl (kI 0))), (q5, .inl (ca 0, 8, .inl (kI 0))), (q6, .inl (ca 0, 36, .inl (kI 0))), (q7, .inr (0, [.null]))]) rfl ?_
  refine kj_dup C rfl dX2_init_56 ?_
  refine kj_initN C 7 [0, 1, 2, 3, 4, 5, 6] rfl (wr := [(h0, .inr (2, [.ref q1, .ref q2, .ref q3, .ref q4, .ref q5, .ref q6, .null, .null, .int 0, .int 0, .int 0, .int 0])), (q1, .inl (ca 0, 8, .inl (kI 0))), (q2, .inl (ca 0, 8, .inl (kI 0))), (q3, .inl (ca 0, 8, .inl (kI 0))), (q4, .inl (ca 0, 8, .inl (kI 0))), (q5, .inl (ca 0, 8, .inl (kI 0))), (q6, .inl (ca 0, 36, .inl (kI 0)))]) rfl (by decide) (by decide) (kc_Arms q7) w_197 w_198 rfl mc_X0_init ⟨(Nat.le_of_ble_eq_true rfl), (Nat.le_of_ble_eq_true rfl)⟩ ⟨(Nat.le_of_ble_eq_true rfl), (Nat.le_of_ble_eq_true rfl)⟩ (rest := [.ref q7, .ref h0]) rfl (Nat.le_of_ble_eq_true rfl) dX2_init_57 (fun a8 ha8 => ?_)
  subst ha8
  refine kj_ws (ws' := [(h0, .inr (2, [.ref q1, .ref q2, .ref q3, .ref q4, .ref q5, .ref q6, .null, .null, .int 0, .int 0, .int 0, .int 0])), (q1, .inl (ca 0, 8, .inl (kI 0))), (q2, .inl (ca 0, 8, .inl (kI 0))), (q3, .inl (ca 0, 8, .inl (kI 0))), (q4, .inl (ca 0, 8, .inl (kI 0))), (q5, .inl (ca 0, 8, .inl (kI 0))), (q6, .inl (ca 0, 36, .inl (kI 0))), ((a8 0), .inr (0, [.ref (a8 1)])), ((a8 1), .inl (ca 1, 12, .inr (.inl kL)))]) (by rw [k_wsl (M := 2) (L := [0, 1]) (by decide)]; rfl) ?_
  refine kj_putF C hin 0 rfl inX2 rfl 6 (by decide) tyX2 tyX2_ok nmX2 w_217 rfl rfl (v := .ref (a8 0)) rfl rfl (Nat.le_of_ble_eq_true rfl) (ws' := [(h0, .inr (2, [.ref q1, .ref q2, .ref q3, .ref q4, .ref q5, .ref q6, .ref (a8 0), .null, .int 0, .int 0, .int 0, .int 0])), (q1, .inl (ca 0, 8, .inl (kI 0))), (q2, .inl (ca 0, 8, .inl (kI 0))), (q3, .inl (ca 0, 8, .inl (kI 0))), (q4, .inl (ca 0, 8, .inl (kI 0))), (q5, .inl (ca 0, 8, .inl (kI 0))), (q6, .inl (ca 0, 36, .inl (kI 0))), ((a8 0), .inr (0, [.ref (a8 1)])), ((a8 1), .inl (ca 1, 12, .inr (.inl kL)))]) rfl dX2_init_60 ?_
  refine kj_aload_n C 0 dX2_init_63 rfl 0 rfl ?_
  refine kj_new C (ci := 0) inX0 tyX0 tyX0_ok w_195 w_196 w_64 rfl (fs := [.null]) (fun j hj => by rcases (show j = 0 by omega) with rfl <;> rfl) (Nat.le_of_ble_eq_true rfl) (Nat.le_of_ble_eq_true rfl) dX2_init_64 (fun q9 => ?_)
  refine kj_ws (ws' := [(h0, .inr (2, [.ref q1, .ref q2, .ref q3, .ref q4, .ref q5, .ref q6, .ref (a8 0), .null, .int 0, .int 0, .int 0, .int 0])), (q1, .inl (ca 0, 8, .inl (kI 0))), (q2, .inl (ca 0, 8, .inl (kI 0))), (q3, .inl (ca 0, 8, .inl (kI 0))), (q4, .inl (ca 0, 8, .inl (kI 0))), (q5, .inl (ca 0, 8, .inl (kI 0))), (q6, .inl (ca 0, 36, .inl (kI 0))), ((a8 0), .inr (0, [.ref (a8 1)])), ((a8 1), .inl (ca 1, 12, .inr (.inl kL))), (q9, .inr (0, [.null]))]) rfl ?_
  refine kj_dup C rfl dX2_init_67 ?_
  refine kj_initN C 9 [0, 1, 2, 3, 4, 5, 6, 7, 8] rfl (wr := [(h0, .inr (2, [.ref q1, .ref q2, .ref q3, .ref q4, .ref q5, .ref q6, .ref (a8 0), .null, .int 0, .int 0, .int 0, .int 0])), (q1, .inl (ca 0, 8, .inl (kI 0))), (q2, .inl (ca 0, 8, .inl (kI 0))), (q3, .inl (ca 0, 8, .inl (kI 0))), (q4, .inl (ca 0, 8, .inl (kI 0))), (q5, .inl (ca 0, 8, .inl (kI 0))), (q6, .inl (ca 0, 36, .inl (kI 0))), ((a8 0), .inr (0, [.ref (a8 1)])), ((a8 1), .inl (ca 1, 12, .inr (.inl kL)))]) rfl (by decide) (by decide) (kc_Arms q9) w_197 w_198 rfl mc_X0_init ⟨(Nat.le_of_ble_eq_true rfl), (Nat.le_of_ble_eq_true rfl)⟩ ⟨(Nat.le_of_ble_eq_true rfl), (Nat.le_of_ble_eq_true rfl)⟩ (rest := [.ref q9, .ref h0]) rfl (Nat.le_of_ble_eq_true rfl) dX2_init_68 (fun a10 ha10 => ?_)
  subst ha10
  refine kj_ws (ws' := [(h0, .inr (2, [.ref q1, .ref q2, .ref q3, .ref q4, .ref q5, .ref q6, .ref (a8 0), .null, .int 0, .int 0, .int 0, .int 0])), (q1, .inl (ca 0, 8, .inl (kI 0))), (q2, .inl (ca 0, 8, .inl (kI 0))), (q3, .inl (ca 0, 8, .inl (kI 0))), (q4, .inl (ca 0, 8, .inl (kI 0))), (q5, .inl (ca 0, 8, .inl (kI 0))), (q6, .inl (ca 0, 36, .inl (kI 0))), ((a8 0), .inr (0, [.ref (a8 1)])), ((a8 1), .inl (ca 1, 12, .inr (.inl kL))), ((a10 0), .inr (0, [.ref (a10 1)])), ((a10 1), .inl (ca 1, 12, .inr (.inl kL)))]) (by rw [k_wsl (M := 2) (L := [0, 1]) (by decide)]; rfl) ?_
  refine kj_putF C hin 0 rfl inX2 rfl 7 (by decide) tyX2 tyX2_ok nmX2 w_218 rfl rfl (v := .ref (a10 0)) rfl rfl (Nat.le_of_ble_eq_true rfl) (ws' := [(h0, .inr (2, [.ref q1, .ref q2, .ref q3, .ref q4, .ref q5, .ref q6, .ref (a8 0), .ref (a10 0), .int 0, .int 0, .int 0, .int 0])), (q1, .inl (ca 0, 8, .inl (kI 0))), (q2, .inl (ca 0, 8, .inl (kI 0))), (q3, .inl (ca 0, 8, .inl (kI 0))), (q4, .inl (ca 0, 8, .inl (kI 0))), (q5, .inl (ca 0, 8, .inl (kI 0))), (q6, .inl (ca 0, 36, .inl (kI 0))), ((a8 0), .inr (0, [.ref (a8 1)])), ((a8 1), .inl (ca 1, 12, .inr (.inl kL))), ((a10 0), .inr (0, [.ref (a10 1)])), ((a10 1), .inl (ca 1, 12, .inr (.inl kL)))]) rfl dX2_init_71 ?_
  exact RT (fun k => ([h0, q1, q2, q3, q4, q5, q6, (a8 0), (a8 1), (a10 0), (a10 1)] : List Nat).getD k 0) _ _ _ (by rw [k_wsl (M := 11) (L := [0, 1, 2, 3, 4, 5, 6, 7, 8, 9, 10]) (by decide)]; rfl) rfl dX2_init_74
def matF (ca : Nat → Nat)  (a : Nat → Nat) : Nat → va_E := fun k => ([.inr (3, [.ref (a 1), .ref (a 2), .ref (a 3), .ref (a 4), .int 0, .int 0]), .inl (ca 0, 144, .inl (kI 0)), .inl (ca 0, 64, .inl (kI 0)), .inl (ca 0, 660, .inl (kI 0)), .inl (ca 0, 660, .inl (kI 0))] : List va_E).getD k (.inr (0, []))
set_option maxHeartbeats 4000000 in
set_option maxRecDepth 100000 in
theorem kc_Mat {l : Launch} {D : va_G} {ca ss : Nat → Nat} (h0 : Nat)  : kMv l D ca ss yX3_init cX3_init 1 1 4 1528 h0 (.inr (3, [.null, .null, .null, .null, .int 0, .int 0])) [] 5 (matF ca) := by
  refine kMv_of (by decide +kernel) rfl (Nat.le_of_ble_eq_true rfl) (lv0 := [(0, .ref h0)]) rfl (fun pT eT sT mT aT below meth cT AT QT C hin RT => ?_)
  have C : kX pT sT mT aT meth cT AT D ca ss 1 RX3 cX3_init none := C
  refine kj_aload_n C 0 dX3_init_0 rfl 0 rfl ?_
  refine kj_objInit C w_119 ⟨(Nat.le_of_ble_eq_true rfl), (Nat.le_of_ble_eq_true rfl)⟩ (Nat.le_of_ble_eq_true rfl) dX3_init_1 ?_
  refine kj_aload_n C 0 dX3_init_4 rfl 0 rfl ?_
  refine kj_sipush C (v := 144) (by decide) dX3_init_5 ?_
  refine kj_newi C (N' := 144) (by decide) (by decide) (by decide) (Nat.le_of_ble_eq_true rfl) (Nat.le_of_ble_eq_true rfl) dX3_init_8 (fun q1 => ?_)
  refine kj_ws (ws' := [(h0, .inr (3, [.null, .null, .null, .null, .int 0, .int 0])), (q1, .inl (ca 0, 144, .inl (kI 0)))]) rfl ?_
  refine kj_putF C hin 0 rfl inX3 rfl 0 (by decide) tyX3 tyX3_ok nmX3 w_120 rfl rfl (v := .ref q1) rfl rfl (Nat.le_of_ble_eq_true rfl) (ws' := [(h0, .inr (3, [.ref q1, .null, .null, .null, .int 0, .int 0])), (q1, .inl (ca 0, 144, .inl (kI 0)))]) rfl dX3_init_10 ?_
  refine kj_aload_n C 0 dX3_init_13 rfl 0 rfl ?_
  refine kj_bipush C (v := 64) (by decide) dX3_init_14 ?_
  refine kj_newi C (N' := 64) (by decide) (by decide) (by decide) (Nat.le_of_ble_eq_true rfl) (Nat.le_of_ble_eq_true rfl) dX3_init_16 (fun q2 => ?_)
  refine kj_ws (ws' := [(h0, .inr (3, [.ref q1, .null, .null, .null, .int 0, .int 0])), (q1, .inl (ca 0, 144, .inl (kI 0))), (q2, .inl (ca 0, 64, .inl (kI 0)))]) rfl ?_
  refine kj_putF C hin 0 rfl inX3 rfl 1 (by decide) tyX3 tyX3_ok nmX3 w_121 rfl rfl (v := .ref q2) rfl rfl (Nat.le_of_ble_eq_true rfl) (ws' := [(h0, .inr (3, [.ref q1, .ref q2, .null, .null, .int 0, .int 0])), (q1, .inl (ca 0, 144, .inl (kI 0))), (q2, .inl (ca 0, 64, .inl (kI 0)))]) rfl dX3_init_18 ?_
  refine kj_aload_n C 0 dX3_init_21 rfl 0 rfl ?_
  refine kj_sipush C (v := 660) (by decide) dX3_init_22 ?_
  refine kj_newi C (N' := 660) (by decide) (by decide) (by decide) (Nat.le_of_ble_eq_true rfl) (Nat.le_of_ble_eq_true rfl) dX3_init_25 (fun q3 => ?_)
  refine kj_ws (ws' := [(h0, .inr (3, [.ref q1, .ref q2, .null, .null, .int 0, .int 0])), (q1, .inl (ca 0, 144, .inl (kI 0))), (q2, .inl (ca 0, 64, .inl (kI 0))), (q3, .inl (ca 0, 660, .inl (kI 0)))]) rfl ?_
  refine kj_putF C hin 0 rfl inX3 rfl 2 (by decide) tyX3 tyX3_ok nmX3 w_122 rfl rfl (v := .ref q3) rfl rfl (Nat.le_of_ble_eq_true rfl) (ws' := [(h0, .inr (3, [.ref q1, .ref q2, .ref q3, .null, .int 0, .int 0])), (q1, .inl (ca 0, 144, .inl (kI 0))), (q2, .inl (ca 0, 64, .inl (kI 0))), (q3, .inl (ca 0, 660, .inl (kI 0)))]) rfl dX3_init_27 ?_
  refine kj_aload_n C 0 dX3_init_30 rfl 0 rfl ?_
  refine kj_sipush C (v := 660) (by decide) dX3_init_31 ?_
  refine kj_newi C (N' := 660) (by decide) (by decide) (by decide) (Nat.le_of_ble_eq_true rfl) (Nat.le_of_ble_eq_true rfl) dX3_init_34 (fun q4 => ?_)
  refine kj_ws (ws' := [(h0, .inr (3, [.ref q1, .ref q2, .ref q3, .null, .int 0, .int 0])), (q1, .inl (ca 0, 144, .inl (kI 0))), (q2, .inl (ca 0, 64, .inl (kI 0))), (q3, .inl (ca 0, 660, .inl (kI 0))), (q4, .inl (ca 0, 660, .inl (kI 0)))]) rfl ?_
  refine kj_putF C hin 0 rfl inX3 rfl 3 (by decide) tyX3 tyX3_ok nmX3 w_123 rfl rfl (v := .ref q4) rfl rfl (Nat.le_of_ble_eq_true rfl) (ws' := [(h0, .inr (3, [.ref q1, .ref q2, .ref q3, .ref q4, .int 0, .int 0])), (q1, .inl (ca 0, 144, .inl (kI 0))), (q2, .inl (ca 0, 64, .inl (kI 0))), (q3, .inl (ca 0, 660, .inl (kI 0))), (q4, .inl (ca 0, 660, .inl (kI 0)))]) rfl dX3_init_36 ?_
  exact RT (fun k => ([h0, q1, q2, q3, q4] : List Nat).getD k 0) _ _ _ (by rw [k_wsl (M := 5) (L := [0, 1, 2, 3, 4]) (by decide)]; rfl) rfl dX3_init_39
set_option maxHeartbeats 4000000 in
set_option maxRecDepth 100000 in
theorem kc_Tally {l : Launch} {D : va_G} {ca ss : Nat → Nat} (h0 : Nat) (e0 : va_E) : kMv l D ca ss yX9_init cX9_init 1 1 0 0 h0 (e0) [] 1 (fun _ _ => e0) := by
  refine kMv_of (by decide +kernel) rfl (Nat.le_of_ble_eq_true rfl) (lv0 := [(0, .ref h0)]) rfl (fun pT eT sT mT aT below meth cT AT QT C hin RT => ?_)
  have C : kX pT sT mT aT meth cT AT D ca ss 1 RX9 cX9_init none := C
  refine kj_aload_n C 0 dX9_init_0 rfl 0 rfl ?_
  refine kj_objInit C w_148 ⟨(Nat.le_of_ble_eq_true rfl), (Nat.le_of_ble_eq_true rfl)⟩ (Nat.le_of_ble_eq_true rfl) dX9_init_1 ?_
  exact RT (fun k => ([h0] : List Nat).getD k 0) _ _ _ (by rw [k_wsl (M := 1) (L := [0]) (by decide)]; rfl) rfl dX9_init_4
def plF_ (ca : Nat → Nat)  (a : Nat → Nat) : Nat → va_E := fun k => ([.inr (4, [.ref (a 1), .int 0, .int 0]), .inl (ca 0, 96, .inl (kI 0))] : List va_E).getD k (.inr (0, []))
set_option maxHeartbeats 4000000 in
set_option maxRecDepth 100000 in
theorem kc_Pl {l : Launch} {D : va_G} {ca ss : Nat → Nat} (h0 : Nat)  : kMv l D ca ss yX4_init cX4_init 1 2 1 96 h0 (.inr (4, [.null, .int 0, .int 0])) [] 2 (plF_ ca) := by
  refine kMv_of (by decide +kernel) rfl (Nat.le_of_ble_eq_true rfl) (lv0 := [(0, .ref h0)]) rfl (fun pT eT sT mT aT below meth cT AT QT C hin RT => ?_)
  have C : kX pT sT mT aT meth cT AT D ca ss 1 RX4 cX4_init none := C
  refine kj_aload_n C 0 dX4_init_0 rfl 0 rfl ?_
  refine kj_initN C 0 [] rfl (wr := []) rfl (by decide) (by decide) (kc_Tally h0 (.inr (4, [.null, .int 0, .int 0]))) w_145 w_146 rfl mc_X9_init ⟨(Nat.le_of_ble_eq_true rfl), (Nat.le_of_ble_eq_true rfl)⟩ ⟨(Nat.le_of_ble_eq_true rfl), (Nat.le_of_ble_eq_true rfl)⟩ (rest := []) rfl (Nat.le_of_ble_eq_true rfl) dX4_init_1 (fun a1 ha1 => ?_)
  refine kj_ws (ws' := [((a1 0), .inr (4, [.null, .int 0, .int 0]))]) rfl ?_
  refine kj_ws (ws' := [(h0, .inr (4, [.null, .int 0, .int 0]))]) (by rw [ha1]) ?_
  refine kj_aload_n C 0 dX4_init_4 rfl 0 rfl ?_
  refine kj_bipush C (v := 96) (by decide) dX4_init_5 ?_
  refine kj_newi C (N' := 96) (by decide) (by decide) (by decide) (Nat.le_of_ble_eq_true rfl) (Nat.le_of_ble_eq_true rfl) dX4_init_7 (fun q2 => ?_)
  refine kj_ws (ws' := [(h0, .inr (4, [.null, .int 0, .int 0])), (q2, .inl (ca 0, 96, .inl (kI 0)))]) rfl ?_
  refine kj_putF C hin 0 rfl inX4 rfl 0 (by decide) tyX4 tyX4_ok nmX4 w_149 rfl rfl (v := .ref q2) rfl rfl (Nat.le_of_ble_eq_true rfl) (ws' := [(h0, .inr (4, [.ref q2, .int 0, .int 0])), (q2, .inl (ca 0, 96, .inl (kI 0)))]) rfl dX4_init_9 ?_
  exact RT (fun k => ([h0, q2] : List Nat).getD k 0) _ _ _ (by rw [k_wsl (M := 2) (L := [0, 1]) (by decide)]; rfl) rfl dX4_init_12
def stepF (ca : Nat → Nat)  (a : Nat → Nat) : Nat → va_E := fun k => ([.inr (8, [.ref (a 1)]), .inl (ca 5, 21, .inr (.inr (.inr (.inr (qR a 2))))), .inl (ca 0, 96, .inl (kI 0)), .inl (ca 0, 96, .inl (kI 0)), .inl (ca 0, 96, .inl (kI 0)), .inl (ca 0, 96, .inl (kI 0)), .inl (ca 0, 96, .inl (kI 0)), .inl (ca 0, 96, .inl (kI 0)), .inl (ca 0, 96, .inl (kI 0)), .inl (ca 0, 96, .inl (kI 0)), .inl (ca 0, 96, .inl (kI 0)), .inl (ca 0, 96, .inl (kI 0)), .inl (ca 0, 96, .inl (kI 0)), .inl (ca 0, 96, .inl (kI 0)), .inl (ca 0, 96, .inl (kI 0)), .inl (ca 0, 96, .inl (kI 0)), .inl (ca 0, 96, .inl (kI 0)), .inl (ca 0, 96, .inl (kI 0)), .inl (ca 0, 96, .inl (kI 0)), .inl (ca 0, 96, .inl (kI 0)), .inl (ca 0, 96, .inl (kI 0)), .inl (ca 0, 96, .inl (kI 0)), .inl (ca 0, 96, .inl (kI 0))] : List va_E).getD k (.inr (0, []))
set_option maxHeartbeats 4000000 in
set_option maxRecDepth 100000 in
theorem kc_Step {l : Launch} {D : va_G} {ca ss : Nat → Nat} (h0 : Nat)  : kMv l D ca ss yX8_init cX8_init 1 2 22 2037 h0 (.inr (8, [.null])) [] 23 (stepF ca) := by
  refine kMv_of (by decide +kernel) rfl (Nat.le_of_ble_eq_true rfl) (lv0 := [(0, .ref h0)]) rfl (fun pT eT sT mT aT below meth cT AT QT C hin RT => ?_)
  have C : kX pT sT mT aT meth cT AT D ca ss 1 RX8 cX8_init none := C
  refine kj_aload_n C 0 dX8_init_0 rfl 0 rfl ?_
  refine kj_initN C 0 [] rfl (wr := []) rfl (by decide) (by decide) (kc_Tally h0 (.inr (8, [.null]))) w_167 w_146 rfl mc_X9_init ⟨(Nat.le_of_ble_eq_true rfl), (Nat.le_of_ble_eq_true rfl)⟩ ⟨(Nat.le_of_ble_eq_true rfl), (Nat.le_of_ble_eq_true rfl)⟩ (rest := []) rfl (Nat.le_of_ble_eq_true rfl) dX8_init_1 (fun a1 ha1 => ?_)
  refine kj_ws (ws' := [((a1 0), .inr (8, [.null]))]) rfl ?_
  refine kj_ws (ws' := [(h0, .inr (8, [.null]))]) (by rw [ha1]) ?_
  refine kj_aload_n C 0 dX8_init_4 rfl 0 rfl ?_
  refine kj_bipush C (v := 21) (by decide) dX8_init_5 ?_
  refine kj_bipush C (v := 96) (by decide) dX8_init_7 ?_
  refine kj_mna C (N' := 21) (K' := 96) w_168 (by decide) (by decide) (by decide) (by decide) (Nat.le_of_ble_eq_true rfl) (Nat.le_of_ble_eq_true rfl) (Nat.le_of_ble_eq_true rfl) (Nat.le_of_ble_eq_true rfl) dX8_init_9 (fun q2 r3 => ?_)
  refine kj_ws (ws' := [(h0, .inr (8, [.null])), (q2, .inl (ca 5, 21, .inr (.inr (.inr (.inr (fun k => some (r3 k))))))), ((r3 0), .inl (ca 0, 96, .inl (kI 0))), ((r3 1), .inl (ca 0, 96, .inl (kI 0))), ((r3 2), .inl (ca 0, 96, .inl (kI 0))), ((r3 3), .inl (ca 0, 96, .inl (kI 0))), ((r3 4), .inl (ca 0, 96, .inl (kI 0))), ((r3 5), .inl (ca 0, 96, .inl (kI 0))), ((r3 6), .inl (ca 0, 96, .inl (kI 0))), ((r3 7), .inl (ca 0, 96, .inl (kI 0))), ((r3 8), .inl (ca 0, 96, .inl (kI 0))), ((r3 9), .inl (ca 0, 96, .inl (kI 0))), ((r3 10), .inl (ca 0, 96, .inl (kI 0))), ((r3 11), .inl (ca 0, 96, .inl (kI 0))), ((r3 12), .inl (ca 0, 96, .inl (kI 0))), ((r3 13), .inl (ca 0, 96, .inl (kI 0))), ((r3 14), .inl (ca 0, 96, .inl (kI 0))), ((r3 15), .inl (ca 0, 96, .inl (kI 0))), ((r3 16), .inl (ca 0, 96, .inl (kI 0))), ((r3 17), .inl (ca 0, 96, .inl (kI 0))), ((r3 18), .inl (ca 0, 96, .inl (kI 0))), ((r3 19), .inl (ca 0, 96, .inl (kI 0))), ((r3 20), .inl (ca 0, 96, .inl (kI 0)))]) (by rw [show List.range 21 = [0, 1, 2, 3, 4, 5, 6, 7, 8, 9, 10, 11, 12, 13, 14, 15, 16, 17, 18, 19, 20] from by decide]; rfl) ?_
  refine kj_putF C hin 0 rfl inX8 rfl 0 (by decide) tyX8 tyX8_ok nmX8 w_170 rfl rfl (v := .ref q2) rfl rfl (Nat.le_of_ble_eq_true rfl) (ws' := [(h0, .inr (8, [.ref q2])), (q2, .inl (ca 5, 21, .inr (.inr (.inr (.inr (fun k => some (r3 k))))))), ((r3 0), .inl (ca 0, 96, .inl (kI 0))), ((r3 1), .inl (ca 0, 96, .inl (kI 0))), ((r3 2), .inl (ca 0, 96, .inl (kI 0))), ((r3 3), .inl (ca 0, 96, .inl (kI 0))), ((r3 4), .inl (ca 0, 96, .inl (kI 0))), ((r3 5), .inl (ca 0, 96, .inl (kI 0))), ((r3 6), .inl (ca 0, 96, .inl (kI 0))), ((r3 7), .inl (ca 0, 96, .inl (kI 0))), ((r3 8), .inl (ca 0, 96, .inl (kI 0))), ((r3 9), .inl (ca 0, 96, .inl (kI 0))), ((r3 10), .inl (ca 0, 96, .inl (kI 0))), ((r3 11), .inl (ca 0, 96, .inl (kI 0))), ((r3 12), .inl (ca 0, 96, .inl (kI 0))), ((r3 13), .inl (ca 0, 96, .inl (kI 0))), ((r3 14), .inl (ca 0, 96, .inl (kI 0))), ((r3 15), .inl (ca 0, 96, .inl (kI 0))), ((r3 16), .inl (ca 0, 96, .inl (kI 0))), ((r3 17), .inl (ca 0, 96, .inl (kI 0))), ((r3 18), .inl (ca 0, 96, .inl (kI 0))), ((r3 19), .inl (ca 0, 96, .inl (kI 0))), ((r3 20), .inl (ca 0, 96, .inl (kI 0)))]) rfl dX8_init_13 ?_
  refine kj_ext 1 (y := .inr (.inr (.inr (.inr (qR (fun k => ([h0, q2, (r3 0), (r3 1), (r3 2), (r3 3), (r3 4), (r3 5), (r3 6), (r3 7), (r3 8), (r3 9), (r3 10), (r3 11), (r3 12), (r3 13), (r3 14), (r3 15), (r3 16), (r3 17), (r3 18), (r3 19), (r3 20)] : List Nat).getD k 0) 2))))) rfl (vp_q_ext (fun j hj => match j, hj with | 0, _ => rfl | 1, _ => rfl | 2, _ => rfl | 3, _ => rfl | 4, _ => rfl | 5, _ => rfl | 6, _ => rfl | 7, _ => rfl | 8, _ => rfl | 9, _ => rfl | 10, _ => rfl | 11, _ => rfl | 12, _ => rfl | 13, _ => rfl | 14, _ => rfl | 15, _ => rfl | 16, _ => rfl | 17, _ => rfl | 18, _ => rfl | 19, _ => rfl | 20, _ => rfl | j + 21, hj => absurd hj (by omega))) (ws' := [(h0, .inr (8, [.ref q2])), (q2, .inl (ca 5, 21, .inr (.inr (.inr (.inr (qR (fun k => ([h0, q2, (r3 0), (r3 1), (r3 2), (r3 3), (r3 4), (r3 5), (r3 6), (r3 7), (r3 8), (r3 9), (r3 10), (r3 11), (r3 12), (r3 13), (r3 14), (r3 15), (r3 16), (r3 17), (r3 18), (r3 19), (r3 20)] : List Nat).getD k 0) 2)))))), ((r3 0), .inl (ca 0, 96, .inl (kI 0))), ((r3 1), .inl (ca 0, 96, .inl (kI 0))), ((r3 2), .inl (ca 0, 96, .inl (kI 0))), ((r3 3), .inl (ca 0, 96, .inl (kI 0))), ((r3 4), .inl (ca 0, 96, .inl (kI 0))), ((r3 5), .inl (ca 0, 96, .inl (kI 0))), ((r3 6), .inl (ca 0, 96, .inl (kI 0))), ((r3 7), .inl (ca 0, 96, .inl (kI 0))), ((r3 8), .inl (ca 0, 96, .inl (kI 0))), ((r3 9), .inl (ca 0, 96, .inl (kI 0))), ((r3 10), .inl (ca 0, 96, .inl (kI 0))), ((r3 11), .inl (ca 0, 96, .inl (kI 0))), ((r3 12), .inl (ca 0, 96, .inl (kI 0))), ((r3 13), .inl (ca 0, 96, .inl (kI 0))), ((r3 14), .inl (ca 0, 96, .inl (kI 0))), ((r3 15), .inl (ca 0, 96, .inl (kI 0))), ((r3 16), .inl (ca 0, 96, .inl (kI 0))), ((r3 17), .inl (ca 0, 96, .inl (kI 0))), ((r3 18), .inl (ca 0, 96, .inl (kI 0))), ((r3 19), .inl (ca 0, 96, .inl (kI 0))), ((r3 20), .inl (ca 0, 96, .inl (kI 0)))]) rfl ?_
  exact RT (fun k => ([h0, q2, (r3 0), (r3 1), (r3 2), (r3 3), (r3 4), (r3 5), (r3 6), (r3 7), (r3 8), (r3 9), (r3 10), (r3 11), (r3 12), (r3 13), (r3 14), (r3 15), (r3 16), (r3 17), (r3 18), (r3 19), (r3 20)] : List Nat).getD k 0) _ _ _ (by rw [k_wsl (M := 23) (L := [0, 1, 2, 3, 4, 5, 6, 7, 8, 9, 10, 11, 12, 13, 14, 15, 16, 17, 18, 19, 20, 21, 22]) (by decide)]; rfl) rfl dX8_init_16
def spareF (ca : Nat → Nat)  (a : Nat → Nat) : Nat → va_E := fun k => ([.inr (7, [.ref (a 1), .int 0]), .inl (ca 5, 8, .inr (.inr (.inr (.inr (qR a 2))))), .inl (ca 0, 96, .inl (kI 0)), .inl (ca 0, 96, .inl (kI 0)), .inl (ca 0, 96, .inl (kI 0)), .inl (ca 0, 96, .inl (kI 0)), .inl (ca 0, 96, .inl (kI 0)), .inl (ca 0, 96, .inl (kI 0)), .inl (ca 0, 96, .inl (kI 0)), .inl (ca 0, 96, .inl (kI 0))] : List va_E).getD k (.inr (0, []))
set_option maxHeartbeats 4000000 in
set_option maxRecDepth 100000 in
theorem kc_Spare {l : Launch} {D : va_G} {ca ss : Nat → Nat} (h0 : Nat)  : kMv l D ca ss yX7_init cX7_init 1 2 9 776 h0 (.inr (7, [.null, .int 0])) [] 10 (spareF ca) := by
  refine kMv_of (by decide +kernel) rfl (Nat.le_of_ble_eq_true rfl) (lv0 := [(0, .ref h0)]) rfl (fun pT eT sT mT aT below meth cT AT QT C hin RT => ?_)
  have C : kX pT sT mT aT meth cT AT D ca ss 1 RX7 cX7_init none := C
  refine kj_aload_n C 0 dX7_init_0 rfl 0 rfl ?_
  refine kj_initN C 0 [] rfl (wr := []) rfl (by decide) (by decide) (kc_Tally h0 (.inr (7, [.null, .int 0]))) w_179 w_146 rfl mc_X9_init ⟨(Nat.le_of_ble_eq_true rfl), (Nat.le_of_ble_eq_true rfl)⟩ ⟨(Nat.le_of_ble_eq_true rfl), (Nat.le_of_ble_eq_true rfl)⟩ (rest := []) rfl (Nat.le_of_ble_eq_true rfl) dX7_init_1 (fun a1 ha1 => ?_)
  refine kj_ws (ws' := [((a1 0), .inr (7, [.null, .int 0]))]) rfl ?_
  refine kj_ws (ws' := [(h0, .inr (7, [.null, .int 0]))]) (by rw [ha1]) ?_
  refine kj_aload_n C 0 dX7_init_4 rfl 0 rfl ?_
  refine kj_bipush C (v := 8) (by decide) dX7_init_5 ?_
  refine kj_bipush C (v := 96) (by decide) dX7_init_7 ?_
  refine kj_mna C (N' := 8) (K' := 96) w_180 (by decide) (by decide) (by decide) (by decide) (Nat.le_of_ble_eq_true rfl) (Nat.le_of_ble_eq_true rfl) (Nat.le_of_ble_eq_true rfl) (Nat.le_of_ble_eq_true rfl) dX7_init_9 (fun q2 r3 => ?_)
  refine kj_ws (ws' := [(h0, .inr (7, [.null, .int 0])), (q2, .inl (ca 5, 8, .inr (.inr (.inr (.inr (fun k => some (r3 k))))))), ((r3 0), .inl (ca 0, 96, .inl (kI 0))), ((r3 1), .inl (ca 0, 96, .inl (kI 0))), ((r3 2), .inl (ca 0, 96, .inl (kI 0))), ((r3 3), .inl (ca 0, 96, .inl (kI 0))), ((r3 4), .inl (ca 0, 96, .inl (kI 0))), ((r3 5), .inl (ca 0, 96, .inl (kI 0))), ((r3 6), .inl (ca 0, 96, .inl (kI 0))), ((r3 7), .inl (ca 0, 96, .inl (kI 0)))]) (by rw [show List.range 8 = [0, 1, 2, 3, 4, 5, 6, 7] from by decide]; rfl) ?_
  refine kj_putF C hin 0 rfl inX7 rfl 0 (by decide) tyX7 tyX7_ok nmX7 w_181 rfl rfl (v := .ref q2) rfl rfl (Nat.le_of_ble_eq_true rfl) (ws' := [(h0, .inr (7, [.ref q2, .int 0])), (q2, .inl (ca 5, 8, .inr (.inr (.inr (.inr (fun k => some (r3 k))))))), ((r3 0), .inl (ca 0, 96, .inl (kI 0))), ((r3 1), .inl (ca 0, 96, .inl (kI 0))), ((r3 2), .inl (ca 0, 96, .inl (kI 0))), ((r3 3), .inl (ca 0, 96, .inl (kI 0))), ((r3 4), .inl (ca 0, 96, .inl (kI 0))), ((r3 5), .inl (ca 0, 96, .inl (kI 0))), ((r3 6), .inl (ca 0, 96, .inl (kI 0))), ((r3 7), .inl (ca 0, 96, .inl (kI 0)))]) rfl dX7_init_13 ?_
  refine kj_ext 1 (y := .inr (.inr (.inr (.inr (qR (fun k => ([h0, q2, (r3 0), (r3 1), (r3 2), (r3 3), (r3 4), (r3 5), (r3 6), (r3 7)] : List Nat).getD k 0) 2))))) rfl (vp_q_ext (fun j hj => match j, hj with | 0, _ => rfl | 1, _ => rfl | 2, _ => rfl | 3, _ => rfl | 4, _ => rfl | 5, _ => rfl | 6, _ => rfl | 7, _ => rfl | j + 8, hj => absurd hj (by omega))) (ws' := [(h0, .inr (7, [.ref q2, .int 0])), (q2, .inl (ca 5, 8, .inr (.inr (.inr (.inr (qR (fun k => ([h0, q2, (r3 0), (r3 1), (r3 2), (r3 3), (r3 4), (r3 5), (r3 6), (r3 7)] : List Nat).getD k 0) 2)))))), ((r3 0), .inl (ca 0, 96, .inl (kI 0))), ((r3 1), .inl (ca 0, 96, .inl (kI 0))), ((r3 2), .inl (ca 0, 96, .inl (kI 0))), ((r3 3), .inl (ca 0, 96, .inl (kI 0))), ((r3 4), .inl (ca 0, 96, .inl (kI 0))), ((r3 5), .inl (ca 0, 96, .inl (kI 0))), ((r3 6), .inl (ca 0, 96, .inl (kI 0))), ((r3 7), .inl (ca 0, 96, .inl (kI 0)))]) rfl ?_
  exact RT (fun k => ([h0, q2, (r3 0), (r3 1), (r3 2), (r3 3), (r3 4), (r3 5), (r3 6), (r3 7)] : List Nat).getD k 0) _ _ _ (by rw [k_wsl (M := 10) (L := [0, 1, 2, 3, 4, 5, 6, 7, 8, 9]) (by decide)]; rfl) rfl dX7_init_16
def trayF (ca : Nat → Nat) (x y : Int32) (a : Nat → Nat) : Nat → va_E := fun k => ([.inr (9, [.ref (a 1), .int x, .int y, .int 0]), .inl (ca 0, 32, .inl (kI 0))] : List va_E).getD k (.inr (0, []))
set_option maxHeartbeats 4000000 in
set_option maxRecDepth 100000 in
theorem kc_Tray {l : Launch} {D : va_G} {ca ss : Nat → Nat} (h0 : Nat) (x y : Int32) (hx : x = 0 ∨ x = 1) (hy : y = 0 ∨ y = 1) : kMv l D ca ss yX10_init cX10_init 3 1 1 32 h0 (.inr (9, [.null, .int 0, .int 0, .int 0])) [.int x, .int y] 2 (trayF ca x y) := by
  refine kMv_of (by decide +kernel) rfl (Nat.le_of_ble_eq_true rfl) (lv0 := [(0, .ref h0), (1, .int x), (2, .int y)]) rfl (fun pT eT sT mT aT below meth cT AT QT C hin RT => ?_)
  have C : kX pT sT mT aT meth cT AT D ca ss 3 RX10 cX10_init none := C
  refine kj_aload_n C 0 dX10_init_0 rfl 0 rfl ?_
  refine kj_objInit C w_326 ⟨(Nat.le_of_ble_eq_true rfl), (Nat.le_of_ble_eq_true rfl)⟩ (Nat.le_of_ble_eq_true rfl) dX10_init_1 ?_
  refine kj_aload_n C 0 dX10_init_4 rfl 0 rfl ?_
  refine kj_bipush C (v := 32) (by decide) dX10_init_5 ?_
  refine kj_newi C (N' := 32) (by decide) (by decide) (by decide) (Nat.le_of_ble_eq_true rfl) (Nat.le_of_ble_eq_true rfl) dX10_init_7 (fun q1 => ?_)
  refine kj_ws (ws' := [(h0, .inr (9, [.null, .int 0, .int 0, .int 0])), (q1, .inl (ca 0, 32, .inl (kI 0)))]) rfl ?_
  refine kj_putF C hin 0 rfl inX10 rfl 0 (by decide) tyX10 tyX10_ok nmX10 w_327 rfl rfl (v := .ref q1) rfl rfl (Nat.le_of_ble_eq_true rfl) (ws' := [(h0, .inr (9, [.ref q1, .int 0, .int 0, .int 0])), (q1, .inl (ca 0, 32, .inl (kI 0)))]) rfl dX10_init_9 ?_
  refine kj_aload_n C 0 dX10_init_12 rfl 0 rfl ?_
  refine kj_iload_n C 1 dX10_init_13 rfl 1 rfl ?_
  refine kj_put C 0 rfl inX10 rfl 1 (by decide) tyX10 tyX10_ok nmX10 w_328 rfl (v := .int x) (by rcases hx with q | q <;> rw [q] <;> rfl) (by rcases hx with q | q <;> rw [q] <;> rfl) (Nat.le_of_ble_eq_true rfl) (ws' := [(h0, .inr (9, [.ref q1, .int x, .int 0, .int 0])), (q1, .inl (ca 0, 32, .inl (kI 0)))]) rfl dX10_init_14 ?_
  refine kj_aload_n C 0 dX10_init_17 rfl 0 rfl ?_
  refine kj_iload_n C 2 dX10_init_18 rfl 2 rfl ?_
  refine kj_put C 0 rfl inX10 rfl 2 (by decide) tyX10 tyX10_ok nmX10 w_329 rfl (v := .int y) (by rcases hy with q | q <;> rw [q] <;> rfl) (by rcases hy with q | q <;> rw [q] <;> rfl) (Nat.le_of_ble_eq_true rfl) (ws' := [(h0, .inr (9, [.ref q1, .int x, .int y, .int 0])), (q1, .inl (ca 0, 32, .inl (kI 0)))]) rfl dX10_init_19 ?_
  exact RT (fun k => ([h0, q1] : List Nat).getD k 0) _ _ _ (by rw [k_wsl (M := 2) (L := [0, 1]) (by decide)]; rfl) rfl dX10_init_22
def sheetF (ca : Nat → Nat)  (a : Nat → Nat) : Nat → va_E := fun k => ([.inr (5, [.ref (a 1), .int (-1), .int 0]), .inl (ca 0, 60, .inl (kI 0))] : List va_E).getD k (.inr (0, []))
set_option maxHeartbeats 4000000 in
set_option maxRecDepth 100000 in
theorem kc_Sheet {l : Launch} {D : va_G} {ca ss : Nat → Nat} (h0 : Nat)  : kMv l D ca ss yX5_init cX5_init 1 1 1 60 h0 (.inr (5, [.null, .int 0, .int 0])) [] 2 (sheetF ca) := by
  refine kMv_of (by decide +kernel) rfl (Nat.le_of_ble_eq_true rfl) (lv0 := [(0, .ref h0)]) rfl (fun pT eT sT mT aT below meth cT AT QT C hin RT => ?_)
  have C : kX pT sT mT aT meth cT AT D ca ss 1 RX5 cX5_init none := C
  refine kj_aload_n C 0 dX5_init_0 rfl 0 rfl ?_
  refine kj_objInit C w_345 ⟨(Nat.le_of_ble_eq_true rfl), (Nat.le_of_ble_eq_true rfl)⟩ (Nat.le_of_ble_eq_true rfl) dX5_init_1 ?_
  refine kj_aload_n C 0 dX5_init_4 rfl 0 rfl ?_
  refine kj_bipush C (v := 60) (by decide) dX5_init_5 ?_
  refine kj_newi C (N' := 60) (by decide) (by decide) (by decide) (Nat.le_of_ble_eq_true rfl) (Nat.le_of_ble_eq_true rfl) dX5_init_7 (fun q1 => ?_)
  refine kj_ws (ws' := [(h0, .inr (5, [.null, .int 0, .int 0])), (q1, .inl (ca 0, 60, .inl (kI 0)))]) rfl ?_
  refine kj_putF C hin 0 rfl inX5 rfl 0 (by decide) tyX5 tyX5_ok nmX5 w_346 rfl rfl (v := .ref q1) rfl rfl (Nat.le_of_ble_eq_true rfl) (ws' := [(h0, .inr (5, [.ref q1, .int 0, .int 0])), (q1, .inl (ca 0, 60, .inl (kI 0)))]) rfl dX5_init_9 ?_
  refine kj_aload_n C 0 dX5_init_12 rfl 0 rfl ?_
  refine kj_iconst C (v := (-1)) (by decide) dX5_init_13 ?_
  refine kj_put C 0 rfl inX5 rfl 1 (by decide) tyX5 tyX5_ok nmX5 w_347 rfl (v := .int (-1)) rfl rfl (Nat.le_of_ble_eq_true rfl) (ws' := [(h0, .inr (5, [.ref q1, .int (-1), .int 0])), (q1, .inl (ca 0, 60, .inl (kI 0)))]) rfl dX5_init_14 ?_
  exact RT (fun k => ([h0, q1] : List Nat).getD k 0) _ _ _ (by rw [k_wsl (M := 2) (L := [0, 1]) (by decide)]; rfl) rfl dX5_init_17
