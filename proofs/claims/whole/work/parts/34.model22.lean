/-- a direction more -/
def rdL (k : Int32) (x y z : Int32) (st : (Nat → Int32) × (Nat → Int32)) : (Nat → Int32) × (Nat → Int32) := (upd (upd (upd st.1 (36 * k + 3 * st.2 k.toNatClampNeg).toNatClampNeg x) (36 * k + 3 * st.2 k.toNatClampNeg + 1).toNatClampNeg y) (36 * k + 3 * st.2 k.toNatClampNeg + 2).toNatClampNeg z, upd st.2 k.toNatClampNeg (st.2 k.toNatClampNeg + 1))
/-- reading on from the n-th, with L items from b on -/
def rdS (k : Int32) (it : Nat → Int32) (b L : Nat) : Nat → Nat → (Nat → Int32) × (Nat → Int32) → Nat × ((Nat → Int32) × (Nat → Int32))
  | 0, n, st => (n, st)
  | F + 1, n, st => if 3 * n + 3 ≤ L then (if s_X12_isDirection (it (b + 3 * n)) (it (b + 3 * n + 1)) (it (b + 3 * n + 2)) = 0 then (n, st) else if st.2 k.toNatClampNeg = s_X12_most k then (n, st) else rdS k it b L F (n + 1) (rdL k (it (b + 3 * n)) (it (b + 3 * n + 1)) (it (b + 3 * n + 2)) st)) else (n, st)
theorem mnOk_add {mn : Nat → Int32} {k : Int32} (hm : mnOk mn) (hk : ¬ s_X12_isTwo k = 0) (h : ¬ mn k.toNatClampNeg = s_X12_most k) : mnOk (upd mn k.toNatClampNeg (mn k.toNatClampNeg + 1)) ∧ ¬ upd mn k.toNatClampNeg (mn k.toNatClampNeg + 1) k.toNatClampNeg < 0 := by
  have hd := dIn_add hm hk h
  have e1 : (1 : Int32).toInt = 1 := rfl
  have e0 : (0 : Int32).toInt = 0 := rfl
  obtain ⟨-, d1, d2, d3⟩ := hd
  have ea : (mn k.toNatClampNeg + 1).toInt = (mn k.toNatClampNeg).toInt + 1 := by rw [i32_add (by omega) (by omega), e1]
  obtain ⟨m0, m1⟩ := hm
  refine ⟨?_, by rw [pk_us, i32_lt, ea]; omega⟩
  rcases two_cl (q_isTwo hk) with ⟨hk1, hc⟩ | ⟨hk1, hc⟩
  · rw [hc] at ea ⊢
    unfold mnOk
    rw [hc] at d1 d2
    rw [pk_us, pk_un (show (1 : Nat) ≠ 0 by decide), ea]
    omega
  · subst hk1
    have := d3 rfl
    rw [hc] at ea d1 d2 this ⊢
    unfold mnOk
    rw [pk_us, pk_un (show (0 : Nat) ≠ 1 by decide), ea]
    omega
theorem rd_ix {s n c : Nat} : nI 60 * nI s + nI 3 * nI n + nI c = nI (60 * s + 3 * n + c) := by rw [pk_mul, pk_mul, nI_add, nI_add]
theorem rd_ix0 {s n : Nat} : nI 60 * nI s + nI 3 * nI n = nI (60 * s + 3 * n) := by rw [pk_mul, pk_mul, nI_add]
theorem rd_c (n : Nat) : nI 3 * nI n + nI 3 = nI (3 * n + 3) := by rw [pk_mul, nI_add]

def s_X12_read (ad ca : Nat → Nat) (f : Nat → va_E)  (k : Int32) (s : Int32) (la : Int32) (dr : Int32) (go : Int32) (lo : Int32) (ma : Int32) (pa : Int32) (tu : Int32) (su : Int32) (di : Nat → Int32) (mn : Nat → Int32) (fo : Nat → Int32) (sz : Nat → Int32) (it : Nat → Int32) : Int32 × (Nat → va_E) := if s_X12_isTwo k = 0 then (-2, f) else if s_X12_isSheet s = 0 then (-2, f) else if 0 ≤ fo s.toNatClampNeg then (nI (rdS k it (60 * s.toNatClampNeg) (sz s.toNatClampNeg).toNatClampNeg 20 0 (di, mn)).1, va_up (va_up f 92 (.inl (ca 0, 60, .inl (rdS k it (60 * s.toNatClampNeg) (sz s.toNatClampNeg).toNatClampNeg 20 0 (di, mn)).2.1))) 93 (.inl (ca 0, 2, .inl (rdS k it (60 * s.toNatClampNeg) (sz s.toNatClampNeg).toNatClampNeg 20 0 (di, mn)).2.2))) else (-11, va_up f 87 (.inr (11, mF ad (1 : Int32) dr go lo ma pa tu su)))
set_option maxHeartbeats 400000 in
set_option maxRecDepth 100000 in
theorem c_X12_read {l : Launch} {D : va_G} {ca ss ad : Nat → Nat} {f : Nat → va_E}  (k : Int32) (s : Int32) (la : Int32) (dr : Int32) (go : Int32) (lo : Int32) (ma : Int32) (pa : Int32) (tu : Int32) (su : Int32) (di : Nat → Int32) (mn : Nat → Int32) (fo : Nat → Int32) (sz : Nat → Int32) (it : Nat → Int32) (hc0 : f 87 = .inr (11, mF ad la dr go lo ma pa tu su)) (hc1 : f 92 = .inl (ca 0, 60, .inl di)) (hc2 : f 93 = .inl (ca 0, 2, .inl mn)) (hc3 : f 88 = .inl (ca 0, 4, .inl fo)) (hc4 : f 89 = .inl (ca 0, 4, .inl sz)) (hc5 : f 90 = .inl (ca 0, 240, .inl it)) (hsz : ∀ j, j < 4 → 0 ≤ (sz j).toInt ∧ (sz j).toInt ≤ 60) (hm : mnOk mn) : gMi l D ca ss ad 108 yX12_read cX12_read 6 (some .int) 3 f [.ref (ad 87), .int k, .int s] (fun r u => (r, u) = s_X12_read ad ca f  k s la dr go lo ma pa tu su di mn fo sz it) := by
  refine gMi_ofK (by decide +kernel) (Nat.le_of_ble_eq_true rfl) (lv0 := [(0, .ref (ad 87)), (1, .int k), (2, .int s)]) rfl (fun pT eT sT mT aT below meth cT AT QT C RT => ?_)
  have C : gX pT sT mT aT meth cT AT D ca ss 6 RX12 cX12_read (some .int) := C
  refine gj_iload_n C 1 dX12_read_0 rfl 1 rfl ?_
  refine gj_callSi C w_980 w_979 (c_X12_isTwo k) mc_X12_isTwo ⟨Nat.le_of_ble_eq_true rfl, Nat.le_of_ble_eq_true rfl⟩ (rest := []) rfl (Nat.le_of_ble_eq_true rfl) dX12_read_1 (fun r u h => ?_)
  obtain ⟨hr_, h⟩ := h; rw [hr_]
  rw [h]
  refine gj_if_eq C 14 dX12_read_4 (by decide) (fun c_1 => ?_) (fun c_1 => ?_)
  · refine gj_bipush C (v := (-2)) (by decide) dX12_read_14 ?_
    exact RT _ _ _ _ (show s_X12_read ad ca f k s la dr go lo ma pa tu su di mn fo sz it = _ from (if_pos c_1).trans (rfl)).symm dX12_read_16
  · refine gj_iload_n C 2 dX12_read_7 rfl 2 rfl ?_
    refine gj_callSi C w_940 w_939 (c_X12_isSheet s) mc_X12_isSheet ⟨Nat.le_of_ble_eq_true rfl, Nat.le_of_ble_eq_true rfl⟩ (rest := []) rfl (Nat.le_of_ble_eq_true rfl) dX12_read_8 (fun r u h => ?_)
    obtain ⟨hr_, h⟩ := h; rw [hr_]
    rw [h]
    refine gj_if_ne C 17 dX12_read_11 (by decide) (fun c_2 => ?_) (fun c_2 => ?_)
    · refine gj_aload_n C 0 dX12_read_17 rfl 0 rfl ?_
      refine gj_get C 87 (by decide) hc0 inX12 rfl 0 (by decide) w_849 (v := .ref (ad 88)) rfl dX12_read_18 ?_
      refine gj_iload_n C 2 dX12_read_21 rfl 2 rfl ?_
      refine gj_iald C 88 (by decide) hc3 (in4 (q_isSheet c_2)) dX12_read_22 ?_
      refine gj_if_ge C 32 dX12_read_23 (by decide) (fun c_3 => ?_) (fun c_3 => ?_)
      · obtain ⟨sN, hsN, rfl⟩ := n_sheet c_2
        obtain ⟨LN, hLN, eLN⟩ := sz_n hsz hsN
        refine gj_iconst C (v := 0) (by decide) dX12_read_32 ?_
        refine gj_seti (y := nI 0) rfl ?_
        refine gj_istore_n C (lv' := [(3, .int (nI 0)), (0, .ref (ad 87)), (1, .int k), (2, .int (nI sN))]) 3 dX12_read_33 rfl (by decide) rfl ?_
        refine gj_iconst C (v := 1) (by decide) dX12_read_34 ?_
        refine gj_istore C (lv' := [(4, .int 1), (3, .int (nI 0)), (0, .ref (ad 87)), (1, .int k), (2, .int (nI sN))]) dX12_read_35 (by decide) rfl ?_
        refine gj_setf (up_id hc1).symm ?_
        refine gj_setf (up_id (up_nx (by decide) (hc2))).symm ?_
        have loop_4 : ∀ (m0 t0 : Nat), t0 + m0 = 20 → ∀ (jdi : Nat → Int32), ∀ (jmn : Nat → Int32), ∀ (hmj : mnOk jmn), ∀ (heq : rdS k it (60 * sN) LN m0 t0 (jdi, jmn) = (rdS k it (60 * sN) LN 20 0 (di, mn))), gJ pT l eT (Rm 3) sT mT aT below meth cT AT QT D ad 108 6 (va_up (va_up f 92 (.inl (ca 0, 60, .inl jdi))) 93 (.inl (ca 0, 2, .inl jmn))) [(4, .int 1), (3, .int (nI t0)), (0, .ref (ad 87)), (1, .int k), (2, .int (nI sN))] 37 [] := by
          intro m0
          induction m0 with
          | zero =>
            intro t0 hk_t0  jdi jmn hmj heq
            refine gj_iload C dX12_read_37 0 rfl ?_
            refine gj_if_eq C 122 dX12_read_39 (by decide) (fun c_6 => absurd c_6 (by decide)) (fun c_6 => ?_)
            refine gj_iconst C (v := 3) (by decide) dX12_read_42 ?_
            refine gj_iload_n C 3 dX12_read_43 rfl 1 rfl ?_
            refine gj_imul C dX12_read_44 ?_
            refine gj_iconst C (v := 3) (by decide) dX12_read_45 ?_
            refine gj_iadd C dX12_read_46 ?_
            refine gj_seti (y := nI (3 * t0 + 3)) (rd_c t0) ?_
            refine gj_aload_n C 0 dX12_read_47 rfl 2 rfl ?_
            refine gj_get C 87 (by decide) (up_nx (by decide) (up_nx (by decide) (hc0))) inX12 rfl 1 (by decide) w_850 (v := .ref (ad 89)) rfl dX12_read_48 ?_
            refine gj_iload_n C 2 dX12_read_51 rfl 4 rfl ?_
            refine gj_iald C 89 (by decide) (up_nx (by decide) (up_nx (by decide) (hc4))) (vp_in_nI (by omega) (by omega)) dX12_read_52 ?_
            refine gj_seti (y := nI LN) (by rw [nI_clamp (show sN < 2 ^ 31 by omega)]; exact eLN) ?_
            refine gj_icmp_gt C 122 dX12_read_53 (by decide) (fun c_7 => ?_) (fun c_7 => absurd (nI_lt (by omega) (by omega)) c_7)
            refine gj_iload_n C 3 dX12_read_122 rfl 1 rfl ?_
            exact RT _ _ _ _ (by have e0 : (rdS k it (60 * sN) LN 20 0 (di, mn)) = (t0, (jdi, jmn)) := heq.symm.trans (show rdS k it (60 * sN) LN 0 t0 (jdi, jmn) = (t0, (jdi, jmn)) from rfl); have e1 : s_X12_read ad ca f k (nI sN) la dr go lo ma pa tu su di mn fo sz it = (nI (rdS k it (60 * (nI sN).toNatClampNeg) (sz (nI sN).toNatClampNeg).toNatClampNeg 20 0 (di, mn)).1, _) := (if_neg c_1).trans ((if_neg c_2).trans ((if_pos c_3).trans (rfl))); rw [e1, nI_clamp (show sN < 2 ^ 31 by omega), eLN, nI_clamp (show LN < 2 ^ 31 by omega), e0]) dX12_read_123
          | succ m0 ih_5 =>
            intro t0 hk_t0  jdi jmn hmj heq
            refine gj_iload C dX12_read_37 0 rfl ?_
            refine gj_if_eq C 122 dX12_read_39 (by decide) (fun c_8 => absurd c_8 (by decide)) (fun c_8 => ?_)
            refine gj_iconst C (v := 3) (by decide) dX12_read_42 ?_
            refine gj_iload_n C 3 dX12_read_43 rfl 1 rfl ?_
            refine gj_imul C dX12_read_44 ?_
            refine gj_iconst C (v := 3) (by decide) dX12_read_45 ?_
            refine gj_iadd C dX12_read_46 ?_
            refine gj_seti (y := nI (3 * t0 + 3)) (rd_c t0) ?_
            refine gj_aload_n C 0 dX12_read_47 rfl 2 rfl ?_
            refine gj_get C 87 (by decide) (up_nx (by decide) (up_nx (by decide) (hc0))) inX12 rfl 1 (by decide) w_850 (v := .ref (ad 89)) rfl dX12_read_48 ?_
            refine gj_iload_n C 2 dX12_read_51 rfl 4 rfl ?_
            refine gj_iald C 89 (by decide) (up_nx (by decide) (up_nx (by decide) (hc4))) (vp_in_nI (by omega) (by omega)) dX12_read_52 ?_
            refine gj_seti (y := nI LN) (by rw [nI_clamp (show sN < 2 ^ 31 by omega)]; exact eLN) ?_
            refine gj_icmp_gt C 122 dX12_read_53 (by decide) (fun c_9 => ?_) (fun c_9 => ?_)
            · have y_10 : ¬ 3 * t0 + 3 ≤ LN := fun q => nI_nlt q (by omega) c_9
              refine gj_iload_n C 3 dX12_read_122 rfl 1 rfl ?_
              exact RT _ _ _ _ (by have e0 : (rdS k it (60 * sN) LN 20 0 (di, mn)) = (t0, (jdi, jmn)) := heq.symm.trans (show rdS k it (60 * sN) LN (m0 + 1) t0 (jdi, jmn) = (t0, (jdi, jmn)) from (if_neg y_10).trans (rfl)); have e1 : s_X12_read ad ca f k (nI sN) la dr go lo ma pa tu su di mn fo sz it = (nI (rdS k it (60 * (nI sN).toNatClampNeg) (sz (nI sN).toNatClampNeg).toNatClampNeg 20 0 (di, mn)).1, _) := (if_neg c_1).trans ((if_neg c_2).trans ((if_pos c_3).trans (rfl))); rw [e1, nI_clamp (show sN < 2 ^ 31 by omega), eLN, nI_clamp (show LN < 2 ^ 31 by omega), e0]) dX12_read_123
            · have y_11 : 3 * t0 + 3 ≤ LN := Nat.not_lt.mp (fun q => c_9 (nI_lt q (by omega)))
              refine gj_bipush C (v := 60) (by decide) dX12_read_56 ?_
              refine gj_iload_n C 2 dX12_read_58 rfl 4 rfl ?_
              refine gj_imul C dX12_read_59 ?_
              refine gj_iconst C (v := 3) (by decide) dX12_read_60 ?_
              refine gj_iload_n C 3 dX12_read_61 rfl 1 rfl ?_
              refine gj_imul C dX12_read_62 ?_
              refine gj_iadd C dX12_read_63 ?_
              refine gj_seti (y := nI (60 * sN + 3 * t0)) rd_ix0 ?_
              refine gj_istore C (lv' := [(5, .int (nI (60 * sN + 3 * t0))), (4, .int 1), (3, .int (nI t0)), (0, .ref (ad 87)), (1, .int k), (2, .int (nI sN))]) dX12_read_64 (by decide) rfl ?_
              refine gj_aload_n C 0 dX12_read_66 rfl 3 rfl ?_
              refine gj_iload_n C 1 dX12_read_67 rfl 4 rfl ?_
              refine gj_aload_n C 0 dX12_read_68 rfl 3 rfl ?_
              refine gj_get C 87 (by decide) (up_nx (by decide) (up_nx (by decide) (hc0))) inX12 rfl 2 (by decide) w_851 (v := .ref (ad 90)) rfl dX12_read_69 ?_
              refine gj_iload C dX12_read_72 0 rfl ?_
              refine gj_iald C 90 (by decide) (up_nx (by decide) (up_nx (by decide) (hc5))) (vp_in_nI (by omega) (by omega)) dX12_read_74 ?_
              refine gj_seti (congrArg _ (nI_clamp (by omega))) ?_
              refine gj_aload_n C 0 dX12_read_75 rfl 3 rfl ?_
              refine gj_get C 87 (by decide) (up_nx (by decide) (up_nx (by decide) (hc0))) inX12 rfl 2 (by decide) w_851 (v := .ref (ad 90)) rfl dX12_read_76 ?_
              refine gj_iload C dX12_read_79 0 rfl ?_
              refine gj_iconst C (v := 1) (by decide) dX12_read_81 ?_
              refine gj_iadd C dX12_read_82 ?_
              refine gj_seti (y := nI (60 * sN + 3 * t0 + 1)) (nI_add _ 1) ?_
              refine gj_iald C 90 (by decide) (up_nx (by decide) (up_nx (by decide) (hc5))) (vp_in_nI (by omega) (by omega)) dX12_read_83 ?_
              refine gj_seti (congrArg _ (nI_clamp (by omega))) ?_
              refine gj_aload_n C 0 dX12_read_84 rfl 3 rfl ?_
              refine gj_get C 87 (by decide) (up_nx (by decide) (up_nx (by decide) (hc0))) inX12 rfl 2 (by decide) w_851 (v := .ref (ad 90)) rfl dX12_read_85 ?_
              refine gj_iload C dX12_read_88 0 rfl ?_
              refine gj_iconst C (v := 2) (by decide) dX12_read_90 ?_
              refine gj_iadd C dX12_read_91 ?_
              refine gj_seti (y := nI (60 * sN + 3 * t0 + 2)) (nI_add _ 2) ?_
              refine gj_iald C 90 (by decide) (up_nx (by decide) (up_nx (by decide) (hc5))) (vp_in_nI (by omega) (by omega)) dX12_read_92 ?_
              refine gj_seti (congrArg _ (nI_clamp (by omega))) ?_
              refine gj_callVi C mi_X12_add w_1014 87 (by decide) (up_nx (by decide) (up_nx (by decide) (hc0))) rfl (c_X12_add k (it (60 * sN + 3 * t0)) (it (60 * sN + 3 * t0 + 1)) (it (60 * sN + 3 * t0 + 2)) la dr go lo ma pa tu su jdi jmn (up_nx (by decide) (up_nx (by decide) (hc0))) (up_nx (by decide) (va_up_self _ _ _)) (va_up_self _ _ _) hmj) mc_X12_add ⟨Nat.le_of_ble_eq_true rfl, Nat.le_of_ble_eq_true rfl⟩ (rest := []) rfl (Nat.le_of_ble_eq_true rfl) dX12_read_93 (fun r u h => ?_)
              unfold s_X12_add at h
              rw [if_neg c_1] at h
              by_cases c_12 : (s_X12_isDirection (it (60 * sN + 3 * t0)) (it (60 * sN + 3 * t0 + 1)) (it (60 * sN + 3 * t0 + 2))) = 0
              · rw [if_pos c_12] at h
                obtain ⟨rfl, rfl⟩ := Prod.mk.inj h
                refine gj_if_lt C 103 dX12_read_96 (by decide) (fun c_13 => ?_) (fun c_13 => absurd (by decide) c_13)
                refine gj_iconst C (v := 0) (by decide) dX12_read_103 ?_
                refine gj_istore C (lv' := [(4, .int 0), (5, .int (nI (60 * sN + 3 * t0))), (3, .int (nI t0)), (0, .ref (ad 87)), (1, .int k), (2, .int (nI sN))]) dX12_read_104 (by decide) rfl ?_
                refine gj_iload_n C 3 dX12_read_106 rfl 2 rfl ?_
                refine gj_iload C dX12_read_107 0 rfl ?_
                refine gj_if_eq C 116 dX12_read_109 (by decide) (fun c_14 => ?_) (fun c_14 => absurd (by decide) c_14)
                refine gj_iconst C (v := 0) (by decide) dX12_read_116 ?_
                refine gj_iadd C dX12_read_117 ?_
                refine gj_seti (y := nI t0) (Int32.add_zero _) ?_
                refine gj_istore_n C (lv' := [(3, .int (nI t0)), (4, .int 0), (5, .int (nI (60 * sN + 3 * t0))), (0, .ref (ad 87)), (1, .int k), (2, .int (nI sN))]) 3 dX12_read_118 rfl (by decide) rfl ?_
                refine gj_goto C 37 dX12_read_119 (by decide) ?_
                refine gj_iload C dX12_read_37 1 rfl ?_
                refine gj_if_eq C 122 dX12_read_39 (by decide) (fun c_15 => ?_) (fun c_15 => absurd (by decide) c_15)
                refine gj_iload_n C 3 dX12_read_122 rfl 0 rfl ?_
                exact RT _ _ _ _ (by have e0 : (rdS k it (60 * sN) LN 20 0 (di, mn)) = (t0, (jdi, jmn)) := heq.symm.trans (show rdS k it (60 * sN) LN (m0 + 1) t0 (jdi, jmn) = (t0, (jdi, jmn)) from (if_pos y_11).trans ((if_pos c_12).trans (rfl))); have e1 : s_X12_read ad ca f k (nI sN) la dr go lo ma pa tu su di mn fo sz it = (nI (rdS k it (60 * (nI sN).toNatClampNeg) (sz (nI sN).toNatClampNeg).toNatClampNeg 20 0 (di, mn)).1, _) := (if_neg c_1).trans ((if_neg c_2).trans ((if_pos c_3).trans (rfl))); rw [e1, nI_clamp (show sN < 2 ^ 31 by omega), eLN, nI_clamp (show LN < 2 ^ 31 by omega), e0]) dX12_read_123
              · rw [if_neg c_12] at h
                by_cases c_16 : (jmn k.toNatClampNeg) = (s_X12_most k)
                · rw [if_pos c_16] at h
                  obtain ⟨rfl, rfl⟩ := Prod.mk.inj h
                  refine gj_if_lt C 103 dX12_read_96 (by decide) (fun c_17 => ?_) (fun c_17 => absurd (by decide) c_17)
                  refine gj_iconst C (v := 0) (by decide) dX12_read_103 ?_
                  refine gj_istore C (lv' := [(4, .int 0), (5, .int (nI (60 * sN + 3 * t0))), (3, .int (nI t0)), (0, .ref (ad 87)), (1, .int k), (2, .int (nI sN))]) dX12_read_104 (by decide) rfl ?_
                  refine gj_iload_n C 3 dX12_read_106 rfl 2 rfl ?_
                  refine gj_iload C dX12_read_107 0 rfl ?_
                  refine gj_if_eq C 116 dX12_read_109 (by decide) (fun c_18 => ?_) (fun c_18 => absurd (by decide) c_18)
                  refine gj_iconst C (v := 0) (by decide) dX12_read_116 ?_
                  refine gj_iadd C dX12_read_117 ?_
                  refine gj_seti (y := nI t0) (Int32.add_zero _) ?_
                  refine gj_istore_n C (lv' := [(3, .int (nI t0)), (4, .int 0), (5, .int (nI (60 * sN + 3 * t0))), (0, .ref (ad 87)), (1, .int k), (2, .int (nI sN))]) 3 dX12_read_118 rfl (by decide) rfl ?_
                  refine gj_goto C 37 dX12_read_119 (by decide) ?_
                  refine gj_iload C dX12_read_37 1 rfl ?_
                  refine gj_if_eq C 122 dX12_read_39 (by decide) (fun c_19 => ?_) (fun c_19 => absurd (by decide) c_19)
                  refine gj_iload_n C 3 dX12_read_122 rfl 0 rfl ?_
                  exact RT _ _ _ _ (by have e0 : (rdS k it (60 * sN) LN 20 0 (di, mn)) = (t0, (jdi, jmn)) := heq.symm.trans (show rdS k it (60 * sN) LN (m0 + 1) t0 (jdi, jmn) = (t0, (jdi, jmn)) from (if_pos y_11).trans ((if_neg c_12).trans ((if_pos c_16).trans (rfl)))); have e1 : s_X12_read ad ca f k (nI sN) la dr go lo ma pa tu su di mn fo sz it = (nI (rdS k it (60 * (nI sN).toNatClampNeg) (sz (nI sN).toNatClampNeg).toNatClampNeg 20 0 (di, mn)).1, _) := (if_neg c_1).trans ((if_neg c_2).trans ((if_pos c_3).trans (rfl))); rw [e1, nI_clamp (show sN < 2 ^ 31 by omega), eLN, nI_clamp (show LN < 2 ^ 31 by omega), e0]) dX12_read_123
                · rw [if_neg c_16] at h
                  obtain ⟨rfl, rfl⟩ := Prod.mk.inj h
                  refine gj_setf ((up_un ((up_comm (by decide)).trans (up_un (bx_uu _ _ _ _)))).trans (bx_uu _ _ _ _)) ?_
                  refine gj_if_lt C 103 dX12_read_96 (by decide) (fun c_20 => absurd c_20 (mnOk_add hmj c_1 c_16).2) (fun c_20 => ?_)
                  refine gj_iconst C (v := 1) (by decide) dX12_read_99 ?_
                  refine gj_goto C 104 dX12_read_100 (by decide) ?_
                  refine gj_istore C (lv' := [(4, .int 1), (5, .int (nI (60 * sN + 3 * t0))), (3, .int (nI t0)), (0, .ref (ad 87)), (1, .int k), (2, .int (nI sN))]) dX12_read_104 (by decide) rfl ?_
                  refine gj_iload_n C 3 dX12_read_106 rfl 2 rfl ?_
                  refine gj_iload C dX12_read_107 0 rfl ?_
                  refine gj_if_eq C 116 dX12_read_109 (by decide) (fun c_21 => absurd c_21 (by decide)) (fun c_21 => ?_)
                  refine gj_iconst C (v := 1) (by decide) dX12_read_112 ?_
                  refine gj_goto C 117 dX12_read_113 (by decide) ?_
                  refine gj_iadd C dX12_read_117 ?_
                  refine gj_seti (y := nI (t0 + 1)) (nI_1 _) ?_
                  refine gj_istore_n C (lv' := [(3, .int (nI (t0 + 1))), (4, .int 1), (5, .int (nI (60 * sN + 3 * t0))), (0, .ref (ad 87)), (1, .int k), (2, .int (nI sN))]) 3 dX12_read_118 rfl (by decide) rfl ?_
                  refine gj_goto C 37 dX12_read_119 (by decide) ?_
                  refine gj_lv [1, 0, 3, 4, 5] rfl ?_
                  exact ih_5 (t0 + 1) (by omega) _ _ (mnOk_add hmj c_1 c_16).1 ((show rdS k it (60 * sN) LN (m0 + 1) t0 (jdi, jmn) = rdS k it (60 * sN) LN m0 (t0 + 1) (rdL k (it (60 * sN + 3 * t0)) (it (60 * sN + 3 * t0 + 1)) (it (60 * sN + 3 * t0 + 2)) (jdi, jmn)) from (if_pos y_11).trans ((if_neg c_12).trans ((if_neg c_16).trans (rfl)))).symm.trans heq)
        refine gj_lv [0, 1, 2, 3, 4] rfl ?_
        exact loop_4 (20 - 0) 0 (by omega) _ _ hm rfl
      · refine gj_aload_n C 0 dX12_read_26 rfl 0 rfl ?_
        refine gj_iconst C (v := 1) (by decide) dX12_read_27 ?_
        refine gj_callVi C mi_X12_finds w_947 87 (by decide) hc0 rfl (c_X12_finds (1 : Int32) la dr go lo ma pa tu su hc0) mc_X12_finds ⟨Nat.le_of_ble_eq_true rfl, Nat.le_of_ble_eq_true rfl⟩ (rest := []) rfl (Nat.le_of_ble_eq_true rfl) dX12_read_28 (fun r u h => ?_)
        obtain ⟨hr_, hu_⟩ := h; rw [hr_]; subst hu_
        refine gj_seti (y := (-11)) (by decide) ?_
        exact RT _ _ _ _ (show s_X12_read ad ca f k s la dr go lo ma pa tu su di mn fo sz it = _ from (if_neg c_1).trans ((if_neg c_2).trans ((if_neg c_3).trans (rfl)))).symm dX12_read_31
    · refine gj_bipush C (v := (-2)) (by decide) dX12_read_14 ?_
      exact RT _ _ _ _ (show s_X12_read ad ca f k s la dr go lo ma pa tu su di mn fo sz it = _ from (if_neg c_1).trans ((if_pos c_2).trans (rfl))).symm dX12_read_16
