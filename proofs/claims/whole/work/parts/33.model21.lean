theorem cp_n {i n z : Int32} (hi : ¬ i < 0) (hn : ¬ n < 0) (hz : 0 ≤ z.toInt ∧ z.toInt ≤ 60) (h : i.toInt64 + n.toInt64 ≤ z.toInt64) : ∃ a b, a + b ≤ 60 ∧ i = nI a ∧ n = nI b := by
  rw [i32_lt] at hi hn
  have e0 : (0 : Int32).toInt = 0 := rfl
  have r1 := i32_rng i
  have r2 := i32_rng n
  rw [i64_le, i32_w, i64_add (by rw [i32_w, i32_w]; omega) (by rw [i32_w, i32_w]; omega), i32_w, i32_w] at h
  obtain ⟨a, ha, rfl⟩ := vp_in_of (n := 61) (vin (x := i) (by omega) (by omega)) (by omega)
  obtain ⟨b, hb, rfl⟩ := vp_in_of (n := 61) (vin (x := n) (by omega) (by omega)) (by omega)
  rw [nI_toInt (by omega), nI_toInt (by omega)] at h
  exact ⟨a, b, by omega, rfl, rfl⟩
theorem lin3 {a s i k : Nat} : nI a * nI s + nI i + nI k = nI (a * s + i + k) := by rw [pk_mul, nI_add, nI_add]
theorem ix3i {a s i k n : Nat} (h : a * s + i + k < n) (hn : n < 2 ^ 31) : vp_in (nI a * nI s + nI i + nI k) n := by rw [lin3]; exact vp_in_nI h hn
theorem ix3c {a s i k : Nat} (h : a * s + i + k < 2 ^ 31) : (nI a * nI s + nI i + nI k).toNatClampNeg = a * s + i + k := by rw [lin3]; exact nI_clamp h
theorem pF_in (it : Nat → Int32) {b n j : Nat} (g : Nat → Int32) (h : j < n) : pF it b n g (b + j) = g j := by
  unfold pF; rw [if_pos (by omega), show b + j - b = j by omega]
theorem pF_in0 (it : Nat → Int32) {n j : Nat} (g : Nat → Int32) (h : j < n) : pF it 0 n g j = g j := by
  have := pF_in it (b := 0) g h
  rwa [Nat.zero_add] at this

def s_X12_copy (ad ca : Nat → Nat) (f : Nat → va_E)  (s : Int32) (i : Int32) (t : Int32) (j : Int32) (n : Int32) (la : Int32) (dr : Int32) (go : Int32) (lo : Int32) (ma : Int32) (pa : Int32) (tu : Int32) (su : Int32) (fo : Nat → Int32) (sz : Nat → Int32) (it : Nat → Int32) (mo : Nat → Int32) : Int32 × (Nat → va_E) := if s_X12_isSheet s = 0 then (-2, f) else if s_X12_isSheet t = 0 then (-2, f) else if fo s.toNatClampNeg < 0 then (-11, va_up f 87 (.inr (11, mF ad (1 : Int32) dr go lo ma pa tu su))) else if 0 ≤ fo t.toNatClampNeg then (if fo s.toNatClampNeg = fo t.toNatClampNeg then (if i < 0 then (-12, va_up f 87 (.inr (11, mF ad (2 : Int32) dr go lo ma pa tu su))) else if j < 0 then (-12, va_up f 87 (.inr (11, mF ad (2 : Int32) dr go lo ma pa tu su))) else if n < 0 then (-12, va_up f 87 (.inr (11, mF ad (2 : Int32) dr go lo ma pa tu su))) else if 0 < lg_cmp (i.toInt64 + n.toInt64) (sz s.toNatClampNeg).toInt64 then (-12, va_up f 87 (.inr (11, mF ad (2 : Int32) dr go lo ma pa tu su))) else if lg_cmp (j.toInt64 + n.toInt64) (sz t.toNatClampNeg).toInt64 ≤ 0 then (1, va_up (va_up f 91 (.inl (ca 0, 60, .inl (pF mo 0 n.toNatClampNeg (fun k => it (60 * s.toNatClampNeg + i.toNatClampNeg + k)))))) 90 (.inl (ca 0, 240, .inl (pF it (60 * t.toNatClampNeg + j.toNatClampNeg) n.toNatClampNeg (fun k => it (60 * s.toNatClampNeg + i.toNatClampNeg + k)))))) else (-12, va_up f 87 (.inr (11, mF ad (2 : Int32) dr go lo ma pa tu su)))) else (-14, va_up f 87 (.inr (11, mF ad (4 : Int32) dr go lo ma pa tu su)))) else (-11, va_up f 87 (.inr (11, mF ad (1 : Int32) dr go lo ma pa tu su)))
set_option maxHeartbeats 400000 in
set_option maxRecDepth 100000 in
theorem c_X12_copy {l : Launch} {D : va_G} {ca ss ad : Nat → Nat} {f : Nat → va_E}  (s : Int32) (i : Int32) (t : Int32) (j : Int32) (n : Int32) (la : Int32) (dr : Int32) (go : Int32) (lo : Int32) (ma : Int32) (pa : Int32) (tu : Int32) (su : Int32) (fo : Nat → Int32) (sz : Nat → Int32) (it : Nat → Int32) (mo : Nat → Int32) (hc0 : f 87 = .inr (11, mF ad la dr go lo ma pa tu su)) (hc1 : f 88 = .inl (ca 0, 4, .inl fo)) (hc2 : f 89 = .inl (ca 0, 4, .inl sz)) (hc3 : f 90 = .inl (ca 0, 240, .inl it)) (hc4 : f 91 = .inl (ca 0, 60, .inl mo)) (hsz : ∀ j, j < 4 → 0 ≤ (sz j).toInt ∧ (sz j).toInt ≤ 60) : gMi l D ca ss ad 108 yX12_copy cX12_copy 7 (some .int) 2 f [.ref (ad 87), .int s, .int i, .int t, .int j, .int n] (fun r u => (r, u) = s_X12_copy ad ca f  s i t j n la dr go lo ma pa tu su fo sz it mo) := by
  refine gMi_ofK (by decide +kernel) (Nat.le_of_ble_eq_true rfl) (lv0 := [(0, .ref (ad 87)), (1, .int s), (2, .int i), (3, .int t), (4, .int j), (5, .int n)]) rfl (fun pT eT sT mT aT below meth cT AT QT C RT => ?_)
  have C : gX pT sT mT aT meth cT AT D ca ss 7 RX12 cX12_copy (some .int) := C
  refine gj_iload_n C 1 dX12_copy_0 rfl 1 rfl ?_
  refine gj_callSi C w_940 w_939 (c_X12_isSheet s) mc_X12_isSheet ⟨Nat.le_of_ble_eq_true rfl, Nat.le_of_ble_eq_true rfl⟩ (rest := []) rfl (Nat.le_of_ble_eq_true rfl) dX12_copy_1 (fun r u h => ?_)
  obtain ⟨hr_, h⟩ := h; rw [hr_]
  rw [h]
  refine gj_if_eq C 14 dX12_copy_4 (by decide) (fun c_1 => ?_) (fun c_1 => ?_)
  · refine gj_bipush C (v := (-2)) (by decide) dX12_copy_14 ?_
    exact RT _ _ _ _ (show s_X12_copy ad ca f s i t j n la dr go lo ma pa tu su fo sz it mo = _ from (if_pos c_1).trans (rfl)).symm dX12_copy_16
  · refine gj_iload_n C 3 dX12_copy_7 rfl 3 rfl ?_
    refine gj_callSi C w_940 w_939 (c_X12_isSheet t) mc_X12_isSheet ⟨Nat.le_of_ble_eq_true rfl, Nat.le_of_ble_eq_true rfl⟩ (rest := []) rfl (Nat.le_of_ble_eq_true rfl) dX12_copy_8 (fun r u h => ?_)
    obtain ⟨hr_, h⟩ := h; rw [hr_]
    rw [h]
    refine gj_if_ne C 17 dX12_copy_11 (by decide) (fun c_2 => ?_) (fun c_2 => ?_)
    · refine gj_aload_n C 0 dX12_copy_17 rfl 0 rfl ?_
      refine gj_get C 87 (by decide) hc0 inX12 rfl 0 (by decide) w_849 (v := .ref (ad 88)) rfl dX12_copy_18 ?_
      refine gj_iload_n C 1 dX12_copy_21 rfl 1 rfl ?_
      refine gj_iald C 88 (by decide) hc1 (in4 (q_isSheet c_1)) dX12_copy_22 ?_
      refine gj_if_lt C 35 dX12_copy_23 (by decide) (fun c_3 => ?_) (fun c_3 => ?_)
      · refine gj_aload_n C 0 dX12_copy_35 rfl 0 rfl ?_
        refine gj_iconst C (v := 1) (by decide) dX12_copy_36 ?_
        refine gj_callVi C mi_X12_finds w_947 87 (by decide) hc0 rfl (c_X12_finds (1 : Int32) la dr go lo ma pa tu su hc0) mc_X12_finds ⟨Nat.le_of_ble_eq_true rfl, Nat.le_of_ble_eq_true rfl⟩ (rest := []) rfl (Nat.le_of_ble_eq_true rfl) dX12_copy_37 (fun r u h => ?_)
        obtain ⟨hr_, hu_⟩ := h; rw [hr_]; subst hu_
        refine gj_seti (y := (-11)) (by decide) ?_
        exact RT _ _ _ _ (show s_X12_copy ad ca f s i t j n la dr go lo ma pa tu su fo sz it mo = _ from (if_neg c_1).trans ((if_neg c_2).trans ((if_pos c_3).trans (rfl)))).symm dX12_copy_40
      · refine gj_aload_n C 0 dX12_copy_26 rfl 0 rfl ?_
        refine gj_get C 87 (by decide) hc0 inX12 rfl 0 (by decide) w_849 (v := .ref (ad 88)) rfl dX12_copy_27 ?_
        refine gj_iload_n C 3 dX12_copy_30 rfl 3 rfl ?_
        refine gj_iald C 88 (by decide) hc1 (in4 (q_isSheet c_2)) dX12_copy_31 ?_
        refine gj_if_ge C 41 dX12_copy_32 (by decide) (fun c_4 => ?_) (fun c_4 => ?_)
        · refine gj_aload_n C 0 dX12_copy_41 rfl 0 rfl ?_
          refine gj_get C 87 (by decide) hc0 inX12 rfl 0 (by decide) w_849 (v := .ref (ad 88)) rfl dX12_copy_42 ?_
          refine gj_iload_n C 1 dX12_copy_45 rfl 1 rfl ?_
          refine gj_iald C 88 (by decide) hc1 (in4 (q_isSheet c_1)) dX12_copy_46 ?_
          refine gj_aload_n C 0 dX12_copy_47 rfl 0 rfl ?_
          refine gj_get C 87 (by decide) hc0 inX12 rfl 0 (by decide) w_849 (v := .ref (ad 88)) rfl dX12_copy_48 ?_
          refine gj_iload_n C 3 dX12_copy_51 rfl 3 rfl ?_
          refine gj_iald C 88 (by decide) hc1 (in4 (q_isSheet c_2)) dX12_copy_52 ?_
          refine gj_icmp_eq C 62 dX12_copy_53 (by decide) (fun c_5 => ?_) (fun c_5 => ?_)
          · refine gj_iload_n C 2 dX12_copy_62 rfl 2 rfl ?_
            refine gj_if_lt C 111 dX12_copy_63 (by decide) (fun c_6 => ?_) (fun c_6 => ?_)
            · refine gj_aload_n C 0 dX12_copy_111 rfl 0 rfl ?_
              refine gj_iconst C (v := 2) (by decide) dX12_copy_112 ?_
              refine gj_callVi C mi_X12_finds w_947 87 (by decide) hc0 rfl (c_X12_finds (2 : Int32) la dr go lo ma pa tu su hc0) mc_X12_finds ⟨Nat.le_of_ble_eq_true rfl, Nat.le_of_ble_eq_true rfl⟩ (rest := []) rfl (Nat.le_of_ble_eq_true rfl) dX12_copy_113 (fun r u h => ?_)
              obtain ⟨hr_, hu_⟩ := h; rw [hr_]; subst hu_
              refine gj_seti (y := (-12)) (by decide) ?_
              exact RT _ _ _ _ (show s_X12_copy ad ca f s i t j n la dr go lo ma pa tu su fo sz it mo = _ from (if_neg c_1).trans ((if_neg c_2).trans ((if_neg c_3).trans ((if_pos c_4).trans ((if_pos c_5).trans ((if_pos c_6).trans (rfl))))))).symm dX12_copy_116
            · refine gj_iload C dX12_copy_66 4 rfl ?_
              refine gj_if_lt C 111 dX12_copy_68 (by decide) (fun c_7 => ?_) (fun c_7 => ?_)
              · refine gj_aload_n C 0 dX12_copy_111 rfl 0 rfl ?_
                refine gj_iconst C (v := 2) (by decide) dX12_copy_112 ?_
                refine gj_callVi C mi_X12_finds w_947 87 (by decide) hc0 rfl (c_X12_finds (2 : Int32) la dr go lo ma pa tu su hc0) mc_X12_finds ⟨Nat.le_of_ble_eq_true rfl, Nat.le_of_ble_eq_true rfl⟩ (rest := []) rfl (Nat.le_of_ble_eq_true rfl) dX12_copy_113 (fun r u h => ?_)
                obtain ⟨hr_, hu_⟩ := h; rw [hr_]; subst hu_
                refine gj_seti (y := (-12)) (by decide) ?_
                exact RT _ _ _ _ (show s_X12_copy ad ca f s i t j n la dr go lo ma pa tu su fo sz it mo = _ from (if_neg c_1).trans ((if_neg c_2).trans ((if_neg c_3).trans ((if_pos c_4).trans ((if_pos c_5).trans ((if_neg c_6).trans ((if_pos c_7).trans (rfl)))))))).symm dX12_copy_116
              · refine gj_iload C dX12_copy_71 5 rfl ?_
                refine gj_if_lt C 111 dX12_copy_73 (by decide) (fun c_8 => ?_) (fun c_8 => ?_)
                · refine gj_aload_n C 0 dX12_copy_111 rfl 0 rfl ?_
                  refine gj_iconst C (v := 2) (by decide) dX12_copy_112 ?_
                  refine gj_callVi C mi_X12_finds w_947 87 (by decide) hc0 rfl (c_X12_finds (2 : Int32) la dr go lo ma pa tu su hc0) mc_X12_finds ⟨Nat.le_of_ble_eq_true rfl, Nat.le_of_ble_eq_true rfl⟩ (rest := []) rfl (Nat.le_of_ble_eq_true rfl) dX12_copy_113 (fun r u h => ?_)
                  obtain ⟨hr_, hu_⟩ := h; rw [hr_]; subst hu_
                  refine gj_seti (y := (-12)) (by decide) ?_
                  exact RT _ _ _ _ (show s_X12_copy ad ca f s i t j n la dr go lo ma pa tu su fo sz it mo = _ from (if_neg c_1).trans ((if_neg c_2).trans ((if_neg c_3).trans ((if_pos c_4).trans ((if_pos c_5).trans ((if_neg c_6).trans ((if_neg c_7).trans ((if_pos c_8).trans (rfl))))))))).symm dX12_copy_116
                · refine gj_iload_n C 2 dX12_copy_76 rfl 2 rfl ?_
                  refine gj_i2l C dX12_copy_77 ?_
                  refine gj_iload C dX12_copy_78 5 rfl ?_
                  refine gj_i2l C dX12_copy_80 ?_
                  refine gj_ladd C dX12_copy_81 ?_
                  refine gj_aload_n C 0 dX12_copy_82 rfl 0 rfl ?_
                  refine gj_get C 87 (by decide) hc0 inX12 rfl 1 (by decide) w_850 (v := .ref (ad 89)) rfl dX12_copy_83 ?_
                  refine gj_iload_n C 1 dX12_copy_86 rfl 1 rfl ?_
                  refine gj_iald C 89 (by decide) hc2 (in4 (q_isSheet c_1)) dX12_copy_87 ?_
                  refine gj_i2l C dX12_copy_88 ?_
                  refine gj_lcmp C dX12_copy_89 ?_
                  refine gj_if_gt C 111 dX12_copy_90 (by decide) (fun c_9 => ?_) (fun c_9 => ?_)
                  · refine gj_aload_n C 0 dX12_copy_111 rfl 0 rfl ?_
                    refine gj_iconst C (v := 2) (by decide) dX12_copy_112 ?_
                    refine gj_callVi C mi_X12_finds w_947 87 (by decide) hc0 rfl (c_X12_finds (2 : Int32) la dr go lo ma pa tu su hc0) mc_X12_finds ⟨Nat.le_of_ble_eq_true rfl, Nat.le_of_ble_eq_true rfl⟩ (rest := []) rfl (Nat.le_of_ble_eq_true rfl) dX12_copy_113 (fun r u h => ?_)
                    obtain ⟨hr_, hu_⟩ := h; rw [hr_]; subst hu_
                    refine gj_seti (y := (-12)) (by decide) ?_
                    exact RT _ _ _ _ (show s_X12_copy ad ca f s i t j n la dr go lo ma pa tu su fo sz it mo = _ from (if_neg c_1).trans ((if_neg c_2).trans ((if_neg c_3).trans ((if_pos c_4).trans ((if_pos c_5).trans ((if_neg c_6).trans ((if_neg c_7).trans ((if_neg c_8).trans ((if_pos c_9).trans (rfl)))))))))).symm dX12_copy_116
                  · refine gj_iload C dX12_copy_93 4 rfl ?_
                    refine gj_i2l C dX12_copy_95 ?_
                    refine gj_iload C dX12_copy_96 5 rfl ?_
                    refine gj_i2l C dX12_copy_98 ?_
                    refine gj_ladd C dX12_copy_99 ?_
                    refine gj_aload_n C 0 dX12_copy_100 rfl 0 rfl ?_
                    refine gj_get C 87 (by decide) hc0 inX12 rfl 1 (by decide) w_850 (v := .ref (ad 89)) rfl dX12_copy_101 ?_
                    refine gj_iload_n C 3 dX12_copy_104 rfl 3 rfl ?_
                    refine gj_iald C 89 (by decide) hc2 (in4 (q_isSheet c_2)) dX12_copy_105 ?_
                    refine gj_i2l C dX12_copy_106 ?_
                    refine gj_lcmp C dX12_copy_107 ?_
                    refine gj_if_le C 117 dX12_copy_108 (by decide) (fun c_10 => ?_) (fun c_10 => ?_)
                    · have zs := hsz _ (cl4 (q_isSheet c_1))
                      have zt := hsz _ (cl4 (q_isSheet c_2))
                      have g1 : i.toInt64 + n.toInt64 ≤ (sz s.toNatClampNeg).toInt64 := by rw [lg_cmp_gt] at c_9; rw [i64_lt] at c_9; rw [i64_le]; exact Int.not_lt.mp c_9
                      have g2 : j.toInt64 + n.toInt64 ≤ (sz t.toNatClampNeg).toInt64 := (lg_cmp_le _ _).mp c_10
                      obtain ⟨jN, kN, hjk, ej, ek⟩ := cp_n c_7 c_8 zt g2
                      obtain ⟨iN, nN, hin, ei, en⟩ := cp_n c_6 c_8 zs g1
                      have ekn : kN = nN := (nI_eq (by omega) (by omega)).mp (ek.symm.trans en)
                      subst ekn
                      subst ei
                      subst ej
                      subst en
                      obtain ⟨sN, hsN, rfl⟩ := n_sheet c_1
                      obtain ⟨tN, htN, rfl⟩ := n_sheet c_2
                      refine gj_iconst C (v := 0) (by decide) dX12_copy_117 ?_
                      refine gj_seti (y := nI 0) rfl ?_
                      refine gj_istore C (lv' := [(6, .int (nI 0)), (0, .ref (ad 87)), (1, .int (nI sN)), (2, .int (nI iN)), (3, .int (nI tN)), (4, .int (nI jN)), (5, .int (nI kN))]) dX12_copy_118 (by decide) rfl ?_
                      refine gj_setf (up_id hc4).symm ?_
                      refine gj_setf (g := va_up f 91 (.inl (ca 0, 60, .inl (pF mo 0 0 (fun k => it (60 * sN + iN + k)))))) (by rw [pF_0]) ?_
                      have loop_11 : ∀ (m0 t0 : Nat), t0 + m0 = kN → gJ pT l eT (Rm 2) sT mT aT below meth cT AT QT D ad 108 7 (va_up f 91 (.inl (ca 0, 60, .inl (pF mo 0 t0 (fun k => it (60 * sN + iN + k)))))) [(6, .int (nI t0)), (0, .ref (ad 87)), (1, .int (nI sN)), (2, .int (nI iN)), (3, .int (nI tN)), (4, .int (nI jN)), (5, .int (nI kN))] 120 [] := by
                        intro m0
                        induction m0 with
                        | zero =>
                          intro t0 hk_t0  
                          refine gj_iload C dX12_copy_120 0 rfl ?_
                          refine gj_iload C dX12_copy_122 6 rfl ?_
                          refine gj_icmp_ge C 154 dX12_copy_124 (by decide) (fun c_13 => ?_) (fun c_13 => absurd (nI_le (by omega) (by omega)) c_13)
                          refine gj_iconst C (v := 0) (by decide) dX12_copy_154 ?_
                          refine gj_seti (y := nI 0) rfl ?_
                          refine gj_istore C (lv' := [(6, .int (nI 0)), (0, .ref (ad 87)), (1, .int (nI sN)), (2, .int (nI iN)), (3, .int (nI tN)), (4, .int (nI jN)), (5, .int (nI kN))]) dX12_copy_155 (by decide) rfl ?_
                          refine gj_setf (g := va_up f 91 (.inl (ca 0, 60, .inl (pF mo 0 kN (fun k => it (60 * sN + iN + k)))))) (by obtain rfl : t0 = kN := (by omega); rfl) ?_
                          refine gj_setf (up_id (up_nx (by decide) (hc3))).symm ?_
                          refine gj_setf (g := va_up (va_up f 91 (.inl (ca 0, 60, .inl (pF mo 0 kN (fun k => it (60 * sN + iN + k)))))) 90 (.inl (ca 0, 240, .inl (pF it (60 * tN + jN) 0 (fun k => it (60 * sN + iN + k)))))) (by rw [pF_0]) ?_
                          have loop_14 : ∀ (m1 t1 : Nat), t1 + m1 = kN → gJ pT l eT (Rm 2) sT mT aT below meth cT AT QT D ad 108 7 (va_up (va_up f 91 (.inl (ca 0, 60, .inl (pF mo 0 kN (fun k => it (60 * sN + iN + k)))))) 90 (.inl (ca 0, 240, .inl (pF it (60 * tN + jN) t1 (fun k => it (60 * sN + iN + k)))))) [(6, .int (nI t1)), (0, .ref (ad 87)), (1, .int (nI sN)), (2, .int (nI iN)), (3, .int (nI tN)), (4, .int (nI jN)), (5, .int (nI kN))] 157 [] := by
                            intro m1
                            induction m1 with
                            | zero =>
                              intro t1 hk_t1  
                              refine gj_iload C dX12_copy_157 0 rfl ?_
                              refine gj_iload C dX12_copy_159 6 rfl ?_
                              refine gj_icmp_ge C 192 dX12_copy_161 (by decide) (fun c_16 => ?_) (fun c_16 => absurd (nI_le (by omega) (by omega)) c_16)
                              refine gj_setf (g := va_up (va_up f 91 (.inl (ca 0, 60, .inl (pF mo 0 (nI kN).toNatClampNeg (fun k => it (60 * (nI sN).toNatClampNeg + (nI iN).toNatClampNeg + k)))))) 90 (.inl (ca 0, 240, .inl (pF it (60 * (nI tN).toNatClampNeg + (nI jN).toNatClampNeg) (nI kN).toNatClampNeg (fun k => it (60 * (nI sN).toNatClampNeg + (nI iN).toNatClampNeg + k)))))) (by rw [nI_clamp (show sN < 2 ^ 31 by omega), nI_clamp (show iN < 2 ^ 31 by omega), nI_clamp (show tN < 2 ^ 31 by omega), nI_clamp (show jN < 2 ^ 31 by omega), nI_clamp (show kN < 2 ^ 31 by omega)]; obtain rfl : t1 = kN := (by omega); rfl) ?_
                              refine gj_iconst C (v := 1) (by decide) dX12_copy_192 ?_
                              exact RT _ _ _ _ (show s_X12_copy ad ca f (nI sN) (nI iN) (nI tN) (nI jN) (nI kN) la dr go lo ma pa tu su fo sz it mo = _ from (if_neg c_1).trans ((if_neg c_2).trans ((if_neg c_3).trans ((if_pos c_4).trans ((if_pos c_5).trans ((if_neg c_6).trans ((if_neg c_7).trans ((if_neg c_8).trans ((if_neg c_9).trans ((if_pos c_10).trans (rfl))))))))))).symm dX12_copy_193
                            | succ m1 ih_15 =>
                              intro t1 hk_t1  
                              refine gj_iload C dX12_copy_157 0 rfl ?_
                              refine gj_iload C dX12_copy_159 6 rfl ?_
                              refine gj_icmp_ge C 192 dX12_copy_161 (by decide) (fun c_17 => absurd c_17 (nI_ge (by omega) (by omega))) (fun c_17 => ?_)
                              refine gj_aload_n C 0 dX12_copy_164 rfl 1 rfl ?_
                              refine gj_get C 87 (by decide) (up_nx (by decide) (up_nx (by decide) (hc0))) inX12 rfl 2 (by decide) w_851 (v := .ref (ad 90)) rfl dX12_copy_165 ?_
                              refine gj_bipush C (v := 60) (by decide) dX12_copy_168 ?_
                              refine gj_iload_n C 3 dX12_copy_170 rfl 4 rfl ?_
                              refine gj_imul C dX12_copy_171 ?_
                              refine gj_iload C dX12_copy_172 5 rfl ?_
                              refine gj_iadd C dX12_copy_174 ?_
                              refine gj_iload C dX12_copy_175 0 rfl ?_
                              refine gj_iadd C dX12_copy_177 ?_
                              refine gj_aload_n C 0 dX12_copy_178 rfl 1 rfl ?_
                              refine gj_get C 87 (by decide) (up_nx (by decide) (up_nx (by decide) (hc0))) inX12 rfl 3 (by decide) w_852 (v := .ref (ad 91)) rfl dX12_copy_179 ?_
                              refine gj_iload C dX12_copy_182 0 rfl ?_
                              refine gj_iald C 91 (by decide) (up_nx (by decide) (va_up_self _ _ _)) (vp_in_nI (by omega) (by omega)) dX12_copy_184 ?_
                              refine gj_seti (by rw [nI_clamp (show t1 < 2 ^ 31 by omega), pF_in0 mo (fun k => it (60 * sN + iN + k)) (by omega)]) ?_
                              refine gj_iast C 90 (by decide) (va_up_self _ _ _) (ix3i (a := 60) (by omega) (by omega)) dX12_copy_185 ?_
                              refine gj_setf (bx_uu _ _ _ _) ?_
                              refine gj_setf (g := va_up (va_up f 91 (.inl (ca 0, 60, .inl (pF mo 0 kN (fun k => it (60 * sN + iN + k)))))) 90 (.inl (ca 0, 240, .inl (pF it (60 * tN + jN) (t1 + 1) (fun k => it (60 * sN + iN + k)))))) (by rw [show (60 * nI tN + nI jN + nI t1).toNatClampNeg = 60 * tN + jN + t1 from ix3c (a := 60) (by omega), ← pF_s it (60 * tN + jN) t1 (fun k => it (60 * sN + iN + k))]) ?_
                              refine gj_iinc C (v := nI (t1 + 1)) (lv' := [(6, .int (nI (t1 + 1))), (0, .ref (ad 87)), (1, .int (nI sN)), (2, .int (nI iN)), (3, .int (nI tN)), (4, .int (nI jN)), (5, .int (nI kN))]) dX12_copy_186 0 rfl (nI_1 _) (by decide) rfl ?_
                              refine gj_goto C 157 dX12_copy_189 (by decide) ?_
                              refine gj_lv [0, 1, 2, 3, 4, 5, 6] rfl ?_
                              exact ih_15 (t1 + 1) (by omega)
                          refine gj_lv [0, 1, 2, 3, 4, 5, 6] rfl ?_
                          exact loop_14 (kN - 0) 0 (by omega)
                        | succ m0 ih_12 =>
                          intro t0 hk_t0  
                          refine gj_iload C dX12_copy_120 0 rfl ?_
                          refine gj_iload C dX12_copy_122 6 rfl ?_
                          refine gj_icmp_ge C 154 dX12_copy_124 (by decide) (fun c_18 => absurd c_18 (nI_ge (by omega) (by omega))) (fun c_18 => ?_)
                          refine gj_aload_n C 0 dX12_copy_127 rfl 1 rfl ?_
                          refine gj_get C 87 (by decide) (up_nx (by decide) (hc0)) inX12 rfl 3 (by decide) w_852 (v := .ref (ad 91)) rfl dX12_copy_128 ?_
                          refine gj_iload C dX12_copy_131 0 rfl ?_
                          refine gj_aload_n C 0 dX12_copy_133 rfl 1 rfl ?_
                          refine gj_get C 87 (by decide) (up_nx (by decide) (hc0)) inX12 rfl 2 (by decide) w_851 (v := .ref (ad 90)) rfl dX12_copy_134 ?_
                          refine gj_bipush C (v := 60) (by decide) dX12_copy_137 ?_
                          refine gj_iload_n C 1 dX12_copy_139 rfl 2 rfl ?_
                          refine gj_imul C dX12_copy_140 ?_
                          refine gj_iload_n C 2 dX12_copy_141 rfl 3 rfl ?_
                          refine gj_iadd C dX12_copy_142 ?_
                          refine gj_iload C dX12_copy_143 0 rfl ?_
                          refine gj_iadd C dX12_copy_145 ?_
                          refine gj_iald C 90 (by decide) (up_nx (by decide) (hc3)) (ix3i (a := 60) (by omega) (by omega)) dX12_copy_146 ?_
                          refine gj_seti (congrArg _ (ix3c (a := 60) (by omega))) ?_
                          refine gj_iast C 91 (by decide) (va_up_self _ _ _) (vp_in_nI (by omega) (by omega)) dX12_copy_147 ?_
                          refine gj_setf (bx_uu _ _ _ _) ?_
                          refine gj_setf (g := va_up f 91 (.inl (ca 0, 60, .inl (pF mo 0 (t0 + 1) (fun k => it (60 * sN + iN + k)))))) (by rw [nI_clamp (show t0 < 2 ^ 31 by omega), ← pF_s mo 0 t0 (fun k => it (60 * sN + iN + k)), Nat.zero_add]) ?_
                          refine gj_iinc C (v := nI (t0 + 1)) (lv' := [(6, .int (nI (t0 + 1))), (0, .ref (ad 87)), (1, .int (nI sN)), (2, .int (nI iN)), (3, .int (nI tN)), (4, .int (nI jN)), (5, .int (nI kN))]) dX12_copy_148 0 rfl (nI_1 _) (by decide) rfl ?_
                          refine gj_goto C 120 dX12_copy_151 (by decide) ?_
                          refine gj_lv [0, 1, 2, 3, 4, 5, 6] rfl ?_
                          exact ih_12 (t0 + 1) (by omega)
                      refine gj_lv [0, 1, 2, 3, 4, 5, 6] rfl ?_
                      exact loop_11 (kN - 0) 0 (by omega)
                    · refine gj_aload_n C 0 dX12_copy_111 rfl 0 rfl ?_
                      refine gj_iconst C (v := 2) (by decide) dX12_copy_112 ?_
                      refine gj_callVi C mi_X12_finds w_947 87 (by decide) hc0 rfl (c_X12_finds (2 : Int32) la dr go lo ma pa tu su hc0) mc_X12_finds ⟨Nat.le_of_ble_eq_true rfl, Nat.le_of_ble_eq_true rfl⟩ (rest := []) rfl (Nat.le_of_ble_eq_true rfl) dX12_copy_113 (fun r u h => ?_)
                      obtain ⟨hr_, hu_⟩ := h; rw [hr_]; subst hu_
                      refine gj_seti (y := (-12)) (by decide) ?_
                      exact RT _ _ _ _ (show s_X12_copy ad ca f s i t j n la dr go lo ma pa tu su fo sz it mo = _ from (if_neg c_1).trans ((if_neg c_2).trans ((if_neg c_3).trans ((if_pos c_4).trans ((if_pos c_5).trans ((if_neg c_6).trans ((if_neg c_7).trans ((if_neg c_8).trans ((if_neg c_9).trans ((if_neg c_10).trans (rfl))))))))))).symm dX12_copy_116
          · refine gj_aload_n C 0 dX12_copy_56 rfl 0 rfl ?_
            refine gj_iconst C (v := 4) (by decide) dX12_copy_57 ?_
            refine gj_callVi C mi_X12_finds w_947 87 (by decide) hc0 rfl (c_X12_finds (4 : Int32) la dr go lo ma pa tu su hc0) mc_X12_finds ⟨Nat.le_of_ble_eq_true rfl, Nat.le_of_ble_eq_true rfl⟩ (rest := []) rfl (Nat.le_of_ble_eq_true rfl) dX12_copy_58 (fun r u h => ?_)
            obtain ⟨hr_, hu_⟩ := h; rw [hr_]; subst hu_
            refine gj_seti (y := (-14)) (by decide) ?_
            exact RT _ _ _ _ (show s_X12_copy ad ca f s i t j n la dr go lo ma pa tu su fo sz it mo = _ from (if_neg c_1).trans ((if_neg c_2).trans ((if_neg c_3).trans ((if_pos c_4).trans ((if_neg c_5).trans (rfl)))))).symm dX12_copy_61
        · refine gj_aload_n C 0 dX12_copy_35 rfl 0 rfl ?_
          refine gj_iconst C (v := 1) (by decide) dX12_copy_36 ?_
          refine gj_callVi C mi_X12_finds w_947 87 (by decide) hc0 rfl (c_X12_finds (1 : Int32) la dr go lo ma pa tu su hc0) mc_X12_finds ⟨Nat.le_of_ble_eq_true rfl, Nat.le_of_ble_eq_true rfl⟩ (rest := []) rfl (Nat.le_of_ble_eq_true rfl) dX12_copy_37 (fun r u h => ?_)
          obtain ⟨hr_, hu_⟩ := h; rw [hr_]; subst hu_
          refine gj_seti (y := (-11)) (by decide) ?_
          exact RT _ _ _ _ (show s_X12_copy ad ca f s i t j n la dr go lo ma pa tu su fo sz it mo = _ from (if_neg c_1).trans ((if_neg c_2).trans ((if_neg c_3).trans ((if_neg c_4).trans (rfl))))).symm dX12_copy_40
    · refine gj_bipush C (v := (-2)) (by decide) dX12_copy_14 ?_
      exact RT _ _ _ _ (show s_X12_copy ad ca f s i t j n la dr go lo ma pa tu su fo sz it mo = _ from (if_neg c_1).trans ((if_pos c_2).trans (rfl))).symm dX12_copy_16
