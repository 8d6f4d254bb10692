/-- n places from b on become what g says -/
def pF (it : Nat → Int32) (b n : Nat) (g : Nat → Int32) : Nat → Int32 := fun j => if b ≤ j ∧ j < b + n then g (j - b) else it j
theorem pF_0 (it : Nat → Int32) (b : Nat) (g : Nat → Int32) : pF it b 0 g = it := by
  funext j; unfold pF; exact if_neg (by omega)
theorem pF_s (it : Nat → Int32) (b n : Nat) (g : Nat → Int32) : upd (pF it b n g) (b + n) (g n) = pF it b (n + 1) g := by
  funext j
  by_cases h : j = b + n
  · subst h
    rw [pk_us]
    unfold pF
    rw [if_pos (by omega), show b + n - b = n by omega]
  · rw [pk_un h]
    unfold pF
    by_cases h2 : b ≤ j ∧ j < b + n
    · rw [if_pos h2, if_pos (by omega)]
    · rw [if_neg h2, if_neg (by omega)]
theorem pF_out (it : Nat → Int32) {b n j : Nat} (g : Nat → Int32) (h : j < b ∨ b + n ≤ j) : pF it b n g j = it j := by
  unfold pF; exact if_neg (by omega)
theorem lin_n {a s i : Nat} (h : a * s + i < 2 ^ 31) : nI a * nI s + nI i = nI (a * s + i) := by rw [pk_mul, nI_add]
theorem ix_in {a s i n : Nat} (h : a * s + i < n) (hn : n < 2 ^ 31) : vp_in (nI a * nI s + nI i) n := by rw [pk_mul, nI_add]; exact vp_in_nI h hn
theorem ix_cl {a s i : Nat} (h : a * s + i < 2 ^ 31) : (nI a * nI s + nI i).toNatClampNeg = a * s + i := by rw [pk_mul, nI_add]; exact nI_clamp h
theorem n_of {x : Int32} {m : Nat} (h0 : 0 ≤ x) (h1 : x ≤ nI m) (hm : m < 2 ^ 30) : ∃ j, j ≤ m ∧ x = nI j := by
  rw [i32_le] at h0 h1
  rw [nI_toInt (by omega)] at h1
  have e0 : (0 : Int32).toInt = 0 := rfl
  obtain ⟨j, hj, e⟩ := vp_in_of (n := m + 1) (vin (x := x) (by omega) (by omega)) (by omega)
  exact ⟨j, by omega, e⟩
theorem n_sheet {k : Int32} (h : ¬ s_X12_isSheet k = 0) : ∃ j, j < 4 ∧ k = nI j := vp_in_of (in4 (q_isSheet h)) (by omega)
theorem n_tray {k : Int32} (h : ¬ s_X12_isTray k = 0) : ∃ j, j < 4 ∧ k = nI j := vp_in_of (in4 (q_isTray h)) (by omega)

def s_X12_sheet (ad ca : Nat → Nat) (f : Nat → va_E)  (s : Int32) (q : Int32) (n : Int32) (la : Int32) (dr : Int32) (go : Int32) (lo : Int32) (ma : Int32) (pa : Int32) (tu : Int32) (su : Int32) (fo : Nat → Int32) (sz : Nat → Int32) (it : Nat → Int32) : Int32 × (Nat → va_E) := if s_X12_isSheet s = 0 then (-2, f) else if s_X12_in q.toInt64 (0 : Int64) (2 : Int64) = 0 then (-2, f) else if n ≤ 60 then (if 0 ≤ n then (n, va_up (va_up (va_up f 88 (.inl (ca 0, 4, .inl (upd fo s.toNatClampNeg q)))) 89 (.inl (ca 0, 4, .inl (upd sz s.toNatClampNeg n)))) 90 (.inl (ca 0, 240, .inl (pF it (60 * s.toNatClampNeg) n.toNatClampNeg (kI 0))))) else (-15, va_up f 87 (.inr (11, mF ad (5 : Int32) dr go lo ma pa tu su)))) else (-2, f)
set_option maxHeartbeats 400000 in
set_option maxRecDepth 100000 in
theorem c_X12_sheet {l : Launch} {D : va_G} {ca ss ad : Nat → Nat} {f : Nat → va_E}  (s : Int32) (q : Int32) (n : Int32) (la : Int32) (dr : Int32) (go : Int32) (lo : Int32) (ma : Int32) (pa : Int32) (tu : Int32) (su : Int32) (fo : Nat → Int32) (sz : Nat → Int32) (it : Nat → Int32) (hc0 : f 87 = .inr (11, mF ad la dr go lo ma pa tu su)) (hc1 : f 88 = .inl (ca 0, 4, .inl fo)) (hc2 : f 89 = .inl (ca 0, 4, .inl sz)) (hc3 : f 90 = .inl (ca 0, 240, .inl it))  : gMi l D ca ss ad 108 yX12_sheet cX12_sheet 5 (some .int) 2 f [.ref (ad 87), .int s, .int q, .int n] (fun r u => (r, u) = s_X12_sheet ad ca f  s q n la dr go lo ma pa tu su fo sz it) := by
  refine gMi_ofK (by decide +kernel) (Nat.le_of_ble_eq_true rfl) (lv0 := [(0, .ref (ad 87)), (1, .int s), (2, .int q), (3, .int n)]) rfl (fun pT eT sT mT aT below meth cT AT QT C RT => ?_)
  have C : gX pT sT mT aT meth cT AT D ca ss 5 RX12 cX12_sheet (some .int) := C
  refine gj_iload_n C 1 dX12_sheet_0 rfl 1 rfl ?_
  refine gj_callSi C w_940 w_939 (c_X12_isSheet s) mc_X12_isSheet ⟨Nat.le_of_ble_eq_true rfl, Nat.le_of_ble_eq_true rfl⟩ (rest := []) rfl (Nat.le_of_ble_eq_true rfl) dX12_sheet_1 (fun r u h => ?_)
  obtain ⟨hr_, h⟩ := h; rw [hr_]
  rw [h]
  refine gj_if_eq C 25 dX12_sheet_4 (by decide) (fun c_1 => ?_) (fun c_1 => ?_)
  · refine gj_bipush C (v := (-2)) (by decide) dX12_sheet_25 ?_
    exact RT _ _ _ _ (show s_X12_sheet ad ca f s q n la dr go lo ma pa tu su fo sz it = _ from (if_pos c_1).trans (rfl)).symm dX12_sheet_27
  · refine gj_iload_n C 2 dX12_sheet_7 rfl 2 rfl ?_
    refine gj_i2l C dX12_sheet_8 ?_
    refine gj_lconst C (v := 0) rfl dX12_sheet_9 ?_
    refine gj_ldc2 C (v := 2) w_946 dX12_sheet_10 ?_
    refine gj_callSi C w_944 w_943 (c_X12_in q.toInt64 (0 : Int64) (2 : Int64)) mc_X12_in ⟨Nat.le_of_ble_eq_true rfl, Nat.le_of_ble_eq_true rfl⟩ (rest := []) rfl (Nat.le_of_ble_eq_true rfl) dX12_sheet_13 (fun r u h => ?_)
    obtain ⟨hr_, h⟩ := h; rw [hr_]
    rw [h]
    refine gj_if_eq C 25 dX12_sheet_16 (by decide) (fun c_2 => ?_) (fun c_2 => ?_)
    · refine gj_bipush C (v := (-2)) (by decide) dX12_sheet_25 ?_
      exact RT _ _ _ _ (show s_X12_sheet ad ca f s q n la dr go lo ma pa tu su fo sz it = _ from (if_neg c_1).trans ((if_pos c_2).trans (rfl))).symm dX12_sheet_27
    · refine gj_iload_n C 3 dX12_sheet_19 rfl 3 rfl ?_
      refine gj_bipush C (v := 60) (by decide) dX12_sheet_20 ?_
      refine gj_icmp_le C 28 dX12_sheet_22 (by decide) (fun c_3 => ?_) (fun c_3 => ?_)
      · refine gj_iload_n C 3 dX12_sheet_28 rfl 3 rfl ?_
        refine gj_if_ge C 38 dX12_sheet_29 (by decide) (fun c_4 => ?_) (fun c_4 => ?_)
        · refine gj_aload_n C 0 dX12_sheet_38 rfl 0 rfl ?_
          refine gj_get C 87 (by decide) hc0 inX12 rfl 0 (by decide) w_849 (v := .ref (ad 88)) rfl dX12_sheet_39 ?_
          refine gj_iload_n C 1 dX12_sheet_42 rfl 1 rfl ?_
          refine gj_iload_n C 2 dX12_sheet_43 rfl 2 rfl ?_
          refine gj_iast C 88 (by decide) hc1 (in4 (q_isSheet c_1)) dX12_sheet_44 ?_
          refine gj_aload_n C 0 dX12_sheet_45 rfl 0 rfl ?_
          refine gj_get C 87 (by decide) (up_nx (by decide) (hc0)) inX12 rfl 1 (by decide) w_850 (v := .ref (ad 89)) rfl dX12_sheet_46 ?_
          refine gj_iload_n C 1 dX12_sheet_49 rfl 1 rfl ?_
          refine gj_iload_n C 3 dX12_sheet_50 rfl 3 rfl ?_
          refine gj_iast C 89 (by decide) (up_nx (by decide) (hc2)) (in4 (q_isSheet c_1)) dX12_sheet_51 ?_
          obtain ⟨nN, hnN, rfl⟩ := n_of (m := 60) c_4 c_3 (by omega)
          obtain ⟨sN, hsN, rfl⟩ := n_sheet c_1
          refine gj_iconst C (v := 0) (by decide) dX12_sheet_52 ?_
          refine gj_seti (y := nI 0) rfl ?_
          refine gj_istore C (lv' := [(4, .int (nI 0)), (0, .ref (ad 87)), (1, .int (nI sN)), (2, .int q), (3, .int (nI nN))]) dX12_sheet_53 (by decide) rfl ?_
          refine gj_setf (up_id (up_nx (by decide) (up_nx (by decide) (hc3)))).symm ?_
          refine gj_setf (g := va_up (va_up (va_up f 88 (.inl (ca 0, 4, .inl (upd fo (nI sN).toNatClampNeg q)))) 89 (.inl (ca 0, 4, .inl (upd sz (nI sN).toNatClampNeg (nI nN))))) 90 (.inl (ca 0, 240, .inl (pF it (60 * sN) 0 (kI 0))))) (by rw [pF_0]) ?_
          have loop_5 : ∀ (m0 t0 : Nat), t0 + m0 = nN → gJ pT l eT (Rm 2) sT mT aT below meth cT AT QT D ad 108 5 (va_up (va_up (va_up f 88 (.inl (ca 0, 4, .inl (upd fo (nI sN).toNatClampNeg q)))) 89 (.inl (ca 0, 4, .inl (upd sz (nI sN).toNatClampNeg (nI nN))))) 90 (.inl (ca 0, 240, .inl (pF it (60 * sN) t0 (kI 0))))) [(4, .int (nI t0)), (0, .ref (ad 87)), (1, .int (nI sN)), (2, .int q), (3, .int (nI nN))] 55 [] := by
            intro m0
            induction m0 with
            | zero =>
              intro t0 hk_t0  
              refine gj_iload C dX12_sheet_55 0 rfl ?_
              refine gj_iload_n C 3 dX12_sheet_57 rfl 4 rfl ?_
              refine gj_icmp_ge C 80 dX12_sheet_58 (by decide) (fun c_7 => ?_) (fun c_7 => absurd (nI_le (by omega) (by omega)) c_7)
              refine gj_setf (g := va_up (va_up (va_up f 88 (.inl (ca 0, 4, .inl (upd fo (nI sN).toNatClampNeg q)))) 89 (.inl (ca 0, 4, .inl (upd sz (nI sN).toNatClampNeg (nI nN))))) 90 (.inl (ca 0, 240, .inl (pF it (60 * (nI sN).toNatClampNeg) (nI nN).toNatClampNeg (kI 0))))) (by obtain rfl : t0 = nN := (by omega); rw [nI_clamp (show sN < 2 ^ 31 by omega), nI_clamp (show t0 < 2 ^ 31 by omega)]) ?_
              refine gj_iload_n C 3 dX12_sheet_80 rfl 4 rfl ?_
              exact RT _ _ _ _ (show s_X12_sheet ad ca f (nI sN) q (nI nN) la dr go lo ma pa tu su fo sz it = _ from (if_neg c_1).trans ((if_neg c_2).trans ((if_pos c_3).trans ((if_pos c_4).trans (rfl))))).symm dX12_sheet_81
            | succ m0 ih_6 =>
              intro t0 hk_t0  
              refine gj_iload C dX12_sheet_55 0 rfl ?_
              refine gj_iload_n C 3 dX12_sheet_57 rfl 4 rfl ?_
              refine gj_icmp_ge C 80 dX12_sheet_58 (by decide) (fun c_8 => absurd c_8 (nI_ge (by omega) (by omega))) (fun c_8 => ?_)
              refine gj_aload_n C 0 dX12_sheet_61 rfl 1 rfl ?_
              refine gj_get C 87 (by decide) (up_nx (by decide) (up_nx (by decide) (up_nx (by decide) (hc0)))) inX12 rfl 2 (by decide) w_851 (v := .ref (ad 90)) rfl dX12_sheet_62 ?_
              refine gj_bipush C (v := 60) (by decide) dX12_sheet_65 ?_
              refine gj_iload_n C 1 dX12_sheet_67 rfl 2 rfl ?_
              refine gj_imul C dX12_sheet_68 ?_
              refine gj_iload C dX12_sheet_69 0 rfl ?_
              refine gj_iadd C dX12_sheet_71 ?_
              refine gj_iconst C (v := 0) (by decide) dX12_sheet_72 ?_
              refine gj_iast C 90 (by decide) (va_up_self _ _ _) (ix_in (a := 60) (by omega) (by omega)) dX12_sheet_73 ?_
              refine gj_setf (bx_uu _ _ _ _) ?_
              refine gj_setf (g := va_up (va_up (va_up f 88 (.inl (ca 0, 4, .inl (upd fo (nI sN).toNatClampNeg q)))) 89 (.inl (ca 0, 4, .inl (upd sz (nI sN).toNatClampNeg (nI nN))))) 90 (.inl (ca 0, 240, .inl (pF it (60 * sN) (t0 + 1) (kI 0))))) (by rw [show (60 * nI sN + nI t0).toNatClampNeg = 60 * sN + t0 from ix_cl (a := 60) (by omega), ← pF_s it (60 * sN) t0 (kI 0)]; rfl) ?_
              refine gj_iinc C (v := nI (t0 + 1)) (lv' := [(4, .int (nI (t0 + 1))), (0, .ref (ad 87)), (1, .int (nI sN)), (2, .int q), (3, .int (nI nN))]) dX12_sheet_74 0 rfl (nI_1 _) (by decide) rfl ?_
              refine gj_goto C 55 dX12_sheet_77 (by decide) ?_
              refine gj_lv [0, 1, 2, 3, 4] rfl ?_
              exact ih_6 (t0 + 1) (by omega)
          refine gj_lv [0, 1, 2, 3, 4] rfl ?_
          exact loop_5 (nN - 0) 0 (by omega)
        · refine gj_aload_n C 0 dX12_sheet_32 rfl 0 rfl ?_
          refine gj_iconst C (v := 5) (by decide) dX12_sheet_33 ?_
          refine gj_callVi C mi_X12_finds w_947 87 (by decide) hc0 rfl (c_X12_finds (5 : Int32) la dr go lo ma pa tu su hc0) mc_X12_finds ⟨Nat.le_of_ble_eq_true rfl, Nat.le_of_ble_eq_true rfl⟩ (rest := []) rfl (Nat.le_of_ble_eq_true rfl) dX12_sheet_34 (fun r u h => ?_)
          obtain ⟨hr_, hu_⟩ := h; rw [hr_]; subst hu_
          refine gj_seti (y := (-15)) (by decide) ?_
          exact RT _ _ _ _ (show s_X12_sheet ad ca f s q n la dr go lo ma pa tu su fo sz it = _ from (if_neg c_1).trans ((if_neg c_2).trans ((if_pos c_3).trans ((if_neg c_4).trans (rfl))))).symm dX12_sheet_37
      · refine gj_bipush C (v := (-2)) (by decide) dX12_sheet_25 ?_
        exact RT _ _ _ _ (show s_X12_sheet ad ca f s q n la dr go lo ma pa tu su fo sz it = _ from (if_neg c_1).trans ((if_neg c_2).trans ((if_neg c_3).trans (rfl)))).symm dX12_sheet_27
