def seeF (a b c : Nat) (q : Int32) (i : Nat) (st : (Nat → Int32) × Int32) : (Nat → Int32) × Int32 := if q = 0 then (see0 i a b c st.1, st.2) else (see1 i a b c q st.2 st.1, nDraw (nDraw (nDraw st.2)))
/-- the directions and the seed when i spots have been seen -/
def seeN (a b c : Nat) (q : Int32) (st : (Nat → Int32) × Int32) : Nat → (Nat → Int32) × Int32
  | 0 => st
  | i + 1 => seeF a b c q i (seeN a b c q st i)
theorem n_in {x : Int32} {hi : Int64} {m : Nat} (h : ¬ s_X12_in x.toInt64 (0 : Int64) hi = 0) (hm : hi.toInt ≤ m) (hm2 : m < 2 ^ 30) : ∃ j, j ≤ m ∧ x = nI j := by
  have h1 := min_yes.mp h
  have e0 : (0 : Int64).toInt = 0 := rfl
  rw [i32_w] at h1
  obtain ⟨j, hj, e⟩ := vp_in_of (n := m + 1) (vin (x := x) (by omega) (by omega)) (by omega)
  exact ⟨j, by omega, e⟩
theorem less8 (x : Int32) : (s_X12_lesser (8 : Int32) x).toInt64.toInt ≤ (8 : Nat) := by
  rw [i32_w]
  unfold s_X12_lesser
  have e : (8 : Int32).toInt = 8 := rfl
  by_cases h : x ≤ 8
  · rw [if_pos h]
    rw [i32_le] at h
    omega
  · rw [if_neg h]
    omega
theorem q21 {q : Int32} (h : ¬ s_X12_in q.toInt64 (0 : Int64) (3 : Int64) = 0) : ¬ 2 * q + 1 = 0 := by
  obtain ⟨j, hj, rfl⟩ := n_in (m := 3) h (by decide) (by omega)
  rw [show (2 : Int32) = nI 2 from rfl, pk_mul, nI_1]
  exact nI_ne0 (by omega) (by omega)

def s_X12_fork (ad ca : Nat → Nat) (f : Nat → va_E)  (a : Int32) (b : Int32) (la : Int32) (dr : Int32) (go : Int32) (lo : Int32) (ma : Int32) (pa : Int32) (tu : Int32) (su : Int32) (tr : Nat → Int32) (tm : Nat → Int32) (ho : Nat → Int32) : Int32 × (Nat → va_E) := if s_X12_isTray a = 0 then (-2, f) else if s_X12_isTray b = 0 then (-2, f) else (upd tm b.toNatClampNeg (tm a.toNatClampNeg) b.toNatClampNeg, va_up (va_up (va_up f 105 (.inl (ca 0, 128, .inl (pF tr (32 * b.toNatClampNeg) 32 (fun j => tr (32 * a.toNatClampNeg + j)))))) 106 (.inl (ca 0, 4, .inl (upd tm b.toNatClampNeg (tm a.toNatClampNeg))))) 107 (.inl (ca 0, 4, .inl (upd ho b.toNatClampNeg (ho a.toNatClampNeg)))))
set_option maxHeartbeats 400000 in
set_option maxRecDepth 100000 in
theorem c_X12_fork {l : Launch} {D : va_G} {ca ss ad : Nat → Nat} {f : Nat → va_E}  (a : Int32) (b : Int32) (la : Int32) (dr : Int32) (go : Int32) (lo : Int32) (ma : Int32) (pa : Int32) (tu : Int32) (su : Int32) (tr : Nat → Int32) (tm : Nat → Int32) (ho : Nat → Int32) (hc0 : f 87 = .inr (11, mF ad la dr go lo ma pa tu su)) (hc1 : f 105 = .inl (ca 0, 128, .inl tr)) (hc2 : f 106 = .inl (ca 0, 4, .inl tm)) (hc3 : f 107 = .inl (ca 0, 4, .inl ho))  : gMi l D ca ss ad 108 yX12_fork cX12_fork 4 (some .int) 2 f [.ref (ad 87), .int a, .int b] (fun r u => (r, u) = s_X12_fork ad ca f  a b la dr go lo ma pa tu su tr tm ho) := by
  refine gMi_ofK (by decide +kernel) (Nat.le_of_ble_eq_true rfl) (lv0 := [(0, .ref (ad 87)), (1, .int a), (2, .int b)]) rfl (fun pT eT sT mT aT below meth cT AT QT C RT => ?_)
  have C : gX pT sT mT aT meth cT AT D ca ss 4 RX12 cX12_fork (some .int) := C
  refine gj_iload_n C 1 dX12_fork_0 rfl 1 rfl ?_
  refine gj_callSi C w_1201 w_1200 (c_X12_isTray a) mc_X12_isTray ⟨Nat.le_of_ble_eq_true rfl, Nat.le_of_ble_eq_true rfl⟩ (rest := []) rfl (Nat.le_of_ble_eq_true rfl) dX12_fork_1 (fun r u h => ?_)
  obtain ⟨hr_, h⟩ := h; rw [hr_]
  rw [h]
  refine gj_if_eq C 14 dX12_fork_4 (by decide) (fun c_1 => ?_) (fun c_1 => ?_)
  · refine gj_bipush C (v := (-2)) (by decide) dX12_fork_14 ?_
    exact RT _ _ _ _ (show s_X12_fork ad ca f a b la dr go lo ma pa tu su tr tm ho = _ from (if_pos c_1).trans (rfl)).symm dX12_fork_16
  · refine gj_iload_n C 2 dX12_fork_7 rfl 2 rfl ?_
    refine gj_callSi C w_1201 w_1200 (c_X12_isTray b) mc_X12_isTray ⟨Nat.le_of_ble_eq_true rfl, Nat.le_of_ble_eq_true rfl⟩ (rest := []) rfl (Nat.le_of_ble_eq_true rfl) dX12_fork_8 (fun r u h => ?_)
    obtain ⟨hr_, h⟩ := h; rw [hr_]
    rw [h]
    refine gj_if_ne C 17 dX12_fork_11 (by decide) (fun c_2 => ?_) (fun c_2 => ?_)
    · obtain ⟨aN, haN, rfl⟩ := n_tray c_1
      obtain ⟨bN, hbN, rfl⟩ := n_tray c_2
      refine gj_iconst C (v := 0) (by decide) dX12_fork_17 ?_
      refine gj_seti (y := nI 0) rfl ?_
      refine gj_istore_n C (lv' := [(3, .int (nI 0)), (0, .ref (ad 87)), (1, .int (nI aN)), (2, .int (nI bN))]) 3 dX12_fork_18 rfl (by decide) rfl ?_
      refine gj_setf (up_id hc1).symm ?_
      refine gj_setf (g := va_up f 105 (.inl (ca 0, 128, .inl (pF tr (32 * bN) 0 (fun j => tr (32 * aN + j)))))) (by rw [pF_0]) ?_
      have loop_3 : ∀ (m0 t0 : Nat), t0 + m0 = 32 → gJ pT l eT (Rm 2) sT mT aT below meth cT AT QT D ad 108 4 (va_up f 105 (.inl (ca 0, 128, .inl (pF tr (32 * bN) t0 (fun j => tr (32 * aN + j)))))) [(3, .int (nI t0)), (0, .ref (ad 87)), (1, .int (nI aN)), (2, .int (nI bN))] 19 [] := by
        intro m0
        induction m0 with
        | zero =>
          intro t0 hk_t0  
          obtain rfl : t0 = 32 := (by omega)
          refine gj_iload_n C 3 dX12_fork_19 rfl 0 rfl ?_
          refine gj_bipush C (v := 32) (by decide) dX12_fork_20 ?_
          refine gj_icmp_ge C 53 dX12_fork_22 (by decide) (fun c_5 => ?_) (fun c_5 => absurd (Int32.le_refl _) c_5)
          refine gj_setf (g := va_up f 105 (.inl (ca 0, 128, .inl (pF tr (32 * (nI bN).toNatClampNeg) 32 (fun j => tr (32 * (nI aN).toNatClampNeg + j)))))) (by rw [nI_clamp (show aN < 2 ^ 31 by omega), nI_clamp (show bN < 2 ^ 31 by omega)]) ?_
          refine gj_aload_n C 0 dX12_fork_53 rfl 1 rfl ?_
          refine gj_get C 87 (by decide) (up_nx (by decide) (hc0)) inX12 rfl 26 (by decide) w_875 (v := .ref (ad 106)) rfl dX12_fork_54 ?_
          refine gj_iload_n C 2 dX12_fork_57 rfl 3 rfl ?_
          refine gj_aload_n C 0 dX12_fork_58 rfl 1 rfl ?_
          refine gj_get C 87 (by decide) (up_nx (by decide) (hc0)) inX12 rfl 26 (by decide) w_875 (v := .ref (ad 106)) rfl dX12_fork_59 ?_
          refine gj_iload_n C 1 dX12_fork_62 rfl 2 rfl ?_
          refine gj_iald C 106 (by decide) (up_nx (by decide) (hc2)) (vp_in_nI (by omega) (by omega)) dX12_fork_63 ?_
          refine gj_iast C 106 (by decide) (up_nx (by decide) (hc2)) (vp_in_nI (by omega) (by omega)) dX12_fork_64 ?_
          refine gj_aload_n C 0 dX12_fork_65 rfl 1 rfl ?_
          refine gj_get C 87 (by decide) (up_nx (by decide) (up_nx (by decide) (hc0))) inX12 rfl 27 (by decide) w_876 (v := .ref (ad 107)) rfl dX12_fork_66 ?_
          refine gj_iload_n C 2 dX12_fork_69 rfl 3 rfl ?_
          refine gj_aload_n C 0 dX12_fork_70 rfl 1 rfl ?_
          refine gj_get C 87 (by decide) (up_nx (by decide) (up_nx (by decide) (hc0))) inX12 rfl 27 (by decide) w_876 (v := .ref (ad 107)) rfl dX12_fork_71 ?_
          refine gj_iload_n C 1 dX12_fork_74 rfl 2 rfl ?_
          refine gj_iald C 107 (by decide) (up_nx (by decide) (up_nx (by decide) (hc3))) (vp_in_nI (by omega) (by omega)) dX12_fork_75 ?_
          refine gj_iast C 107 (by decide) (up_nx (by decide) (up_nx (by decide) (hc3))) (vp_in_nI (by omega) (by omega)) dX12_fork_76 ?_
          refine gj_aload_n C 0 dX12_fork_77 rfl 1 rfl ?_
          refine gj_get C 87 (by decide) (up_nx (by decide) (up_nx (by decide) (up_nx (by decide) (hc0)))) inX12 rfl 26 (by decide) w_875 (v := .ref (ad 106)) rfl dX12_fork_78 ?_
          refine gj_iload_n C 2 dX12_fork_81 rfl 3 rfl ?_
          refine gj_iald C 106 (by decide) (up_nx (by decide) (va_up_self _ _ _)) (vp_in_nI (by omega) (by omega)) dX12_fork_82 ?_
          exact RT _ _ _ _ (show s_X12_fork ad ca f (nI aN) (nI bN) la dr go lo ma pa tu su tr tm ho = _ from (if_neg c_1).trans ((if_neg c_2).trans (rfl))).symm dX12_fork_83
        | succ m0 ih_4 =>
          intro t0 hk_t0  
          refine gj_iload_n C 3 dX12_fork_19 rfl 0 rfl ?_
          refine gj_bipush C (v := 32) (by decide) dX12_fork_20 ?_
          refine gj_icmp_ge C 53 dX12_fork_22 (by decide) (fun c_6 => absurd c_6 (show ¬ (32 : Int32) ≤ nI t0 from nI_ge (b := 32) (by omega) (by omega))) (fun c_6 => ?_)
          refine gj_aload_n C 0 dX12_fork_25 rfl 1 rfl ?_
          refine gj_get C 87 (by decide) (up_nx (by decide) (hc0)) inX12 rfl 25 (by decide) w_874 (v := .ref (ad 105)) rfl dX12_fork_26 ?_
          refine gj_bipush C (v := 32) (by decide) dX12_fork_29 ?_
          refine gj_iload_n C 2 dX12_fork_31 rfl 3 rfl ?_
          refine gj_imul C dX12_fork_32 ?_
          refine gj_iload_n C 3 dX12_fork_33 rfl 0 rfl ?_
          refine gj_iadd C dX12_fork_34 ?_
          refine gj_aload_n C 0 dX12_fork_35 rfl 1 rfl ?_
          refine gj_get C 87 (by decide) (up_nx (by decide) (hc0)) inX12 rfl 25 (by decide) w_874 (v := .ref (ad 105)) rfl dX12_fork_36 ?_
          refine gj_bipush C (v := 32) (by decide) dX12_fork_39 ?_
          refine gj_iload_n C 1 dX12_fork_41 rfl 2 rfl ?_
          refine gj_imul C dX12_fork_42 ?_
          refine gj_iload_n C 3 dX12_fork_43 rfl 0 rfl ?_
          refine gj_iadd C dX12_fork_44 ?_
          refine gj_iald C 105 (by decide) (va_up_self _ _ _) (ix_in (a := 32) (by omega) (by omega)) dX12_fork_45 ?_
          refine gj_seti (by rw [show (32 * nI aN + nI t0).toNatClampNeg = 32 * aN + t0 from ix_cl (a := 32) (by omega), pF_out tr _ (by omega)]) ?_
          refine gj_iast C 105 (by decide) (va_up_self _ _ _) (ix_in (a := 32) (by omega) (by omega)) dX12_fork_46 ?_
          refine gj_setf (bx_uu _ _ _ _) ?_
          refine gj_setf (g := va_up f 105 (.inl (ca 0, 128, .inl (pF tr (32 * bN) (t0 + 1) (fun j => tr (32 * aN + j)))))) (by rw [show (32 * nI bN + nI t0).toNatClampNeg = 32 * bN + t0 from ix_cl (a := 32) (by omega), ← pF_s tr (32 * bN) t0 (fun j => tr (32 * aN + j))]) ?_
          refine gj_iinc C (v := nI (t0 + 1)) (lv' := [(3, .int (nI (t0 + 1))), (0, .ref (ad 87)), (1, .int (nI aN)), (2, .int (nI bN))]) dX12_fork_47 0 rfl (nI_1 _) (by decide) rfl ?_
          refine gj_goto C 19 dX12_fork_50 (by decide) ?_
          refine gj_lv [0, 1, 2, 3] rfl ?_
          exact ih_4 (t0 + 1) (by omega)
      refine gj_lv [0, 1, 2, 3] rfl ?_
      exact loop_3 (32 - 0) 0 (by omega)
    · refine gj_bipush C (v := (-2)) (by decide) dX12_fork_14 ?_
      exact RT _ _ _ _ (show s_X12_fork ad ca f a b la dr go lo ma pa tu su tr tm ho = _ from (if_neg c_1).trans ((if_pos c_2).trans (rfl))).symm dX12_fork_16
def s_X12_see (ad ca : Nat → Nat) (f : Nat → va_E)  (n : Int32) (a : Int32) (b : Int32) (c : Int32) (sd : Int32) (q : Int32) (la : Int32) (dr : Int32) (go : Int32) (lo : Int32) (ma : Int32) (pa : Int32) (tu : Int32) (su : Int32) (di : Nat → Int32) (mn : Nat → Int32) : Int32 × (Nat → va_E) := if s_X12_in n.toInt64 (0 : Int64) (s_X12_lesser (8 : Int32) (mn 0)).toInt64 = 0 then (-2, f) else if s_X12_in a.toInt64 (0 : Int64) (3 : Int64) = 0 then (-2, f) else if s_X12_in b.toInt64 (0 : Int64) (3 : Int64) = 0 then (-2, f) else if s_X12_in c.toInt64 (0 : Int64) (3 : Int64) = 0 then (-2, f) else if s_X12_in q.toInt64 (0 : Int64) (3 : Int64) = 0 then (-2, f) else (n, va_up (va_up (va_up f 87 (.inr (11, mF ad la ((seeN a.toNatClampNeg b.toNatClampNeg c.toNatClampNeg q (di, sd) n.toNatClampNeg).2) go lo ma pa tu su))) 92 (.inl (ca 0, 60, .inl ((seeN a.toNatClampNeg b.toNatClampNeg c.toNatClampNeg q (di, sd) n.toNatClampNeg).1)))) 93 (.inl (ca 0, 2, .inl (upd mn 1 n))))
set_option maxHeartbeats 400000 in
set_option maxRecDepth 100000 in
theorem c_X12_see {l : Launch} {D : va_G} {ca ss ad : Nat → Nat} {f : Nat → va_E}  (n : Int32) (a : Int32) (b : Int32) (c : Int32) (sd : Int32) (q : Int32) (la : Int32) (dr : Int32) (go : Int32) (lo : Int32) (ma : Int32) (pa : Int32) (tu : Int32) (su : Int32) (di : Nat → Int32) (mn : Nat → Int32) (hc0 : f 87 = .inr (11, mF ad la dr go lo ma pa tu su)) (hc1 : f 92 = .inl (ca 0, 60, .inl di)) (hc2 : f 93 = .inl (ca 0, 2, .inl mn))  : gMi l D ca ss ad 108 yX12_see cX12_see 8 (some .int) 3 f [.ref (ad 87), .int n, .int a, .int b, .int c, .int sd, .int q] (fun r u => (r, u) = s_X12_see ad ca f  n a b c sd q la dr go lo ma pa tu su di mn) := by
  refine gMi_ofK (by decide +kernel) (Nat.le_of_ble_eq_true rfl) (lv0 := [(0, .ref (ad 87)), (1, .int n), (2, .int a), (3, .int b), (4, .int c), (5, .int sd), (6, .int q)]) rfl (fun pT eT sT mT aT below meth cT AT QT C RT => ?_)
  have C : gX pT sT mT aT meth cT AT D ca ss 8 RX12 cX12_see (some .int) := C
  refine gj_iload_n C 1 dX12_see_0 rfl 1 rfl ?_
  refine gj_i2l C dX12_see_1 ?_
  refine gj_lconst C (v := 0) rfl dX12_see_2 ?_
  refine gj_bipush C (v := 8) (by decide) dX12_see_3 ?_
  refine gj_aload_n C 0 dX12_see_5 rfl 0 rfl ?_
  refine gj_get C 87 (by decide) hc0 inX12 rfl 6 (by decide) w_855 (v := .ref (ad 93)) rfl dX12_see_6 ?_
  refine gj_iconst C (v := 0) (by decide) dX12_see_9 ?_
  refine gj_iald C 93 (by decide) hc2 (by unfold vp_in; decide) dX12_see_10 ?_
  refine gj_seti (y := mn 0) rfl ?_
  refine gj_callSi C w_1020 w_1019 (c_X12_lesser (8 : Int32) (mn 0)) mc_X12_lesser ⟨Nat.le_of_ble_eq_true rfl, Nat.le_of_ble_eq_true rfl⟩ (rest := [.long 0, .long n.toInt64]) rfl (Nat.le_of_ble_eq_true rfl) dX12_see_11 (fun r u h => ?_)
  obtain ⟨hr_, h⟩ := h; rw [hr_]
  rw [h]
  refine gj_i2l C dX12_see_14 ?_
  refine gj_callSi C w_944 w_943 (c_X12_in n.toInt64 (0 : Int64) ((s_X12_lesser (8 : Int32) (mn 0)).toInt64)) mc_X12_in ⟨Nat.le_of_ble_eq_true rfl, Nat.le_of_ble_eq_true rfl⟩ (rest := []) rfl (Nat.le_of_ble_eq_true rfl) dX12_see_15 (fun r u h => ?_)
  obtain ⟨hr_, h⟩ := h; rw [hr_]
  rw [h]
  refine gj_if_eq C 71 dX12_see_18 (by decide) (fun c_1 => ?_) (fun c_1 => ?_)
  · refine gj_bipush C (v := (-2)) (by decide) dX12_see_71 ?_
    exact RT _ _ _ _ (show s_X12_see ad ca f n a b c sd q la dr go lo ma pa tu su di mn = _ from (if_pos c_1).trans (rfl)).symm dX12_see_73
  · refine gj_iload_n C 2 dX12_see_21 rfl 2 rfl ?_
    refine gj_i2l C dX12_see_22 ?_
    refine gj_lconst C (v := 0) rfl dX12_see_23 ?_
    refine gj_ldc2 C (v := 3) w_942 dX12_see_24 ?_
    refine gj_callSi C w_944 w_943 (c_X12_in a.toInt64 (0 : Int64) (3 : Int64)) mc_X12_in ⟨Nat.le_of_ble_eq_true rfl, Nat.le_of_ble_eq_true rfl⟩ (rest := []) rfl (Nat.le_of_ble_eq_true rfl) dX12_see_27 (fun r u h => ?_)
    obtain ⟨hr_, h⟩ := h; rw [hr_]
    rw [h]
    refine gj_if_eq C 71 dX12_see_30 (by decide) (fun c_2 => ?_) (fun c_2 => ?_)
    · refine gj_bipush C (v := (-2)) (by decide) dX12_see_71 ?_
      exact RT _ _ _ _ (show s_X12_see ad ca f n a b c sd q la dr go lo ma pa tu su di mn = _ from (if_neg c_1).trans ((if_pos c_2).trans (rfl))).symm dX12_see_73
    · refine gj_iload_n C 3 dX12_see_33 rfl 3 rfl ?_
      refine gj_i2l C dX12_see_34 ?_
      refine gj_lconst C (v := 0) rfl dX12_see_35 ?_
      refine gj_ldc2 C (v := 3) w_942 dX12_see_36 ?_
      refine gj_callSi C w_944 w_943 (c_X12_in b.toInt64 (0 : Int64) (3 : Int64)) mc_X12_in ⟨Nat.le_of_ble_eq_true rfl, Nat.le_of_ble_eq_true rfl⟩ (rest := []) rfl (Nat.le_of_ble_eq_true rfl) dX12_see_39 (fun r u h => ?_)
      obtain ⟨hr_, h⟩ := h; rw [hr_]
      rw [h]
      refine gj_if_eq C 71 dX12_see_42 (by decide) (fun c_3 => ?_) (fun c_3 => ?_)
      · refine gj_bipush C (v := (-2)) (by decide) dX12_see_71 ?_
        exact RT _ _ _ _ (show s_X12_see ad ca f n a b c sd q la dr go lo ma pa tu su di mn = _ from (if_neg c_1).trans ((if_neg c_2).trans ((if_pos c_3).trans (rfl)))).symm dX12_see_73
      · refine gj_iload C dX12_see_45 4 rfl ?_
        refine gj_i2l C dX12_see_47 ?_
        refine gj_lconst C (v := 0) rfl dX12_see_48 ?_
        refine gj_ldc2 C (v := 3) w_942 dX12_see_49 ?_
        refine gj_callSi C w_944 w_943 (c_X12_in c.toInt64 (0 : Int64) (3 : Int64)) mc_X12_in ⟨Nat.le_of_ble_eq_true rfl, Nat.le_of_ble_eq_true rfl⟩ (rest := []) rfl (Nat.le_of_ble_eq_true rfl) dX12_see_52 (fun r u h => ?_)
        obtain ⟨hr_, h⟩ := h; rw [hr_]
        rw [h]
        refine gj_if_eq C 71 dX12_see_55 (by decide) (fun c_4 => ?_) (fun c_4 => ?_)
        · refine gj_bipush C (v := (-2)) (by decide) dX12_see_71 ?_
          exact RT _ _ _ _ (show s_X12_see ad ca f n a b c sd q la dr go lo ma pa tu su di mn = _ from (if_neg c_1).trans ((if_neg c_2).trans ((if_neg c_3).trans ((if_pos c_4).trans (rfl))))).symm dX12_see_73
        · refine gj_iload C dX12_see_58 6 rfl ?_
          refine gj_i2l C dX12_see_60 ?_
          refine gj_lconst C (v := 0) rfl dX12_see_61 ?_
          refine gj_ldc2 C (v := 3) w_942 dX12_see_62 ?_
          refine gj_callSi C w_944 w_943 (c_X12_in q.toInt64 (0 : Int64) (3 : Int64)) mc_X12_in ⟨Nat.le_of_ble_eq_true rfl, Nat.le_of_ble_eq_true rfl⟩ (rest := []) rfl (Nat.le_of_ble_eq_true rfl) dX12_see_65 (fun r u h => ?_)
          obtain ⟨hr_, h⟩ := h; rw [hr_]
          rw [h]
          refine gj_if_ne C 74 dX12_see_68 (by decide) (fun c_5 => ?_) (fun c_5 => ?_)
          · obtain ⟨nN, hnN, rfl⟩ := n_in (m := 8) c_1 (less8 _) (by omega)
            obtain ⟨aN, haN, rfl⟩ := n_in (m := 3) c_2 (by decide) (by omega)
            obtain ⟨bN, hbN, rfl⟩ := n_in (m := 3) c_3 (by decide) (by omega)
            obtain ⟨cN, hcN, rfl⟩ := n_in (m := 3) c_4 (by decide) (by omega)
            refine gj_aload_n C 0 dX12_see_74 rfl 0 rfl ?_
            refine gj_iload C dX12_see_75 5 rfl ?_
            refine gj_putS C 87 (by decide) hc0 inX12 rfl 8 (by decide) tyX12 tyX12_ok nmX12 w_857 rfl (v := .int sd) (fs' := [.ref (ad 88), .ref (ad 89), .ref (ad 90), .ref (ad 91), .int la, .ref (ad 92), .ref (ad 93), .ref (ad 94), .int sd, .int go, .int lo, .int ma, .ref (ad 95), .ref (ad 96), .ref (ad 97), .ref (ad 98), .int pa, .int tu, .ref (ad 99), .ref (ad 100), .ref (ad 101), .ref (ad 102), .ref (ad 103), .ref (ad 104), .int su, .ref (ad 105), .ref (ad 106), .ref (ad 107)]) rfl rfl (Nat.le_of_ble_eq_true rfl) rfl dX12_see_77 ?_
            refine gj_iconst C (v := 0) (by decide) dX12_see_80 ?_
            refine gj_seti (y := nI 0) rfl ?_
            refine gj_istore C (lv' := [(7, .int (nI 0)), (0, .ref (ad 87)), (1, .int (nI nN)), (2, .int (nI aN)), (3, .int (nI bN)), (4, .int (nI cN)), (5, .int sd), (6, .int q)]) dX12_see_81 (by decide) rfl ?_
            by_cases hq0 : q = 0
            · refine gj_setf (up_id (up_nx (by decide) (hc1))).symm ?_
              refine gj_setf (g := va_up (va_up f 87 (.inr (11, mF ad la ((seeN aN bN cN q (di, sd) 0).2) go lo ma pa tu su))) 92 (.inl (ca 0, 60, .inl ((seeN aN bN cN q (di, sd) 0).1)))) rfl ?_
              have loop_6 : ∀ (m0 t0 : Nat), t0 + m0 = nN → gJ pT l eT (Rm 3) sT mT aT below meth cT AT QT D ad 108 8 (va_up (va_up f 87 (.inr (11, mF ad la ((seeN aN bN cN q (di, sd) t0).2) go lo ma pa tu su))) 92 (.inl (ca 0, 60, .inl ((seeN aN bN cN q (di, sd) t0).1)))) [(7, .int (nI t0)), (0, .ref (ad 87)), (1, .int (nI nN)), (2, .int (nI aN)), (3, .int (nI bN)), (4, .int (nI cN)), (5, .int sd), (6, .int q)] 83 [] := by
                intro m0
                induction m0 with
                | zero =>
                  intro t0 hk_t0  
                  refine gj_iload C dX12_see_83 0 rfl ?_
                  refine gj_iload_n C 1 dX12_see_85 rfl 2 rfl ?_
                  refine gj_icmp_ge C 107 dX12_see_86 (by decide) (fun c_8 => ?_) (fun c_8 => absurd (nI_le (by omega) (by omega)) c_8)
                  refine gj_setf (g := va_up (va_up f 87 (.inr (11, mF ad la ((seeN (nI aN).toNatClampNeg (nI bN).toNatClampNeg (nI cN).toNatClampNeg q (di, sd) (nI nN).toNatClampNeg).2) go lo ma pa tu su))) 92 (.inl (ca 0, 60, .inl ((seeN (nI aN).toNatClampNeg (nI bN).toNatClampNeg (nI cN).toNatClampNeg q (di, sd) (nI nN).toNatClampNeg).1)))) (by obtain rfl : t0 = nN := (by omega); rw [nI_clamp (show aN < 2 ^ 31 by omega), nI_clamp (show bN < 2 ^ 31 by omega), nI_clamp (show cN < 2 ^ 31 by omega), nI_clamp (show t0 < 2 ^ 31 by omega)]) ?_
                  refine gj_aload_n C 0 dX12_see_107 rfl 1 rfl ?_
                  refine gj_get C 87 (by decide) (up_nx (by decide) (va_up_self _ _ _)) inX12 rfl 6 (by decide) w_855 (v := .ref (ad 93)) rfl dX12_see_108 ?_
                  refine gj_iconst C (v := 1) (by decide) dX12_see_111 ?_
                  refine gj_iload_n C 1 dX12_see_112 rfl 2 rfl ?_
                  refine gj_iast C 93 (by decide) (up_nx (by decide) (up_nx (by decide) (hc2))) (by unfold vp_in; decide) dX12_see_113 ?_
                  refine gj_setf (g := va_up (va_up (va_up f 87 (.inr (11, mF ad la ((seeN (nI aN).toNatClampNeg (nI bN).toNatClampNeg (nI cN).toNatClampNeg q (di, sd) (nI nN).toNatClampNeg).2) go lo ma pa tu su))) 92 (.inl (ca 0, 60, .inl ((seeN (nI aN).toNatClampNeg (nI bN).toNatClampNeg (nI cN).toNatClampNeg q (di, sd) (nI nN).toNatClampNeg).1)))) 93 (.inl (ca 0, 2, .inl (upd mn 1 (nI nN))))) rfl ?_
                  refine gj_iload_n C 1 dX12_see_114 rfl 2 rfl ?_
                  exact RT _ _ _ _ (show s_X12_see ad ca f (nI nN) (nI aN) (nI bN) (nI cN) sd q la dr go lo ma pa tu su di mn = _ from (if_neg c_1).trans ((if_neg c_2).trans ((if_neg c_3).trans ((if_neg c_4).trans ((if_neg c_5).trans (rfl)))))).symm dX12_see_115
                | succ m0 ih_7 =>
                  intro t0 hk_t0  
                  refine gj_iload C dX12_see_83 0 rfl ?_
                  refine gj_iload_n C 1 dX12_see_85 rfl 2 rfl ?_
                  refine gj_icmp_ge C 107 dX12_see_86 (by decide) (fun c_9 => absurd c_9 (nI_ge (by omega) (by omega))) (fun c_9 => ?_)
                  refine gj_aload_n C 0 dX12_see_89 rfl 1 rfl ?_
                  refine gj_iload C dX12_see_90 0 rfl ?_
                  refine gj_iload_n C 2 dX12_see_92 rfl 3 rfl ?_
                  refine gj_iload_n C 3 dX12_see_93 rfl 4 rfl ?_
                  refine gj_iload C dX12_see_94 5 rfl ?_
                  refine gj_iload C dX12_see_96 7 rfl ?_
                  refine gj_callVv C mi_X12_sees w_1022 87 (by decide) (up_nx (by decide) (va_up_self _ _ _)) rfl (c_X12_sees0 t0 aN bN cN q la ((seeN aN bN cN q (di, sd) t0).2) go lo ma pa tu su ((seeN aN bN cN q (di, sd) t0).1) (up_nx (by decide) (va_up_self _ _ _)) (va_up_self _ _ _) (by omega) hq0 (by omega) (by omega) (by omega)) mc_X12_sees ⟨Nat.le_of_ble_eq_true rfl, Nat.le_of_ble_eq_true rfl⟩ (rest := []) rfl (Nat.le_of_ble_eq_true rfl) dX12_see_98 (fun u h => ?_)
                  subst h
                  refine gj_setf (bx_uu _ _ _ _) ?_
                  refine gj_iinc C (v := nI (t0 + 1)) (lv' := [(7, .int (nI (t0 + 1))), (0, .ref (ad 87)), (1, .int (nI nN)), (2, .int (nI aN)), (3, .int (nI bN)), (4, .int (nI cN)), (5, .int sd), (6, .int q)]) dX12_see_101 0 rfl (nI_1 _) (by decide) rfl ?_
                  refine gj_goto C 83 dX12_see_104 (by decide) ?_
                  refine gj_setf (g := va_up (va_up f 87 (.inr (11, mF ad la ((seeN aN bN cN q (di, sd) (t0 + 1)).2) go lo ma pa tu su))) 92 (.inl (ca 0, 60, .inl ((seeN aN bN cN q (di, sd) (t0 + 1)).1)))) (by rw [show (seeN aN bN cN q (di, sd) (t0 + 1)) = (see0 t0 aN bN cN (seeN aN bN cN q (di, sd) t0).1, (seeN aN bN cN q (di, sd) t0).2) from if_pos hq0]) ?_
                  refine gj_lv [0, 1, 2, 3, 4, 5, 6, 7] rfl ?_
                  exact ih_7 (t0 + 1) (by omega)
              refine gj_lv [0, 1, 2, 3, 4, 5, 6, 7] rfl ?_
              exact loop_6 (nN - 0) 0 (by omega)
            · refine gj_setf (up_id (up_nx (by decide) (hc1))).symm ?_
              refine gj_setf (g := va_up (va_up f 87 (.inr (11, mF ad la ((seeN aN bN cN q (di, sd) 0).2) go lo ma pa tu su))) 92 (.inl (ca 0, 60, .inl ((seeN aN bN cN q (di, sd) 0).1)))) rfl ?_
              have loop_10 : ∀ (m0 t0 : Nat), t0 + m0 = nN → gJ pT l eT (Rm 3) sT mT aT below meth cT AT QT D ad 108 8 (va_up (va_up f 87 (.inr (11, mF ad la ((seeN aN bN cN q (di, sd) t0).2) go lo ma pa tu su))) 92 (.inl (ca 0, 60, .inl ((seeN aN bN cN q (di, sd) t0).1)))) [(7, .int (nI t0)), (0, .ref (ad 87)), (1, .int (nI nN)), (2, .int (nI aN)), (3, .int (nI bN)), (4, .int (nI cN)), (5, .int sd), (6, .int q)] 83 [] := by
                intro m0
                induction m0 with
                | zero =>
                  intro t0 hk_t0  
                  refine gj_iload C dX12_see_83 0 rfl ?_
                  refine gj_iload_n C 1 dX12_see_85 rfl 2 rfl ?_
                  refine gj_icmp_ge C 107 dX12_see_86 (by decide) (fun c_12 => ?_) (fun c_12 => absurd (nI_le (by omega) (by omega)) c_12)
                  refine gj_setf (g := va_up (va_up f 87 (.inr (11, mF ad la ((seeN (nI aN).toNatClampNeg (nI bN).toNatClampNeg (nI cN).toNatClampNeg q (di, sd) (nI nN).toNatClampNeg).2) go lo ma pa tu su))) 92 (.inl (ca 0, 60, .inl ((seeN (nI aN).toNatClampNeg (nI bN).toNatClampNeg (nI cN).toNatClampNeg q (di, sd) (nI nN).toNatClampNeg).1)))) (by obtain rfl : t0 = nN := (by omega); rw [nI_clamp (show aN < 2 ^ 31 by omega), nI_clamp (show bN < 2 ^ 31 by omega), nI_clamp (show cN < 2 ^ 31 by omega), nI_clamp (show t0 < 2 ^ 31 by omega)]) ?_
                  refine gj_aload_n C 0 dX12_see_107 rfl 1 rfl ?_
                  refine gj_get C 87 (by decide) (up_nx (by decide) (va_up_self _ _ _)) inX12 rfl 6 (by decide) w_855 (v := .ref (ad 93)) rfl dX12_see_108 ?_
                  refine gj_iconst C (v := 1) (by decide) dX12_see_111 ?_
                  refine gj_iload_n C 1 dX12_see_112 rfl 2 rfl ?_
                  refine gj_iast C 93 (by decide) (up_nx (by decide) (up_nx (by decide) (hc2))) (by unfold vp_in; decide) dX12_see_113 ?_
                  refine gj_setf (g := va_up (va_up (va_up f 87 (.inr (11, mF ad la ((seeN (nI aN).toNatClampNeg (nI bN).toNatClampNeg (nI cN).toNatClampNeg q (di, sd) (nI nN).toNatClampNeg).2) go lo ma pa tu su))) 92 (.inl (ca 0, 60, .inl ((seeN (nI aN).toNatClampNeg (nI bN).toNatClampNeg (nI cN).toNatClampNeg q (di, sd) (nI nN).toNatClampNeg).1)))) 93 (.inl (ca 0, 2, .inl (upd mn 1 (nI nN))))) rfl ?_
                  refine gj_iload_n C 1 dX12_see_114 rfl 2 rfl ?_
                  exact RT _ _ _ _ (show s_X12_see ad ca f (nI nN) (nI aN) (nI bN) (nI cN) sd q la dr go lo ma pa tu su di mn = _ from (if_neg c_1).trans ((if_neg c_2).trans ((if_neg c_3).trans ((if_neg c_4).trans ((if_neg c_5).trans (rfl)))))).symm dX12_see_115
                | succ m0 ih_11 =>
                  intro t0 hk_t0  
                  refine gj_iload C dX12_see_83 0 rfl ?_
                  refine gj_iload_n C 1 dX12_see_85 rfl 2 rfl ?_
                  refine gj_icmp_ge C 107 dX12_see_86 (by decide) (fun c_13 => absurd c_13 (nI_ge (by omega) (by omega))) (fun c_13 => ?_)
                  refine gj_aload_n C 0 dX12_see_89 rfl 1 rfl ?_
                  refine gj_iload C dX12_see_90 0 rfl ?_
                  refine gj_iload_n C 2 dX12_see_92 rfl 3 rfl ?_
                  refine gj_iload_n C 3 dX12_see_93 rfl 4 rfl ?_
                  refine gj_iload C dX12_see_94 5 rfl ?_
                  refine gj_iload C dX12_see_96 7 rfl ?_
                  refine gj_callVv C mi_X12_sees w_1022 87 (by decide) (up_nx (by decide) (va_up_self _ _ _)) rfl (c_X12_sees1 t0 aN bN cN q la ((seeN aN bN cN q (di, sd) t0).2) go lo ma pa tu su ((seeN aN bN cN q (di, sd) t0).1) (up_nx (by decide) (va_up_self _ _ _)) (va_up_self _ _ _) (by omega) hq0 (q21 c_5) (by omega) (by omega) (by omega)) mc_X12_sees ⟨Nat.le_of_ble_eq_true rfl, Nat.le_of_ble_eq_true rfl⟩ (rest := []) rfl (Nat.le_of_ble_eq_true rfl) dX12_see_98 (fun u h => ?_)
                  subst h
                  refine gj_setf ((up_un ((up_comm (by decide)).trans (up_un (bx_uu _ _ _ _)))).trans (bx_uu _ _ _ _)) ?_
                  refine gj_iinc C (v := nI (t0 + 1)) (lv' := [(7, .int (nI (t0 + 1))), (0, .ref (ad 87)), (1, .int (nI nN)), (2, .int (nI aN)), (3, .int (nI bN)), (4, .int (nI cN)), (5, .int sd), (6, .int q)]) dX12_see_101 0 rfl (nI_1 _) (by decide) rfl ?_
                  refine gj_goto C 83 dX12_see_104 (by decide) ?_
                  refine gj_setf (g := va_up (va_up f 87 (.inr (11, mF ad la ((seeN aN bN cN q (di, sd) (t0 + 1)).2) go lo ma pa tu su))) 92 (.inl (ca 0, 60, .inl ((seeN aN bN cN q (di, sd) (t0 + 1)).1)))) (by rw [show (seeN aN bN cN q (di, sd) (t0 + 1)) = (see1 t0 aN bN cN q (seeN aN bN cN q (di, sd) t0).2 (seeN aN bN cN q (di, sd) t0).1, nDraw (nDraw (nDraw (seeN aN bN cN q (di, sd) t0).2))) from if_neg hq0]) ?_
                  refine gj_lv [0, 1, 2, 3, 4, 5, 6, 7] rfl ?_
                  exact ih_11 (t0 + 1) (by omega)
              refine gj_lv [0, 1, 2, 3, 4, 5, 6, 7] rfl ?_
              exact loop_10 (nN - 0) 0 (by omega)
          · refine gj_bipush C (v := (-2)) (by decide) dX12_see_71 ?_
            exact RT _ _ _ _ (show s_X12_see ad ca f n a b c sd q la dr go lo ma pa tu su di mn = _ from (if_neg c_1).trans ((if_neg c_2).trans ((if_neg c_3).trans ((if_neg c_4).trans ((if_pos c_5).trans (rfl)))))).symm dX12_see_73
