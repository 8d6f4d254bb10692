theorem dIn_0n {i : Nat} (h : i < 12) : dIn (0 : Int32) (nI i) := dIn_0 h
theorem in12 {p i : Nat} (hp : p < 8) (hi : i < 12) : vp_in (12 * nI p + nI i) 96 := by
  have e : (12 : Int32) = nI 12 := rfl
  rw [e, pk_mul, nI_add]
  exact vp_in_nI (by omega) (by omega)
theorem cl12 {p i : Nat} (hp : p < 8) (hi : i < 12) : (12 * nI p + nI i).toNatClampNeg = 12 * p + i := by
  have e : (12 : Int32) = nI 12 := rfl
  rw [e, pk_mul, nI_add]
  exact nI_clamp (by omega)
/-- F at a, a + 1, .., t of them -/
def fR {α : Type} (F : Nat → α → α) (st : α) (a : Nat) : Nat → α
  | 0 => st
  | t + 1 => F (a + t) (fR F st a t)

def s_X12_isLike (p : Nat) (q : Nat) (i : Nat) (j : Nat) (di : Nat → Int32) (se : Nat → Int32) : Int32 := if (se 1) < (s_X12_apart (s_X12_sideOf (1 : Int32) (nI p) (nI q) di) (s_X12_sideOf (0 : Int32) (nI i) (nI j) di)) then (0) else (1)
theorem b_X12_isLike (p : Nat) (q : Nat) (i : Nat) (j : Nat) (di : Nat → Int32) (se : Nat → Int32) : s_X12_isLike p q i j di se = 0 ∨ s_X12_isLike p q i j di se = 1 := by
  unfold s_X12_isLike
  repeat' split
  all_goals first | exact Or.inl rfl | exact Or.inr rfl | apply b_X12_apart | apply b_X12_sideOf
set_option maxHeartbeats 1000000 in
set_option maxRecDepth 100000 in
theorem c_X12_isLike {l : Launch} {D : va_G} {ca ss ad : Nat → Nat} {f : Nat → va_E}  (p : Nat) (q : Nat) (i : Nat) (j : Nat) (la : Int32) (dr : Int32) (go : Int32) (lo : Int32) (ma : Int32) (pa : Int32) (tu : Int32) (su : Int32) (di : Nat → Int32) (se : Nat → Int32) (hc0 : f 87 = .inr (11, mF ad la dr go lo ma pa tu su)) (hc1 : f 92 = .inl (ca 0, 60, .inl di)) (hc2 : f 94 = .inl (ca 0, 4, .inl se)) (hp : p < 8) (hq : q < 8) (hi : i < 12) (hj : j < 12) : gMi l D ca ss ad 108 yX12_isLike cX12_isLike 5 (some .boolean) 2 f [.ref (ad 87), .int (nI p), .int (nI q), .int (nI i), .int (nI j)] (fun r u => r = s_X12_isLike p q i j di se ∧ u = f) := by
  refine gMz_ofK (by decide +kernel) (Nat.le_of_ble_eq_true rfl) (lv0 := [(0, .ref (ad 87)), (1, .int (nI p)), (2, .int (nI q)), (3, .int (nI i)), (4, .int (nI j))]) rfl (fun pT eT sT mT aT below meth cT AT QT C RT => ?_)
  have C : gX pT sT mT aT meth cT AT D ca ss 5 RX12 cX12_isLike (some .boolean) := C
  refine gj_aload_n C 0 dX12_isLike_0 rfl 0 rfl ?_
  refine gj_iconst C (v := 1) (by decide) dX12_isLike_1 ?_
  refine gj_iload_n C 1 dX12_isLike_2 rfl 1 rfl ?_
  refine gj_iload_n C 2 dX12_isLike_3 rfl 2 rfl ?_
  refine gj_callVi C mi_X12_sideOf w_1049 87 (by decide) hc0 rfl (c_X12_sideOf (1 : Int32) (nI p) (nI q) la dr go lo ma pa tu su di hc0 hc1 (dIn_1 (by omega)) (dIn_1 (by omega))) mc_X12_sideOf ⟨Nat.le_of_ble_eq_true rfl, Nat.le_of_ble_eq_true rfl⟩ (rest := []) rfl (Nat.le_of_ble_eq_true rfl) dX12_isLike_4 (fun r u h => ?_)
  obtain ⟨rfl, rfl⟩ := h
  refine gj_aload_n C 0 dX12_isLike_7 rfl 0 rfl ?_
  refine gj_iconst C (v := 0) (by decide) dX12_isLike_8 ?_
  refine gj_iload_n C 3 dX12_isLike_9 rfl 3 rfl ?_
  refine gj_iload C dX12_isLike_10 4 rfl ?_
  refine gj_callVi C mi_X12_sideOf w_1049 87 (by decide) hc0 rfl (c_X12_sideOf (0 : Int32) (nI i) (nI j) la dr go lo ma pa tu su di hc0 hc1 (dIn_0 (by omega)) (dIn_0 (by omega))) mc_X12_sideOf ⟨Nat.le_of_ble_eq_true rfl, Nat.le_of_ble_eq_true rfl⟩ (rest := [.int (s_X12_sideOf (1 : Int32) (nI p) (nI q) di)]) rfl (Nat.le_of_ble_eq_true rfl) dX12_isLike_12 (fun r u h => ?_)
  obtain ⟨rfl, rfl⟩ := h
  refine gj_callSi C w_1086 w_1085 (c_X12_apart (s_X12_sideOf (1 : Int32) (nI p) (nI q) di) (s_X12_sideOf (0 : Int32) (nI i) (nI j) di)) mc_X12_apart ⟨Nat.le_of_ble_eq_true rfl, Nat.le_of_ble_eq_true rfl⟩ (rest := []) rfl (Nat.le_of_ble_eq_true rfl) dX12_isLike_15 (fun r u h => ?_)
  obtain ⟨rfl, rfl⟩ := h
  refine gj_aload_n C 0 dX12_isLike_18 rfl 0 rfl ?_
  refine gj_get C 87 (by decide) hc0 inX12 rfl 7 (by decide) w_856 (v := .ref (ad 94)) rfl dX12_isLike_19 ?_
  refine gj_iconst C (v := 1) (by decide) dX12_isLike_22 ?_
  refine gj_iald C 94 (by decide) hc2 (by unfold vp_in; decide) dX12_isLike_23 ?_
  refine gj_seti (y := se 1) rfl ?_
  refine gj_icmp_gt C 31 dX12_isLike_24 (by decide) (fun c_1 => ?_) (fun c_1 => ?_)
  · refine gj_iconst C (v := 0) (by decide) dX12_isLike_31 ?_
    exact RT _ _ _ _ (by decide) ⟨by unfold s_X12_isLike; rw [if_pos c_1], rfl⟩ dX12_isLike_32
  · refine gj_iconst C (v := 1) (by decide) dX12_isLike_27 ?_
    refine gj_goto C 32 dX12_isLike_28 (by decide) ?_
    exact RT _ _ _ _ (by decide) ⟨by unfold s_X12_isLike; rw [if_neg c_1], rfl⟩ dX12_isLike_32
def t_X12_tries_87_11 (p : Nat) (q : Nat) (r : Nat) (i : Nat) (j : Nat) (k : Nat) (ma : Int32) (di : Nat → Int32) (se : Nat → Int32) : Int32 := if (s_X12_isLike p q i j di se) = 0 then ma else (if (s_X12_isLike q r j k di se) = 0 then ma else (if (s_X12_isLike p r i k di se) = 0 then ma else (ma + 1)))
def t_X12_tries_95 (p : Nat) (q : Nat) (r : Nat) (i : Nat) (j : Nat) (k : Nat) (di : Nat → Int32) (se : Nat → Int32) (vo : Nat → Int32) : Nat → Int32 := if (s_X12_isLike p q i j di se) = 0 then vo else (if (s_X12_isLike q r j k di se) = 0 then vo else (if (s_X12_isLike p r i k di se) = 0 then vo else (upd (upd (upd vo (12 * p + i) ((vo (12 * p + i)) + 1)) (12 * q + j) (((upd vo (12 * p + i) ((vo (12 * p + i)) + 1)) (12 * q + j)) + 1)) (12 * r + k) (((upd (upd vo (12 * p + i) ((vo (12 * p + i)) + 1)) (12 * q + j) (((upd vo (12 * p + i) ((vo (12 * p + i)) + 1)) (12 * q + j)) + 1)) (12 * r + k)) + 1))))
set_option maxHeartbeats 1000000 in
set_option maxRecDepth 100000 in
theorem c_X12_tries {l : Launch} {D : va_G} {ca ss ad : Nat → Nat} {f : Nat → va_E}  (p : Nat) (q : Nat) (r : Nat) (i : Nat) (j : Nat) (k : Nat) (la : Int32) (dr : Int32) (go : Int32) (lo : Int32) (ma : Int32) (pa : Int32) (tu : Int32) (su : Int32) (di : Nat → Int32) (se : Nat → Int32) (vo : Nat → Int32) (hc0 : f 87 = .inr (11, mF ad la dr go lo ma pa tu su)) (hc1 : f 92 = .inl (ca 0, 60, .inl di)) (hc2 : f 94 = .inl (ca 0, 4, .inl se)) (hc3 : f 95 = .inl (ca 0, 96, .inl vo)) (hp : p < 8) (hq : q < 8) (hr : r < 8) (hi : i < 12) (hj : j < 12) (hk : k < 12) : gMv l D ca ss ad 108 yX12_tries cX12_tries 7 none 3 f [.ref (ad 87), .int (nI p), .int (nI q), .int (nI r), .int (nI i), .int (nI j), .int (nI k)] (fun u => u = va_up (va_up f 87 (.inr (11, mF ad la dr go lo (t_X12_tries_87_11 p q r i j k ma di se) pa tu su))) 95 (.inl (ca 0, 96, .inl (t_X12_tries_95 p q r i j k di se vo)))) := by
  refine gMv_ofK (by decide +kernel) (Nat.le_of_ble_eq_true rfl) (lv0 := [(0, .ref (ad 87)), (1, .int (nI p)), (2, .int (nI q)), (3, .int (nI r)), (4, .int (nI i)), (5, .int (nI j)), (6, .int (nI k))]) rfl (fun pT eT sT mT aT below meth cT AT QT C RT => ?_)
  have C : gX pT sT mT aT meth cT AT D ca ss 7 RX12 cX12_tries none := C
  refine gj_setf (up_id hc0).symm ?_
  refine gj_setf (up_id (up_nx (by decide) (hc3))).symm ?_
  refine gj_aload_n C 0 dX12_tries_0 rfl 0 rfl ?_
  refine gj_iload_n C 1 dX12_tries_1 rfl 1 rfl ?_
  refine gj_iload_n C 2 dX12_tries_2 rfl 2 rfl ?_
  refine gj_iload C dX12_tries_3 4 rfl ?_
  refine gj_iload C dX12_tries_5 5 rfl ?_
  refine gj_callVi C mi_X12_isLike w_1092 87 (by decide) (up_nx (by decide) (va_up_self _ _ _)) rfl (c_X12_isLike p q i j la dr go lo ma pa tu su di se (up_nx (by decide) (va_up_self _ _ _)) (up_nx (by decide) (up_nx (by decide) (hc1))) (up_nx (by decide) (up_nx (by decide) (hc2))) (by first | assumption | omega) (by first | assumption | omega) (by first | assumption | omega) (by first | assumption | omega)) mc_X12_isLike ⟨Nat.le_of_ble_eq_true rfl, Nat.le_of_ble_eq_true rfl⟩ (rest := []) rfl (Nat.le_of_ble_eq_true rfl) dX12_tries_7 (fun r u h => ?_)
  obtain ⟨rfl, rfl⟩ := h
  refine gj_if_eq C 97 dX12_tries_10 (by decide) (fun c_1 => ?_) (fun c_1 => ?_)
  · exact RT _ _ _ (by simp only [t_X12_tries_87_11, t_X12_tries_95, if_pos c_1]) dX12_tries_97
  · refine gj_aload_n C 0 dX12_tries_13 rfl 0 rfl ?_
    refine gj_iload_n C 2 dX12_tries_14 rfl 2 rfl ?_
    refine gj_iload_n C 3 dX12_tries_15 rfl 3 rfl ?_
    refine gj_iload C dX12_tries_16 5 rfl ?_
    refine gj_iload C dX12_tries_18 6 rfl ?_
    refine gj_callVi C mi_X12_isLike w_1092 87 (by decide) (up_nx (by decide) (va_up_self _ _ _)) rfl (c_X12_isLike q r j k la dr go lo ma pa tu su di se (up_nx (by decide) (va_up_self _ _ _)) (up_nx (by decide) (up_nx (by decide) (hc1))) (up_nx (by decide) (up_nx (by decide) (hc2))) (by first | assumption | omega) (by first | assumption | omega) (by first | assumption | omega) (by first | assumption | omega)) mc_X12_isLike ⟨Nat.le_of_ble_eq_true rfl, Nat.le_of_ble_eq_true rfl⟩ (rest := []) rfl (Nat.le_of_ble_eq_true rfl) dX12_tries_20 (fun r u h => ?_)
    obtain ⟨rfl, rfl⟩ := h
    refine gj_if_eq C 97 dX12_tries_23 (by decide) (fun c_2 => ?_) (fun c_2 => ?_)
    · exact RT _ _ _ (by simp only [t_X12_tries_87_11, t_X12_tries_95, if_neg c_1, if_pos c_2]) dX12_tries_97
    · refine gj_aload_n C 0 dX12_tries_26 rfl 0 rfl ?_
      refine gj_iload_n C 1 dX12_tries_27 rfl 1 rfl ?_
      refine gj_iload_n C 3 dX12_tries_28 rfl 3 rfl ?_
      refine gj_iload C dX12_tries_29 4 rfl ?_
      refine gj_iload C dX12_tries_31 6 rfl ?_
      refine gj_callVi C mi_X12_isLike w_1092 87 (by decide) (up_nx (by decide) (va_up_self _ _ _)) rfl (c_X12_isLike p r i k la dr go lo ma pa tu su di se (up_nx (by decide) (va_up_self _ _ _)) (up_nx (by decide) (up_nx (by decide) (hc1))) (up_nx (by decide) (up_nx (by decide) (hc2))) (by first | assumption | omega) (by first | assumption | omega) (by first | assumption | omega) (by first | assumption | omega)) mc_X12_isLike ⟨Nat.le_of_ble_eq_true rfl, Nat.le_of_ble_eq_true rfl⟩ (rest := []) rfl (Nat.le_of_ble_eq_true rfl) dX12_tries_33 (fun r u h => ?_)
      obtain ⟨rfl, rfl⟩ := h
      refine gj_if_eq C 97 dX12_tries_36 (by decide) (fun c_3 => ?_) (fun c_3 => ?_)
      · exact RT _ _ _ (by simp only [t_X12_tries_87_11, t_X12_tries_95, if_neg c_1, if_neg c_2, if_pos c_3]) dX12_tries_97
      · refine gj_aload_n C 0 dX12_tries_39 rfl 0 rfl ?_
        refine gj_dup C rfl dX12_tries_40 ?_
        refine gj_get C 87 (by decide) (up_nx (by decide) (va_up_self _ _ _)) inX12 rfl 11 (by decide) w_860 (v := .int ma) rfl dX12_tries_41 ?_
        refine gj_iconst C (v := 1) (by decide) dX12_tries_44 ?_
        refine gj_iadd C dX12_tries_45 ?_
        refine gj_putS C 87 (by decide) (up_nx (by decide) (va_up_self _ _ _)) inX12 rfl 11 (by decide) tyX12 tyX12_ok nmX12 w_860 rfl (v := .int (ma + 1)) (fs' := [.ref (ad 88), .ref (ad 89), .ref (ad 90), .ref (ad 91), .int la, .ref (ad 92), .ref (ad 93), .ref (ad 94), .int dr, .int go, .int lo, .int (ma + 1), .ref (ad 95), .ref (ad 96), .ref (ad 97), .ref (ad 98), .int pa, .int tu, .ref (ad 99), .ref (ad 100), .ref (ad 101), .ref (ad 102), .ref (ad 103), .ref (ad 104), .int su, .ref (ad 105), .ref (ad 106), .ref (ad 107)]) rfl rfl (Nat.le_of_ble_eq_true rfl) rfl dX12_tries_46 ?_
        refine gj_setf ((up_comm (by decide)).trans (up_un (bx_uu _ _ _ _))) ?_
        refine gj_aload_n C 0 dX12_tries_49 rfl 0 rfl ?_
        refine gj_get C 87 (by decide) (up_nx (by decide) (va_up_self _ _ _)) inX12 rfl 12 (by decide) w_861 (v := .ref (ad 95)) rfl dX12_tries_50 ?_
        refine gj_bipush C (v := 12) (by decide) dX12_tries_53 ?_
        refine gj_iload_n C 1 dX12_tries_55 rfl 1 rfl ?_
        refine gj_imul C dX12_tries_56 ?_
        refine gj_iload C dX12_tries_57 4 rfl ?_
        refine gj_iadd C dX12_tries_59 ?_
        refine gj_dup2_11 C rfl rfl dX12_tries_60 ?_
        refine gj_iald C 95 (by decide) (va_up_self _ _ _) (in12 (by omega) (by omega)) dX12_tries_61 ?_
        refine gj_seti (congrArg _ (cl12 (by omega) (by omega))) ?_
        refine gj_iconst C (v := 1) (by decide) dX12_tries_62 ?_
        refine gj_iadd C dX12_tries_63 ?_
        refine gj_iast C 95 (by decide) (va_up_self _ _ _) (in12 (by omega) (by omega)) dX12_tries_64 ?_
        refine gj_setf (bx_uu _ _ _ _) ?_
        refine gj_setf (g := va_up (va_up f 87 (.inr (11, [.ref (ad 88), .ref (ad 89), .ref (ad 90), .ref (ad 91), .int la, .ref (ad 92), .ref (ad 93), .ref (ad 94), .int dr, .int go, .int lo, .int (ma + 1), .ref (ad 95), .ref (ad 96), .ref (ad 97), .ref (ad 98), .int pa, .int tu, .ref (ad 99), .ref (ad 100), .ref (ad 101), .ref (ad 102), .ref (ad 103), .ref (ad 104), .int su, .ref (ad 105), .ref (ad 106), .ref (ad 107)]))) 95 (.inl (ca 0, 96, .inl (upd vo (12 * p + i) ((vo (12 * p + i)) + 1))))) (by rw [cl12 (show p < 8 by omega) (show i < 12 by omega)]) ?_
        refine gj_aload_n C 0 dX12_tries_65 rfl 0 rfl ?_
        refine gj_get C 87 (by decide) (up_nx (by decide) (va_up_self _ _ _)) inX12 rfl 12 (by decide) w_861 (v := .ref (ad 95)) rfl dX12_tries_66 ?_
        refine gj_bipush C (v := 12) (by decide) dX12_tries_69 ?_
        refine gj_iload_n C 2 dX12_tries_71 rfl 2 rfl ?_
        refine gj_imul C dX12_tries_72 ?_
        refine gj_iload C dX12_tries_73 5 rfl ?_
        refine gj_iadd C dX12_tries_75 ?_
        refine gj_dup2_11 C rfl rfl dX12_tries_76 ?_
        refine gj_iald C 95 (by decide) (va_up_self _ _ _) (in12 (by omega) (by omega)) dX12_tries_77 ?_
        refine gj_seti (congrArg _ (cl12 (by omega) (by omega))) ?_
        refine gj_iconst C (v := 1) (by decide) dX12_tries_78 ?_
        refine gj_iadd C dX12_tries_79 ?_
        refine gj_iast C 95 (by decide) (va_up_self _ _ _) (in12 (by omega) (by omega)) dX12_tries_80 ?_
        refine gj_setf (bx_uu _ _ _ _) ?_
        refine gj_setf (g := va_up (va_up f 87 (.inr (11, [.ref (ad 88), .ref (ad 89), .ref (ad 90), .ref (ad 91), .int la, .ref (ad 92), .ref (ad 93), .ref (ad 94), .int dr, .int go, .int lo, .int (ma + 1), .ref (ad 95), .ref (ad 96), .ref (ad 97), .ref (ad 98), .int pa, .int tu, .ref (ad 99), .ref (ad 100), .ref (ad 101), .ref (ad 102), .ref (ad 103), .ref (ad 104), .int su, .ref (ad 105), .ref (ad 106), .ref (ad 107)]))) 95 (.inl (ca 0, 96, .inl (upd (upd vo (12 * p + i) ((vo (12 * p + i)) + 1)) (12 * q + j) (((upd vo (12 * p + i) ((vo (12 * p + i)) + 1)) (12 * q + j)) + 1))))) (by rw [cl12 (show q < 8 by omega) (show j < 12 by omega)]) ?_
        refine gj_aload_n C 0 dX12_tries_81 rfl 0 rfl ?_
        refine gj_get C 87 (by decide) (up_nx (by decide) (va_up_self _ _ _)) inX12 rfl 12 (by decide) w_861 (v := .ref (ad 95)) rfl dX12_tries_82 ?_
        refine gj_bipush C (v := 12) (by decide) dX12_tries_85 ?_
        refine gj_iload_n C 3 dX12_tries_87 rfl 3 rfl ?_
        refine gj_imul C dX12_tries_88 ?_
        refine gj_iload C dX12_tries_89 6 rfl ?_
        refine gj_iadd C dX12_tries_91 ?_
        refine gj_dup2_11 C rfl rfl dX12_tries_92 ?_
        refine gj_iald C 95 (by decide) (va_up_self _ _ _) (in12 (by omega) (by omega)) dX12_tries_93 ?_
        refine gj_seti (congrArg _ (cl12 (by omega) (by omega))) ?_
        refine gj_iconst C (v := 1) (by decide) dX12_tries_94 ?_
        refine gj_iadd C dX12_tries_95 ?_
        refine gj_iast C 95 (by decide) (va_up_self _ _ _) (in12 (by omega) (by omega)) dX12_tries_96 ?_
        refine gj_setf (bx_uu _ _ _ _) ?_
        refine gj_setf (g := va_up (va_up f 87 (.inr (11, [.ref (ad 88), .ref (ad 89), .ref (ad 90), .ref (ad 91), .int la, .ref (ad 92), .ref (ad 93), .ref (ad 94), .int dr, .int go, .int lo, .int (ma + 1), .ref (ad 95), .ref (ad 96), .ref (ad 97), .ref (ad 98), .int pa, .int tu, .ref (ad 99), .ref (ad 100), .ref (ad 101), .ref (ad 102), .ref (ad 103), .ref (ad 104), .int su, .ref (ad 105), .ref (ad 106), .ref (ad 107)]))) 95 (.inl (ca 0, 96, .inl (upd (upd (upd vo (12 * p + i) ((vo (12 * p + i)) + 1)) (12 * q + j) (((upd vo (12 * p + i) ((vo (12 * p + i)) + 1)) (12 * q + j)) + 1)) (12 * r + k) (((upd (upd vo (12 * p + i) ((vo (12 * p + i)) + 1)) (12 * q + j) (((upd vo (12 * p + i) ((vo (12 * p + i)) + 1)) (12 * q + j)) + 1)) (12 * r + k)) + 1))))) (by rw [cl12 (show r < 8 by omega) (show k < 12 by omega)]) ?_
        exact RT _ _ _ (by simp only [t_X12_tries_87_11, t_X12_tries_95, if_neg c_1, if_neg c_2, if_neg c_3]) dX12_tries_97
def t_X12_meets_87_10 (p : Nat) (q : Nat) (r : Nat) (i : Nat) (j : Nat) (k : Nat) (lo : Int32) (di : Nat → Int32) (se : Nat → Int32) : Int32 := if 1 < (s_X12_apart (s_X12_keyOf (1 : Int32) (nI p) (nI q) (nI r) (0 : Int32) di se) (s_X12_keyOf (0 : Int32) (nI i) (nI j) (nI k) (0 : Int32) di se)) then lo else (if 1 < (s_X12_apart (s_X12_keyOf (1 : Int32) (nI p) (nI q) (nI r) (1 : Int32) di se) (s_X12_keyOf (0 : Int32) (nI i) (nI j) (nI k) (1 : Int32) di se)) then lo else (if 1 < (s_X12_apart (s_X12_keyOf (1 : Int32) (nI p) (nI q) (nI r) (2 : Int32) di se) (s_X12_keyOf (0 : Int32) (nI i) (nI j) (nI k) (2 : Int32) di se)) then lo else (lo + 1)))
def t_X12_meets_87_11 (p : Nat) (q : Nat) (r : Nat) (i : Nat) (j : Nat) (k : Nat) (ma : Int32) (di : Nat → Int32) (se : Nat → Int32) : Int32 := if 1 < (s_X12_apart (s_X12_keyOf (1 : Int32) (nI p) (nI q) (nI r) (0 : Int32) di se) (s_X12_keyOf (0 : Int32) (nI i) (nI j) (nI k) (0 : Int32) di se)) then ma else (if 1 < (s_X12_apart (s_X12_keyOf (1 : Int32) (nI p) (nI q) (nI r) (1 : Int32) di se) (s_X12_keyOf (0 : Int32) (nI i) (nI j) (nI k) (1 : Int32) di se)) then ma else (if 1 < (s_X12_apart (s_X12_keyOf (1 : Int32) (nI p) (nI q) (nI r) (2 : Int32) di se) (s_X12_keyOf (0 : Int32) (nI i) (nI j) (nI k) (2 : Int32) di se)) then ma else (t_X12_tries_87_11 p q r k j i (t_X12_tries_87_11 p q r k i j (t_X12_tries_87_11 p q r j k i (t_X12_tries_87_11 p q r j i k (t_X12_tries_87_11 p q r i k j (t_X12_tries_87_11 p q r i j k ma di se) di se) di se) di se) di se) di se)))
def t_X12_meets_95 (p : Nat) (q : Nat) (r : Nat) (i : Nat) (j : Nat) (k : Nat) (di : Nat → Int32) (se : Nat → Int32) (vo : Nat → Int32) : Nat → Int32 := if 1 < (s_X12_apart (s_X12_keyOf (1 : Int32) (nI p) (nI q) (nI r) (0 : Int32) di se) (s_X12_keyOf (0 : Int32) (nI i) (nI j) (nI k) (0 : Int32) di se)) then vo else (if 1 < (s_X12_apart (s_X12_keyOf (1 : Int32) (nI p) (nI q) (nI r) (1 : Int32) di se) (s_X12_keyOf (0 : Int32) (nI i) (nI j) (nI k) (1 : Int32) di se)) then vo else (if 1 < (s_X12_apart (s_X12_keyOf (1 : Int32) (nI p) (nI q) (nI r) (2 : Int32) di se) (s_X12_keyOf (0 : Int32) (nI i) (nI j) (nI k) (2 : Int32) di se)) then vo else (t_X12_tries_95 p q r k j i di se (t_X12_tries_95 p q r k i j di se (t_X12_tries_95 p q r j k i di se (t_X12_tries_95 p q r j i k di se (t_X12_tries_95 p q r i k j di se (t_X12_tries_95 p q r i j k di se vo))))))))
set_option maxHeartbeats 1000000 in
set_option maxRecDepth 100000 in
theorem c_X12_meets {l : Launch} {D : va_G} {ca ss ad : Nat → Nat} {f : Nat → va_E}  (p : Nat) (q : Nat) (r : Nat) (i : Nat) (j : Nat) (k : Nat) (la : Int32) (dr : Int32) (go : Int32) (lo : Int32) (ma : Int32) (pa : Int32) (tu : Int32) (su : Int32) (di : Nat → Int32) (se : Nat → Int32) (vo : Nat → Int32) (hc0 : f 87 = .inr (11, mF ad la dr go lo ma pa tu su)) (hc1 : f 92 = .inl (ca 0, 60, .inl di)) (hc2 : f 94 = .inl (ca 0, 4, .inl se)) (hc3 : f 95 = .inl (ca 0, 96, .inl vo)) (hp : p < 8) (hq : q < 8) (hr : r < 8) (hi : i < 12) (hj : j < 12) (hk : k < 12) (hz : ¬ se 0 = 0) : gMv l D ca ss ad 108 yX12_meets cX12_meets 9 none 4 f [.ref (ad 87), .int (nI p), .int (nI q), .int (nI r), .int (nI i), .int (nI j), .int (nI k)] (fun u => u = va_up (va_up f 87 (.inr (11, mF ad la dr go (t_X12_meets_87_10 p q r i j k lo di se) (t_X12_meets_87_11 p q r i j k ma di se) pa tu su))) 95 (.inl (ca 0, 96, .inl (t_X12_meets_95 p q r i j k di se vo)))) := by
  refine gMv_ofK (by decide +kernel) (Nat.le_of_ble_eq_true rfl) (lv0 := [(0, .ref (ad 87)), (1, .int (nI p)), (2, .int (nI q)), (3, .int (nI r)), (4, .int (nI i)), (5, .int (nI j)), (6, .int (nI k))]) rfl (fun pT eT sT mT aT below meth cT AT QT C RT => ?_)
  have C : gX pT sT mT aT meth cT AT D ca ss 9 RX12 cX12_meets none := C
  refine gj_setf (up_id hc0).symm ?_
  refine gj_setf (up_id (up_nx (by decide) (hc3))).symm ?_
  refine gj_iconst C (v := 1) (by decide) dX12_meets_0 ?_
  refine gj_istore C (lv' := [(7, .int 1), (0, .ref (ad 87)), (1, .int (nI p)), (2, .int (nI q)), (3, .int (nI r)), (4, .int (nI i)), (5, .int (nI j)), (6, .int (nI k))]) dX12_meets_1 (by decide) rfl ?_
  refine gj_iconst C (v := 0) (by decide) dX12_meets_3 ?_
  refine gj_istore C (lv' := [(8, .int 0), (7, .int 1), (0, .ref (ad 87)), (1, .int (nI p)), (2, .int (nI q)), (3, .int (nI r)), (4, .int (nI i)), (5, .int (nI j)), (6, .int (nI k))]) dX12_meets_4 (by decide) rfl ?_
  refine gj_iload C dX12_meets_6 0 rfl ?_
  refine gj_iconst C (v := 3) (by decide) dX12_meets_8 ?_
  refine gj_icmp_ge C 60 dX12_meets_9 (by decide) (fun c_1 => absurd c_1 (by decide)) (fun c_1 => ?_)
  refine gj_iload C dX12_meets_12 1 rfl ?_
  refine gj_if_eq C 51 dX12_meets_14 (by decide) (fun c_2 => absurd c_2 (by decide)) (fun c_2 => ?_)
  refine gj_aload_n C 0 dX12_meets_17 rfl 2 rfl ?_
  refine gj_iconst C (v := 1) (by decide) dX12_meets_18 ?_
  refine gj_iload_n C 1 dX12_meets_19 rfl 3 rfl ?_
  refine gj_iload_n C 2 dX12_meets_20 rfl 4 rfl ?_
  refine gj_iload_n C 3 dX12_meets_21 rfl 5 rfl ?_
  refine gj_iload C dX12_meets_22 0 rfl ?_
  refine gj_callVi C mi_X12_keyOf w_1061 87 (by decide) (up_nx (by decide) (va_up_self _ _ _)) rfl (c_X12_keyOf (1 : Int32) (nI p) (nI q) (nI r) (0 : Int32) la dr go lo ma pa tu su di se (up_nx (by decide) (va_up_self _ _ _)) (up_nx (by decide) (up_nx (by decide) (hc1))) (up_nx (by decide) (up_nx (by decide) (hc2))) (dIn_1 (by omega)) (dIn_1 (by omega)) (dIn_1 (by omega)) hz) mc_X12_keyOf ⟨Nat.le_of_ble_eq_true rfl, Nat.le_of_ble_eq_true rfl⟩ (rest := []) rfl (Nat.le_of_ble_eq_true rfl) dX12_meets_24 (fun r u h => ?_)
  obtain ⟨rfl, rfl⟩ := h
  refine gj_aload_n C 0 dX12_meets_27 rfl 2 rfl ?_
  refine gj_iconst C (v := 0) (by decide) dX12_meets_28 ?_
  refine gj_iload C dX12_meets_29 6 rfl ?_
  refine gj_iload C dX12_meets_31 7 rfl ?_
  refine gj_iload C dX12_meets_33 8 rfl ?_
  refine gj_iload C dX12_meets_35 0 rfl ?_
  refine gj_callVi C mi_X12_keyOf w_1061 87 (by decide) (up_nx (by decide) (va_up_self _ _ _)) rfl (c_X12_keyOf (0 : Int32) (nI i) (nI j) (nI k) (0 : Int32) la dr go lo ma pa tu su di se (up_nx (by decide) (va_up_self _ _ _)) (up_nx (by decide) (up_nx (by decide) (hc1))) (up_nx (by decide) (up_nx (by decide) (hc2))) (dIn_0 (by omega)) (dIn_0 (by omega)) (dIn_0 (by omega)) hz) mc_X12_keyOf ⟨Nat.le_of_ble_eq_true rfl, Nat.le_of_ble_eq_true rfl⟩ (rest := [.int (s_X12_keyOf (1 : Int32) (nI p) (nI q) (nI r) (0 : Int32) di se)]) rfl (Nat.le_of_ble_eq_true rfl) dX12_meets_37 (fun r u h => ?_)
  obtain ⟨rfl, rfl⟩ := h
  refine gj_callSi C w_1086 w_1085 (c_X12_apart (s_X12_keyOf (1 : Int32) (nI p) (nI q) (nI r) (0 : Int32) di se) (s_X12_keyOf (0 : Int32) (nI i) (nI j) (nI k) (0 : Int32) di se)) mc_X12_apart ⟨Nat.le_of_ble_eq_true rfl, Nat.le_of_ble_eq_true rfl⟩ (rest := []) rfl (Nat.le_of_ble_eq_true rfl) dX12_meets_40 (fun r u h => ?_)
  obtain ⟨rfl, rfl⟩ := h
  refine gj_iconst C (v := 1) (by decide) dX12_meets_43 ?_
  refine gj_icmp_gt C 51 dX12_meets_44 (by decide) (fun c_3 => ?_) (fun c_3 => ?_)
  · refine gj_iconst C (v := 0) (by decide) dX12_meets_51 ?_
    refine gj_istore C (lv' := [(7, .int 0), (8, .int 0), (0, .ref (ad 87)), (1, .int (nI p)), (2, .int (nI q)), (3, .int (nI r)), (4, .int (nI i)), (5, .int (nI j)), (6, .int (nI k))]) dX12_meets_52 (by decide) rfl ?_
    refine gj_iinc C (v := 1) (lv' := [(8, .int 1), (7, .int 0), (0, .ref (ad 87)), (1, .int (nI p)), (2, .int (nI q)), (3, .int (nI r)), (4, .int (nI i)), (5, .int (nI j)), (6, .int (nI k))]) dX12_meets_54 1 rfl (by decide) (by decide) rfl ?_
    refine gj_goto C 6 dX12_meets_57 (by decide) ?_
    refine gj_iload C dX12_meets_6 0 rfl ?_
    refine gj_iconst C (v := 3) (by decide) dX12_meets_8 ?_
    refine gj_icmp_ge C 60 dX12_meets_9 (by decide) (fun c_4 => absurd c_4 (by decide)) (fun c_4 => ?_)
    refine gj_iload C dX12_meets_12 1 rfl ?_
    refine gj_if_eq C 51 dX12_meets_14 (by decide) (fun c_5 => ?_) (fun c_5 => absurd (by decide) c_5)
    refine gj_iconst C (v := 0) (by decide) dX12_meets_51 ?_
    refine gj_istore C (lv' := [(7, .int 0), (8, .int 1), (0, .ref (ad 87)), (1, .int (nI p)), (2, .int (nI q)), (3, .int (nI r)), (4, .int (nI i)), (5, .int (nI j)), (6, .int (nI k))]) dX12_meets_52 (by decide) rfl ?_
    refine gj_iinc C (v := 2) (lv' := [(8, .int 2), (7, .int 0), (0, .ref (ad 87)), (1, .int (nI p)), (2, .int (nI q)), (3, .int (nI r)), (4, .int (nI i)), (5, .int (nI j)), (6, .int (nI k))]) dX12_meets_54 1 rfl (by decide) (by decide) rfl ?_
    refine gj_goto C 6 dX12_meets_57 (by decide) ?_
    refine gj_iload C dX12_meets_6 0 rfl ?_
    refine gj_iconst C (v := 3) (by decide) dX12_meets_8 ?_
    refine gj_icmp_ge C 60 dX12_meets_9 (by decide) (fun c_6 => absurd c_6 (by decide)) (fun c_6 => ?_)
    refine gj_iload C dX12_meets_12 1 rfl ?_
    refine gj_if_eq C 51 dX12_meets_14 (by decide) (fun c_7 => ?_) (fun c_7 => absurd (by decide) c_7)
    refine gj_iconst C (v := 0) (by decide) dX12_meets_51 ?_
    refine gj_istore C (lv' := [(7, .int 0), (8, .int 2), (0, .ref (ad 87)), (1, .int (nI p)), (2, .int (nI q)), (3, .int (nI r)), (4, .int (nI i)), (5, .int (nI j)), (6, .int (nI k))]) dX12_meets_52 (by decide) rfl ?_
    refine gj_iinc C (v := 3) (lv' := [(8, .int 3), (7, .int 0), (0, .ref (ad 87)), (1, .int (nI p)), (2, .int (nI q)), (3, .int (nI r)), (4, .int (nI i)), (5, .int (nI j)), (6, .int (nI k))]) dX12_meets_54 1 rfl (by decide) (by decide) rfl ?_
    refine gj_goto C 6 dX12_meets_57 (by decide) ?_
    refine gj_iload C dX12_meets_6 0 rfl ?_
    refine gj_iconst C (v := 3) (by decide) dX12_meets_8 ?_
    refine gj_icmp_ge C 60 dX12_meets_9 (by decide) (fun c_8 => ?_) (fun c_8 => absurd (by decide) c_8)
    refine gj_iload C dX12_meets_60 1 rfl ?_
    refine gj_if_eq C 153 dX12_meets_62 (by decide) (fun c_9 => ?_) (fun c_9 => absurd (by decide) c_9)
    exact RT _ _ _ (by simp only [t_X12_meets_87_10, t_X12_meets_87_11, t_X12_meets_95, if_pos c_3]) dX12_meets_153
  · refine gj_iconst C (v := 1) (by decide) dX12_meets_47 ?_
    refine gj_goto C 52 dX12_meets_48 (by decide) ?_
    refine gj_istore C (lv' := [(7, .int 1), (8, .int 0), (0, .ref (ad 87)), (1, .int (nI p)), (2, .int (nI q)), (3, .int (nI r)), (4, .int (nI i)), (5, .int (nI j)), (6, .int (nI k))]) dX12_meets_52 (by decide) rfl ?_
    refine gj_iinc C (v := 1) (lv' := [(8, .int 1), (7, .int 1), (0, .ref (ad 87)), (1, .int (nI p)), (2, .int (nI q)), (3, .int (nI r)), (4, .int (nI i)), (5, .int (nI j)), (6, .int (nI k))]) dX12_meets_54 1 rfl (by decide) (by decide) rfl ?_
    refine gj_goto C 6 dX12_meets_57 (by decide) ?_
    refine gj_iload C dX12_meets_6 0 rfl ?_
    refine gj_iconst C (v := 3) (by decide) dX12_meets_8 ?_
    refine gj_icmp_ge C 60 dX12_meets_9 (by decide) (fun c_10 => absurd c_10 (by decide)) (fun c_10 => ?_)
    refine gj_iload C dX12_meets_12 1 rfl ?_
    refine gj_if_eq C 51 dX12_meets_14 (by decide) (fun c_11 => absurd c_11 (by decide)) (fun c_11 => ?_)
    refine gj_aload_n C 0 dX12_meets_17 rfl 2 rfl ?_
    refine gj_iconst C (v := 1) (by decide) dX12_meets_18 ?_
    refine gj_iload_n C 1 dX12_meets_19 rfl 3 rfl ?_
    refine gj_iload_n C 2 dX12_meets_20 rfl 4 rfl ?_
    refine gj_iload_n C 3 dX12_meets_21 rfl 5 rfl ?_
    refine gj_iload C dX12_meets_22 0 rfl ?_
    refine gj_callVi C mi_X12_keyOf w_1061 87 (by decide) (up_nx (by decide) (va_up_self _ _ _)) rfl (c_X12_keyOf (1 : Int32) (nI p) (nI q) (nI r) (1 : Int32) la dr go lo ma pa tu su di se (up_nx (by decide) (va_up_self _ _ _)) (up_nx (by decide) (up_nx (by decide) (hc1))) (up_nx (by decide) (up_nx (by decide) (hc2))) (dIn_1 (by omega)) (dIn_1 (by omega)) (dIn_1 (by omega)) hz) mc_X12_keyOf ⟨Nat.le_of_ble_eq_true rfl, Nat.le_of_ble_eq_true rfl⟩ (rest := []) rfl (Nat.le_of_ble_eq_true rfl) dX12_meets_24 (fun r u h => ?_)
    obtain ⟨rfl, rfl⟩ := h
    refine gj_aload_n C 0 dX12_meets_27 rfl 2 rfl ?_
    refine gj_iconst C (v := 0) (by decide) dX12_meets_28 ?_
    refine gj_iload C dX12_meets_29 6 rfl ?_
    refine gj_iload C dX12_meets_31 7 rfl ?_
    refine gj_iload C dX12_meets_33 8 rfl ?_
    refine gj_iload C dX12_meets_35 0 rfl ?_
    refine gj_callVi C mi_X12_keyOf w_1061 87 (by decide) (up_nx (by decide) (va_up_self _ _ _)) rfl (c_X12_keyOf (0 : Int32) (nI i) (nI j) (nI k) (1 : Int32) la dr go lo ma pa tu su di se (up_nx (by decide) (va_up_self _ _ _)) (up_nx (by decide) (up_nx (by decide) (hc1))) (up_nx (by decide) (up_nx (by decide) (hc2))) (dIn_0 (by omega)) (dIn_0 (by omega)) (dIn_0 (by omega)) hz) mc_X12_keyOf ⟨Nat.le_of_ble_eq_true rfl, Nat.le_of_ble_eq_true rfl⟩ (rest := [.int (s_X12_keyOf (1 : Int32) (nI p) (nI q) (nI r) (1 : Int32) di se)]) rfl (Nat.le_of_ble_eq_true rfl) dX12_meets_37 (fun r u h => ?_)
    obtain ⟨rfl, rfl⟩ := h
    refine gj_callSi C w_1086 w_1085 (c_X12_apart (s_X12_keyOf (1 : Int32) (nI p) (nI q) (nI r) (1 : Int32) di se) (s_X12_keyOf (0 : Int32) (nI i) (nI j) (nI k) (1 : Int32) di se)) mc_X12_apart ⟨Nat.le_of_ble_eq_true rfl, Nat.le_of_ble_eq_true rfl⟩ (rest := []) rfl (Nat.le_of_ble_eq_true rfl) dX12_meets_40 (fun r u h => ?_)
    obtain ⟨rfl, rfl⟩ := h
    refine gj_iconst C (v := 1) (by decide) dX12_meets_43 ?_
    refine gj_icmp_gt C 51 dX12_meets_44 (by decide) (fun c_12 => ?_) (fun c_12 => ?_)
    · refine gj_iconst C (v := 0) (by decide) dX12_meets_51 ?_
      refine gj_istore C (lv' := [(7, .int 0), (8, .int 1), (0, .ref (ad 87)), (1, .int (nI p)), (2, .int (nI q)), (3, .int (nI r)), (4, .int (nI i)), (5, .int (nI j)), (6, .int (nI k))]) dX12_meets_52 (by decide) rfl ?_
      refine gj_iinc C (v := 2) (lv' := [(8, .int 2), (7, .int 0), (0, .ref (ad 87)), (1, .int (nI p)), (2, .int (nI q)), (3, .int (nI r)), (4, .int (nI i)), (5, .int (nI j)), (6, .int (nI k))]) dX12_meets_54 1 rfl (by decide) (by decide) rfl ?_
      refine gj_goto C 6 dX12_meets_57 (by decide) ?_
      refine gj_iload C dX12_meets_6 0 rfl ?_
      refine gj_iconst C (v := 3) (by decide) dX12_meets_8 ?_
      refine gj_icmp_ge C 60 dX12_meets_9 (by decide) (fun c_13 => absurd c_13 (by decide)) (fun c_13 => ?_)
      refine gj_iload C dX12_meets_12 1 rfl ?_
      refine gj_if_eq C 51 dX12_meets_14 (by decide) (fun c_14 => ?_) (fun c_14 => absurd (by decide) c_14)
      refine gj_iconst C (v := 0) (by decide) dX12_meets_51 ?_
      refine gj_istore C (lv' := [(7, .int 0), (8, .int 2), (0, .ref (ad 87)), (1, .int (nI p)), (2, .int (nI q)), (3, .int (nI r)), (4, .int (nI i)), (5, .int (nI j)), (6, .int (nI k))]) dX12_meets_52 (by decide) rfl ?_
      refine gj_iinc C (v := 3) (lv' := [(8, .int 3), (7, .int 0), (0, .ref (ad 87)), (1, .int (nI p)), (2, .int (nI q)), (3, .int (nI r)), (4, .int (nI i)), (5, .int (nI j)), (6, .int (nI k))]) dX12_meets_54 1 rfl (by decide) (by decide) rfl ?_
      refine gj_goto C 6 dX12_meets_57 (by decide) ?_
      refine gj_iload C dX12_meets_6 0 rfl ?_
      refine gj_iconst C (v := 3) (by decide) dX12_meets_8 ?_
      refine gj_icmp_ge C 60 dX12_meets_9 (by decide) (fun c_15 => ?_) (fun c_15 => absurd (by decide) c_15)
      refine gj_iload C dX12_meets_60 1 rfl ?_
      refine gj_if_eq C 153 dX12_meets_62 (by decide) (fun c_16 => ?_) (fun c_16 => absurd (by decide) c_16)
      exact RT _ _ _ (by simp only [t_X12_meets_87_10, t_X12_meets_87_11, t_X12_meets_95, if_neg c_3, if_pos c_12]) dX12_meets_153
    · refine gj_iconst C (v := 1) (by decide) dX12_meets_47 ?_
      refine gj_goto C 52 dX12_meets_48 (by decide) ?_
      refine gj_istore C (lv' := [(7, .int 1), (8, .int 1), (0, .ref (ad 87)), (1, .int (nI p)), (2, .int (nI q)), (3, .int (nI r)), (4, .int (nI i)), (5, .int (nI j)), (6, .int (nI k))]) dX12_meets_52 (by decide) rfl ?_
      refine gj_iinc C (v := 2) (lv' := [(8, .int 2), (7, .int 1), (0, .ref (ad 87)), (1, .int (nI p)), (2, .int (nI q)), (3, .int (nI r)), (4, .int (nI i)), (5, .int (nI j)), (6, .int (nI k))]) dX12_meets_54 1 rfl (by decide) (by decide) rfl ?_
      refine gj_goto C 6 dX12_meets_57 (by decide) ?_
      refine gj_iload C dX12_meets_6 0 rfl ?_
      refine gj_iconst C (v := 3) (by decide) dX12_meets_8 ?_
      refine gj_icmp_ge C 60 dX12_meets_9 (by decide) (fun c_17 => absurd c_17 (by decide)) (fun c_17 => ?_)
      refine gj_iload C dX12_meets_12 1 rfl ?_
      refine gj_if_eq C 51 dX12_meets_14 (by decide) (fun c_18 => absurd c_18 (by decide)) (fun c_18 => ?_)
      refine gj_aload_n C 0 dX12_meets_17 rfl 2 rfl ?_
      refine gj_iconst C (v := 1) (by decide) dX12_meets_18 ?_
      refine gj_iload_n C 1 dX12_meets_19 rfl 3 rfl ?_
      refine gj_iload_n C 2 dX12_meets_20 rfl 4 rfl ?_
      refine gj_iload_n C 3 dX12_meets_21 rfl 5 rfl ?_
      refine gj_iload C dX12_meets_22 0 rfl ?_
      refine gj_callVi C mi_X12_keyOf w_1061 87 (by decide) (up_nx (by decide) (va_up_self _ _ _)) rfl (c_X12_keyOf (1 : Int32) (nI p) (nI q) (nI r) (2 : Int32) la dr go lo ma pa tu su di se (up_nx (by decide) (va_up_self _ _ _)) (up_nx (by decide) (up_nx (by decide) (hc1))) (up_nx (by decide) (up_nx (by decide) (hc2))) (dIn_1 (by omega)) (dIn_1 (by omega)) (dIn_1 (by omega)) hz) mc_X12_keyOf ⟨Nat.le_of_ble_eq_true rfl, Nat.le_of_ble_eq_true rfl⟩ (rest := []) rfl (Nat.le_of_ble_eq_true rfl) dX12_meets_24 (fun r u h => ?_)
      obtain ⟨rfl, rfl⟩ := h
      refine gj_aload_n C 0 dX12_meets_27 rfl 2 rfl ?_
      refine gj_iconst C (v := 0) (by decide) dX12_meets_28 ?_
      refine gj_iload C dX12_meets_29 6 rfl ?_
      refine gj_iload C dX12_meets_31 7 rfl ?_
      refine gj_iload C dX12_meets_33 8 rfl ?_
      refine gj_iload C dX12_meets_35 0 rfl ?_
      refine gj_callVi C mi_X12_keyOf w_1061 87 (by decide) (up_nx (by decide) (va_up_self _ _ _)) rfl (c_X12_keyOf (0 : Int32) (nI i) (nI j) (nI k) (2 : Int32) la dr go lo ma pa tu su di se (up_nx (by decide) (va_up_self _ _ _)) (up_nx (by decide) (up_nx (by decide) (hc1))) (up_nx (by decide) (up_nx (by decide) (hc2))) (dIn_0 (by omega)) (dIn_0 (by omega)) (dIn_0 (by omega)) hz) mc_X12_keyOf ⟨Nat.le_of_ble_eq_true rfl, Nat.le_of_ble_eq_true rfl⟩ (rest := [.int (s_X12_keyOf (1 : Int32) (nI p) (nI q) (nI r) (2 : Int32) di se)]) rfl (Nat.le_of_ble_eq_true rfl) dX12_meets_37 (fun r u h => ?_)
      obtain ⟨rfl, rfl⟩ := h
      refine gj_callSi C w_1086 w_1085 (c_X12_apart (s_X12_keyOf (1 : Int32) (nI p) (nI q) (nI r) (2 : Int32) di se) (s_X12_keyOf (0 : Int32) (nI i) (nI j) (nI k) (2 : Int32) di se)) mc_X12_apart ⟨Nat.le_of_ble_eq_true rfl, Nat.le_of_ble_eq_true rfl⟩ (rest := []) rfl (Nat.le_of_ble_eq_true rfl) dX12_meets_40 (fun r u h => ?_)
      obtain ⟨rfl, rfl⟩ := h
      refine gj_iconst C (v := 1) (by decide) dX12_meets_43 ?_
      refine gj_icmp_gt C 51 dX12_meets_44 (by decide) (fun c_19 => ?_) (fun c_19 => ?_)
      · refine gj_iconst C (v := 0) (by decide) dX12_meets_51 ?_
        refine gj_istore C (lv' := [(7, .int 0), (8, .int 2), (0, .ref (ad 87)), (1, .int (nI p)), (2, .int (nI q)), (3, .int (nI r)), (4, .int (nI i)), (5, .int (nI j)), (6, .int (nI k))]) dX12_meets_52 (by decide) rfl ?_
        refine gj_iinc C (v := 3) (lv' := [(8, .int 3), (7, .int 0), (0, .ref (ad 87)), (1, .int (nI p)), (2, .int (nI q)), (3, .int (nI r)), (4, .int (nI i)), (5, .int (nI j)), (6, .int (nI k))]) dX12_meets_54 1 rfl (by decide) (by decide) rfl ?_
        refine gj_goto C 6 dX12_meets_57 (by decide) ?_
        refine gj_iload C dX12_meets_6 0 rfl ?_
        refine gj_iconst C (v := 3) (by decide) dX12_meets_8 ?_
        refine gj_icmp_ge C 60 dX12_meets_9 (by decide) (fun c_20 => ?_) (fun c_20 => absurd (by decide) c_20)
        refine gj_iload C dX12_meets_60 1 rfl ?_
        refine gj_if_eq C 153 dX12_meets_62 (by decide) (fun c_21 => ?_) (fun c_21 => absurd (by decide) c_21)
        exact RT _ _ _ (by simp only [t_X12_meets_87_10, t_X12_meets_87_11, t_X12_meets_95, if_neg c_3, if_neg c_12, if_pos c_19]) dX12_meets_153
      · refine gj_iconst C (v := 1) (by decide) dX12_meets_47 ?_
        refine gj_goto C 52 dX12_meets_48 (by decide) ?_
        refine gj_istore C (lv' := [(7, .int 1), (8, .int 2), (0, .ref (ad 87)), (1, .int (nI p)), (2, .int (nI q)), (3, .int (nI r)), (4, .int (nI i)), (5, .int (nI j)), (6, .int (nI k))]) dX12_meets_52 (by decide) rfl ?_
        refine gj_iinc C (v := 3) (lv' := [(8, .int 3), (7, .int 1), (0, .ref (ad 87)), (1, .int (nI p)), (2, .int (nI q)), (3, .int (nI r)), (4, .int (nI i)), (5, .int (nI j)), (6, .int (nI k))]) dX12_meets_54 1 rfl (by decide) (by decide) rfl ?_
        refine gj_goto C 6 dX12_meets_57 (by decide) ?_
        refine gj_iload C dX12_meets_6 0 rfl ?_
        refine gj_iconst C (v := 3) (by decide) dX12_meets_8 ?_
        refine gj_icmp_ge C 60 dX12_meets_9 (by decide) (fun c_22 => ?_) (fun c_22 => absurd (by decide) c_22)
        refine gj_iload C dX12_meets_60 1 rfl ?_
        refine gj_if_eq C 153 dX12_meets_62 (by decide) (fun c_23 => absurd c_23 (by decide)) (fun c_23 => ?_)
        refine gj_aload_n C 0 dX12_meets_65 rfl 2 rfl ?_
        refine gj_dup C rfl dX12_meets_66 ?_
        refine gj_get C 87 (by decide) (up_nx (by decide) (va_up_self _ _ _)) inX12 rfl 10 (by decide) w_859 (v := .int lo) rfl dX12_meets_67 ?_
        refine gj_iconst C (v := 1) (by decide) dX12_meets_70 ?_
        refine gj_iadd C dX12_meets_71 ?_
        refine gj_putS C 87 (by decide) (up_nx (by decide) (va_up_self _ _ _)) inX12 rfl 10 (by decide) tyX12 tyX12_ok nmX12 w_859 rfl (v := .int (lo + 1)) (fs' := [.ref (ad 88), .ref (ad 89), .ref (ad 90), .ref (ad 91), .int la, .ref (ad 92), .ref (ad 93), .ref (ad 94), .int dr, .int go, .int (lo + 1), .int ma, .ref (ad 95), .ref (ad 96), .ref (ad 97), .ref (ad 98), .int pa, .int tu, .ref (ad 99), .ref (ad 100), .ref (ad 101), .ref (ad 102), .ref (ad 103), .ref (ad 104), .int su, .ref (ad 105), .ref (ad 106), .ref (ad 107)]) rfl rfl (Nat.le_of_ble_eq_true rfl) rfl dX12_meets_72 ?_
        refine gj_setf ((up_comm (by decide)).trans (up_un (bx_uu _ _ _ _))) ?_
        refine gj_aload_n C 0 dX12_meets_75 rfl 2 rfl ?_
        refine gj_iload_n C 1 dX12_meets_76 rfl 3 rfl ?_
        refine gj_iload_n C 2 dX12_meets_77 rfl 4 rfl ?_
        refine gj_iload_n C 3 dX12_meets_78 rfl 5 rfl ?_
        refine gj_iload C dX12_meets_79 6 rfl ?_
        refine gj_iload C dX12_meets_81 7 rfl ?_
        refine gj_iload C dX12_meets_83 8 rfl ?_
        refine gj_callVv C mi_X12_tries w_1088 87 (by decide) (up_nx (by decide) (va_up_self _ _ _)) rfl (c_X12_tries p q r i j k la dr go (lo + 1) ma pa tu su di se vo (up_nx (by decide) (va_up_self _ _ _)) (up_nx (by decide) (up_nx (by decide) (hc1))) (up_nx (by decide) (up_nx (by decide) (hc2))) (va_up_self _ _ _) (by first | assumption | omega) (by first | assumption | omega) (by first | assumption | omega) (by first | assumption | omega) (by first | assumption | omega) (by first | assumption | omega)) mc_X12_tries ⟨Nat.le_of_ble_eq_true rfl, Nat.le_of_ble_eq_true rfl⟩ (rest := []) rfl (Nat.le_of_ble_eq_true rfl) dX12_meets_85 (fun u h => ?_)
        subst h
        refine gj_setf ((up_un ((up_comm (by decide)).trans (up_un (bx_uu _ _ _ _)))).trans (bx_uu _ _ _ _)) ?_
        refine gj_aload_n C 0 dX12_meets_88 rfl 2 rfl ?_
        refine gj_iload_n C 1 dX12_meets_89 rfl 3 rfl ?_
        refine gj_iload_n C 2 dX12_meets_90 rfl 4 rfl ?_
        refine gj_iload_n C 3 dX12_meets_91 rfl 5 rfl ?_
        refine gj_iload C dX12_meets_92 6 rfl ?_
        refine gj_iload C dX12_meets_94 8 rfl ?_
        refine gj_iload C dX12_meets_96 7 rfl ?_
        refine gj_callVv C mi_X12_tries w_1088 87 (by decide) (up_nx (by decide) (va_up_self _ _ _)) rfl (c_X12_tries p q r i k j la dr go (lo + 1) (t_X12_tries_87_11 p q r i j k ma di se) pa tu su di se (t_X12_tries_95 p q r i j k di se vo) (up_nx (by decide) (va_up_self _ _ _)) (up_nx (by decide) (up_nx (by decide) (hc1))) (up_nx (by decide) (up_nx (by decide) (hc2))) (va_up_self _ _ _) (by first | assumption | omega) (by first | assumption | omega) (by first | assumption | omega) (by first | assumption | omega) (by first | assumption | omega) (by first | assumption | omega)) mc_X12_tries ⟨Nat.le_of_ble_eq_true rfl, Nat.le_of_ble_eq_true rfl⟩ (rest := []) rfl (Nat.le_of_ble_eq_true rfl) dX12_meets_98 (fun u h => ?_)
        subst h
        refine gj_setf ((up_un ((up_comm (by decide)).trans (up_un (bx_uu _ _ _ _)))).trans (bx_uu _ _ _ _)) ?_
        refine gj_aload_n C 0 dX12_meets_101 rfl 2 rfl ?_
        refine gj_iload_n C 1 dX12_meets_102 rfl 3 rfl ?_
        refine gj_iload_n C 2 dX12_meets_103 rfl 4 rfl ?_
        refine gj_iload_n C 3 dX12_meets_104 rfl 5 rfl ?_
        refine gj_iload C dX12_meets_105 7 rfl ?_
        refine gj_iload C dX12_meets_107 6 rfl ?_
        refine gj_iload C dX12_meets_109 8 rfl ?_
        refine gj_callVv C mi_X12_tries w_1088 87 (by decide) (up_nx (by decide) (va_up_self _ _ _)) rfl (c_X12_tries p q r j i k la dr go (lo + 1) (t_X12_tries_87_11 p q r i k j (t_X12_tries_87_11 p q r i j k ma di se) di se) pa tu su di se (t_X12_tries_95 p q r i k j di se (t_X12_tries_95 p q r i j k di se vo)) (up_nx (by decide) (va_up_self _ _ _)) (up_nx (by decide) (up_nx (by decide) (hc1))) (up_nx (by decide) (up_nx (by decide) (hc2))) (va_up_self _ _ _) (by first | assumption | omega) (by first | assumption | omega) (by first | assumption | omega) (by first | assumption | omega) (by first | assumption | omega) (by first | assumption | omega)) mc_X12_tries ⟨Nat.le_of_ble_eq_true rfl, Nat.le_of_ble_eq_true rfl⟩ (rest := []) rfl (Nat.le_of_ble_eq_true rfl) dX12_meets_111 (fun u h => ?_)
        subst h
        refine gj_setf ((up_un ((up_comm (by decide)).trans (up_un (bx_uu _ _ _ _)))).trans (bx_uu _ _ _ _)) ?_
        refine gj_aload_n C 0 dX12_meets_114 rfl 2 rfl ?_
        refine gj_iload_n C 1 dX12_meets_115 rfl 3 rfl ?_
        refine gj_iload_n C 2 dX12_meets_116 rfl 4 rfl ?_
        refine gj_iload_n C 3 dX12_meets_117 rfl 5 rfl ?_
        refine gj_iload C dX12_meets_118 7 rfl ?_
        refine gj_iload C dX12_meets_120 8 rfl ?_
        refine gj_iload C dX12_meets_122 6 rfl ?_
        refine gj_callVv C mi_X12_tries w_1088 87 (by decide) (up_nx (by decide) (va_up_self _ _ _)) rfl (c_X12_tries p q r j k i la dr go (lo + 1) (t_X12_tries_87_11 p q r j i k (t_X12_tries_87_11 p q r i k j (t_X12_tries_87_11 p q r i j k ma di se) di se) di se) pa tu su di se (t_X12_tries_95 p q r j i k di se (t_X12_tries_95 p q r i k j di se (t_X12_tries_95 p q r i j k di se vo))) (up_nx (by decide) (va_up_self _ _ _)) (up_nx (by decide) (up_nx (by decide) (hc1))) (up_nx (by decide) (up_nx (by decide) (hc2))) (va_up_self _ _ _) (by first | assumption | omega) (by first | assumption | omega) (by first | assumption | omega) (by first | assumption | omega) (by first | assumption | omega) (by first | assumption | omega)) mc_X12_tries ⟨Nat.le_of_ble_eq_true rfl, Nat.le_of_ble_eq_true rfl⟩ (rest := []) rfl (Nat.le_of_ble_eq_true rfl) dX12_meets_124 (fun u h => ?_)
        subst h
        refine gj_setf ((up_un ((up_comm (by decide)).trans (up_un (bx_uu _ _ _ _)))).trans (bx_uu _ _ _ _)) ?_
        refine gj_aload_n C 0 dX12_meets_127 rfl 2 rfl ?_
        refine gj_iload_n C 1 dX12_meets_128 rfl 3 rfl ?_
        refine gj_iload_n C 2 dX12_meets_129 rfl 4 rfl ?_
        refine gj_iload_n C 3 dX12_meets_130 rfl 5 rfl ?_
        refine gj_iload C dX12_meets_131 8 rfl ?_
        refine gj_iload C dX12_meets_133 6 rfl ?_
        refine gj_iload C dX12_meets_135 7 rfl ?_
        refine gj_callVv C mi_X12_tries w_1088 87 (by decide) (up_nx (by decide) (va_up_self _ _ _)) rfl (c_X12_tries p q r k i j la dr go (lo + 1) (t_X12_tries_87_11 p q r j k i (t_X12_tries_87_11 p q r j i k (t_X12_tries_87_11 p q r i k j (t_X12_tries_87_11 p q r i j k ma di se) di se) di se) di se) pa tu su di se (t_X12_tries_95 p q r j k i di se (t_X12_tries_95 p q r j i k di se (t_X12_tries_95 p q r i k j di se (t_X12_tries_95 p q r i j k di se vo)))) (up_nx (by decide) (va_up_self _ _ _)) (up_nx (by decide) (up_nx (by decide) (hc1))) (up_nx (by decide) (up_nx (by decide) (hc2))) (va_up_self _ _ _) (by first | assumption | omega) (by first | assumption | omega) (by first | assumption | omega) (by first | assumption | omega) (by first | assumption | omega) (by first | assumption | omega)) mc_X12_tries ⟨Nat.le_of_ble_eq_true rfl, Nat.le_of_ble_eq_true rfl⟩ (rest := []) rfl (Nat.le_of_ble_eq_true rfl) dX12_meets_137 (fun u h => ?_)
        subst h
        refine gj_setf ((up_un ((up_comm (by decide)).trans (up_un (bx_uu _ _ _ _)))).trans (bx_uu _ _ _ _)) ?_
        refine gj_aload_n C 0 dX12_meets_140 rfl 2 rfl ?_
        refine gj_iload_n C 1 dX12_meets_141 rfl 3 rfl ?_
        refine gj_iload_n C 2 dX12_meets_142 rfl 4 rfl ?_
        refine gj_iload_n C 3 dX12_meets_143 rfl 5 rfl ?_
        refine gj_iload C dX12_meets_144 8 rfl ?_
        refine gj_iload C dX12_meets_146 7 rfl ?_
        refine gj_iload C dX12_meets_148 6 rfl ?_
        refine gj_callVv C mi_X12_tries w_1088 87 (by decide) (up_nx (by decide) (va_up_self _ _ _)) rfl (c_X12_tries p q r k j i la dr go (lo + 1) (t_X12_tries_87_11 p q r k i j (t_X12_tries_87_11 p q r j k i (t_X12_tries_87_11 p q r j i k (t_X12_tries_87_11 p q r i k j (t_X12_tries_87_11 p q r i j k ma di se) di se) di se) di se) di se) pa tu su di se (t_X12_tries_95 p q r k i j di se (t_X12_tries_95 p q r j k i di se (t_X12_tries_95 p q r j i k di se (t_X12_tries_95 p q r i k j di se (t_X12_tries_95 p q r i j k di se vo))))) (up_nx (by decide) (va_up_self _ _ _)) (up_nx (by decide) (up_nx (by decide) (hc1))) (up_nx (by decide) (up_nx (by decide) (hc2))) (va_up_self _ _ _) (by first | assumption | omega) (by first | assumption | omega) (by first | assumption | omega) (by first | assumption | omega) (by first | assumption | omega) (by first | assumption | omega)) mc_X12_tries ⟨Nat.le_of_ble_eq_true rfl, Nat.le_of_ble_eq_true rfl⟩ (rest := []) rfl (Nat.le_of_ble_eq_true rfl) dX12_meets_150 (fun u h => ?_)
        subst h
        refine gj_setf ((up_un ((up_comm (by decide)).trans (up_un (bx_uu _ _ _ _)))).trans (bx_uu _ _ _ _)) ?_
        exact RT _ _ _ (by simp only [t_X12_meets_87_10, t_X12_meets_87_11, t_X12_meets_95, if_neg c_3, if_neg c_12, if_neg c_19]) dX12_meets_153
abbrev mVS : Type := (Nat → Int32) × Int32 × Int32
def mMeet (di se : Nat → Int32) (p q r i j k : Nat) (st : mVS) : mVS := (t_X12_meets_95 p q r i j k di se st.1, t_X12_meets_87_11 p q r i j k st.2.1 di se, t_X12_meets_87_10 p q r i j k st.2.2 di se)
def mLook3 (di se : Nat → Int32) (n p q r i j : Nat) (st : mVS) : Nat → mVS := fR (fun k st => mMeet di se p q r i j k st) st (j + 1)
def mLook2 (di se : Nat → Int32) (n p q r i : Nat) (st : mVS) : Nat → mVS := fR (fun j st => mLook3 di se n p q r i j st (n - (j + 1))) st (i + 1)
def mLook1 (di se : Nat → Int32) (n p q r : Nat) (st : mVS) : Nat → mVS := fR (fun i st => mLook2 di se n p q r i st (n - (i + 1))) st 0
def mLook (di se : Nat → Int32) (n p q r : Nat) (st : mVS) : mVS := mLook1 di se n p q r st n
set_option maxHeartbeats 1000000 in
set_option maxRecDepth 100000 in
theorem c_X12_looksAt {l : Launch} {D : va_G} {ca ss ad : Nat → Nat} {f : Nat → va_E}  (p : Nat) (q : Nat) (r : Nat) (la : Int32) (dr : Int32) (go : Int32) (lo : Int32) (ma : Int32) (pa : Int32) (tu : Int32) (su : Int32) (di : Nat → Int32) (mn : Nat → Int32) (se : Nat → Int32) (vo : Nat → Int32) (n0 : Nat) (hc0 : f 87 = .inr (11, mF ad la dr go lo ma pa tu su)) (hc1 : f 92 = .inl (ca 0, 60, .inl di)) (hc2 : f 93 = .inl (ca 0, 2, .inl mn)) (hc3 : f 94 = .inl (ca 0, 4, .inl se)) (hc4 : f 95 = .inl (ca 0, 96, .inl vo)) (h0 : mn 0 = nI n0) (hn : n0 ≤ 12) (hp : p < 8) (hq : q < 8) (hr : r < 8) (hz : ¬ se 0 = 0) : gMv l D ca ss ad 108 yX12_looksAt cX12_looksAt 7 none 5 f [.ref (ad 87), .int (nI p), .int (nI q), .int (nI r)] (fun u => u = va_up (va_up f 87 (.inr (11, mF ad la dr go ((mLook di se n0 p q r (vo, ma, lo)).2.2) ((mLook di se n0 p q r (vo, ma, lo)).2.1) pa tu su))) 95 (.inl (ca 0, 96, .inl ((mLook di se n0 p q r (vo, ma, lo)).1)))) := by
  refine gMv_ofK (by decide +kernel) (Nat.le_of_ble_eq_true rfl) (lv0 := [(0, .ref (ad 87)), (1, .int (nI p)), (2, .int (nI q)), (3, .int (nI r))]) rfl (fun pT eT sT mT aT below meth cT AT QT C RT => ?_)
  have C : gX pT sT mT aT meth cT AT D ca ss 7 RX12 cX12_looksAt none := C
  refine gj_iconst C (v := 0) (by decide) dX12_looksAt_0 ?_
  refine gj_seti (y := nI (0 + 0)) rfl ?_
  refine gj_istore C (lv' := [(4, .int (nI (0 + 0))), (0, .ref (ad 87)), (1, .int (nI p)), (2, .int (nI q)), (3, .int (nI r))]) dX12_looksAt_1 (by decide) rfl ?_
  refine gj_setf (up_id hc0).symm ?_
  refine gj_setf (up_id (up_nx (by decide) (hc4))).symm ?_
  refine gj_setf (g := va_up (va_up f 87 (.inr (11, mF ad la dr go (((mLook1 di se n0 p q r (vo, ma, lo) 0)).2.2) (((mLook1 di se n0 p q r (vo, ma, lo) 0)).2.1) pa tu su))) 95 (.inl (ca 0, 96, .inl (((mLook1 di se n0 p q r (vo, ma, lo) 0)).1)))) rfl ?_
  have loop_1 : ∀ (m1 t1 : Nat), t1 + m1 = n0 → gJ pT l eT (Rm 5) sT mT aT below meth cT AT QT D ad 108 7 (va_up (va_up f 87 (.inr (11, mF ad la dr go (((mLook1 di se n0 p q r (vo, ma, lo) t1)).2.2) (((mLook1 di se n0 p q r (vo, ma, lo) t1)).2.1) pa tu su))) 95 (.inl (ca 0, 96, .inl (((mLook1 di se n0 p q r (vo, ma, lo) t1)).1)))) [(4, .int (nI (0 + t1))), (0, .ref (ad 87)), (1, .int (nI p)), (2, .int (nI q)), (3, .int (nI r))] 3 [] := by
    intro m1
    induction m1 with
    | zero =>
      intro t1 hk_t1 
      refine gj_iload C dX12_looksAt_3 0 rfl ?_
      refine gj_aload_n C 0 dX12_looksAt_5 rfl 1 rfl ?_
      refine gj_get C 87 (by decide) (up_nx (by decide) (va_up_self _ _ _)) inX12 rfl 6 (by decide) w_855 (v := .ref (ad 93)) rfl dX12_looksAt_6 ?_
      refine gj_iconst C (v := 0) (by decide) dX12_looksAt_9 ?_
      refine gj_iald C 93 (by decide) (up_nx (by decide) (up_nx (by decide) (hc2))) (by unfold vp_in; decide) dX12_looksAt_10 ?_
      refine gj_seti h0 ?_
      refine gj_icmp_ge C 79 dX12_looksAt_11 (by decide) (fun c_3 => ?_) (fun c_3 => absurd (nI_le (by omega) (by omega)) c_3)
      exact RT _ _ _ (by obtain rfl : t1 = n0 := (by omega); rfl) dX12_looksAt_79
    | succ m1 ih_2 =>
      intro t1 hk_t1 
      refine gj_iload C dX12_looksAt_3 0 rfl ?_
      refine gj_aload_n C 0 dX12_looksAt_5 rfl 1 rfl ?_
      refine gj_get C 87 (by decide) (up_nx (by decide) (va_up_self _ _ _)) inX12 rfl 6 (by decide) w_855 (v := .ref (ad 93)) rfl dX12_looksAt_6 ?_
      refine gj_iconst C (v := 0) (by decide) dX12_looksAt_9 ?_
      refine gj_iald C 93 (by decide) (up_nx (by decide) (up_nx (by decide) (hc2))) (by unfold vp_in; decide) dX12_looksAt_10 ?_
      refine gj_seti h0 ?_
      refine gj_icmp_ge C 79 dX12_looksAt_11 (by decide) (fun c_4 => absurd c_4 (nI_ge (by omega) (by omega))) (fun c_4 => ?_)
      refine gj_iload C dX12_looksAt_14 0 rfl ?_
      refine gj_iconst C (v := 1) (by decide) dX12_looksAt_16 ?_
      refine gj_iadd C dX12_looksAt_17 ?_
      refine gj_seti (y := nI (0 + t1 + 1 + 0)) (nI_1 _) ?_
      refine gj_istore C (lv' := [(5, .int (nI (0 + t1 + 1 + 0))), (4, .int (nI (0 + t1))), (0, .ref (ad 87)), (1, .int (nI p)), (2, .int (nI q)), (3, .int (nI r))]) dX12_looksAt_18 (by decide) rfl ?_
      refine gj_setf (g := va_up (va_up f 87 (.inr (11, mF ad la dr go (((mLook2 di se n0 p q r (0 + t1) (mLook1 di se n0 p q r (vo, ma, lo) t1) 0)).2.2) (((mLook2 di se n0 p q r (0 + t1) (mLook1 di se n0 p q r (vo, ma, lo) t1) 0)).2.1) pa tu su))) 95 (.inl (ca 0, 96, .inl (((mLook2 di se n0 p q r (0 + t1) (mLook1 di se n0 p q r (vo, ma, lo) t1) 0)).1)))) rfl ?_
      have loop_5 : ∀ (m2 t2 : Nat), t2 + m2 = (n0 - (0 + t1 + 1)) → gJ pT l eT (Rm 5) sT mT aT below meth cT AT QT D ad 108 7 (va_up (va_up f 87 (.inr (11, mF ad la dr go (((mLook2 di se n0 p q r (0 + t1) (mLook1 di se n0 p q r (vo, ma, lo) t1) t2)).2.2) (((mLook2 di se n0 p q r (0 + t1) (mLook1 di se n0 p q r (vo, ma, lo) t1) t2)).2.1) pa tu su))) 95 (.inl (ca 0, 96, .inl (((mLook2 di se n0 p q r (0 + t1) (mLook1 di se n0 p q r (vo, ma, lo) t1) t2)).1)))) [(5, .int (nI (0 + t1 + 1 + t2))), (4, .int (nI (0 + t1))), (0, .ref (ad 87)), (1, .int (nI p)), (2, .int (nI q)), (3, .int (nI r))] 20 [] := by
        intro m2
        induction m2 with
        | zero =>
          intro t2 hk_t2 
          refine gj_iload C dX12_looksAt_20 0 rfl ?_
          refine gj_aload_n C 0 dX12_looksAt_22 rfl 2 rfl ?_
          refine gj_get C 87 (by decide) (up_nx (by decide) (va_up_self _ _ _)) inX12 rfl 6 (by decide) w_855 (v := .ref (ad 93)) rfl dX12_looksAt_23 ?_
          refine gj_iconst C (v := 0) (by decide) dX12_looksAt_26 ?_
          refine gj_iald C 93 (by decide) (up_nx (by decide) (up_nx (by decide) (hc2))) (by unfold vp_in; decide) dX12_looksAt_27 ?_
          refine gj_seti h0 ?_
          refine gj_icmp_ge C 73 dX12_looksAt_28 (by decide) (fun c_7 => ?_) (fun c_7 => absurd (nI_le (by omega) (by omega)) c_7)
          refine gj_iinc C (v := nI (0 + (t1 + 1))) (lv' := [(4, .int (nI (0 + (t1 + 1)))), (5, .int (nI (0 + t1 + 1 + t2))), (0, .ref (ad 87)), (1, .int (nI p)), (2, .int (nI q)), (3, .int (nI r))]) dX12_looksAt_73 1 rfl (nI_1 _) (by decide) rfl ?_
          refine gj_goto C 3 dX12_looksAt_76 (by decide) ?_
          refine gj_setf (g := va_up (va_up f 87 (.inr (11, mF ad la dr go (((mLook1 di se n0 p q r (vo, ma, lo) (t1 + 1))).2.2) (((mLook1 di se n0 p q r (vo, ma, lo) (t1 + 1))).2.1) pa tu su))) 95 (.inl (ca 0, 96, .inl (((mLook1 di se n0 p q r (vo, ma, lo) (t1 + 1))).1)))) (by obtain rfl : t2 = n0 - (0 + t1 + 1) := (by omega); rfl) ?_
          refine gj_lv [0, 2, 3, 4, 5] rfl ?_
          exact ih_2 (t1 + 1) (by omega)
        | succ m2 ih_6 =>
          intro t2 hk_t2 
          refine gj_iload C dX12_looksAt_20 0 rfl ?_
          refine gj_aload_n C 0 dX12_looksAt_22 rfl 2 rfl ?_
          refine gj_get C 87 (by decide) (up_nx (by decide) (va_up_self _ _ _)) inX12 rfl 6 (by decide) w_855 (v := .ref (ad 93)) rfl dX12_looksAt_23 ?_
          refine gj_iconst C (v := 0) (by decide) dX12_looksAt_26 ?_
          refine gj_iald C 93 (by decide) (up_nx (by decide) (up_nx (by decide) (hc2))) (by unfold vp_in; decide) dX12_looksAt_27 ?_
          refine gj_seti h0 ?_
          refine gj_icmp_ge C 73 dX12_looksAt_28 (by decide) (fun c_8 => absurd c_8 (nI_ge (by omega) (by omega))) (fun c_8 => ?_)
          refine gj_iload C dX12_looksAt_31 0 rfl ?_
          refine gj_iconst C (v := 1) (by decide) dX12_looksAt_33 ?_
          refine gj_iadd C dX12_looksAt_34 ?_
          refine gj_seti (y := nI (0 + t1 + 1 + t2 + 1 + 0)) (nI_1 _) ?_
          refine gj_istore C (lv' := [(6, .int (nI (0 + t1 + 1 + t2 + 1 + 0))), (5, .int (nI (0 + t1 + 1 + t2))), (4, .int (nI (0 + t1))), (0, .ref (ad 87)), (1, .int (nI p)), (2, .int (nI q)), (3, .int (nI r))]) dX12_looksAt_35 (by decide) rfl ?_
          refine gj_setf (g := va_up (va_up f 87 (.inr (11, mF ad la dr go (((mLook3 di se n0 p q r (0 + t1) (0 + t1 + 1 + t2) (mLook2 di se n0 p q r (0 + t1) (mLook1 di se n0 p q r (vo, ma, lo) t1) t2) 0)).2.2) (((mLook3 di se n0 p q r (0 + t1) (0 + t1 + 1 + t2) (mLook2 di se n0 p q r (0 + t1) (mLook1 di se n0 p q r (vo, ma, lo) t1) t2) 0)).2.1) pa tu su))) 95 (.inl (ca 0, 96, .inl (((mLook3 di se n0 p q r (0 + t1) (0 + t1 + 1 + t2) (mLook2 di se n0 p q r (0 + t1) (mLook1 di se n0 p q r (vo, ma, lo) t1) t2) 0)).1)))) rfl ?_
          have loop_9 : ∀ (m3 t3 : Nat), t3 + m3 = (n0 - (0 + t1 + 1 + t2 + 1)) → gJ pT l eT (Rm 5) sT mT aT below meth cT AT QT D ad 108 7 (va_up (va_up f 87 (.inr (11, mF ad la dr go (((mLook3 di se n0 p q r (0 + t1) (0 + t1 + 1 + t2) (mLook2 di se n0 p q r (0 + t1) (mLook1 di se n0 p q r (vo, ma, lo) t1) t2) t3)).2.2) (((mLook3 di se n0 p q r (0 + t1) (0 + t1 + 1 + t2) (mLook2 di se n0 p q r (0 + t1) (mLook1 di se n0 p q r (vo, ma, lo) t1) t2) t3)).2.1) pa tu su))) 95 (.inl (ca 0, 96, .inl (((mLook3 di se n0 p q r (0 + t1) (0 + t1 + 1 + t2) (mLook2 di se n0 p q r (0 + t1) (mLook1 di se n0 p q r (vo, ma, lo) t1) t2) t3)).1)))) [(6, .int (nI (0 + t1 + 1 + t2 + 1 + t3))), (5, .int (nI (0 + t1 + 1 + t2))), (4, .int (nI (0 + t1))), (0, .ref (ad 87)), (1, .int (nI p)), (2, .int (nI q)), (3, .int (nI r))] 37 [] := by
            intro m3
            induction m3 with
            | zero =>
              intro t3 hk_t3 
              refine gj_iload C dX12_looksAt_37 0 rfl ?_
              refine gj_aload_n C 0 dX12_looksAt_39 rfl 3 rfl ?_
              refine gj_get C 87 (by decide) (up_nx (by decide) (va_up_self _ _ _)) inX12 rfl 6 (by decide) w_855 (v := .ref (ad 93)) rfl dX12_looksAt_40 ?_
              refine gj_iconst C (v := 0) (by decide) dX12_looksAt_43 ?_
              refine gj_iald C 93 (by decide) (up_nx (by decide) (up_nx (by decide) (hc2))) (by unfold vp_in; decide) dX12_looksAt_44 ?_
              refine gj_seti h0 ?_
              refine gj_icmp_ge C 67 dX12_looksAt_45 (by decide) (fun c_11 => ?_) (fun c_11 => absurd (nI_le (by omega) (by omega)) c_11)
              refine gj_iinc C (v := nI (0 + t1 + 1 + (t2 + 1))) (lv' := [(5, .int (nI (0 + t1 + 1 + (t2 + 1)))), (6, .int (nI (0 + t1 + 1 + t2 + 1 + t3))), (4, .int (nI (0 + t1))), (0, .ref (ad 87)), (1, .int (nI p)), (2, .int (nI q)), (3, .int (nI r))]) dX12_looksAt_67 1 rfl (nI_1 _) (by decide) rfl ?_
              refine gj_goto C 20 dX12_looksAt_70 (by decide) ?_
              refine gj_setf (g := va_up (va_up f 87 (.inr (11, mF ad la dr go (((mLook2 di se n0 p q r (0 + t1) (mLook1 di se n0 p q r (vo, ma, lo) t1) (t2 + 1))).2.2) (((mLook2 di se n0 p q r (0 + t1) (mLook1 di se n0 p q r (vo, ma, lo) t1) (t2 + 1))).2.1) pa tu su))) 95 (.inl (ca 0, 96, .inl (((mLook2 di se n0 p q r (0 + t1) (mLook1 di se n0 p q r (vo, ma, lo) t1) (t2 + 1))).1)))) (by obtain rfl : t3 = n0 - (0 + t1 + 1 + t2 + 1) := (by omega); rfl) ?_
              refine gj_lv [0, 2, 3, 4, 5, 6] rfl ?_
              exact ih_6 (t2 + 1) (by omega)
            | succ m3 ih_10 =>
              intro t3 hk_t3 
              refine gj_iload C dX12_looksAt_37 0 rfl ?_
              refine gj_aload_n C 0 dX12_looksAt_39 rfl 3 rfl ?_
              refine gj_get C 87 (by decide) (up_nx (by decide) (va_up_self _ _ _)) inX12 rfl 6 (by decide) w_855 (v := .ref (ad 93)) rfl dX12_looksAt_40 ?_
              refine gj_iconst C (v := 0) (by decide) dX12_looksAt_43 ?_
              refine gj_iald C 93 (by decide) (up_nx (by decide) (up_nx (by decide) (hc2))) (by unfold vp_in; decide) dX12_looksAt_44 ?_
              refine gj_seti h0 ?_
              refine gj_icmp_ge C 67 dX12_looksAt_45 (by decide) (fun c_12 => absurd c_12 (nI_ge (by omega) (by omega))) (fun c_12 => ?_)
              refine gj_aload_n C 0 dX12_looksAt_48 rfl 3 rfl ?_
              refine gj_iload_n C 1 dX12_looksAt_49 rfl 4 rfl ?_
              refine gj_iload_n C 2 dX12_looksAt_50 rfl 5 rfl ?_
              refine gj_iload_n C 3 dX12_looksAt_51 rfl 6 rfl ?_
              refine gj_iload C dX12_looksAt_52 2 rfl ?_
              refine gj_iload C dX12_looksAt_54 1 rfl ?_
              refine gj_iload C dX12_looksAt_56 0 rfl ?_
              refine gj_callVv C mi_X12_meets w_1081 87 (by decide) (up_nx (by decide) (va_up_self _ _ _)) rfl (c_X12_meets p q r (0 + t1) (0 + t1 + 1 + t2) (0 + t1 + 1 + t2 + 1 + t3) la dr go (((mLook3 di se n0 p q r (0 + t1) (0 + t1 + 1 + t2) (mLook2 di se n0 p q r (0 + t1) (mLook1 di se n0 p q r (vo, ma, lo) t1) t2) t3)).2.2) (((mLook3 di se n0 p q r (0 + t1) (0 + t1 + 1 + t2) (mLook2 di se n0 p q r (0 + t1) (mLook1 di se n0 p q r (vo, ma, lo) t1) t2) t3)).2.1) pa tu su di se (((mLook3 di se n0 p q r (0 + t1) (0 + t1 + 1 + t2) (mLook2 di se n0 p q r (0 + t1) (mLook1 di se n0 p q r (vo, ma, lo) t1) t2) t3)).1) (up_nx (by decide) (va_up_self _ _ _)) (up_nx (by decide) (up_nx (by decide) (hc1))) (up_nx (by decide) (up_nx (by decide) (hc3))) (va_up_self _ _ _) (by omega) (by omega) (by omega) (by omega) (by omega) (by omega) hz) mc_X12_meets ⟨Nat.le_of_ble_eq_true rfl, Nat.le_of_ble_eq_true rfl⟩ (rest := []) rfl (Nat.le_of_ble_eq_true rfl) dX12_looksAt_58 (fun u h => ?_)
              subst h
              refine gj_setf ((up_un ((up_comm (by decide)).trans (up_un (bx_uu _ _ _ _)))).trans (bx_uu _ _ _ _)) ?_
              refine gj_iinc C (v := nI (0 + t1 + 1 + t2 + 1 + (t3 + 1))) (lv' := [(6, .int (nI (0 + t1 + 1 + t2 + 1 + (t3 + 1)))), (5, .int (nI (0 + t1 + 1 + t2))), (4, .int (nI (0 + t1))), (0, .ref (ad 87)), (1, .int (nI p)), (2, .int (nI q)), (3, .int (nI r))]) dX12_looksAt_61 0 rfl (nI_1 _) (by decide) rfl ?_
              refine gj_goto C 37 dX12_looksAt_64 (by decide) ?_
              refine gj_setf (g := va_up (va_up f 87 (.inr (11, mF ad la dr go (((mLook3 di se n0 p q r (0 + t1) (0 + t1 + 1 + t2) (mLook2 di se n0 p q r (0 + t1) (mLook1 di se n0 p q r (vo, ma, lo) t1) t2) (t3 + 1))).2.2) (((mLook3 di se n0 p q r (0 + t1) (0 + t1 + 1 + t2) (mLook2 di se n0 p q r (0 + t1) (mLook1 di se n0 p q r (vo, ma, lo) t1) t2) (t3 + 1))).2.1) pa tu su))) 95 (.inl (ca 0, 96, .inl (((mLook3 di se n0 p q r (0 + t1) (0 + t1 + 1 + t2) (mLook2 di se n0 p q r (0 + t1) (mLook1 di se n0 p q r (vo, ma, lo) t1) t2) (t3 + 1))).1)))) rfl ?_
              refine gj_lv [0, 1, 2, 3, 4, 5, 6] rfl ?_
              exact ih_10 (t3 + 1) (by omega)
          refine gj_lv [0, 1, 2, 3, 4, 5, 6] rfl ?_
          exact loop_9 ((n0 - (0 + t1 + 1 + t2 + 1)) - 0) 0 (by omega)
      refine gj_lv [0, 1, 2, 3, 4, 5] rfl ?_
      exact loop_5 ((n0 - (0 + t1 + 1)) - 0) 0 (by omega)
  refine gj_lv [0, 1, 2, 3, 4] rfl ?_
  exact loop_1 (n0 - 0) 0 (by omega)
