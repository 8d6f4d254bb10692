/-! THE FIX OF THE CLASS, on -/
/-- the pairs that are taken, at any turn: how many, their spots by rank; or no pair is left -/
def tpOk (vo : Nat → Int32) (le : Int32) (n0 n1 : Nat) (T : cTS) (r : Nat) : Prop := ∃ k, k ≤ r ∧ T.2.2.2.2 = nI k ∧ (∀ j, j < k → vp_in (T.2.2.1 j) 8) ∧ (k < r → cTb vo le n0 n1 T = -1)
theorem tpOk_n {vo : Nat → Int32} {le : Int32} {n0 n1 : Nat} {tp : Nat → Int32} (hn0 : n0 ≤ 12) (hn1 : n1 ≤ 8) : ∀ r, tpOk vo le n0 n1 (cTn vo le n0 n1 (kI (-1), kI (-1), tp, 0, 0) r) r
  | 0 => ⟨0, Nat.le_refl 0, rfl, fun j hj => absurd hj (Nat.not_lt_zero j), fun h => absurd h (Nat.lt_irrefl 0)⟩
  | r + 1 => by
    obtain ⟨k, h1, h2, h3, h4⟩ := tpOk_n hn0 hn1 r (vo := vo) (le := le) (tp := tp)
    generalize eT : cTn vo le n0 n1 (kI (-1), kI (-1), tp, 0, 0) r = T at h2 h3 h4
    have es : cTn vo le n0 n1 (kI (-1), kI (-1), tp, 0, 0) (r + 1) = cTk vo le n0 n1 r T := by
      show cTk vo le n0 n1 r (cTn vo le n0 n1 (kI (-1), kI (-1), tp, 0, 0) r) = _
      rw [eT]
    rw [es]
    by_cases h : cTb vo le n0 n1 T = -1
    · have e : cTk vo le n0 n1 r T = T := if_pos h
      rw [e]
      exact ⟨k, by omega, h2, h3, fun _ => h⟩
    · have hk : k = r := Decidable.byContradiction fun q => h (h4 (by omega))
      subst hk
      obtain ⟨b, hb, eb⟩ := cB2_n hn0 hn1 h
      have e : cTk vo le n0 n1 k T = _ := if_neg h
      rw [e]
      refine ⟨k + 1, Nat.le_refl _, ?_, ?_, fun q => absurd q (Nat.lt_irrefl _)⟩
      · show T.2.2.2.2 + 1 = nI (k + 1)
        rw [h2]; exact nI_1 k
      · intro j hj
        show vp_in (upd T.2.2.1 k (cTb vo le n0 n1 T / 12) j) 8
        by_cases q : j = k
        · subst q
          rw [pk_us]
          exact c_dv eb hb
        · rw [pk_un q]
          exact h3 j (by omega)
theorem cTake_tp {vo : Nat → Int32} {le : Int32} {n0 n1 : Nat} {tp : Nat → Int32} (hn0 : n0 ≤ 12) (hn1 : n1 ≤ 8) (h : 2 ≤ (cTake vo le n0 n1 tp).2.2.2.2) : vp_in ((cTake vo le n0 n1 tp).2.2.1 0) 8 ∧ vp_in ((cTake vo le n0 n1 tp).2.2.1 1) 8 := by
  obtain ⟨k, h1, h2, h3, -⟩ := tpOk_n hn0 hn1 n1 (vo := vo) (le := le) (tp := tp)
  have h2 : (cTake vo le n0 n1 tp).2.2.2.2 = nI k := h2
  rw [h2, i32_le, nI_toInt (by omega)] at h
  have e : (2 : Int32).toInt = 2 := rfl
  exact ⟨h3 0 (by omega), h3 1 (by omega)⟩

set_option maxHeartbeats 400000 in
set_option maxRecDepth 100000 in
theorem c_farOf_58 {l : Launch} {D : va_G} {ca ss ad : Nat → Nat} {f : Nat → va_E} (iN : Nat) (x y z : Int32) (us tc cc tu : Int32) (pl : Nat → Int32) (hc58 : f 58 = .inr (2, [.ref (ad 59), .ref (ad 60), .ref (ad 61), .ref (ad 62), .ref (ad 63), .ref (ad 64), .ref (ad 65), .ref (ad 67), .int us, .int tc, .int cc, .int tu])) (hc64 : f 64 = .inl (ca 0, 36, .inl pl)) (hi : iN < 12) : gMl l D ca ss ad 108 yX2_farOf cX2_farOf 5 (some .long) 1 f [.ref (ad 58), .int (nI iN), .int x, .int y, .int z] (fun r u => r = cFar pl iN x y z ∧ u = f) := by
  refine gMl_ofK (by decide +kernel) (Nat.le_of_ble_eq_true rfl) (lv0 := [(0, .ref (ad 58)), (1, .int (nI iN)), (2, .int x), (3, .int y), (4, .int z)]) rfl (fun pT eT sT mT aT below meth cT AT QT C RT => ?_)
  have C : gX pT sT mT aT meth cT AT D ca ss 5 RX2 cX2_farOf (some .long) := C
  refine gj_aload_n C 0 dX2_farOf_0 rfl 0 rfl ?_
  refine gj_get C 58 (by decide) hc58 inX2 rfl 5 (by decide) w_215 (v := .ref (ad 64)) rfl dX2_farOf_1 ?_
  refine gj_iconst C (v := 3) (by decide) dX2_farOf_4 ?_
  refine gj_iload_n C 1 dX2_farOf_5 rfl 1 rfl ?_
  refine gj_imul C dX2_farOf_6 ?_
  refine gj_seti (y := nI (3 * iN)) (i3_0 iN) ?_
  refine gj_iald C 64 (by decide) hc64 (vp_in_nI (by omega) (by omega)) dX2_farOf_7 ?_
  refine gj_seti (y := pl (3 * iN)) (congrArg _ (nI_clamp (show (3 * iN) < 2 ^ 31 by omega))) ?_
  refine gj_i2l C dX2_farOf_8 ?_
  refine gj_iload_n C 2 dX2_farOf_9 rfl 2 rfl ?_
  refine gj_i2l C dX2_farOf_10 ?_
  refine gj_lsub C dX2_farOf_11 ?_
  refine gj_mabsl C w_639 w_640 w_57 w_641 ⟨Nat.le_of_ble_eq_true rfl, Nat.le_of_ble_eq_true rfl⟩ (Nat.le_of_ble_eq_true rfl) dX2_farOf_12 ?_
  refine gj_aload_n C 0 dX2_farOf_15 rfl 0 rfl ?_
  refine gj_get C 58 (by decide) hc58 inX2 rfl 5 (by decide) w_215 (v := .ref (ad 64)) rfl dX2_farOf_16 ?_
  refine gj_iconst C (v := 3) (by decide) dX2_farOf_19 ?_
  refine gj_iload_n C 1 dX2_farOf_20 rfl 1 rfl ?_
  refine gj_imul C dX2_farOf_21 ?_
  refine gj_iconst C (v := 1) (by decide) dX2_farOf_22 ?_
  refine gj_iadd C dX2_farOf_23 ?_
  refine gj_seti (y := nI (3 * iN + 1)) (i3_c iN 1) ?_
  refine gj_iald C 64 (by decide) hc64 (vp_in_nI (by omega) (by omega)) dX2_farOf_24 ?_
  refine gj_seti (y := pl (3 * iN + 1)) (congrArg _ (nI_clamp (show (3 * iN + 1) < 2 ^ 31 by omega))) ?_
  refine gj_i2l C dX2_farOf_25 ?_
  refine gj_iload_n C 3 dX2_farOf_26 rfl 3 rfl ?_
  refine gj_i2l C dX2_farOf_27 ?_
  refine gj_lsub C dX2_farOf_28 ?_
  refine gj_mabsl C w_639 w_640 w_57 w_641 ⟨Nat.le_of_ble_eq_true rfl, Nat.le_of_ble_eq_true rfl⟩ (Nat.le_of_ble_eq_true rfl) dX2_farOf_29 ?_
  refine gj_ladd C dX2_farOf_32 ?_
  refine gj_aload_n C 0 dX2_farOf_33 rfl 0 rfl ?_
  refine gj_get C 58 (by decide) hc58 inX2 rfl 5 (by decide) w_215 (v := .ref (ad 64)) rfl dX2_farOf_34 ?_
  refine gj_iconst C (v := 3) (by decide) dX2_farOf_37 ?_
  refine gj_iload_n C 1 dX2_farOf_38 rfl 1 rfl ?_
  refine gj_imul C dX2_farOf_39 ?_
  refine gj_iconst C (v := 2) (by decide) dX2_farOf_40 ?_
  refine gj_iadd C dX2_farOf_41 ?_
  refine gj_seti (y := nI (3 * iN + 2)) (i3_c iN 2) ?_
  refine gj_iald C 64 (by decide) hc64 (vp_in_nI (by omega) (by omega)) dX2_farOf_42 ?_
  refine gj_seti (y := pl (3 * iN + 2)) (congrArg _ (nI_clamp (show (3 * iN + 2) < 2 ^ 31 by omega))) ?_
  refine gj_i2l C dX2_farOf_43 ?_
  refine gj_iload C dX2_farOf_44 4 rfl ?_
  refine gj_i2l C dX2_farOf_46 ?_
  refine gj_lsub C dX2_farOf_47 ?_
  refine gj_mabsl C w_639 w_640 w_57 w_641 ⟨Nat.le_of_ble_eq_true rfl, Nat.le_of_ble_eq_true rfl⟩ (Nat.le_of_ble_eq_true rfl) dX2_farOf_48 ?_
  refine gj_ladd C dX2_farOf_51 ?_
  exact RT _ _ _ _ ⟨rfl, rfl⟩ dX2_farOf_52
set_option maxHeartbeats 400000 in
set_option maxRecDepth 100000 in
theorem c_nearest_58 {l : Launch} {D : va_G} {ca ss ad : Nat → Nat} {f : Nat → va_E} (n0 : Nat) (ne x y z : Int32) (us tc cc tu : Int32) (pl : Nat → Int32) (hc58 : f 58 = .inr (2, [.ref (ad 59), .ref (ad 60), .ref (ad 61), .ref (ad 62), .ref (ad 63), .ref (ad 64), .ref (ad 65), .ref (ad 67), .int us, .int tc, .int cc, .int tu])) (hc64 : f 64 = .inl (ca 0, 36, .inl pl)) (hn0 : n0 ≤ 12) : gMi l D ca ss ad 108 yX2_nearestStar cX2_nearestStar 12 (some .int) 2 f [.ref (ad 58), .int (nI n0), .int ne, .int x, .int y, .int z] (fun r u => r = (cC1 pl us ne x y z n0).1 ∧ u = f) := by
  refine gMi_ofK (by decide +kernel) (Nat.le_of_ble_eq_true rfl) (lv0 := [(0, .ref (ad 58)), (1, .int (nI n0)), (2, .int ne), (3, .int x), (4, .int y), (5, .int z)]) rfl (fun pT eT sT mT aT below meth cT AT QT C RT => ?_)
  have C : gX pT sT mT aT meth cT AT D ca ss 12 RX2 cX2_nearestStar (some .int) := C
  refine gj_iconst C (v := (-1)) (by decide) dX2_nearestStar_0 ?_
  refine gj_istore C (lv' := [(6, .int (-1)), (0, .ref (ad 58)), (1, .int (nI n0)), (2, .int ne), (3, .int x), (4, .int y), (5, .int z)]) dX2_nearestStar_1 (by decide) rfl ?_
  refine gj_iload_n C 2 dX2_nearestStar_3 rfl 3 rfl ?_
  refine gj_i2l C dX2_nearestStar_4 ?_
  refine gj_lconst C (v := 1) rfl dX2_nearestStar_5 ?_
  refine gj_ladd C dX2_nearestStar_6 ?_
  refine gj_lstore C (lv' := [(7, .long (ne.toInt64 + 1)), (6, .int (-1)), (0, .ref (ad 58)), (1, .int (nI n0)), (2, .int ne), (3, .int x), (4, .int y), (5, .int z)]) dX2_nearestStar_7 (by decide) rfl ?_
  refine gj_iconst C (v := 0) (by decide) dX2_nearestStar_9 ?_
  refine gj_seti (y := nI 0) rfl ?_
  refine gj_istore C (lv' := [(9, .int (nI 0)), (7, .long (ne.toInt64 + 1)), (6, .int (-1)), (0, .ref (ad 58)), (1, .int (nI n0)), (2, .int ne), (3, .int x), (4, .int y), (5, .int z)]) dX2_nearestStar_10 (by decide) rfl ?_
  refine gj_lvs (lv' := [(9, .int (nI 0)), (7, .long ((cC1 pl us ne x y z 0).2)), (6, .int ((cC1 pl us ne x y z 0).1)), (0, .ref (ad 58)), (1, .int (nI n0)), (2, .int ne), (3, .int x), (4, .int y), (5, .int z)]) rfl ?_
  have loop_1 : ∀ (m0 t0 : Nat), t0 + m0 = n0 → gJ pT l eT (Rm 2) sT mT aT below meth cT AT QT D ad 108 12 (f) [(9, .int (nI t0)), (7, .long ((cC1 pl us ne x y z t0).2)), (6, .int ((cC1 pl us ne x y z t0).1)), (0, .ref (ad 58)), (1, .int (nI n0)), (2, .int ne), (3, .int x), (4, .int y), (5, .int z)] 12 [] := by
    intro m0
    induction m0 with
    | zero =>
      intro t0 hk_t0  
      refine gj_iload C dX2_nearestStar_12 0 rfl ?_
      refine gj_iload_n C 1 dX2_nearestStar_14 rfl 4 rfl ?_
      refine gj_icmp_ge C 65 dX2_nearestStar_15 (by decide) (fun c_3 => ?_) (fun c_3 => absurd (nI_le (by omega) (by omega)) c_3)
      refine gj_iload C dX2_nearestStar_65 2 rfl ?_
      exact RT _ _ _ _ ⟨by obtain rfl : t0 = n0 := (by omega); rfl, rfl⟩ dX2_nearestStar_67
    | succ m0 ih_2 =>
      intro t0 hk_t0  
      refine gj_iload C dX2_nearestStar_12 0 rfl ?_
      refine gj_iload_n C 1 dX2_nearestStar_14 rfl 4 rfl ?_
      refine gj_icmp_ge C 65 dX2_nearestStar_15 (by decide) (fun c_4 => absurd c_4 (nI_ge (by omega) (by omega))) (fun c_4 => ?_)
      refine gj_aload_n C 0 dX2_nearestStar_18 rfl 3 rfl ?_
      refine gj_iload C dX2_nearestStar_19 0 rfl ?_
      refine gj_iload_n C 3 dX2_nearestStar_21 rfl 6 rfl ?_
      refine gj_iload C dX2_nearestStar_22 7 rfl ?_
      refine gj_iload C dX2_nearestStar_24 8 rfl ?_
      refine gj_callVl C mi_X2_farOf w_635 58 (by decide) hc58 rfl (c_farOf_58 t0 x y z us tc cc tu pl hc58 hc64 (by omega)) mc_X2_farOf ⟨Nat.le_of_ble_eq_true rfl, Nat.le_of_ble_eq_true rfl⟩ (rest := []) rfl (Nat.le_of_ble_eq_true rfl) dX2_nearestStar_26 (fun r u h => ?_)
      obtain ⟨hr_, h⟩ := h; rw [hr_]
      rw [h]
      refine gj_lstore C (lv' := [(10, .long (cFar pl t0 x y z)), (9, .int (nI t0)), (7, .long ((cC1 pl us ne x y z t0).2)), (6, .int ((cC1 pl us ne x y z t0).1)), (0, .ref (ad 58)), (1, .int (nI n0)), (2, .int ne), (3, .int x), (4, .int y), (5, .int z)]) dX2_nearestStar_29 (by decide) rfl ?_
      refine gj_aload_n C 0 dX2_nearestStar_31 rfl 4 rfl ?_
      refine gj_get C 58 (by decide) hc58 inX2 rfl 8 (by decide) w_219 (v := .int us) rfl dX2_nearestStar_32 ?_
      refine gj_iload C dX2_nearestStar_35 1 rfl ?_
      refine gj_ishr C dX2_nearestStar_37 ?_
      refine gj_iconst C (v := 1) (by decide) dX2_nearestStar_38 ?_
      refine gj_iand C dX2_nearestStar_39 ?_
      refine gj_if_ne C 59 dX2_nearestStar_40 (by decide) (fun c_5 => ?_) (fun c_5 => ?_)
      · refine gj_iinc C (v := nI (t0 + 1)) (lv' := [(9, .int (nI (t0 + 1))), (10, .long (cFar pl t0 x y z)), (7, .long ((cC1 pl us ne x y z t0).2)), (6, .int ((cC1 pl us ne x y z t0).1)), (0, .ref (ad 58)), (1, .int (nI n0)), (2, .int ne), (3, .int x), (4, .int y), (5, .int z)]) dX2_nearestStar_59 1 rfl (nI_1 _) (by decide) rfl ?_
        refine gj_goto C 12 dX2_nearestStar_62 (by decide) ?_
        refine gj_lvs (lv' := [(9, .int (nI (t0 + 1))), (10, .long (cFar pl t0 x y z)), (7, .long ((cC1 pl us ne x y z (t0 + 1)).2)), (6, .int ((cC1 pl us ne x y z (t0 + 1)).1)), (0, .ref (ad 58)), (1, .int (nI n0)), (2, .int ne), (3, .int x), (4, .int y), (5, .int z)]) (by rw [show (cC1 pl us ne x y z (t0 + 1)) = _ from (if_neg c_5).trans (rfl)]) ?_
        refine gj_lv [0, 2, 3, 4, 5, 6, 7, 8, 9] rfl ?_
        exact ih_2 (t0 + 1) (by omega)
      · refine gj_lload C dX2_nearestStar_43 0 rfl ?_
        refine gj_lload C dX2_nearestStar_45 2 rfl ?_
        refine gj_lcmp C dX2_nearestStar_47 ?_
        refine gj_if_ge C 59 dX2_nearestStar_48 (by decide) (fun c_6 => ?_) (fun c_6 => ?_)
        · refine gj_iinc C (v := nI (t0 + 1)) (lv' := [(9, .int (nI (t0 + 1))), (10, .long (cFar pl t0 x y z)), (7, .long ((cC1 pl us ne x y z t0).2)), (6, .int ((cC1 pl us ne x y z t0).1)), (0, .ref (ad 58)), (1, .int (nI n0)), (2, .int ne), (3, .int x), (4, .int y), (5, .int z)]) dX2_nearestStar_59 1 rfl (nI_1 _) (by decide) rfl ?_
          refine gj_goto C 12 dX2_nearestStar_62 (by decide) ?_
          refine gj_lvs (lv' := [(9, .int (nI (t0 + 1))), (10, .long (cFar pl t0 x y z)), (7, .long ((cC1 pl us ne x y z (t0 + 1)).2)), (6, .int ((cC1 pl us ne x y z (t0 + 1)).1)), (0, .ref (ad 58)), (1, .int (nI n0)), (2, .int ne), (3, .int x), (4, .int y), (5, .int z)]) (by rw [show (cC1 pl us ne x y z (t0 + 1)) = _ from (if_pos c_5).trans ((if_pos c_6).trans (rfl))]) ?_
          refine gj_lv [0, 2, 3, 4, 5, 6, 7, 8, 9] rfl ?_
          exact ih_2 (t0 + 1) (by omega)
        · refine gj_iload C dX2_nearestStar_51 1 rfl ?_
          refine gj_istore C (lv' := [(6, .int (nI t0)), (10, .long (cFar pl t0 x y z)), (9, .int (nI t0)), (7, .long ((cC1 pl us ne x y z t0).2)), (0, .ref (ad 58)), (1, .int (nI n0)), (2, .int ne), (3, .int x), (4, .int y), (5, .int z)]) dX2_nearestStar_53 (by decide) rfl ?_
          refine gj_lload C dX2_nearestStar_55 1 rfl ?_
          refine gj_lstore C (lv' := [(7, .long (cFar pl t0 x y z)), (6, .int (nI t0)), (10, .long (cFar pl t0 x y z)), (9, .int (nI t0)), (0, .ref (ad 58)), (1, .int (nI n0)), (2, .int ne), (3, .int x), (4, .int y), (5, .int z)]) dX2_nearestStar_57 (by decide) rfl ?_
          refine gj_iinc C (v := nI (t0 + 1)) (lv' := [(9, .int (nI (t0 + 1))), (7, .long (cFar pl t0 x y z)), (6, .int (nI t0)), (10, .long (cFar pl t0 x y z)), (0, .ref (ad 58)), (1, .int (nI n0)), (2, .int ne), (3, .int x), (4, .int y), (5, .int z)]) dX2_nearestStar_59 3 rfl (nI_1 _) (by decide) rfl ?_
          refine gj_goto C 12 dX2_nearestStar_62 (by decide) ?_
          refine gj_lvs (lv' := [(9, .int (nI (t0 + 1))), (7, .long ((cC1 pl us ne x y z (t0 + 1)).2)), (6, .int ((cC1 pl us ne x y z (t0 + 1)).1)), (10, .long (cFar pl t0 x y z)), (0, .ref (ad 58)), (1, .int (nI n0)), (2, .int ne), (3, .int x), (4, .int y), (5, .int z)]) (by rw [show (cC1 pl us ne x y z (t0 + 1)) = _ from (if_pos c_5).trans ((if_neg c_6).trans (rfl))]) ?_
          refine gj_lv [0, 1, 2, 4, 5, 6, 7, 8, 9] rfl ?_
          exact ih_2 (t0 + 1) (by omega)
  refine gj_lv [0, 1, 2, 3, 4, 5, 6, 7, 8] rfl ?_
  exact loop_1 (n0 - 0) 0 (by omega)
set_option maxHeartbeats 400000 in
set_option maxRecDepth 100000 in
theorem c_findTurn_58 {l : Launch} {D : va_G} {ca ss ad : Nat → Nat} {f : Nat → va_E} (n0 n1 : Nat) (us tc cc tu : Int32) (ts : Nat → Int32) (tp : Nat → Int32) (pl : Nat → Int32) (sta : Nat → Int64) (spa : Nat → Int64) (gS gP : Nat → Int32) (hc58 : f 58 = .inr (2, [.ref (ad 59), .ref (ad 60), .ref (ad 61), .ref (ad 62), .ref (ad 63), .ref (ad 64), .ref (ad 65), .ref (ad 67), .int us, .int tc, .int cc, .int tu])) (hc59 : f 59 = .inl (ca 0, 8, .inl ts)) (hc61 : f 61 = .inl (ca 0, 8, .inl tp)) (hc64 : f 64 = .inl (ca 0, 36, .inl pl)) (hc66 : f 66 = .inl (ca 1, 12, .inr (.inl sta))) (hc68 : f 68 = .inl (ca 1, 12, .inr (.inl spa))) (hc65 : f 65 = .inr (0, [.ref (ad 66)])) (hc67 : f 67 = .inr (0, [.ref (ad 68)])) (hc2 : f 2 = .inr (1, [.ref (ad 3), .int 12, .int (nI n0)])) (hc3 : f 3 = .inl (ca 0, 36, .inl gS)) (hc4 : f 4 = .inr (1, [.ref (ad 5), .int 8, .int (nI n1)])) (hc5 : f 5 = .inl (ca 0, 24, .inl gP)) (hn0 : n0 ≤ 12) (hn1 : n1 ≤ 8) (htp : 2 ≤ tc → vp_in (tp 0) 8 ∧ vp_in (tp 1) 8) : gMv l D ca ss ad 108 yX2_findTurn cX2_findTurn 6 none 3 f [.ref (ad 58), .ref (ad 2), .ref (ad 4)] (fun u => u = va_up (va_up (va_up (va_up (f) 58 (.inr (2, [.ref (ad 59), .ref (ad 60), .ref (ad 61), .ref (ad 62), .ref (ad 63), .ref (ad 64), .ref (ad 65), .ref (ad 67), .int us, .int tc, .int cc, .int ((cTurn gS gP n0 n1 ts tp tc sta spa pl).1)]))) 66 (.inl (ca 1, 12, .inr (.inl ((cTurn gS gP n0 n1 ts tp tc sta spa pl).2.1))))) 68 (.inl (ca 1, 12, .inr (.inl ((cTurn gS gP n0 n1 ts tp tc sta spa pl).2.2.1))))) 64 (.inl (ca 0, 36, .inl ((cTurn gS gP n0 n1 ts tp tc sta spa pl).2.2.2)))) := by
  refine gMv_ofK (by decide +kernel) (Nat.le_of_ble_eq_true rfl) (lv0 := [(0, .ref (ad 58)), (1, .ref (ad 2)), (2, .ref (ad 4))]) rfl (fun pT eT sT mT aT below meth cT AT QT C RT => ?_)
  have C : gX pT sT mT aT meth cT AT D ca ss 6 RX2 cX2_findTurn none := C
  refine gj_setf (up_id hc58).symm ?_
  refine gj_setf (up_id (up_nx (by decide) (hc66))).symm ?_
  refine gj_setf (up_id (up_nx (by decide) (up_nx (by decide) (hc68)))).symm ?_
  refine gj_setf (up_id (up_nx (by decide) (up_nx (by decide) (up_nx (by decide) (hc64))))).symm ?_
  refine gj_aload_n C 0 dX2_findTurn_0 rfl 0 rfl ?_
  refine gj_iconst C (v := 0) (by decide) dX2_findTurn_1 ?_
  refine gj_putS C 58 (by decide) (up_nx (by decide) (up_nx (by decide) (up_nx (by decide) (va_up_self _ _ _)))) inX2 rfl 11 (by decide) tyX2 tyX2_ok nmX2 w_225 rfl (v := .int 0) (fs' := [.ref (ad 59), .ref (ad 60), .ref (ad 61), .ref (ad 62), .ref (ad 63), .ref (ad 64), .ref (ad 65), .ref (ad 67), .int us, .int tc, .int cc, .int 0]) rfl rfl (Nat.le_of_ble_eq_true rfl) rfl dX2_findTurn_2 ?_
  refine gj_setf ((up_comm (by decide)).trans (up_un ((up_comm (by decide)).trans (up_un ((up_comm (by decide)).trans (up_un (bx_uu _ _ _ _))))))) ?_
  refine gj_aload_n C 0 dX2_findTurn_5 rfl 0 rfl ?_
  refine gj_get C 58 (by decide) (up_nx (by decide) (up_nx (by decide) (up_nx (by decide) (va_up_self _ _ _)))) inX2 rfl 9 (by decide) w_220 (v := .int tc) rfl dX2_findTurn_6 ?_
  refine gj_iconst C (v := 2) (by decide) dX2_findTurn_9 ?_
  refine gj_icmp_ge C 14 dX2_findTurn_10 (by decide) (fun c_1 => ?_) (fun c_1 => ?_)
  · refine gj_aload_n C 0 dX2_findTurn_14 rfl 0 rfl ?_
    refine gj_get C 58 (by decide) (up_nx (by decide) (up_nx (by decide) (up_nx (by decide) (va_up_self _ _ _)))) inX2 rfl 2 (by decide) w_210 (v := .ref (ad 61)) rfl dX2_findTurn_15 ?_
    refine gj_iconst C (v := 0) (by decide) dX2_findTurn_18 ?_
    refine gj_iald C 61 (by decide) (up_nx (by decide) (up_nx (by decide) (up_nx (by decide) (up_nx (by decide) (hc61))))) (by unfold vp_in; decide) dX2_findTurn_19 ?_
    refine gj_seti (y := tp 0) rfl ?_
    refine gj_istore_n C (lv' := [(3, .int (tp 0)), (0, .ref (ad 58)), (1, .ref (ad 2)), (2, .ref (ad 4))]) 3 dX2_findTurn_20 rfl (by decide) rfl ?_
    refine gj_aload_n C 0 dX2_findTurn_21 rfl 1 rfl ?_
    refine gj_get C 58 (by decide) (up_nx (by decide) (up_nx (by decide) (up_nx (by decide) (va_up_self _ _ _)))) inX2 rfl 2 (by decide) w_210 (v := .ref (ad 61)) rfl dX2_findTurn_22 ?_
    refine gj_iconst C (v := 1) (by decide) dX2_findTurn_25 ?_
    refine gj_iald C 61 (by decide) (up_nx (by decide) (up_nx (by decide) (up_nx (by decide) (up_nx (by decide) (hc61))))) (by unfold vp_in; decide) dX2_findTurn_26 ?_
    refine gj_seti (y := tp 1) rfl ?_
    refine gj_istore C (lv' := [(4, .int (tp 1)), (3, .int (tp 0)), (0, .ref (ad 58)), (1, .ref (ad 2)), (2, .ref (ad 4))]) dX2_findTurn_27 (by decide) rfl ?_
    refine gj_aload_n C 0 dX2_findTurn_29 rfl 2 rfl ?_
    refine gj_get C 58 (by decide) (up_nx (by decide) (up_nx (by decide) (up_nx (by decide) (va_up_self _ _ _)))) inX2 rfl 7 (by decide) w_218 (v := .ref (ad 67)) rfl dX2_findTurn_30 ?_
    refine gj_aload_n C 2 dX2_findTurn_33 rfl 4 rfl ?_
    refine gj_iload_n C 3 dX2_findTurn_34 rfl 1 rfl ?_
    refine gj_iload C dX2_findTurn_35 0 rfl ?_
    refine gj_callVv C mi_X0_build w_593 67 (by decide) (up_nx (by decide) (up_nx (by decide) (up_nx (by decide) (up_nx (by decide) (hc67))))) rfl (c_X0_build 67 68 4 5 (tp 0) (tp 1) spa (8 : Int32) (nI n1) 24 gP (up_nx (by decide) (up_nx (by decide) (up_nx (by decide) (up_nx (by decide) (hc67))))) (up_nx (by decide) (va_up_self _ _ _)) (up_nx (by decide) (up_nx (by decide) (up_nx (by decide) (up_nx (by decide) (hc4))))) (up_nx (by decide) (up_nx (by decide) (up_nx (by decide) (up_nx (by decide) (hc5))))) (by decide) (by decide) (by decide) (by decide) (by decide) (by decide) (by decide) (by decide) (by decide) (by decide) (szk (by omega) (by omega))) mc_X0_build ⟨Nat.le_of_ble_eq_true rfl, Nat.le_of_ble_eq_true rfl⟩ (rest := []) rfl (Nat.le_of_ble_eq_true rfl) dX2_findTurn_37 (fun u h => ?_)
    subst h
    refine gj_setf ((up_comm (by decide)).trans (up_un (bx_uu _ _ _ _))) ?_
    refine gj_setf (g := va_up (va_up (va_up (va_up f 58 (.inr (2, [.ref (ad 59), .ref (ad 60), .ref (ad 61), .ref (ad 62), .ref (ad 63), .ref (ad 64), .ref (ad 65), .ref (ad 67), .int us, .int tc, .int cc, .int 0]))) 66 (.inl (ca 1, 12, .inr (.inl sta)))) 68 (.inl (ca 1, 12, .inr (.inl (cSPA gP n1 tp spa))))) 64 (.inl (ca 0, 36, .inl pl))) rfl ?_
    refine gj_aload_n C 0 dX2_findTurn_40 rfl 2 rfl ?_
    refine gj_get C 58 (by decide) (up_nx (by decide) (up_nx (by decide) (up_nx (by decide) (va_up_self _ _ _)))) inX2 rfl 6 (by decide) w_217 (v := .ref (ad 65)) rfl dX2_findTurn_41 ?_
    refine gj_aload_n C 1 dX2_findTurn_44 rfl 3 rfl ?_
    refine gj_aload_n C 0 dX2_findTurn_45 rfl 2 rfl ?_
    refine gj_get C 58 (by decide) (up_nx (by decide) (up_nx (by decide) (up_nx (by decide) (va_up_self _ _ _)))) inX2 rfl 0 (by decide) w_206 (v := .ref (ad 59)) rfl dX2_findTurn_46 ?_
    refine gj_iload_n C 3 dX2_findTurn_49 rfl 1 rfl ?_
    refine gj_iald C 59 (by decide) (up_nx (by decide) (up_nx (by decide) (up_nx (by decide) (up_nx (by decide) (hc59))))) (htp c_1).1 dX2_findTurn_50 ?_
    refine gj_aload_n C 0 dX2_findTurn_51 rfl 2 rfl ?_
    refine gj_get C 58 (by decide) (up_nx (by decide) (up_nx (by decide) (up_nx (by decide) (va_up_self _ _ _)))) inX2 rfl 0 (by decide) w_206 (v := .ref (ad 59)) rfl dX2_findTurn_52 ?_
    refine gj_iload C dX2_findTurn_55 0 rfl ?_
    refine gj_iald C 59 (by decide) (up_nx (by decide) (up_nx (by decide) (up_nx (by decide) (up_nx (by decide) (hc59))))) (htp c_1).2 dX2_findTurn_57 ?_
    refine gj_callVv C mi_X0_build w_593 65 (by decide) (up_nx (by decide) (up_nx (by decide) (up_nx (by decide) (up_nx (by decide) (hc65))))) rfl (c_X0_build 65 66 2 3 (ts (tp 0).toNatClampNeg) (ts (tp 1).toNatClampNeg) sta (12 : Int32) (nI n0) 36 gS (up_nx (by decide) (up_nx (by decide) (up_nx (by decide) (up_nx (by decide) (hc65))))) (up_nx (by decide) (up_nx (by decide) (va_up_self _ _ _))) (up_nx (by decide) (up_nx (by decide) (up_nx (by decide) (up_nx (by decide) (hc2))))) (up_nx (by decide) (up_nx (by decide) (up_nx (by decide) (up_nx (by decide) (hc3))))) (by decide) (by decide) (by decide) (by decide) (by decide) (by decide) (by decide) (by decide) (by decide) (by decide) (szk (by omega) (by omega))) mc_X0_build ⟨Nat.le_of_ble_eq_true rfl, Nat.le_of_ble_eq_true rfl⟩ (rest := []) rfl (Nat.le_of_ble_eq_true rfl) dX2_findTurn_58 (fun u h => ?_)
    subst h
    refine gj_setf ((up_comm (by decide)).trans (up_un ((up_comm (by decide)).trans (up_un (bx_uu _ _ _ _))))) ?_
    refine gj_setf (g := va_up (va_up (va_up (va_up f 58 (.inr (2, [.ref (ad 59), .ref (ad 60), .ref (ad 61), .ref (ad 62), .ref (ad 63), .ref (ad 64), .ref (ad 65), .ref (ad 67), .int us, .int tc, .int cc, .int 0]))) 66 (.inl (ca 1, 12, .inr (.inl (cSTA gS n0 ts tp sta))))) 68 (.inl (ca 1, 12, .inr (.inl (cSPA gP n1 tp spa))))) 64 (.inl (ca 0, 36, .inl pl))) rfl ?_
    refine gj_aload_n C 0 dX2_findTurn_61 rfl 2 rfl ?_
    refine gj_aload_n C 0 dX2_findTurn_62 rfl 2 rfl ?_
    refine gj_get C 58 (by decide) (up_nx (by decide) (up_nx (by decide) (up_nx (by decide) (va_up_self _ _ _)))) inX2 rfl 7 (by decide) w_218 (v := .ref (ad 67)) rfl dX2_findTurn_63 ?_
    refine gj_callVi C mi_X0_isFlat w_602 67 (by decide) (up_nx (by decide) (up_nx (by decide) (up_nx (by decide) (up_nx (by decide) (hc67))))) rfl (c_X0_isFlat 67 68 (cSPA gP n1 tp spa) (up_nx (by decide) (up_nx (by decide) (up_nx (by decide) (up_nx (by decide) (hc67))))) (up_nx (by decide) (va_up_self _ _ _)) (by decide) (by decide) (by decide)) mc_X0_isFlat ⟨Nat.le_of_ble_eq_true rfl, Nat.le_of_ble_eq_true rfl⟩ (rest := [.ref (ad 58)]) rfl (Nat.le_of_ble_eq_true rfl) dX2_findTurn_66 (fun r u h => ?_)
    obtain ⟨hr_, hu_⟩ := h; rw [hr_]; subst hu_
    refine gj_if_ne C 86 dX2_findTurn_69 (by decide) (fun c_2 => ?_) (fun c_2 => ?_)
    · refine gj_iconst C (v := 0) (by decide) dX2_findTurn_86 ?_
      refine gj_putS C 58 (by decide) (up_nx (by decide) (up_nx (by decide) (up_nx (by decide) (va_up_self _ _ _)))) inX2 rfl 11 (by decide) tyX2 tyX2_ok nmX2 w_225 rfl (v := .int 0) (fs' := [.ref (ad 59), .ref (ad 60), .ref (ad 61), .ref (ad 62), .ref (ad 63), .ref (ad 64), .ref (ad 65), .ref (ad 67), .int us, .int tc, .int cc, .int 0]) rfl rfl (Nat.le_of_ble_eq_true rfl) rfl dX2_findTurn_87 ?_
      refine gj_setf ((up_comm (by decide)).trans (up_un ((up_comm (by decide)).trans (up_un ((up_comm (by decide)).trans (up_un (bx_uu _ _ _ _))))))) ?_
      refine gj_iconst C (v := 0) (by decide) dX2_findTurn_90 ?_
      refine gj_seti (y := nI 0) rfl ?_
      refine gj_istore C (lv' := [(5, .int (nI 0)), (4, .int (tp 1)), (3, .int (tp 0)), (0, .ref (ad 58)), (1, .ref (ad 2)), (2, .ref (ad 4))]) dX2_findTurn_91 (by decide) rfl ?_
      refine gj_aload_n C 0 dX2_findTurn_93 rfl 3 rfl ?_
      refine gj_get C 58 (by decide) (up_nx (by decide) (up_nx (by decide) (up_nx (by decide) (va_up_self _ _ _)))) inX2 rfl 11 (by decide) w_225 (v := .int 0) rfl dX2_findTurn_94 ?_
      refine gj_if_eq C 142 dX2_findTurn_97 (by decide) (fun c_3 => ?_) (fun c_3 => absurd (by decide) c_3)
      exact RT _ _ _ (by rw [show (cTurn gS gP n0 n1 ts tp tc sta spa pl) = (0, (cSTA gS n0 ts tp sta), (cSPA gP n1 tp spa), pl) from (if_pos c_1).trans ((if_neg c_2).trans (rfl))]) dX2_findTurn_142
    · refine gj_aload_n C 0 dX2_findTurn_72 rfl 2 rfl ?_
      refine gj_get C 58 (by decide) (up_nx (by decide) (up_nx (by decide) (up_nx (by decide) (va_up_self _ _ _)))) inX2 rfl 6 (by decide) w_217 (v := .ref (ad 65)) rfl dX2_findTurn_73 ?_
      refine gj_callVi C mi_X0_isFlat w_602 65 (by decide) (up_nx (by decide) (up_nx (by decide) (up_nx (by decide) (up_nx (by decide) (hc65))))) rfl (c_X0_isFlat 65 66 (cSTA gS n0 ts tp sta) (up_nx (by decide) (up_nx (by decide) (up_nx (by decide) (up_nx (by decide) (hc65))))) (up_nx (by decide) (up_nx (by decide) (va_up_self _ _ _))) (by decide) (by decide) (by decide)) mc_X0_isFlat ⟨Nat.le_of_ble_eq_true rfl, Nat.le_of_ble_eq_true rfl⟩ (rest := [.ref (ad 58)]) rfl (Nat.le_of_ble_eq_true rfl) dX2_findTurn_76 (fun r u h => ?_)
      obtain ⟨hr_, hu_⟩ := h; rw [hr_]; subst hu_
      refine gj_if_ne C 86 dX2_findTurn_79 (by decide) (fun c_4 => ?_) (fun c_4 => ?_)
      · refine gj_iconst C (v := 0) (by decide) dX2_findTurn_86 ?_
        refine gj_putS C 58 (by decide) (up_nx (by decide) (up_nx (by decide) (up_nx (by decide) (va_up_self _ _ _)))) inX2 rfl 11 (by decide) tyX2 tyX2_ok nmX2 w_225 rfl (v := .int 0) (fs' := [.ref (ad 59), .ref (ad 60), .ref (ad 61), .ref (ad 62), .ref (ad 63), .ref (ad 64), .ref (ad 65), .ref (ad 67), .int us, .int tc, .int cc, .int 0]) rfl rfl (Nat.le_of_ble_eq_true rfl) rfl dX2_findTurn_87 ?_
        refine gj_setf ((up_comm (by decide)).trans (up_un ((up_comm (by decide)).trans (up_un ((up_comm (by decide)).trans (up_un (bx_uu _ _ _ _))))))) ?_
        refine gj_iconst C (v := 0) (by decide) dX2_findTurn_90 ?_
        refine gj_seti (y := nI 0) rfl ?_
        refine gj_istore C (lv' := [(5, .int (nI 0)), (4, .int (tp 1)), (3, .int (tp 0)), (0, .ref (ad 58)), (1, .ref (ad 2)), (2, .ref (ad 4))]) dX2_findTurn_91 (by decide) rfl ?_
        refine gj_aload_n C 0 dX2_findTurn_93 rfl 3 rfl ?_
        refine gj_get C 58 (by decide) (up_nx (by decide) (up_nx (by decide) (up_nx (by decide) (va_up_self _ _ _)))) inX2 rfl 11 (by decide) w_225 (v := .int 0) rfl dX2_findTurn_94 ?_
        refine gj_if_eq C 142 dX2_findTurn_97 (by decide) (fun c_5 => ?_) (fun c_5 => absurd (by decide) c_5)
        exact RT _ _ _ (by rw [show (cTurn gS gP n0 n1 ts tp tc sta spa pl) = (0, (cSTA gS n0 ts tp sta), (cSPA gP n1 tp spa), pl) from (if_pos c_1).trans ((if_pos c_2).trans ((if_neg c_4).trans (rfl)))]) dX2_findTurn_142
      · refine gj_iconst C (v := 1) (by decide) dX2_findTurn_82 ?_
        refine gj_goto C 87 dX2_findTurn_83 (by decide) ?_
        refine gj_putS C 58 (by decide) (up_nx (by decide) (up_nx (by decide) (up_nx (by decide) (va_up_self _ _ _)))) inX2 rfl 11 (by decide) tyX2 tyX2_ok nmX2 w_225 rfl (v := .int 1) (fs' := [.ref (ad 59), .ref (ad 60), .ref (ad 61), .ref (ad 62), .ref (ad 63), .ref (ad 64), .ref (ad 65), .ref (ad 67), .int us, .int tc, .int cc, .int 1]) rfl rfl (Nat.le_of_ble_eq_true rfl) rfl dX2_findTurn_87 ?_
        refine gj_setf ((up_comm (by decide)).trans (up_un ((up_comm (by decide)).trans (up_un ((up_comm (by decide)).trans (up_un (bx_uu _ _ _ _))))))) ?_
        refine gj_iconst C (v := 0) (by decide) dX2_findTurn_90 ?_
        refine gj_seti (y := nI 0) rfl ?_
        refine gj_istore C (lv' := [(5, .int (nI 0)), (4, .int (tp 1)), (3, .int (tp 0)), (0, .ref (ad 58)), (1, .ref (ad 2)), (2, .ref (ad 4))]) dX2_findTurn_91 (by decide) rfl ?_
        refine gj_setf (g := va_up (va_up (va_up (va_up f 58 (.inr (2, [.ref (ad 59), .ref (ad 60), .ref (ad 61), .ref (ad 62), .ref (ad 63), .ref (ad 64), .ref (ad 65), .ref (ad 67), .int us, .int tc, .int cc, .int 1]))) 66 (.inl (ca 1, 12, .inr (.inl (cSTA gS n0 ts tp sta))))) 68 (.inl (ca 1, 12, .inr (.inl (cSPA gP n1 tp spa))))) 64 (.inl (ca 0, 36, .inl (cPn (cSTA gS n0 ts tp sta) (cSPA gP n1 tp spa) gS n0 pl 0)))) rfl ?_
        have loop_6 : ∀ (m0 t0 : Nat), t0 + m0 = n0 → gJ pT l eT (Rm 3) sT mT aT below meth cT AT QT D ad 108 6 (va_up (va_up (va_up (va_up f 58 (.inr (2, [.ref (ad 59), .ref (ad 60), .ref (ad 61), .ref (ad 62), .ref (ad 63), .ref (ad 64), .ref (ad 65), .ref (ad 67), .int us, .int tc, .int cc, .int 1]))) 66 (.inl (ca 1, 12, .inr (.inl (cSTA gS n0 ts tp sta))))) 68 (.inl (ca 1, 12, .inr (.inl (cSPA gP n1 tp spa))))) 64 (.inl (ca 0, 36, .inl (cPn (cSTA gS n0 ts tp sta) (cSPA gP n1 tp spa) gS n0 pl t0)))) [(5, .int (nI t0)), (0, .ref (ad 58)), (1, .ref (ad 2)), (2, .ref (ad 4))] 93 [] := by
          intro m0
          induction m0 with
          | zero =>
            intro t0 hk_t0  
            refine gj_aload_n C 0 dX2_findTurn_93 rfl 1 rfl ?_
            refine gj_get C 58 (by decide) (up_nx (by decide) (up_nx (by decide) (up_nx (by decide) (va_up_self _ _ _)))) inX2 rfl 11 (by decide) w_225 (v := .int 1) rfl dX2_findTurn_94 ?_
            refine gj_if_eq C 142 dX2_findTurn_97 (by decide) (fun c_8 => absurd c_8 (by decide)) (fun c_8 => ?_)
            refine gj_iload C dX2_findTurn_100 0 rfl ?_
            refine gj_aload_n C 1 dX2_findTurn_102 rfl 2 rfl ?_
            refine gj_callVi C mi_X1_size w_578 2 (by decide) (up_nx (by decide) (up_nx (by decide) (up_nx (by decide) (up_nx (by decide) (hc2))))) rfl (c_X1_size 2 3 (12 : Int32) (nI n0) 36 gS (up_nx (by decide) (up_nx (by decide) (up_nx (by decide) (up_nx (by decide) (hc2))))) (up_nx (by decide) (up_nx (by decide) (up_nx (by decide) (up_nx (by decide) (hc3))))) (by decide) (by decide) (by decide)) mc_X1_size ⟨Nat.le_of_ble_eq_true rfl, Nat.le_of_ble_eq_true rfl⟩ (rest := [.int (nI t0)]) rfl (Nat.le_of_ble_eq_true rfl) dX2_findTurn_103 (fun r u h => ?_)
            obtain ⟨hr_, hu_⟩ := h; rw [hr_]; subst hu_
            refine gj_icmp_ge C 142 dX2_findTurn_106 (by decide) (fun c_9 => ?_) (fun c_9 => absurd (nI_le (by omega) (by omega)) c_9)
            exact RT _ _ _ (by rw [show (cTurn gS gP n0 n1 ts tp tc sta spa pl) = (1, (cSTA gS n0 ts tp sta), (cSPA gP n1 tp spa), (cPn (cSTA gS n0 ts tp sta) (cSPA gP n1 tp spa) gS n0 pl n0)) from (if_pos c_1).trans ((if_pos c_2).trans ((if_pos c_4).trans (rfl)))]; obtain rfl : t0 = n0 := (by omega); rfl) dX2_findTurn_142
          | succ m0 ih_7 =>
            intro t0 hk_t0  
            refine gj_aload_n C 0 dX2_findTurn_93 rfl 1 rfl ?_
            refine gj_get C 58 (by decide) (up_nx (by decide) (up_nx (by decide) (up_nx (by decide) (va_up_self _ _ _)))) inX2 rfl 11 (by decide) w_225 (v := .int 1) rfl dX2_findTurn_94 ?_
            refine gj_if_eq C 142 dX2_findTurn_97 (by decide) (fun c_10 => absurd c_10 (by decide)) (fun c_10 => ?_)
            refine gj_iload C dX2_findTurn_100 0 rfl ?_
            refine gj_aload_n C 1 dX2_findTurn_102 rfl 2 rfl ?_
            refine gj_callVi C mi_X1_size w_578 2 (by decide) (up_nx (by decide) (up_nx (by decide) (up_nx (by decide) (up_nx (by decide) (hc2))))) rfl (c_X1_size 2 3 (12 : Int32) (nI n0) 36 gS (up_nx (by decide) (up_nx (by decide) (up_nx (by decide) (up_nx (by decide) (hc2))))) (up_nx (by decide) (up_nx (by decide) (up_nx (by decide) (up_nx (by decide) (hc3))))) (by decide) (by decide) (by decide)) mc_X1_size ⟨Nat.le_of_ble_eq_true rfl, Nat.le_of_ble_eq_true rfl⟩ (rest := [.int (nI t0)]) rfl (Nat.le_of_ble_eq_true rfl) dX2_findTurn_103 (fun r u h => ?_)
            obtain ⟨hr_, hu_⟩ := h; rw [hr_]; subst hu_
            refine gj_icmp_ge C 142 dX2_findTurn_106 (by decide) (fun c_11 => absurd c_11 (nI_ge (by omega) (by omega))) (fun c_11 => ?_)
            refine gj_aload_n C 0 dX2_findTurn_109 rfl 1 rfl ?_
            refine gj_iload C dX2_findTurn_110 0 rfl ?_
            refine gj_aload_n C 1 dX2_findTurn_112 rfl 2 rfl ?_
            refine gj_iload C dX2_findTurn_113 0 rfl ?_
            refine gj_iconst C (v := 0) (by decide) dX2_findTurn_115 ?_
            refine gj_callVi C mi_X1_part w_606 2 (by decide) (up_nx (by decide) (up_nx (by decide) (up_nx (by decide) (up_nx (by decide) (hc2))))) rfl (c_X1_part 2 3 (nI t0) (0 : Int32) (12 : Int32) (nI n0) 36 gS (up_nx (by decide) (up_nx (by decide) (up_nx (by decide) (up_nx (by decide) (hc2))))) (up_nx (by decide) (up_nx (by decide) (up_nx (by decide) (up_nx (by decide) (hc3))))) (by decide) (by decide) (by decide) (szk (by omega) (by omega))) mc_X1_part ⟨Nat.le_of_ble_eq_true rfl, Nat.le_of_ble_eq_true rfl⟩ (rest := [.int (nI t0), .ref (ad 58)]) rfl (Nat.le_of_ble_eq_true rfl) dX2_findTurn_116 (fun r u h => ?_)
            obtain ⟨hr_, hu_⟩ := h; rw [hr_]; subst hu_
            refine gj_aload_n C 1 dX2_findTurn_119 rfl 2 rfl ?_
            refine gj_iload C dX2_findTurn_120 0 rfl ?_
            refine gj_iconst C (v := 1) (by decide) dX2_findTurn_122 ?_
            refine gj_callVi C mi_X1_part w_606 2 (by decide) (up_nx (by decide) (up_nx (by decide) (up_nx (by decide) (up_nx (by decide) (hc2))))) rfl (c_X1_part 2 3 (nI t0) (1 : Int32) (12 : Int32) (nI n0) 36 gS (up_nx (by decide) (up_nx (by decide) (up_nx (by decide) (up_nx (by decide) (hc2))))) (up_nx (by decide) (up_nx (by decide) (up_nx (by decide) (up_nx (by decide) (hc3))))) (by decide) (by decide) (by decide) (szk (by omega) (by omega))) mc_X1_part ⟨Nat.le_of_ble_eq_true rfl, Nat.le_of_ble_eq_true rfl⟩ (rest := [.int (s_X1_part (nI t0) (0 : Int32) (nI n0) gS), .int (nI t0), .ref (ad 58)]) rfl (Nat.le_of_ble_eq_true rfl) dX2_findTurn_123 (fun r u h => ?_)
            obtain ⟨hr_, hu_⟩ := h; rw [hr_]; subst hu_
            refine gj_aload_n C 1 dX2_findTurn_126 rfl 2 rfl ?_
            refine gj_iload C dX2_findTurn_127 0 rfl ?_
            refine gj_iconst C (v := 2) (by decide) dX2_findTurn_129 ?_
            refine gj_callVi C mi_X1_part w_606 2 (by decide) (up_nx (by decide) (up_nx (by decide) (up_nx (by decide) (up_nx (by decide) (hc2))))) rfl (c_X1_part 2 3 (nI t0) (2 : Int32) (12 : Int32) (nI n0) 36 gS (up_nx (by decide) (up_nx (by decide) (up_nx (by decide) (up_nx (by decide) (hc2))))) (up_nx (by decide) (up_nx (by decide) (up_nx (by decide) (up_nx (by decide) (hc3))))) (by decide) (by decide) (by decide) (szk (by omega) (by omega))) mc_X1_part ⟨Nat.le_of_ble_eq_true rfl, Nat.le_of_ble_eq_true rfl⟩ (rest := [.int (s_X1_part (nI t0) (1 : Int32) (nI n0) gS), .int (s_X1_part (nI t0) (0 : Int32) (nI n0) gS), .int (nI t0), .ref (ad 58)]) rfl (Nat.le_of_ble_eq_true rfl) dX2_findTurn_130 (fun r u h => ?_)
            obtain ⟨hr_, hu_⟩ := h; rw [hr_]; subst hu_
            refine gj_callVv C mi_X2_findPlace w_607 58 (by decide) (up_nx (by decide) (up_nx (by decide) (up_nx (by decide) (va_up_self _ _ _)))) rfl (c_findPlace_58 t0 (s_X1_part (nI t0) (0 : Int32) (nI n0) gS) (s_X1_part (nI t0) (1 : Int32) (nI n0) gS) (s_X1_part (nI t0) (2 : Int32) (nI n0) gS) us tc cc (1 : Int32) (cPn (cSTA gS n0 ts tp sta) (cSPA gP n1 tp spa) gS n0 pl t0) (cSTA gS n0 ts tp sta) (cSPA gP n1 tp spa) (up_nx (by decide) (up_nx (by decide) (up_nx (by decide) (va_up_self _ _ _)))) (va_up_self _ _ _) (up_nx (by decide) (up_nx (by decide) (va_up_self _ _ _))) (up_nx (by decide) (va_up_self _ _ _)) (up_nx (by decide) (up_nx (by decide) (up_nx (by decide) (up_nx (by decide) (hc65))))) (up_nx (by decide) (up_nx (by decide) (up_nx (by decide) (up_nx (by decide) (hc67))))) (by omega)) mc_X2_findPlace ⟨Nat.le_of_ble_eq_true rfl, Nat.le_of_ble_eq_true rfl⟩ (rest := []) rfl (Nat.le_of_ble_eq_true rfl) dX2_findTurn_133 (fun u h => ?_)
            subst h
            refine gj_setf (bx_uu _ _ _ _) ?_
            refine gj_iinc C (v := nI (t0 + 1)) (lv' := [(5, .int (nI (t0 + 1))), (0, .ref (ad 58)), (1, .ref (ad 2)), (2, .ref (ad 4))]) dX2_findTurn_136 0 rfl (nI_1 _) (by decide) rfl ?_
            refine gj_goto C 93 dX2_findTurn_139 (by decide) ?_
            refine gj_setf (g := va_up (va_up (va_up (va_up f 58 (.inr (2, [.ref (ad 59), .ref (ad 60), .ref (ad 61), .ref (ad 62), .ref (ad 63), .ref (ad 64), .ref (ad 65), .ref (ad 67), .int us, .int tc, .int cc, .int 1]))) 66 (.inl (ca 1, 12, .inr (.inl (cSTA gS n0 ts tp sta))))) 68 (.inl (ca 1, 12, .inr (.inl (cSPA gP n1 tp spa))))) 64 (.inl (ca 0, 36, .inl (cPn (cSTA gS n0 ts tp sta) (cSPA gP n1 tp spa) gS n0 pl (t0 + 1))))) rfl ?_
            refine gj_lv [0, 1, 2, 3] rfl ?_
            exact ih_7 (t0 + 1) (by omega)
        refine gj_lv [0, 3, 4, 5] rfl ?_
        exact loop_6 (n0 - 0) 0 (by omega)
  · exact RT _ _ _ (by rw [show (cTurn gS gP n0 n1 ts tp tc sta spa pl) = (0, sta, spa, pl) from if_neg c_1]) dX2_findTurn_13
set_option maxHeartbeats 400000 in
set_option maxRecDepth 100000 in
theorem c_confirm_58 {l : Launch} {D : va_G} {ca ss ad : Nat → Nat} {f : Nat → va_E} (n0 n1 : Nat) (ne go : Int32) (us tc cc tu : Int32) (cs : Nat → Int32) (cf : Nat → Int32) (pl : Nat → Int32) (gP : Nat → Int32) (hc58 : f 58 = .inr (2, [.ref (ad 59), .ref (ad 60), .ref (ad 61), .ref (ad 62), .ref (ad 63), .ref (ad 64), .ref (ad 65), .ref (ad 67), .int us, .int tc, .int cc, .int tu])) (hc62 : f 62 = .inl (ca 0, 8, .inl cs)) (hc63 : f 63 = .inl (ca 0, 8, .inl cf)) (hc64 : f 64 = .inl (ca 0, 36, .inl pl)) (hc4 : f 4 = .inr (1, [.ref (ad 5), .int 8, .int (nI n1)])) (hc5 : f 5 = .inl (ca 0, 24, .inl gP)) (hn0 : n0 ≤ 12) (hn1 : n1 ≤ 8) : gMv l D ca ss ad 108 yX2_confirmSpots cX2_confirmSpots 10 none 3 f [.ref (ad 58), .int (nI n0), .ref (ad 4), .int ne, .int go] (fun u => u = va_up (va_up (va_up (f) 62 (.inl (ca 0, 8, .inl ((cConf gP n0 n1 pl ne go tu).2.1)))) 63 (.inl (ca 0, 8, .inl ((cConf gP n0 n1 pl ne go tu).2.2.1)))) 58 (.inr (2, [.ref (ad 59), .ref (ad 60), .ref (ad 61), .ref (ad 62), .ref (ad 63), .ref (ad 64), .ref (ad 65), .ref (ad 67), .int ((cConf gP n0 n1 pl ne go tu).1), .int tc, .int ((cConf gP n0 n1 pl ne go tu).2.2.2), .int tu]))) := by
  refine gMv_ofK (by decide +kernel) (Nat.le_of_ble_eq_true rfl) (lv0 := [(0, .ref (ad 58)), (1, .int (nI n0)), (2, .ref (ad 4)), (3, .int ne), (4, .int go)]) rfl (fun pT eT sT mT aT below meth cT AT QT C RT => ?_)
  have C : gX pT sT mT aT meth cT AT D ca ss 10 RX2 cX2_confirmSpots none := C
  refine gj_aload_n C 0 dX2_confirmSpots_0 rfl 0 rfl ?_
  refine gj_get C 58 (by decide) hc58 inX2 rfl 3 (by decide) w_211 (v := .ref (ad 62)) rfl dX2_confirmSpots_1 ?_
  refine gj_iconst C (v := (-1)) (by decide) dX2_confirmSpots_4 ?_
  refine gj_callSv C w_516 w_583 (c_J7_fill_53178 62 (-1 : Int32) 8 cs hc62 (by decide) (by decide)) mc_J7_fill_53178 ⟨Nat.le_of_ble_eq_true rfl, Nat.le_of_ble_eq_true rfl⟩ (rest := []) rfl (Nat.le_of_ble_eq_true rfl) dX2_confirmSpots_5 (fun u h => ?_)
  subst h
  refine gj_aload_n C 0 dX2_confirmSpots_8 rfl 0 rfl ?_
  refine gj_get C 58 (by decide) (up_nx (by decide) (hc58)) inX2 rfl 4 (by decide) w_213 (v := .ref (ad 63)) rfl dX2_confirmSpots_9 ?_
  refine gj_iconst C (v := (-1)) (by decide) dX2_confirmSpots_12 ?_
  refine gj_callSv C w_516 w_583 (c_J7_fill_53178 63 (-1 : Int32) 8 cf (up_nx (by decide) (hc63)) (by decide) (by decide)) mc_J7_fill_53178 ⟨Nat.le_of_ble_eq_true rfl, Nat.le_of_ble_eq_true rfl⟩ (rest := []) rfl (Nat.le_of_ble_eq_true rfl) dX2_confirmSpots_13 (fun u h => ?_)
  subst h
  refine gj_aload_n C 0 dX2_confirmSpots_16 rfl 0 rfl ?_
  refine gj_iconst C (v := 0) (by decide) dX2_confirmSpots_17 ?_
  refine gj_putS C 58 (by decide) (up_nx (by decide) (up_nx (by decide) (hc58))) inX2 rfl 8 (by decide) tyX2 tyX2_ok nmX2 w_219 rfl (v := .int 0) (fs' := [.ref (ad 59), .ref (ad 60), .ref (ad 61), .ref (ad 62), .ref (ad 63), .ref (ad 64), .ref (ad 65), .ref (ad 67), .int 0, .int tc, .int cc, .int tu]) rfl rfl (Nat.le_of_ble_eq_true rfl) rfl dX2_confirmSpots_18 ?_
  refine gj_aload_n C 0 dX2_confirmSpots_21 rfl 0 rfl ?_
  refine gj_iconst C (v := 0) (by decide) dX2_confirmSpots_22 ?_
  refine gj_putS C 58 (by decide) (va_up_self _ _ _) inX2 rfl 10 (by decide) tyX2 tyX2_ok nmX2 w_223 rfl (v := .int 0) (fs' := [.ref (ad 59), .ref (ad 60), .ref (ad 61), .ref (ad 62), .ref (ad 63), .ref (ad 64), .ref (ad 65), .ref (ad 67), .int 0, .int tc, .int 0, .int tu]) rfl rfl (Nat.le_of_ble_eq_true rfl) rfl dX2_confirmSpots_23 ?_
  refine gj_setf (bx_uu _ _ _ _) ?_
  refine gj_iconst C (v := 0) (by decide) dX2_confirmSpots_26 ?_
  refine gj_seti (y := nI 0) rfl ?_
  refine gj_istore C (lv' := [(5, .int (nI 0)), (0, .ref (ad 58)), (1, .int (nI n0)), (2, .ref (ad 4)), (3, .int ne), (4, .int go)]) dX2_confirmSpots_27 (by decide) rfl ?_
  by_cases htu : tu = 0
  · refine gj_aload_n C 0 dX2_confirmSpots_29 rfl 1 rfl ?_
    refine gj_get C 58 (by decide) (va_up_self _ _ _) inX2 rfl 11 (by decide) w_225 (v := .int tu) rfl dX2_confirmSpots_30 ?_
    refine gj_if_eq C 161 dX2_confirmSpots_33 (by decide) (fun c_1 => ?_) (fun c_1 => absurd htu c_1)
    exact RT _ _ _ (by unfold cConf; rw [if_pos htu]) dX2_confirmSpots_161
  · refine gj_setf (g := va_up (va_up (va_up f 62 (.inl (ca 0, 8, .inl ((cCn gP n0 n1 pl ne go (0, kI (-1), kI (-1), 0) 0).2.1)))) 63 (.inl (ca 0, 8, .inl ((cCn gP n0 n1 pl ne go (0, kI (-1), kI (-1), 0) 0).2.2.1)))) 58 (.inr (2, [.ref (ad 59), .ref (ad 60), .ref (ad 61), .ref (ad 62), .ref (ad 63), .ref (ad 64), .ref (ad 65), .ref (ad 67), .int ((cCn gP n0 n1 pl ne go (0, kI (-1), kI (-1), 0) 0).1), .int tc, .int ((cCn gP n0 n1 pl ne go (0, kI (-1), kI (-1), 0) 0).2.2.2), .int tu]))) rfl ?_
    have loop_2 : ∀ (m0 t0 : Nat), t0 + m0 = n1 → gJ pT l eT (Rm 3) sT mT aT below meth cT AT QT D ad 108 10 (va_up (va_up (va_up f 62 (.inl (ca 0, 8, .inl ((cCn gP n0 n1 pl ne go (0, kI (-1), kI (-1), 0) t0).2.1)))) 63 (.inl (ca 0, 8, .inl ((cCn gP n0 n1 pl ne go (0, kI (-1), kI (-1), 0) t0).2.2.1)))) 58 (.inr (2, [.ref (ad 59), .ref (ad 60), .ref (ad 61), .ref (ad 62), .ref (ad 63), .ref (ad 64), .ref (ad 65), .ref (ad 67), .int ((cCn gP n0 n1 pl ne go (0, kI (-1), kI (-1), 0) t0).1), .int tc, .int ((cCn gP n0 n1 pl ne go (0, kI (-1), kI (-1), 0) t0).2.2.2), .int tu]))) [(5, .int (nI t0)), (0, .ref (ad 58)), (1, .int (nI n0)), (2, .ref (ad 4)), (3, .int ne), (4, .int go)] 29 [] := by
      intro m0
      induction m0 with
      | zero =>
        intro t0 hk_t0  
        refine gj_aload_n C 0 dX2_confirmSpots_29 rfl 1 rfl ?_
        refine gj_get C 58 (by decide) (va_up_self _ _ _) inX2 rfl 11 (by decide) w_225 (v := .int tu) rfl dX2_confirmSpots_30 ?_
        refine gj_if_eq C 161 dX2_confirmSpots_33 (by decide) (fun c_4 => absurd c_4 htu) (fun c_4 => ?_)
        refine gj_iload C dX2_confirmSpots_36 0 rfl ?_
        refine gj_aload_n C 2 dX2_confirmSpots_38 rfl 3 rfl ?_
        refine gj_callVi C mi_X1_size w_578 4 (by decide) (up_nx (by decide) (up_nx (by decide) (up_nx (by decide) (hc4)))) rfl (c_X1_size 4 5 (8 : Int32) (nI n1) 24 gP (up_nx (by decide) (up_nx (by decide) (up_nx (by decide) (hc4)))) (up_nx (by decide) (up_nx (by decide) (up_nx (by decide) (hc5)))) (by decide) (by decide) (by decide)) mc_X1_size ⟨Nat.le_of_ble_eq_true rfl, Nat.le_of_ble_eq_true rfl⟩ (rest := [.int (nI t0)]) rfl (Nat.le_of_ble_eq_true rfl) dX2_confirmSpots_39 (fun r u h => ?_)
        obtain ⟨hr_, hu_⟩ := h; rw [hr_]; subst hu_
        refine gj_icmp_ge C 161 dX2_confirmSpots_42 (by decide) (fun c_5 => ?_) (fun c_5 => absurd (nI_le (by omega) (by omega)) c_5)
        exact RT _ _ _ (by unfold cConf; rw [if_neg htu]; obtain rfl : t0 = n1 := (by omega); rfl) dX2_confirmSpots_161
      | succ m0 ih_3 =>
        intro t0 hk_t0  
        refine gj_aload_n C 0 dX2_confirmSpots_29 rfl 1 rfl ?_
        refine gj_get C 58 (by decide) (va_up_self _ _ _) inX2 rfl 11 (by decide) w_225 (v := .int tu) rfl dX2_confirmSpots_30 ?_
        refine gj_if_eq C 161 dX2_confirmSpots_33 (by decide) (fun c_6 => absurd c_6 htu) (fun c_6 => ?_)
        refine gj_iload C dX2_confirmSpots_36 0 rfl ?_
        refine gj_aload_n C 2 dX2_confirmSpots_38 rfl 3 rfl ?_
        refine gj_callVi C mi_X1_size w_578 4 (by decide) (up_nx (by decide) (up_nx (by decide) (up_nx (by decide) (hc4)))) rfl (c_X1_size 4 5 (8 : Int32) (nI n1) 24 gP (up_nx (by decide) (up_nx (by decide) (up_nx (by decide) (hc4)))) (up_nx (by decide) (up_nx (by decide) (up_nx (by decide) (hc5)))) (by decide) (by decide) (by decide)) mc_X1_size ⟨Nat.le_of_ble_eq_true rfl, Nat.le_of_ble_eq_true rfl⟩ (rest := [.int (nI t0)]) rfl (Nat.le_of_ble_eq_true rfl) dX2_confirmSpots_39 (fun r u h => ?_)
        obtain ⟨hr_, hu_⟩ := h; rw [hr_]; subst hu_
        refine gj_icmp_ge C 161 dX2_confirmSpots_42 (by decide) (fun c_7 => absurd c_7 (nI_ge (by omega) (by omega))) (fun c_7 => ?_)
        refine gj_aload_n C 2 dX2_confirmSpots_45 rfl 3 rfl ?_
        refine gj_iload C dX2_confirmSpots_46 0 rfl ?_
        refine gj_iconst C (v := 0) (by decide) dX2_confirmSpots_48 ?_
        refine gj_callVi C mi_X1_part w_606 4 (by decide) (up_nx (by decide) (up_nx (by decide) (up_nx (by decide) (hc4)))) rfl (c_X1_part 4 5 (nI t0) (0 : Int32) (8 : Int32) (nI n1) 24 gP (up_nx (by decide) (up_nx (by decide) (up_nx (by decide) (hc4)))) (up_nx (by decide) (up_nx (by decide) (up_nx (by decide) (hc5)))) (by decide) (by decide) (by decide) (szk (by omega) (by omega))) mc_X1_part ⟨Nat.le_of_ble_eq_true rfl, Nat.le_of_ble_eq_true rfl⟩ (rest := []) rfl (Nat.le_of_ble_eq_true rfl) dX2_confirmSpots_49 (fun r u h => ?_)
        obtain ⟨hr_, hu_⟩ := h; rw [hr_]; subst hu_
        refine gj_istore C (lv' := [(6, .int (s_X1_part (nI t0) (0 : Int32) (nI n1) gP)), (5, .int (nI t0)), (0, .ref (ad 58)), (1, .int (nI n0)), (2, .ref (ad 4)), (3, .int ne), (4, .int go)]) dX2_confirmSpots_52 (by decide) rfl ?_
        refine gj_aload_n C 2 dX2_confirmSpots_54 rfl 4 rfl ?_
        refine gj_iload C dX2_confirmSpots_55 1 rfl ?_
        refine gj_iconst C (v := 1) (by decide) dX2_confirmSpots_57 ?_
        refine gj_callVi C mi_X1_part w_606 4 (by decide) (up_nx (by decide) (up_nx (by decide) (up_nx (by decide) (hc4)))) rfl (c_X1_part 4 5 (nI t0) (1 : Int32) (8 : Int32) (nI n1) 24 gP (up_nx (by decide) (up_nx (by decide) (up_nx (by decide) (hc4)))) (up_nx (by decide) (up_nx (by decide) (up_nx (by decide) (hc5)))) (by decide) (by decide) (by decide) (szk (by omega) (by omega))) mc_X1_part ⟨Nat.le_of_ble_eq_true rfl, Nat.le_of_ble_eq_true rfl⟩ (rest := []) rfl (Nat.le_of_ble_eq_true rfl) dX2_confirmSpots_58 (fun r u h => ?_)
        obtain ⟨hr_, hu_⟩ := h; rw [hr_]; subst hu_
        refine gj_istore C (lv' := [(7, .int (s_X1_part (nI t0) (1 : Int32) (nI n1) gP)), (6, .int (s_X1_part (nI t0) (0 : Int32) (nI n1) gP)), (5, .int (nI t0)), (0, .ref (ad 58)), (1, .int (nI n0)), (2, .ref (ad 4)), (3, .int ne), (4, .int go)]) dX2_confirmSpots_61 (by decide) rfl ?_
        refine gj_aload_n C 2 dX2_confirmSpots_63 rfl 5 rfl ?_
        refine gj_iload C dX2_confirmSpots_64 2 rfl ?_
        refine gj_iconst C (v := 2) (by decide) dX2_confirmSpots_66 ?_
        refine gj_callVi C mi_X1_part w_606 4 (by decide) (up_nx (by decide) (up_nx (by decide) (up_nx (by decide) (hc4)))) rfl (c_X1_part 4 5 (nI t0) (2 : Int32) (8 : Int32) (nI n1) 24 gP (up_nx (by decide) (up_nx (by decide) (up_nx (by decide) (hc4)))) (up_nx (by decide) (up_nx (by decide) (up_nx (by decide) (hc5)))) (by decide) (by decide) (by decide) (szk (by omega) (by omega))) mc_X1_part ⟨Nat.le_of_ble_eq_true rfl, Nat.le_of_ble_eq_true rfl⟩ (rest := []) rfl (Nat.le_of_ble_eq_true rfl) dX2_confirmSpots_67 (fun r u h => ?_)
        obtain ⟨hr_, hu_⟩ := h; rw [hr_]; subst hu_
        refine gj_istore C (lv' := [(8, .int (s_X1_part (nI t0) (2 : Int32) (nI n1) gP)), (7, .int (s_X1_part (nI t0) (1 : Int32) (nI n1) gP)), (6, .int (s_X1_part (nI t0) (0 : Int32) (nI n1) gP)), (5, .int (nI t0)), (0, .ref (ad 58)), (1, .int (nI n0)), (2, .ref (ad 4)), (3, .int ne), (4, .int go)]) dX2_confirmSpots_70 (by decide) rfl ?_
        refine gj_iload C dX2_confirmSpots_72 3 rfl ?_
        refine gj_iload C dX2_confirmSpots_74 8 rfl ?_
        refine gj_icmp_ne C 83 dX2_confirmSpots_76 (by decide) (fun c_8 => ?_) (fun c_8 => ?_)
        · refine gj_aload_n C 0 dX2_confirmSpots_83 rfl 4 rfl ?_
          refine gj_iload_n C 1 dX2_confirmSpots_84 rfl 5 rfl ?_
          refine gj_iload_n C 3 dX2_confirmSpots_85 rfl 7 rfl ?_
          refine gj_iload C dX2_confirmSpots_86 2 rfl ?_
          refine gj_iload C dX2_confirmSpots_88 1 rfl ?_
          refine gj_iload C dX2_confirmSpots_90 0 rfl ?_
          refine gj_callVi C mi_X2_nearestStar w_631 58 (by decide) (va_up_self _ _ _) rfl (c_nearest_58 n0 ne (s_X1_part (nI t0) (0 : Int32) (nI n1) gP) (s_X1_part (nI t0) (1 : Int32) (nI n1) gP) (s_X1_part (nI t0) (2 : Int32) (nI n1) gP) ((cCn gP n0 n1 pl ne go (0, kI (-1), kI (-1), 0) t0).1) tc ((cCn gP n0 n1 pl ne go (0, kI (-1), kI (-1), 0) t0).2.2.2) tu pl (va_up_self _ _ _) (up_nx (by decide) (up_nx (by decide) (up_nx (by decide) (hc64)))) hn0) mc_X2_nearestStar ⟨Nat.le_of_ble_eq_true rfl, Nat.le_of_ble_eq_true rfl⟩ (rest := []) rfl (Nat.le_of_ble_eq_true rfl) dX2_confirmSpots_92 (fun r u h => ?_)
          obtain ⟨hr_, hu_⟩ := h; rw [hr_]; subst hu_
          refine gj_istore C (lv' := [(9, .int ((cC1 pl ((cCn gP n0 n1 pl ne go (0, kI (-1), kI (-1), 0) t0).1) ne (s_X1_part (nI t0) (0 : Int32) (nI n1) gP) (s_X1_part (nI t0) (1 : Int32) (nI n1) gP) (s_X1_part (nI t0) (2 : Int32) (nI n1) gP) n0).1)), (8, .int (s_X1_part (nI t0) (2 : Int32) (nI n1) gP)), (7, .int (s_X1_part (nI t0) (1 : Int32) (nI n1) gP)), (6, .int (s_X1_part (nI t0) (0 : Int32) (nI n1) gP)), (5, .int (nI t0)), (0, .ref (ad 58)), (1, .int (nI n0)), (2, .ref (ad 4)), (3, .int ne), (4, .int go)]) dX2_confirmSpots_95 (by decide) rfl ?_
          refine gj_iload C dX2_confirmSpots_97 0 rfl ?_
          refine gj_iconst C (v := (-1)) (by decide) dX2_confirmSpots_99 ?_
          refine gj_icmp_eq C 155 dX2_confirmSpots_100 (by decide) (fun c_9 => ?_) (fun c_9 => ?_)
          · refine gj_iinc C (v := nI (t0 + 1)) (lv' := [(5, .int (nI (t0 + 1))), (9, .int ((cC1 pl ((cCn gP n0 n1 pl ne go (0, kI (-1), kI (-1), 0) t0).1) ne (s_X1_part (nI t0) (0 : Int32) (nI n1) gP) (s_X1_part (nI t0) (1 : Int32) (nI n1) gP) (s_X1_part (nI t0) (2 : Int32) (nI n1) gP) n0).1)), (8, .int (s_X1_part (nI t0) (2 : Int32) (nI n1) gP)), (7, .int (s_X1_part (nI t0) (1 : Int32) (nI n1) gP)), (6, .int (s_X1_part (nI t0) (0 : Int32) (nI n1) gP)), (0, .ref (ad 58)), (1, .int (nI n0)), (2, .ref (ad 4)), (3, .int ne), (4, .int go)]) dX2_confirmSpots_155 4 rfl (nI_1 _) (by decide) rfl ?_
            refine gj_goto C 29 dX2_confirmSpots_158 (by decide) ?_
            refine gj_setf (g := va_up (va_up (va_up f 62 (.inl (ca 0, 8, .inl ((cCn gP n0 n1 pl ne go (0, kI (-1), kI (-1), 0) (t0 + 1)).2.1)))) 63 (.inl (ca 0, 8, .inl ((cCn gP n0 n1 pl ne go (0, kI (-1), kI (-1), 0) (t0 + 1)).2.2.1)))) 58 (.inr (2, [.ref (ad 59), .ref (ad 60), .ref (ad 61), .ref (ad 62), .ref (ad 63), .ref (ad 64), .ref (ad 65), .ref (ad 67), .int ((cCn gP n0 n1 pl ne go (0, kI (-1), kI (-1), 0) (t0 + 1)).1), .int tc, .int ((cCn gP n0 n1 pl ne go (0, kI (-1), kI (-1), 0) (t0 + 1)).2.2.2), .int tu]))) (by rw [show (cCn gP n0 n1 pl ne go (0, kI (-1), kI (-1), 0) (t0 + 1)) = _ from (if_neg c_8).trans ((if_pos c_9).trans (rfl))]) ?_
            refine gj_lv [0, 5, 6, 7, 8, 9] rfl ?_
            exact ih_3 (t0 + 1) (by omega)
          · obtain ⟨bN, hbN, eb⟩ := cC1_n (v := (cC1 pl (cCn gP n0 n1 pl ne go (0, kI (-1), kI (-1), 0) t0).1 ne (s_X1_part (nI t0) (0 : Int32) (nI n1) gP) (s_X1_part (nI t0) (1 : Int32) (nI n1) gP) (s_X1_part (nI t0) (2 : Int32) (nI n1) gP) n0).1) rfl c_9
            refine gj_aload_n C 0 dX2_confirmSpots_103 rfl 5 rfl ?_
            refine gj_dup C rfl dX2_confirmSpots_104 ?_
            refine gj_get C 58 (by decide) (va_up_self _ _ _) inX2 rfl 8 (by decide) w_219 (v := .int ((cCn gP n0 n1 pl ne go (0, kI (-1), kI (-1), 0) t0).1)) rfl dX2_confirmSpots_105 ?_
            refine gj_iconst C (v := 1) (by decide) dX2_confirmSpots_108 ?_
            refine gj_iload C dX2_confirmSpots_109 0 rfl ?_
            refine gj_ishl C dX2_confirmSpots_111 ?_
            refine gj_ior C dX2_confirmSpots_112 ?_
            refine gj_putS C 58 (by decide) (va_up_self _ _ _) inX2 rfl 8 (by decide) tyX2 tyX2_ok nmX2 w_219 rfl (v := .int (((cCn gP n0 n1 pl ne go (0, kI (-1), kI (-1), 0) t0).1) ||| (1 <<< (((cC1 pl ((cCn gP n0 n1 pl ne go (0, kI (-1), kI (-1), 0) t0).1) ne (s_X1_part (nI t0) (0 : Int32) (nI n1) gP) (s_X1_part (nI t0) (1 : Int32) (nI n1) gP) (s_X1_part (nI t0) (2 : Int32) (nI n1) gP) n0).1) &&& 31)))) (fs' := [.ref (ad 59), .ref (ad 60), .ref (ad 61), .ref (ad 62), .ref (ad 63), .ref (ad 64), .ref (ad 65), .ref (ad 67), .int (((cCn gP n0 n1 pl ne go (0, kI (-1), kI (-1), 0) t0).1) ||| (1 <<< (((cC1 pl ((cCn gP n0 n1 pl ne go (0, kI (-1), kI (-1), 0) t0).1) ne (s_X1_part (nI t0) (0 : Int32) (nI n1) gP) (s_X1_part (nI t0) (1 : Int32) (nI n1) gP) (s_X1_part (nI t0) (2 : Int32) (nI n1) gP) n0).1) &&& 31))), .int tc, .int ((cCn gP n0 n1 pl ne go (0, kI (-1), kI (-1), 0) t0).2.2.2), .int tu]) rfl rfl (Nat.le_of_ble_eq_true rfl) rfl dX2_confirmSpots_113 ?_
            refine gj_setf (bx_uu _ _ _ _) ?_
            refine gj_aload_n C 0 dX2_confirmSpots_116 rfl 5 rfl ?_
            refine gj_get C 58 (by decide) (va_up_self _ _ _) inX2 rfl 3 (by decide) w_211 (v := .ref (ad 62)) rfl dX2_confirmSpots_117 ?_
            refine gj_iload C dX2_confirmSpots_120 4 rfl ?_
            refine gj_iload C dX2_confirmSpots_122 0 rfl ?_
            refine gj_iast C 62 (by decide) (up_nx (by decide) (up_nx (by decide) (va_up_self _ _ _))) (vp_in_nI (by omega) (by omega)) dX2_confirmSpots_124 ?_
            refine gj_setf ((up_comm (by decide)).trans (up_un ((up_comm (by decide)).trans (up_un (bx_uu _ _ _ _))))) ?_
            refine gj_setf (g := va_up (va_up (va_up f 62 (.inl (ca 0, 8, .inl (upd ((cCn gP n0 n1 pl ne go (0, kI (-1), kI (-1), 0) t0).2.1) t0 ((cC1 pl ((cCn gP n0 n1 pl ne go (0, kI (-1), kI (-1), 0) t0).1) ne (s_X1_part (nI t0) (0 : Int32) (nI n1) gP) (s_X1_part (nI t0) (1 : Int32) (nI n1) gP) (s_X1_part (nI t0) (2 : Int32) (nI n1) gP) n0).1))))) 63 (.inl (ca 0, 8, .inl ((cCn gP n0 n1 pl ne go (0, kI (-1), kI (-1), 0) t0).2.2.1)))) 58 (.inr (2, [.ref (ad 59), .ref (ad 60), .ref (ad 61), .ref (ad 62), .ref (ad 63), .ref (ad 64), .ref (ad 65), .ref (ad 67), .int (((cCn gP n0 n1 pl ne go (0, kI (-1), kI (-1), 0) t0).1) ||| (1 <<< (((cC1 pl ((cCn gP n0 n1 pl ne go (0, kI (-1), kI (-1), 0) t0).1) ne (s_X1_part (nI t0) (0 : Int32) (nI n1) gP) (s_X1_part (nI t0) (1 : Int32) (nI n1) gP) (s_X1_part (nI t0) (2 : Int32) (nI n1) gP) n0).1) &&& 31))), .int tc, .int ((cCn gP n0 n1 pl ne go (0, kI (-1), kI (-1), 0) t0).2.2.2), .int tu]))) (by rw [nI_clamp (show t0 < 2 ^ 31 by omega)]) ?_
            refine gj_aload_n C 0 dX2_confirmSpots_125 rfl 5 rfl ?_
            refine gj_get C 58 (by decide) (va_up_self _ _ _) inX2 rfl 4 (by decide) w_213 (v := .ref (ad 63)) rfl dX2_confirmSpots_126 ?_
            refine gj_iload C dX2_confirmSpots_129 4 rfl ?_
            refine gj_aload_n C 0 dX2_confirmSpots_131 rfl 5 rfl ?_
            refine gj_iload C dX2_confirmSpots_132 0 rfl ?_
            refine gj_seti (y := nI bN) eb ?_
            refine gj_iload C dX2_confirmSpots_134 3 rfl ?_
            refine gj_iload C dX2_confirmSpots_136 2 rfl ?_
            refine gj_iload C dX2_confirmSpots_138 1 rfl ?_
            refine gj_callVl C mi_X2_farOf w_635 58 (by decide) (va_up_self _ _ _) rfl (c_farOf_58 bN (s_X1_part (nI t0) (0 : Int32) (nI n1) gP) (s_X1_part (nI t0) (1 : Int32) (nI n1) gP) (s_X1_part (nI t0) (2 : Int32) (nI n1) gP) (((cCn gP n0 n1 pl ne go (0, kI (-1), kI (-1), 0) t0).1) ||| (1 <<< (((cC1 pl ((cCn gP n0 n1 pl ne go (0, kI (-1), kI (-1), 0) t0).1) ne (s_X1_part (nI t0) (0 : Int32) (nI n1) gP) (s_X1_part (nI t0) (1 : Int32) (nI n1) gP) (s_X1_part (nI t0) (2 : Int32) (nI n1) gP) n0).1) &&& 31))) tc ((cCn gP n0 n1 pl ne go (0, kI (-1), kI (-1), 0) t0).2.2.2) tu pl (va_up_self _ _ _) (up_nx (by decide) (up_nx (by decide) (up_nx (by decide) (hc64)))) (by omega)) mc_X2_farOf ⟨Nat.le_of_ble_eq_true rfl, Nat.le_of_ble_eq_true rfl⟩ (rest := [.int (nI t0), .ref (ad 63)]) rfl (Nat.le_of_ble_eq_true rfl) dX2_confirmSpots_140 (fun r u h => ?_)
            obtain ⟨hr_, hu_⟩ := h; rw [hr_]; subst hu_
            refine gj_l2i C dX2_confirmSpots_143 ?_
            refine gj_seti (y := (cFar pl (cC1 pl (cCn gP n0 n1 pl ne go (0, kI (-1), kI (-1), 0) t0).1 ne (s_X1_part (nI t0) (0 : Int32) (nI n1) gP) (s_X1_part (nI t0) (1 : Int32) (nI n1) gP) (s_X1_part (nI t0) (2 : Int32) (nI n1) gP) n0).1.toNatClampNeg (s_X1_part (nI t0) (0 : Int32) (nI n1) gP) (s_X1_part (nI t0) (1 : Int32) (nI n1) gP) (s_X1_part (nI t0) (2 : Int32) (nI n1) gP)).toInt32) (by rw [eb, nI_clamp (show bN < 2 ^ 31 by omega)]) ?_
            refine gj_iast C 63 (by decide) (up_nx (by decide) (va_up_self _ _ _)) (vp_in_nI (by omega) (by omega)) dX2_confirmSpots_144 ?_
            refine gj_setf ((up_comm (by decide)).trans (up_un (bx_uu _ _ _ _))) ?_
            refine gj_setf (g := va_up (va_up (va_up f 62 (.inl (ca 0, 8, .inl (upd ((cCn gP n0 n1 pl ne go (0, kI (-1), kI (-1), 0) t0).2.1) t0 ((cC1 pl ((cCn gP n0 n1 pl ne go (0, kI (-1), kI (-1), 0) t0).1) ne (s_X1_part (nI t0) (0 : Int32) (nI n1) gP) (s_X1_part (nI t0) (1 : Int32) (nI n1) gP) (s_X1_part (nI t0) (2 : Int32) (nI n1) gP) n0).1))))) 63 (.inl (ca 0, 8, .inl (upd ((cCn gP n0 n1 pl ne go (0, kI (-1), kI (-1), 0) t0).2.2.1) t0 ((cFar pl (cC1 pl (cCn gP n0 n1 pl ne go (0, kI (-1), kI (-1), 0) t0).1 ne (s_X1_part (nI t0) (0 : Int32) (nI n1) gP) (s_X1_part (nI t0) (1 : Int32) (nI n1) gP) (s_X1_part (nI t0) (2 : Int32) (nI n1) gP) n0).1.toNatClampNeg (s_X1_part (nI t0) (0 : Int32) (nI n1) gP) (s_X1_part (nI t0) (1 : Int32) (nI n1) gP) (s_X1_part (nI t0) (2 : Int32) (nI n1) gP)).toInt32))))) 58 (.inr (2, [.ref (ad 59), .ref (ad 60), .ref (ad 61), .ref (ad 62), .ref (ad 63), .ref (ad 64), .ref (ad 65), .ref (ad 67), .int (((cCn gP n0 n1 pl ne go (0, kI (-1), kI (-1), 0) t0).1) ||| (1 <<< (((cC1 pl ((cCn gP n0 n1 pl ne go (0, kI (-1), kI (-1), 0) t0).1) ne (s_X1_part (nI t0) (0 : Int32) (nI n1) gP) (s_X1_part (nI t0) (1 : Int32) (nI n1) gP) (s_X1_part (nI t0) (2 : Int32) (nI n1) gP) n0).1) &&& 31))), .int tc, .int ((cCn gP n0 n1 pl ne go (0, kI (-1), kI (-1), 0) t0).2.2.2), .int tu]))) (by rw [nI_clamp (show t0 < 2 ^ 31 by omega)]) ?_
            refine gj_aload_n C 0 dX2_confirmSpots_145 rfl 5 rfl ?_
            refine gj_dup C rfl dX2_confirmSpots_146 ?_
            refine gj_get C 58 (by decide) (va_up_self _ _ _) inX2 rfl 10 (by decide) w_223 (v := .int ((cCn gP n0 n1 pl ne go (0, kI (-1), kI (-1), 0) t0).2.2.2)) rfl dX2_confirmSpots_147 ?_
            refine gj_iconst C (v := 1) (by decide) dX2_confirmSpots_150 ?_
            refine gj_iadd C dX2_confirmSpots_151 ?_
            refine gj_putS C 58 (by decide) (va_up_self _ _ _) inX2 rfl 10 (by decide) tyX2 tyX2_ok nmX2 w_223 rfl (v := .int (((cCn gP n0 n1 pl ne go (0, kI (-1), kI (-1), 0) t0).2.2.2) + 1)) (fs' := [.ref (ad 59), .ref (ad 60), .ref (ad 61), .ref (ad 62), .ref (ad 63), .ref (ad 64), .ref (ad 65), .ref (ad 67), .int (((cCn gP n0 n1 pl ne go (0, kI (-1), kI (-1), 0) t0).1) ||| (1 <<< (((cC1 pl ((cCn gP n0 n1 pl ne go (0, kI (-1), kI (-1), 0) t0).1) ne (s_X1_part (nI t0) (0 : Int32) (nI n1) gP) (s_X1_part (nI t0) (1 : Int32) (nI n1) gP) (s_X1_part (nI t0) (2 : Int32) (nI n1) gP) n0).1) &&& 31))), .int tc, .int (((cCn gP n0 n1 pl ne go (0, kI (-1), kI (-1), 0) t0).2.2.2) + 1), .int tu]) rfl rfl (Nat.le_of_ble_eq_true rfl) rfl dX2_confirmSpots_152 ?_
            refine gj_setf (bx_uu _ _ _ _) ?_
            refine gj_iinc C (v := nI (t0 + 1)) (lv' := [(5, .int (nI (t0 + 1))), (9, .int ((cC1 pl ((cCn gP n0 n1 pl ne go (0, kI (-1), kI (-1), 0) t0).1) ne (s_X1_part (nI t0) (0 : Int32) (nI n1) gP) (s_X1_part (nI t0) (1 : Int32) (nI n1) gP) (s_X1_part (nI t0) (2 : Int32) (nI n1) gP) n0).1)), (8, .int (s_X1_part (nI t0) (2 : Int32) (nI n1) gP)), (7, .int (s_X1_part (nI t0) (1 : Int32) (nI n1) gP)), (6, .int (s_X1_part (nI t0) (0 : Int32) (nI n1) gP)), (0, .ref (ad 58)), (1, .int (nI n0)), (2, .ref (ad 4)), (3, .int ne), (4, .int go)]) dX2_confirmSpots_155 4 rfl (nI_1 _) (by decide) rfl ?_
            refine gj_goto C 29 dX2_confirmSpots_158 (by decide) ?_
            refine gj_setf (g := va_up (va_up (va_up f 62 (.inl (ca 0, 8, .inl ((cCn gP n0 n1 pl ne go (0, kI (-1), kI (-1), 0) (t0 + 1)).2.1)))) 63 (.inl (ca 0, 8, .inl ((cCn gP n0 n1 pl ne go (0, kI (-1), kI (-1), 0) (t0 + 1)).2.2.1)))) 58 (.inr (2, [.ref (ad 59), .ref (ad 60), .ref (ad 61), .ref (ad 62), .ref (ad 63), .ref (ad 64), .ref (ad 65), .ref (ad 67), .int ((cCn gP n0 n1 pl ne go (0, kI (-1), kI (-1), 0) (t0 + 1)).1), .int tc, .int ((cCn gP n0 n1 pl ne go (0, kI (-1), kI (-1), 0) (t0 + 1)).2.2.2), .int tu]))) (by rw [show (cCn gP n0 n1 pl ne go (0, kI (-1), kI (-1), 0) (t0 + 1)) = _ from (if_neg c_8).trans ((if_neg c_9).trans (rfl))]) ?_
            refine gj_lv [0, 5, 6, 7, 8, 9] rfl ?_
            exact ih_3 (t0 + 1) (by omega)
        · refine gj_iconst C (v := (-1)) (by decide) dX2_confirmSpots_79 ?_
          refine gj_goto C 95 dX2_confirmSpots_80 (by decide) ?_
          refine gj_istore C (lv' := [(9, .int (-1)), (8, .int (s_X1_part (nI t0) (2 : Int32) (nI n1) gP)), (7, .int (s_X1_part (nI t0) (1 : Int32) (nI n1) gP)), (6, .int (s_X1_part (nI t0) (0 : Int32) (nI n1) gP)), (5, .int (nI t0)), (0, .ref (ad 58)), (1, .int (nI n0)), (2, .ref (ad 4)), (3, .int ne), (4, .int go)]) dX2_confirmSpots_95 (by decide) rfl ?_
          refine gj_iload C dX2_confirmSpots_97 0 rfl ?_
          refine gj_iconst C (v := (-1)) (by decide) dX2_confirmSpots_99 ?_
          refine gj_icmp_eq C 155 dX2_confirmSpots_100 (by decide) (fun c_10 => ?_) (fun c_10 => absurd (by decide) c_10)
          refine gj_iinc C (v := nI (t0 + 1)) (lv' := [(5, .int (nI (t0 + 1))), (9, .int (-1)), (8, .int (s_X1_part (nI t0) (2 : Int32) (nI n1) gP)), (7, .int (s_X1_part (nI t0) (1 : Int32) (nI n1) gP)), (6, .int (s_X1_part (nI t0) (0 : Int32) (nI n1) gP)), (0, .ref (ad 58)), (1, .int (nI n0)), (2, .ref (ad 4)), (3, .int ne), (4, .int go)]) dX2_confirmSpots_155 4 rfl (nI_1 _) (by decide) rfl ?_
          refine gj_goto C 29 dX2_confirmSpots_158 (by decide) ?_
          refine gj_setf (g := va_up (va_up (va_up f 62 (.inl (ca 0, 8, .inl ((cCn gP n0 n1 pl ne go (0, kI (-1), kI (-1), 0) (t0 + 1)).2.1)))) 63 (.inl (ca 0, 8, .inl ((cCn gP n0 n1 pl ne go (0, kI (-1), kI (-1), 0) (t0 + 1)).2.2.1)))) 58 (.inr (2, [.ref (ad 59), .ref (ad 60), .ref (ad 61), .ref (ad 62), .ref (ad 63), .ref (ad 64), .ref (ad 65), .ref (ad 67), .int ((cCn gP n0 n1 pl ne go (0, kI (-1), kI (-1), 0) (t0 + 1)).1), .int tc, .int ((cCn gP n0 n1 pl ne go (0, kI (-1), kI (-1), 0) (t0 + 1)).2.2.2), .int tu]))) (by rw [show (cCn gP n0 n1 pl ne go (0, kI (-1), kI (-1), 0) (t0 + 1)) = _ from (if_pos c_8).trans (rfl)]) ?_
          refine gj_lv [0, 5, 6, 7, 8, 9] rfl ?_
          exact ih_3 (t0 + 1) (by omega)
    refine gj_lv [0, 1, 2, 3, 4, 5] rfl ?_
    exact loop_2 (n1 - 0) 0 (by omega)
set_option maxHeartbeats 400000 in
set_option maxRecDepth 100000 in
theorem c_solve_58 {l : Launch} {D : va_G} {ca ss ad : Nat → Nat} {f : Nat → va_E} (n0 n1 tb : Nat) (go : Int32) (us tc cc tu : Int32) (ts : Nat → Int32) (tr : Nat → Int32) (tp : Nat → Int32) (cs : Nat → Int32) (cf : Nat → Int32) (pl : Nat → Int32) (sta : Nat → Int64) (spa : Nat → Int64) (gS gP vo se : Nat → Int32) (hc58 : f 58 = .inr (2, [.ref (ad 59), .ref (ad 60), .ref (ad 61), .ref (ad 62), .ref (ad 63), .ref (ad 64), .ref (ad 65), .ref (ad 67), .int us, .int tc, .int cc, .int tu])) (hc59 : f 59 = .inl (ca 0, 8, .inl ts)) (hc60 : f 60 = .inl (ca 0, 8, .inl tr)) (hc61 : f 61 = .inl (ca 0, 8, .inl tp)) (hc62 : f 62 = .inl (ca 0, 8, .inl cs)) (hc63 : f 63 = .inl (ca 0, 8, .inl cf)) (hc64 : f 64 = .inl (ca 0, 36, .inl pl)) (hc66 : f 66 = .inl (ca 1, 12, .inr (.inl sta))) (hc68 : f 68 = .inl (ca 1, 12, .inr (.inl spa))) (hc65 : f 65 = .inr (0, [.ref (ad 66)])) (hc67 : f 67 = .inr (0, [.ref (ad 68)])) (hc2 : f 2 = .inr (1, [.ref (ad 3), .int 12, .int (nI n0)])) (hc3 : f 3 = .inl (ca 0, 36, .inl gS)) (hc4 : f 4 = .inr (1, [.ref (ad 5), .int 8, .int (nI n1)])) (hc5 : f 5 = .inl (ca 0, 24, .inl gP)) (hctb : f tb = .inl (ca 0, 96, .inl vo)) (hc6 : f 6 = .inl (ca 0, 4, .inl se)) (hn0 : n0 ≤ 12) (hn1 : n1 ≤ 8) (htb : 12 < tb ∧ tb < 47) : gMv l D ca ss ad 108 yX2_solve cX2_solve 6 none 4 f [.ref (ad 58), .ref (ad 2), .ref (ad 4), .ref (ad tb), .ref (ad 6), .int go] (fun u => u = va_up (va_up (va_up (va_up (va_up (va_up (va_up (va_up (va_up (f) 58 (.inr (2, [.ref (ad 59), .ref (ad 60), .ref (ad 61), .ref (ad 62), .ref (ad 63), .ref (ad 64), .ref (ad 65), .ref (ad 67), .int ((cConf gP n0 n1 (cTurn gS gP n0 n1 (cTake vo (se 2) n0 n1 tp).1 (cTake vo (se 2) n0 n1 tp).2.2.1 (cTake vo (se 2) n0 n1 tp).2.2.2.2 sta spa pl).2.2.2 (se 3) go (cTurn gS gP n0 n1 (cTake vo (se 2) n0 n1 tp).1 (cTake vo (se 2) n0 n1 tp).2.2.1 (cTake vo (se 2) n0 n1 tp).2.2.2.2 sta spa pl).1).1), .int ((cTake vo (se 2) n0 n1 tp).2.2.2.2), .int ((cConf gP n0 n1 (cTurn gS gP n0 n1 (cTake vo (se 2) n0 n1 tp).1 (cTake vo (se 2) n0 n1 tp).2.2.1 (cTake vo (se 2) n0 n1 tp).2.2.2.2 sta spa pl).2.2.2 (se 3) go (cTurn gS gP n0 n1 (cTake vo (se 2) n0 n1 tp).1 (cTake vo (se 2) n0 n1 tp).2.2.1 (cTake vo (se 2) n0 n1 tp).2.2.2.2 sta spa pl).1).2.2.2), .int ((cTurn gS gP n0 n1 (cTake vo (se 2) n0 n1 tp).1 (cTake vo (se 2) n0 n1 tp).2.2.1 (cTake vo (se 2) n0 n1 tp).2.2.2.2 sta spa pl).1)]))) 59 (.inl (ca 0, 8, .inl ((cTake vo (se 2) n0 n1 tp).1)))) 60 (.inl (ca 0, 8, .inl ((cTake vo (se 2) n0 n1 tp).2.1)))) 61 (.inl (ca 0, 8, .inl ((cTake vo (se 2) n0 n1 tp).2.2.1)))) 62 (.inl (ca 0, 8, .inl ((cConf gP n0 n1 (cTurn gS gP n0 n1 (cTake vo (se 2) n0 n1 tp).1 (cTake vo (se 2) n0 n1 tp).2.2.1 (cTake vo (se 2) n0 n1 tp).2.2.2.2 sta spa pl).2.2.2 (se 3) go (cTurn gS gP n0 n1 (cTake vo (se 2) n0 n1 tp).1 (cTake vo (se 2) n0 n1 tp).2.2.1 (cTake vo (se 2) n0 n1 tp).2.2.2.2 sta spa pl).1).2.1)))) 63 (.inl (ca 0, 8, .inl ((cConf gP n0 n1 (cTurn gS gP n0 n1 (cTake vo (se 2) n0 n1 tp).1 (cTake vo (se 2) n0 n1 tp).2.2.1 (cTake vo (se 2) n0 n1 tp).2.2.2.2 sta spa pl).2.2.2 (se 3) go (cTurn gS gP n0 n1 (cTake vo (se 2) n0 n1 tp).1 (cTake vo (se 2) n0 n1 tp).2.2.1 (cTake vo (se 2) n0 n1 tp).2.2.2.2 sta spa pl).1).2.2.1)))) 64 (.inl (ca 0, 36, .inl ((cTurn gS gP n0 n1 (cTake vo (se 2) n0 n1 tp).1 (cTake vo (se 2) n0 n1 tp).2.2.1 (cTake vo (se 2) n0 n1 tp).2.2.2.2 sta spa pl).2.2.2)))) 66 (.inl (ca 1, 12, .inr (.inl ((cTurn gS gP n0 n1 (cTake vo (se 2) n0 n1 tp).1 (cTake vo (se 2) n0 n1 tp).2.2.1 (cTake vo (se 2) n0 n1 tp).2.2.2.2 sta spa pl).2.1))))) 68 (.inl (ca 1, 12, .inr (.inl ((cTurn gS gP n0 n1 (cTake vo (se 2) n0 n1 tp).1 (cTake vo (se 2) n0 n1 tp).2.2.1 (cTake vo (se 2) n0 n1 tp).2.2.2.2 sta spa pl).2.2.1))))) := by
  refine gMv_ofK (by decide +kernel) (Nat.le_of_ble_eq_true rfl) (lv0 := [(0, .ref (ad 58)), (1, .ref (ad 2)), (2, .ref (ad 4)), (3, .ref (ad tb)), (4, .ref (ad 6)), (5, .int go)]) rfl (fun pT eT sT mT aT below meth cT AT QT C RT => ?_)
  have C : gX pT sT mT aT meth cT AT D ca ss 6 RX2 cX2_solve none := C
  refine gj_setf (up_id hc58).symm ?_
  refine gj_setf (up_id (up_nx (by decide) (hc59))).symm ?_
  refine gj_setf (up_id (up_nx (by decide) (up_nx (by decide) (hc60)))).symm ?_
  refine gj_setf (up_id (up_nx (by decide) (up_nx (by decide) (up_nx (by decide) (hc61))))).symm ?_
  refine gj_setf (up_id (up_nx (by decide) (up_nx (by decide) (up_nx (by decide) (up_nx (by decide) (hc62)))))).symm ?_
  refine gj_setf (up_id (up_nx (by decide) (up_nx (by decide) (up_nx (by decide) (up_nx (by decide) (up_nx (by decide) (hc63))))))).symm ?_
  refine gj_setf (up_id (up_nx (by decide) (up_nx (by decide) (up_nx (by decide) (up_nx (by decide) (up_nx (by decide) (up_nx (by decide) (hc64)))))))).symm ?_
  refine gj_setf (up_id (up_nx (by decide) (up_nx (by decide) (up_nx (by decide) (up_nx (by decide) (up_nx (by decide) (up_nx (by decide) (up_nx (by decide) (hc66))))))))).symm ?_
  refine gj_setf (up_id (up_nx (by decide) (up_nx (by decide) (up_nx (by decide) (up_nx (by decide) (up_nx (by decide) (up_nx (by decide) (up_nx (by decide) (up_nx (by decide) (hc68)))))))))).symm ?_
  refine gj_aload_n C 0 dX2_solve_0 rfl 0 rfl ?_
  refine gj_aload_n C 1 dX2_solve_1 rfl 1 rfl ?_
  refine gj_callVi C mi_X1_size w_578 2 (by decide) (up_nx (by decide) (up_nx (by decide) (up_nx (by decide) (up_nx (by decide) (up_nx (by decide) (up_nx (by decide) (up_nx (by decide) (up_nx (by decide) (up_nx (by decide) (hc2)))))))))) rfl (c_X1_size 2 3 (12 : Int32) (nI n0) 36 gS (up_nx (by decide) (up_nx (by decide) (up_nx (by decide) (up_nx (by decide) (up_nx (by decide) (up_nx (by decide) (up_nx (by decide) (up_nx (by decide) (up_nx (by decide) (hc2)))))))))) (up_nx (by decide) (up_nx (by decide) (up_nx (by decide) (up_nx (by decide) (up_nx (by decide) (up_nx (by decide) (up_nx (by decide) (up_nx (by decide) (up_nx (by decide) (hc3)))))))))) (by decide) (by decide) (by decide)) mc_X1_size ⟨Nat.le_of_ble_eq_true rfl, Nat.le_of_ble_eq_true rfl⟩ (rest := [.ref (ad 58)]) rfl (Nat.le_of_ble_eq_true rfl) dX2_solve_2 (fun r u h => ?_)
  obtain ⟨hr_, hu_⟩ := h; rw [hr_]; subst hu_
  refine gj_aload_n C 2 dX2_solve_5 rfl 2 rfl ?_
  refine gj_callVi C mi_X1_size w_578 4 (by decide) (up_nx (by decide) (up_nx (by decide) (up_nx (by decide) (up_nx (by decide) (up_nx (by decide) (up_nx (by decide) (up_nx (by decide) (up_nx (by decide) (up_nx (by decide) (hc4)))))))))) rfl (c_X1_size 4 5 (8 : Int32) (nI n1) 24 gP (up_nx (by decide) (up_nx (by decide) (up_nx (by decide) (up_nx (by decide) (up_nx (by decide) (up_nx (by decide) (up_nx (by decide) (up_nx (by decide) (up_nx (by decide) (hc4)))))))))) (up_nx (by decide) (up_nx (by decide) (up_nx (by decide) (up_nx (by decide) (up_nx (by decide) (up_nx (by decide) (up_nx (by decide) (up_nx (by decide) (up_nx (by decide) (hc5)))))))))) (by decide) (by decide) (by decide)) mc_X1_size ⟨Nat.le_of_ble_eq_true rfl, Nat.le_of_ble_eq_true rfl⟩ (rest := [.int (s_X1_size (nI n0)), .ref (ad 58)]) rfl (Nat.le_of_ble_eq_true rfl) dX2_solve_6 (fun r u h => ?_)
  obtain ⟨hr_, hu_⟩ := h; rw [hr_]; subst hu_
  refine gj_aload_n C 3 dX2_solve_9 rfl 3 rfl ?_
  refine gj_aload C dX2_solve_10 4 rfl ?_
  refine gj_iconst C (v := 2) (by decide) dX2_solve_12 ?_
  refine gj_iald C 6 (by decide) (up_nx (by decide) (up_nx (by decide) (up_nx (by decide) (up_nx (by decide) (up_nx (by decide) (up_nx (by decide) (up_nx (by decide) (up_nx (by decide) (up_nx (by decide) (hc6)))))))))) (by unfold vp_in; decide) dX2_solve_13 ?_
  refine gj_seti (y := se 2) rfl ?_
  refine gj_callVv C mi_X2_takePairs w_579 58 (by decide) (up_nx (by decide) (up_nx (by decide) (up_nx (by decide) (up_nx (by decide) (up_nx (by decide) (up_nx (by decide) (up_nx (by decide) (up_nx (by decide) (va_up_self _ _ _))))))))) rfl (c_takePairs_58 n0 n1 tb (se 2) us tc cc tu ts tr tp vo (up_nx (by decide) (up_nx (by decide) (up_nx (by decide) (up_nx (by decide) (up_nx (by decide) (up_nx (by decide) (up_nx (by decide) (up_nx (by decide) (va_up_self _ _ _))))))))) (up_nx (by decide) (up_nx (by decide) (up_nx (by decide) (up_nx (by decide) (up_nx (by decide) (up_nx (by decide) (up_nx (by decide) (va_up_self _ _ _)))))))) (up_nx (by decide) (up_nx (by decide) (up_nx (by decide) (up_nx (by decide) (up_nx (by decide) (up_nx (by decide) (va_up_self _ _ _))))))) (up_nx (by decide) (up_nx (by decide) (up_nx (by decide) (up_nx (by decide) (up_nx (by decide) (va_up_self _ _ _)))))) (up_nx (by omega) (up_nx (by omega) (up_nx (by omega) (up_nx (by omega) (up_nx (by omega) (up_nx (by omega) (up_nx (by omega) (up_nx (by omega) (up_nx (by omega) (hctb)))))))))) hn0 hn1 htb) mc_X2_takePairs ⟨Nat.le_of_ble_eq_true rfl, Nat.le_of_ble_eq_true rfl⟩ (rest := []) rfl (Nat.le_of_ble_eq_true rfl) dX2_solve_14 (fun u h => ?_)
  subst h
  refine gj_setf ((up_un ((up_un ((up_un ((up_comm (by decide)).trans (up_un ((up_comm (by decide)).trans (up_un ((up_comm (by decide)).trans (up_un ((up_comm (by decide)).trans (up_un ((up_comm (by decide)).trans (up_un ((up_comm (by decide)).trans (up_un ((up_comm (by decide)).trans (up_un (bx_uu _ _ _ _)))))))))))))))).trans ((up_comm (by decide)).trans (up_un ((up_comm (by decide)).trans (up_un ((up_comm (by decide)).trans (up_un ((up_comm (by decide)).trans (up_un ((up_comm (by decide)).trans (up_un ((up_comm (by decide)).trans (up_un (bx_uu _ _ _ _))))))))))))))).trans ((up_comm (by decide)).trans (up_un ((up_comm (by decide)).trans (up_un ((up_comm (by decide)).trans (up_un ((up_comm (by decide)).trans (up_un ((up_comm (by decide)).trans (up_un ((up_comm (by decide)).trans (up_un ((up_comm (by decide)).trans (up_un ((up_comm (by decide)).trans (up_un (bx_uu _ _ _ _))))))))))))))))))).trans ((up_comm (by decide)).trans (up_un ((up_comm (by decide)).trans (up_un ((up_comm (by decide)).trans (up_un ((up_comm (by decide)).trans (up_un ((up_comm (by decide)).trans (up_un (bx_uu _ _ _ _)))))))))))) ?_
  refine gj_aload_n C 0 dX2_solve_17 rfl 0 rfl ?_
  refine gj_aload_n C 1 dX2_solve_18 rfl 1 rfl ?_
  refine gj_aload_n C 2 dX2_solve_19 rfl 2 rfl ?_
  refine gj_callVv C mi_X2_findTurn w_589 58 (by decide) (up_nx (by decide) (up_nx (by decide) (up_nx (by decide) (up_nx (by decide) (up_nx (by decide) (up_nx (by decide) (up_nx (by decide) (up_nx (by decide) (va_up_self _ _ _))))))))) rfl (c_findTurn_58 n0 n1 ((cTake vo (se 2) n0 n1 tp).2.2.2.1) ((cTake vo (se 2) n0 n1 tp).2.2.2.2) cc tu ((cTake vo (se 2) n0 n1 tp).1) ((cTake vo (se 2) n0 n1 tp).2.2.1) pl sta spa gS gP (up_nx (by decide) (up_nx (by decide) (up_nx (by decide) (up_nx (by decide) (up_nx (by decide) (up_nx (by decide) (up_nx (by decide) (up_nx (by decide) (va_up_self _ _ _))))))))) (up_nx (by decide) (up_nx (by decide) (up_nx (by decide) (up_nx (by decide) (up_nx (by decide) (up_nx (by decide) (up_nx (by decide) (va_up_self _ _ _)))))))) (up_nx (by decide) (up_nx (by decide) (up_nx (by decide) (up_nx (by decide) (up_nx (by decide) (va_up_self _ _ _)))))) (up_nx (by decide) (up_nx (by decide) (va_up_self _ _ _))) (up_nx (by decide) (va_up_self _ _ _)) (va_up_self _ _ _) (up_nx (by decide) (up_nx (by decide) (up_nx (by decide) (up_nx (by decide) (up_nx (by decide) (up_nx (by decide) (up_nx (by decide) (up_nx (by decide) (up_nx (by decide) (hc65)))))))))) (up_nx (by decide) (up_nx (by decide) (up_nx (by decide) (up_nx (by decide) (up_nx (by decide) (up_nx (by decide) (up_nx (by decide) (up_nx (by decide) (up_nx (by decide) (hc67)))))))))) (up_nx (by decide) (up_nx (by decide) (up_nx (by decide) (up_nx (by decide) (up_nx (by decide) (up_nx (by decide) (up_nx (by decide) (up_nx (by decide) (up_nx (by decide) (hc2)))))))))) (up_nx (by decide) (up_nx (by decide) (up_nx (by decide) (up_nx (by decide) (up_nx (by decide) (up_nx (by decide) (up_nx (by decide) (up_nx (by decide) (up_nx (by decide) (hc3)))))))))) (up_nx (by decide) (up_nx (by decide) (up_nx (by decide) (up_nx (by decide) (up_nx (by decide) (up_nx (by decide) (up_nx (by decide) (up_nx (by decide) (up_nx (by decide) (hc4)))))))))) (up_nx (by decide) (up_nx (by decide) (up_nx (by decide) (up_nx (by decide) (up_nx (by decide) (up_nx (by decide) (up_nx (by decide) (up_nx (by decide) (up_nx (by decide) (hc5)))))))))) hn0 hn1 (cTake_tp hn0 hn1)) mc_X2_findTurn ⟨Nat.le_of_ble_eq_true rfl, Nat.le_of_ble_eq_true rfl⟩ (rest := []) rfl (Nat.le_of_ble_eq_true rfl) dX2_solve_20 (fun u h => ?_)
  subst h
  refine gj_setf ((up_un ((up_un ((up_un ((up_comm (by decide)).trans (up_un ((up_comm (by decide)).trans (up_un ((up_comm (by decide)).trans (up_un ((up_comm (by decide)).trans (up_un ((up_comm (by decide)).trans (up_un ((up_comm (by decide)).trans (up_un ((up_comm (by decide)).trans (up_un ((up_comm (by decide)).trans (up_un (bx_uu _ _ _ _)))))))))))))))))).trans ((up_comm (by decide)).trans (up_un (bx_uu _ _ _ _))))).trans (bx_uu _ _ _ _))).trans ((up_comm (by decide)).trans (up_un ((up_comm (by decide)).trans (up_un (bx_uu _ _ _ _)))))) ?_
  refine gj_aload_n C 0 dX2_solve_23 rfl 0 rfl ?_
  refine gj_aload_n C 1 dX2_solve_24 rfl 1 rfl ?_
  refine gj_callVi C mi_X1_size w_578 2 (by decide) (up_nx (by decide) (up_nx (by decide) (up_nx (by decide) (up_nx (by decide) (up_nx (by decide) (up_nx (by decide) (up_nx (by decide) (up_nx (by decide) (up_nx (by decide) (hc2)))))))))) rfl (c_X1_size 2 3 (12 : Int32) (nI n0) 36 gS (up_nx (by decide) (up_nx (by decide) (up_nx (by decide) (up_nx (by decide) (up_nx (by decide) (up_nx (by decide) (up_nx (by decide) (up_nx (by decide) (up_nx (by decide) (hc2)))))))))) (up_nx (by decide) (up_nx (by decide) (up_nx (by decide) (up_nx (by decide) (up_nx (by decide) (up_nx (by decide) (up_nx (by decide) (up_nx (by decide) (up_nx (by decide) (hc3)))))))))) (by decide) (by decide) (by decide)) mc_X1_size ⟨Nat.le_of_ble_eq_true rfl, Nat.le_of_ble_eq_true rfl⟩ (rest := [.ref (ad 58)]) rfl (Nat.le_of_ble_eq_true rfl) dX2_solve_25 (fun r u h => ?_)
  obtain ⟨hr_, hu_⟩ := h; rw [hr_]; subst hu_
  refine gj_aload_n C 2 dX2_solve_28 rfl 2 rfl ?_
  refine gj_aload C dX2_solve_29 4 rfl ?_
  refine gj_iconst C (v := 3) (by decide) dX2_solve_31 ?_
  refine gj_iald C 6 (by decide) (up_nx (by decide) (up_nx (by decide) (up_nx (by decide) (up_nx (by decide) (up_nx (by decide) (up_nx (by decide) (up_nx (by decide) (up_nx (by decide) (up_nx (by decide) (hc6)))))))))) (by unfold vp_in; decide) dX2_solve_32 ?_
  refine gj_seti (y := se 3) rfl ?_
  refine gj_iload C dX2_solve_33 5 rfl ?_
  refine gj_callVv C mi_X2_confirmSpots w_627 58 (by decide) (up_nx (by decide) (up_nx (by decide) (up_nx (by decide) (up_nx (by decide) (up_nx (by decide) (up_nx (by decide) (up_nx (by decide) (up_nx (by decide) (va_up_self _ _ _))))))))) rfl (c_confirm_58 n0 n1 (se 3) go ((cTake vo (se 2) n0 n1 tp).2.2.2.1) ((cTake vo (se 2) n0 n1 tp).2.2.2.2) cc ((cTurn gS gP n0 n1 ((cTake vo (se 2) n0 n1 tp).1) ((cTake vo (se 2) n0 n1 tp).2.2.1) ((cTake vo (se 2) n0 n1 tp).2.2.2.2) sta spa pl).1) cs cf ((cTurn gS gP n0 n1 ((cTake vo (se 2) n0 n1 tp).1) ((cTake vo (se 2) n0 n1 tp).2.2.1) ((cTake vo (se 2) n0 n1 tp).2.2.2.2) sta spa pl).2.2.2) gP (up_nx (by decide) (up_nx (by decide) (up_nx (by decide) (up_nx (by decide) (up_nx (by decide) (up_nx (by decide) (up_nx (by decide) (up_nx (by decide) (va_up_self _ _ _))))))))) (up_nx (by decide) (up_nx (by decide) (up_nx (by decide) (up_nx (by decide) (va_up_self _ _ _))))) (up_nx (by decide) (up_nx (by decide) (up_nx (by decide) (va_up_self _ _ _)))) (up_nx (by decide) (up_nx (by decide) (va_up_self _ _ _))) (up_nx (by decide) (up_nx (by decide) (up_nx (by decide) (up_nx (by decide) (up_nx (by decide) (up_nx (by decide) (up_nx (by decide) (up_nx (by decide) (up_nx (by decide) (hc4)))))))))) (up_nx (by decide) (up_nx (by decide) (up_nx (by decide) (up_nx (by decide) (up_nx (by decide) (up_nx (by decide) (up_nx (by decide) (up_nx (by decide) (up_nx (by decide) (hc5)))))))))) hn0 hn1) mc_X2_confirmSpots ⟨Nat.le_of_ble_eq_true rfl, Nat.le_of_ble_eq_true rfl⟩ (rest := []) rfl (Nat.le_of_ble_eq_true rfl) dX2_solve_35 (fun u h => ?_)
  subst h
  refine gj_setf ((up_un ((up_un ((up_comm (by decide)).trans (up_un ((up_comm (by decide)).trans (up_un ((up_comm (by decide)).trans (up_un ((up_comm (by decide)).trans (up_un (bx_uu _ _ _ _)))))))))).trans ((up_comm (by decide)).trans (up_un ((up_comm (by decide)).trans (up_un ((up_comm (by decide)).trans (up_un (bx_uu _ _ _ _))))))))).trans ((up_comm (by decide)).trans (up_un ((up_comm (by decide)).trans (up_un ((up_comm (by decide)).trans (up_un ((up_comm (by decide)).trans (up_un ((up_comm (by decide)).trans (up_un ((up_comm (by decide)).trans (up_un ((up_comm (by decide)).trans (up_un ((up_comm (by decide)).trans (up_un (bx_uu _ _ _ _)))))))))))))))))) ?_
  exact RT _ _ _ rfl dX2_solve_38
set_option maxHeartbeats 400000 in
set_option maxRecDepth 100000 in
theorem c_farOf_47 {l : Launch} {D : va_G} {ca ss ad : Nat → Nat} {f : Nat → va_E} (iN : Nat) (x y z : Int32) (us tc cc tu : Int32) (pl : Nat → Int32) (hc47 : f 47 = .inr (2, [.ref (ad 48), .ref (ad 49), .ref (ad 50), .ref (ad 51), .ref (ad 52), .ref (ad 53), .ref (ad 54), .ref (ad 56), .int us, .int tc, .int cc, .int tu])) (hc53 : f 53 = .inl (ca 0, 36, .inl pl)) (hi : iN < 12) : gMl l D ca ss ad 108 yX2_farOf cX2_farOf 5 (some .long) 1 f [.ref (ad 47), .int (nI iN), .int x, .int y, .int z] (fun r u => r = cFar pl iN x y z ∧ u = f) := by
  refine gMl_ofK (by decide +kernel) (Nat.le_of_ble_eq_true rfl) (lv0 := [(0, .ref (ad 47)), (1, .int (nI iN)), (2, .int x), (3, .int y), (4, .int z)]) rfl (fun pT eT sT mT aT below meth cT AT QT C RT => ?_)
  have C : gX pT sT mT aT meth cT AT D ca ss 5 RX2 cX2_farOf (some .long) := C
  refine gj_aload_n C 0 dX2_farOf_0 rfl 0 rfl ?_
  refine gj_get C 47 (by decide) hc47 inX2 rfl 5 (by decide) w_215 (v := .ref (ad 53)) rfl dX2_farOf_1 ?_
  refine gj_iconst C (v := 3) (by decide) dX2_farOf_4 ?_
  refine gj_iload_n C 1 dX2_farOf_5 rfl 1 rfl ?_
  refine gj_imul C dX2_farOf_6 ?_
  refine gj_seti (y := nI (3 * iN)) (i3_0 iN) ?_
  refine gj_iald C 53 (by decide) hc53 (vp_in_nI (by omega) (by omega)) dX2_farOf_7 ?_
  refine gj_seti (y := pl (3 * iN)) (congrArg _ (nI_clamp (show (3 * iN) < 2 ^ 31 by omega))) ?_
  refine gj_i2l C dX2_farOf_8 ?_
  refine gj_iload_n C 2 dX2_farOf_9 rfl 2 rfl ?_
  refine gj_i2l C dX2_farOf_10 ?_
  refine gj_lsub C dX2_farOf_11 ?_
  refine gj_mabsl C w_639 w_640 w_57 w_641 ⟨Nat.le_of_ble_eq_true rfl, Nat.le_of_ble_eq_true rfl⟩ (Nat.le_of_ble_eq_true rfl) dX2_farOf_12 ?_
  refine gj_aload_n C 0 dX2_farOf_15 rfl 0 rfl ?_
  refine gj_get C 47 (by decide) hc47 inX2 rfl 5 (by decide) w_215 (v := .ref (ad 53)) rfl dX2_farOf_16 ?_
  refine gj_iconst C (v := 3) (by decide) dX2_farOf_19 ?_
  refine gj_iload_n C 1 dX2_farOf_20 rfl 1 rfl ?_
  refine gj_imul C dX2_farOf_21 ?_
  refine gj_iconst C (v := 1) (by decide) dX2_farOf_22 ?_
  refine gj_iadd C dX2_farOf_23 ?_
  refine gj_seti (y := nI (3 * iN + 1)) (i3_c iN 1) ?_
  refine gj_iald C 53 (by decide) hc53 (vp_in_nI (by omega) (by omega)) dX2_farOf_24 ?_
  refine gj_seti (y := pl (3 * iN + 1)) (congrArg _ (nI_clamp (show (3 * iN + 1) < 2 ^ 31 by omega))) ?_
  refine gj_i2l C dX2_farOf_25 ?_
  refine gj_iload_n C 3 dX2_farOf_26 rfl 3 rfl ?_
  refine gj_i2l C dX2_farOf_27 ?_
  refine gj_lsub C dX2_farOf_28 ?_
  refine gj_mabsl C w_639 w_640 w_57 w_641 ⟨Nat.le_of_ble_eq_true rfl, Nat.le_of_ble_eq_true rfl⟩ (Nat.le_of_ble_eq_true rfl) dX2_farOf_29 ?_
  refine gj_ladd C dX2_farOf_32 ?_
  refine gj_aload_n C 0 dX2_farOf_33 rfl 0 rfl ?_
  refine gj_get C 47 (by decide) hc47 inX2 rfl 5 (by decide) w_215 (v := .ref (ad 53)) rfl dX2_farOf_34 ?_
  refine gj_iconst C (v := 3) (by decide) dX2_farOf_37 ?_
  refine gj_iload_n C 1 dX2_farOf_38 rfl 1 rfl ?_
  refine gj_imul C dX2_farOf_39 ?_
  refine gj_iconst C (v := 2) (by decide) dX2_farOf_40 ?_
  refine gj_iadd C dX2_farOf_41 ?_
  refine gj_seti (y := nI (3 * iN + 2)) (i3_c iN 2) ?_
  refine gj_iald C 53 (by decide) hc53 (vp_in_nI (by omega) (by omega)) dX2_farOf_42 ?_
  refine gj_seti (y := pl (3 * iN + 2)) (congrArg _ (nI_clamp (show (3 * iN + 2) < 2 ^ 31 by omega))) ?_
  refine gj_i2l C dX2_farOf_43 ?_
  refine gj_iload C dX2_farOf_44 4 rfl ?_
  refine gj_i2l C dX2_farOf_46 ?_
  refine gj_lsub C dX2_farOf_47 ?_
  refine gj_mabsl C w_639 w_640 w_57 w_641 ⟨Nat.le_of_ble_eq_true rfl, Nat.le_of_ble_eq_true rfl⟩ (Nat.le_of_ble_eq_true rfl) dX2_farOf_48 ?_
  refine gj_ladd C dX2_farOf_51 ?_
  exact RT _ _ _ _ ⟨rfl, rfl⟩ dX2_farOf_52
set_option maxHeartbeats 400000 in
set_option maxRecDepth 100000 in
theorem c_nearest_47 {l : Launch} {D : va_G} {ca ss ad : Nat → Nat} {f : Nat → va_E} (n0 : Nat) (ne x y z : Int32) (us tc cc tu : Int32) (pl : Nat → Int32) (hc47 : f 47 = .inr (2, [.ref (ad 48), .ref (ad 49), .ref (ad 50), .ref (ad 51), .ref (ad 52), .ref (ad 53), .ref (ad 54), .ref (ad 56), .int us, .int tc, .int cc, .int tu])) (hc53 : f 53 = .inl (ca 0, 36, .inl pl)) (hn0 : n0 ≤ 12) : gMi l D ca ss ad 108 yX2_nearestStar cX2_nearestStar 12 (some .int) 2 f [.ref (ad 47), .int (nI n0), .int ne, .int x, .int y, .int z] (fun r u => r = (cC1 pl us ne x y z n0).1 ∧ u = f) := by
  refine gMi_ofK (by decide +kernel) (Nat.le_of_ble_eq_true rfl) (lv0 := [(0, .ref (ad 47)), (1, .int (nI n0)), (2, .int ne), (3, .int x), (4, .int y), (5, .int z)]) rfl (fun pT eT sT mT aT below meth cT AT QT C RT => ?_)
  have C : gX pT sT mT aT meth cT AT D ca ss 12 RX2 cX2_nearestStar (some .int) := C
  refine gj_iconst C (v := (-1)) (by decide) dX2_nearestStar_0 ?_
  refine gj_istore C (lv' := [(6, .int (-1)), (0, .ref (ad 47)), (1, .int (nI n0)), (2, .int ne), (3, .int x), (4, .int y), (5, .int z)]) dX2_nearestStar_1 (by decide) rfl ?_
  refine gj_iload_n C 2 dX2_nearestStar_3 rfl 3 rfl ?_
  refine gj_i2l C dX2_nearestStar_4 ?_
  refine gj_lconst C (v := 1) rfl dX2_nearestStar_5 ?_
  refine gj_ladd C dX2_nearestStar_6 ?_
  refine gj_lstore C (lv' := [(7, .long (ne.toInt64 + 1)), (6, .int (-1)), (0, .ref (ad 47)), (1, .int (nI n0)), (2, .int ne), (3, .int x), (4, .int y), (5, .int z)]) dX2_nearestStar_7 (by decide) rfl ?_
  refine gj_iconst C (v := 0) (by decide) dX2_nearestStar_9 ?_
  refine gj_seti (y := nI 0) rfl ?_
  refine gj_istore C (lv' := [(9, .int (nI 0)), (7, .long (ne.toInt64 + 1)), (6, .int (-1)), (0, .ref (ad 47)), (1, .int (nI n0)), (2, .int ne), (3, .int x), (4, .int y), (5, .int z)]) dX2_nearestStar_10 (by decide) rfl ?_
  refine gj_lvs (lv' := [(9, .int (nI 0)), (7, .long ((cC1 pl us ne x y z 0).2)), (6, .int ((cC1 pl us ne x y z 0).1)), (0, .ref (ad 47)), (1, .int (nI n0)), (2, .int ne), (3, .int x), (4, .int y), (5, .int z)]) rfl ?_
  have loop_1 : ∀ (m0 t0 : Nat), t0 + m0 = n0 → gJ pT l eT (Rm 2) sT mT aT below meth cT AT QT D ad 108 12 (f) [(9, .int (nI t0)), (7, .long ((cC1 pl us ne x y z t0).2)), (6, .int ((cC1 pl us ne x y z t0).1)), (0, .ref (ad 47)), (1, .int (nI n0)), (2, .int ne), (3, .int x), (4, .int y), (5, .int z)] 12 [] := by
    intro m0
    induction m0 with
    | zero =>
      intro t0 hk_t0  
      refine gj_iload C dX2_nearestStar_12 0 rfl ?_
      refine gj_iload_n C 1 dX2_nearestStar_14 rfl 4 rfl ?_
      refine gj_icmp_ge C 65 dX2_nearestStar_15 (by decide) (fun c_3 => ?_) (fun c_3 => absurd (nI_le (by omega) (by omega)) c_3)
      refine gj_iload C dX2_nearestStar_65 2 rfl ?_
      exact RT _ _ _ _ ⟨by obtain rfl : t0 = n0 := (by omega); rfl, rfl⟩ dX2_nearestStar_67
    | succ m0 ih_2 =>
      intro t0 hk_t0  
      refine gj_iload C dX2_nearestStar_12 0 rfl ?_
      refine gj_iload_n C 1 dX2_nearestStar_14 rfl 4 rfl ?_
      refine gj_icmp_ge C 65 dX2_nearestStar_15 (by decide) (fun c_4 => absurd c_4 (nI_ge (by omega) (by omega))) (fun c_4 => ?_)
      refine gj_aload_n C 0 dX2_nearestStar_18 rfl 3 rfl ?_
      refine gj_iload C dX2_nearestStar_19 0 rfl ?_
      refine gj_iload_n C 3 dX2_nearestStar_21 rfl 6 rfl ?_
      refine gj_iload C dX2_nearestStar_22 7 rfl ?_
      refine gj_iload C dX2_nearestStar_24 8 rfl ?_
      refine gj_callVl C mi_X2_farOf w_635 47 (by decide) hc47 rfl (c_farOf_47 t0 x y z us tc cc tu pl hc47 hc53 (by omega)) mc_X2_farOf ⟨Nat.le_of_ble_eq_true rfl, Nat.le_of_ble_eq_true rfl⟩ (rest := []) rfl (Nat.le_of_ble_eq_true rfl) dX2_nearestStar_26 (fun r u h => ?_)
      obtain ⟨hr_, h⟩ := h; rw [hr_]
      rw [h]
      refine gj_lstore C (lv' := [(10, .long (cFar pl t0 x y z)), (9, .int (nI t0)), (7, .long ((cC1 pl us ne x y z t0).2)), (6, .int ((cC1 pl us ne x y z t0).1)), (0, .ref (ad 47)), (1, .int (nI n0)), (2, .int ne), (3, .int x), (4, .int y), (5, .int z)]) dX2_nearestStar_29 (by decide) rfl ?_
      refine gj_aload_n C 0 dX2_nearestStar_31 rfl 4 rfl ?_
      refine gj_get C 47 (by decide) hc47 inX2 rfl 8 (by decide) w_219 (v := .int us) rfl dX2_nearestStar_32 ?_
      refine gj_iload C dX2_nearestStar_35 1 rfl ?_
      refine gj_ishr C dX2_nearestStar_37 ?_
      refine gj_iconst C (v := 1) (by decide) dX2_nearestStar_38 ?_
      refine gj_iand C dX2_nearestStar_39 ?_
      refine gj_if_ne C 59 dX2_nearestStar_40 (by decide) (fun c_5 => ?_) (fun c_5 => ?_)
      · refine gj_iinc C (v := nI (t0 + 1)) (lv' := [(9, .int (nI (t0 + 1))), (10, .long (cFar pl t0 x y z)), (7, .long ((cC1 pl us ne x y z t0).2)), (6, .int ((cC1 pl us ne x y z t0).1)), (0, .ref (ad 47)), (1, .int (nI n0)), (2, .int ne), (3, .int x), (4, .int y), (5, .int z)]) dX2_nearestStar_59 1 rfl (nI_1 _) (by decide) rfl ?_
        refine gj_goto C 12 dX2_nearestStar_62 (by decide) ?_
        refine gj_lvs (lv' := [(9, .int (nI (t0 + 1))), (10, .long (cFar pl t0 x y z)), (7, .long ((cC1 pl us ne x y z (t0 + 1)).2)), (6, .int ((cC1 pl us ne x y z (t0 + 1)).1)), (0, .ref (ad 47)), (1, .int (nI n0)), (2, .int ne), (3, .int x), (4, .int y), (5, .int z)]) (by rw [show (cC1 pl us ne x y z (t0 + 1)) = _ from (if_neg c_5).trans (rfl)]) ?_
        refine gj_lv [0, 2, 3, 4, 5, 6, 7, 8, 9] rfl ?_
        exact ih_2 (t0 + 1) (by omega)
      · refine gj_lload C dX2_nearestStar_43 0 rfl ?_
        refine gj_lload C dX2_nearestStar_45 2 rfl ?_
        refine gj_lcmp C dX2_nearestStar_47 ?_
        refine gj_if_ge C 59 dX2_nearestStar_48 (by decide) (fun c_6 => ?_) (fun c_6 => ?_)
        · refine gj_iinc C (v := nI (t0 + 1)) (lv' := [(9, .int (nI (t0 + 1))), (10, .long (cFar pl t0 x y z)), (7, .long ((cC1 pl us ne x y z t0).2)), (6, .int ((cC1 pl us ne x y z t0).1)), (0, .ref (ad 47)), (1, .int (nI n0)), (2, .int ne), (3, .int x), (4, .int y), (5, .int z)]) dX2_nearestStar_59 1 rfl (nI_1 _) (by decide) rfl ?_
          refine gj_goto C 12 dX2_nearestStar_62 (by decide) ?_
          refine gj_lvs (lv' := [(9, .int (nI (t0 + 1))), (10, .long (cFar pl t0 x y z)), (7, .long ((cC1 pl us ne x y z (t0 + 1)).2)), (6, .int ((cC1 pl us ne x y z (t0 + 1)).1)), (0, .ref (ad 47)), (1, .int (nI n0)), (2, .int ne), (3, .int x), (4, .int y), (5, .int z)]) (by rw [show (cC1 pl us ne x y z (t0 + 1)) = _ from (if_pos c_5).trans ((if_pos c_6).trans (rfl))]) ?_
          refine gj_lv [0, 2, 3, 4, 5, 6, 7, 8, 9] rfl ?_
          exact ih_2 (t0 + 1) (by omega)
        · refine gj_iload C dX2_nearestStar_51 1 rfl ?_
          refine gj_istore C (lv' := [(6, .int (nI t0)), (10, .long (cFar pl t0 x y z)), (9, .int (nI t0)), (7, .long ((cC1 pl us ne x y z t0).2)), (0, .ref (ad 47)), (1, .int (nI n0)), (2, .int ne), (3, .int x), (4, .int y), (5, .int z)]) dX2_nearestStar_53 (by decide) rfl ?_
          refine gj_lload C dX2_nearestStar_55 1 rfl ?_
          refine gj_lstore C (lv' := [(7, .long (cFar pl t0 x y z)), (6, .int (nI t0)), (10, .long (cFar pl t0 x y z)), (9, .int (nI t0)), (0, .ref (ad 47)), (1, .int (nI n0)), (2, .int ne), (3, .int x), (4, .int y), (5, .int z)]) dX2_nearestStar_57 (by decide) rfl ?_
          refine gj_iinc C (v := nI (t0 + 1)) (lv' := [(9, .int (nI (t0 + 1))), (7, .long (cFar pl t0 x y z)), (6, .int (nI t0)), (10, .long (cFar pl t0 x y z)), (0, .ref (ad 47)), (1, .int (nI n0)), (2, .int ne), (3, .int x), (4, .int y), (5, .int z)]) dX2_nearestStar_59 3 rfl (nI_1 _) (by decide) rfl ?_
          refine gj_goto C 12 dX2_nearestStar_62 (by decide) ?_
          refine gj_lvs (lv' := [(9, .int (nI (t0 + 1))), (7, .long ((cC1 pl us ne x y z (t0 + 1)).2)), (6, .int ((cC1 pl us ne x y z (t0 + 1)).1)), (10, .long (cFar pl t0 x y z)), (0, .ref (ad 47)), (1, .int (nI n0)), (2, .int ne), (3, .int x), (4, .int y), (5, .int z)]) (by rw [show (cC1 pl us ne x y z (t0 + 1)) = _ from (if_pos c_5).trans ((if_neg c_6).trans (rfl))]) ?_
          refine gj_lv [0, 1, 2, 4, 5, 6, 7, 8, 9] rfl ?_
          exact ih_2 (t0 + 1) (by omega)
  refine gj_lv [0, 1, 2, 3, 4, 5, 6, 7, 8] rfl ?_
  exact loop_1 (n0 - 0) 0 (by omega)
set_option maxHeartbeats 400000 in
set_option maxRecDepth 100000 in
theorem c_findTurn_47 {l : Launch} {D : va_G} {ca ss ad : Nat → Nat} {f : Nat → va_E} (n0 n1 : Nat) (us tc cc tu : Int32) (ts : Nat → Int32) (tp : Nat → Int32) (pl : Nat → Int32) (sta : Nat → Int64) (spa : Nat → Int64) (gS gP : Nat → Int32) (hc47 : f 47 = .inr (2, [.ref (ad 48), .ref (ad 49), .ref (ad 50), .ref (ad 51), .ref (ad 52), .ref (ad 53), .ref (ad 54), .ref (ad 56), .int us, .int tc, .int cc, .int tu])) (hc48 : f 48 = .inl (ca 0, 8, .inl ts)) (hc50 : f 50 = .inl (ca 0, 8, .inl tp)) (hc53 : f 53 = .inl (ca 0, 36, .inl pl)) (hc55 : f 55 = .inl (ca 1, 12, .inr (.inl sta))) (hc57 : f 57 = .inl (ca 1, 12, .inr (.inl spa))) (hc54 : f 54 = .inr (0, [.ref (ad 55)])) (hc56 : f 56 = .inr (0, [.ref (ad 57)])) (hc2 : f 2 = .inr (1, [.ref (ad 3), .int 12, .int (nI n0)])) (hc3 : f 3 = .inl (ca 0, 36, .inl gS)) (hc4 : f 4 = .inr (1, [.ref (ad 5), .int 8, .int (nI n1)])) (hc5 : f 5 = .inl (ca 0, 24, .inl gP)) (hn0 : n0 ≤ 12) (hn1 : n1 ≤ 8) (htp : 2 ≤ tc → vp_in (tp 0) 8 ∧ vp_in (tp 1) 8) : gMv l D ca ss ad 108 yX2_findTurn cX2_findTurn 6 none 3 f [.ref (ad 47), .ref (ad 2), .ref (ad 4)] (fun u => u = va_up (va_up (va_up (va_up (f) 47 (.inr (2, [.ref (ad 48), .ref (ad 49), .ref (ad 50), .ref (ad 51), .ref (ad 52), .ref (ad 53), .ref (ad 54), .ref (ad 56), .int us, .int tc, .int cc, .int ((cTurn gS gP n0 n1 ts tp tc sta spa pl).1)]))) 55 (.inl (ca 1, 12, .inr (.inl ((cTurn gS gP n0 n1 ts tp tc sta spa pl).2.1))))) 57 (.inl (ca 1, 12, .inr (.inl ((cTurn gS gP n0 n1 ts tp tc sta spa pl).2.2.1))))) 53 (.inl (ca 0, 36, .inl ((cTurn gS gP n0 n1 ts tp tc sta spa pl).2.2.2)))) := by
  refine gMv_ofK (by decide +kernel) (Nat.le_of_ble_eq_true rfl) (lv0 := [(0, .ref (ad 47)), (1, .ref (ad 2)), (2, .ref (ad 4))]) rfl (fun pT eT sT mT aT below meth cT AT QT C RT => ?_)
  have C : gX pT sT mT aT meth cT AT D ca ss 6 RX2 cX2_findTurn none := C
  refine gj_setf (up_id hc47).symm ?_
  refine gj_setf (up_id (up_nx (by decide) (hc55))).symm ?_
  refine gj_setf (up_id (up_nx (by decide) (up_nx (by decide) (hc57)))).symm ?_
  refine gj_setf (up_id (up_nx (by decide) (up_nx (by decide) (up_nx (by decide) (hc53))))).symm ?_
  refine gj_aload_n C 0 dX2_findTurn_0 rfl 0 rfl ?_
  refine gj_iconst C (v := 0) (by decide) dX2_findTurn_1 ?_
  refine gj_putS C 47 (by decide) (up_nx (by decide) (up_nx (by decide) (up_nx (by decide) (va_up_self _ _ _)))) inX2 rfl 11 (by decide) tyX2 tyX2_ok nmX2 w_225 rfl (v := .int 0) (fs' := [.ref (ad 48), .ref (ad 49), .ref (ad 50), .ref (ad 51), .ref (ad 52), .ref (ad 53), .ref (ad 54), .ref (ad 56), .int us, .int tc, .int cc, .int 0]) rfl rfl (Nat.le_of_ble_eq_true rfl) rfl dX2_findTurn_2 ?_
  refine gj_setf ((up_comm (by decide)).trans (up_un ((up_comm (by decide)).trans (up_un ((up_comm (by decide)).trans (up_un (bx_uu _ _ _ _))))))) ?_
  refine gj_aload_n C 0 dX2_findTurn_5 rfl 0 rfl ?_
  refine gj_get C 47 (by decide) (up_nx (by decide) (up_nx (by decide) (up_nx (by decide) (va_up_self _ _ _)))) inX2 rfl 9 (by decide) w_220 (v := .int tc) rfl dX2_findTurn_6 ?_
  refine gj_iconst C (v := 2) (by decide) dX2_findTurn_9 ?_
  refine gj_icmp_ge C 14 dX2_findTurn_10 (by decide) (fun c_1 => ?_) (fun c_1 => ?_)
  · refine gj_aload_n C 0 dX2_findTurn_14 rfl 0 rfl ?_
    refine gj_get C 47 (by decide) (up_nx (by decide) (up_nx (by decide) (up_nx (by decide) (va_up_self _ _ _)))) inX2 rfl 2 (by decide) w_210 (v := .ref (ad 50)) rfl dX2_findTurn_15 ?_
    refine gj_iconst C (v := 0) (by decide) dX2_findTurn_18 ?_
    refine gj_iald C 50 (by decide) (up_nx (by decide) (up_nx (by decide) (up_nx (by decide) (up_nx (by decide) (hc50))))) (by unfold vp_in; decide) dX2_findTurn_19 ?_
    refine gj_seti (y := tp 0) rfl ?_
    refine gj_istore_n C (lv' := [(3, .int (tp 0)), (0, .ref (ad 47)), (1, .ref (ad 2)), (2, .ref (ad 4))]) 3 dX2_findTurn_20 rfl (by decide) rfl ?_
    refine gj_aload_n C 0 dX2_findTurn_21 rfl 1 rfl ?_
    refine gj_get C 47 (by decide) (up_nx (by decide) (up_nx (by decide) (up_nx (by decide) (va_up_self _ _ _)))) inX2 rfl 2 (by decide) w_210 (v := .ref (ad 50)) rfl dX2_findTurn_22 ?_
    refine gj_iconst C (v := 1) (by decide) dX2_findTurn_25 ?_
    refine gj_iald C 50 (by decide) (up_nx (by decide) (up_nx (by decide) (up_nx (by decide) (up_nx (by decide) (hc50))))) (by unfold vp_in; decide) dX2_findTurn_26 ?_
    refine gj_seti (y := tp 1) rfl ?_
    refine gj_istore C (lv' := [(4, .int (tp 1)), (3, .int (tp 0)), (0, .ref (ad 47)), (1, .ref (ad 2)), (2, .ref (ad 4))]) dX2_findTurn_27 (by decide) rfl ?_
    refine gj_aload_n C 0 dX2_findTurn_29 rfl 2 rfl ?_
    refine gj_get C 47 (by decide) (up_nx (by decide) (up_nx (by decide) (up_nx (by decide) (va_up_self _ _ _)))) inX2 rfl 7 (by decide) w_218 (v := .ref (ad 56)) rfl dX2_findTurn_30 ?_
    refine gj_aload_n C 2 dX2_findTurn_33 rfl 4 rfl ?_
    refine gj_iload_n C 3 dX2_findTurn_34 rfl 1 rfl ?_
    refine gj_iload C dX2_findTurn_35 0 rfl ?_
    refine gj_callVv C mi_X0_build w_593 56 (by decide) (up_nx (by decide) (up_nx (by decide) (up_nx (by decide) (up_nx (by decide) (hc56))))) rfl (c_X0_build 56 57 4 5 (tp 0) (tp 1) spa (8 : Int32) (nI n1) 24 gP (up_nx (by decide) (up_nx (by decide) (up_nx (by decide) (up_nx (by decide) (hc56))))) (up_nx (by decide) (va_up_self _ _ _)) (up_nx (by decide) (up_nx (by decide) (up_nx (by decide) (up_nx (by decide) (hc4))))) (up_nx (by decide) (up_nx (by decide) (up_nx (by decide) (up_nx (by decide) (hc5))))) (by decide) (by decide) (by decide) (by decide) (by decide) (by decide) (by decide) (by decide) (by decide) (by decide) (szk (by omega) (by omega))) mc_X0_build ⟨Nat.le_of_ble_eq_true rfl, Nat.le_of_ble_eq_true rfl⟩ (rest := []) rfl (Nat.le_of_ble_eq_true rfl) dX2_findTurn_37 (fun u h => ?_)
    subst h
    refine gj_setf ((up_comm (by decide)).trans (up_un (bx_uu _ _ _ _))) ?_
    refine gj_setf (g := va_up (va_up (va_up (va_up f 47 (.inr (2, [.ref (ad 48), .ref (ad 49), .ref (ad 50), .ref (ad 51), .ref (ad 52), .ref (ad 53), .ref (ad 54), .ref (ad 56), .int us, .int tc, .int cc, .int 0]))) 55 (.inl (ca 1, 12, .inr (.inl sta)))) 57 (.inl (ca 1, 12, .inr (.inl (cSPA gP n1 tp spa))))) 53 (.inl (ca 0, 36, .inl pl))) rfl ?_
    refine gj_aload_n C 0 dX2_findTurn_40 rfl 2 rfl ?_
    refine gj_get C 47 (by decide) (up_nx (by decide) (up_nx (by decide) (up_nx (by decide) (va_up_self _ _ _)))) inX2 rfl 6 (by decide) w_217 (v := .ref (ad 54)) rfl dX2_findTurn_41 ?_
    refine gj_aload_n C 1 dX2_findTurn_44 rfl 3 rfl ?_
    refine gj_aload_n C 0 dX2_findTurn_45 rfl 2 rfl ?_
    refine gj_get C 47 (by decide) (up_nx (by decide) (up_nx (by decide) (up_nx (by decide) (va_up_self _ _ _)))) inX2 rfl 0 (by decide) w_206 (v := .ref (ad 48)) rfl dX2_findTurn_46 ?_
    refine gj_iload_n C 3 dX2_findTurn_49 rfl 1 rfl ?_
    refine gj_iald C 48 (by decide) (up_nx (by decide) (up_nx (by decide) (up_nx (by decide) (up_nx (by decide) (hc48))))) (htp c_1).1 dX2_findTurn_50 ?_
    refine gj_aload_n C 0 dX2_findTurn_51 rfl 2 rfl ?_
    refine gj_get C 47 (by decide) (up_nx (by decide) (up_nx (by decide) (up_nx (by decide) (va_up_self _ _ _)))) inX2 rfl 0 (by decide) w_206 (v := .ref (ad 48)) rfl dX2_findTurn_52 ?_
    refine gj_iload C dX2_findTurn_55 0 rfl ?_
    refine gj_iald C 48 (by decide) (up_nx (by decide) (up_nx (by decide) (up_nx (by decide) (up_nx (by decide) (hc48))))) (htp c_1).2 dX2_findTurn_57 ?_
    refine gj_callVv C mi_X0_build w_593 54 (by decide) (up_nx (by decide) (up_nx (by decide) (up_nx (by decide) (up_nx (by decide) (hc54))))) rfl (c_X0_build 54 55 2 3 (ts (tp 0).toNatClampNeg) (ts (tp 1).toNatClampNeg) sta (12 : Int32) (nI n0) 36 gS (up_nx (by decide) (up_nx (by decide) (up_nx (by decide) (up_nx (by decide) (hc54))))) (up_nx (by decide) (up_nx (by decide) (va_up_self _ _ _))) (up_nx (by decide) (up_nx (by decide) (up_nx (by decide) (up_nx (by decide) (hc2))))) (up_nx (by decide) (up_nx (by decide) (up_nx (by decide) (up_nx (by decide) (hc3))))) (by decide) (by decide) (by decide) (by decide) (by decide) (by decide) (by decide) (by decide) (by decide) (by decide) (szk (by omega) (by omega))) mc_X0_build ⟨Nat.le_of_ble_eq_true rfl, Nat.le_of_ble_eq_true rfl⟩ (rest := []) rfl (Nat.le_of_ble_eq_true rfl) dX2_findTurn_58 (fun u h => ?_)
    subst h
    refine gj_setf ((up_comm (by decide)).trans (up_un ((up_comm (by decide)).trans (up_un (bx_uu _ _ _ _))))) ?_
    refine gj_setf (g := va_up (va_up (va_up (va_up f 47 (.inr (2, [.ref (ad 48), .ref (ad 49), .ref (ad 50), .ref (ad 51), .ref (ad 52), .ref (ad 53), .ref (ad 54), .ref (ad 56), .int us, .int tc, .int cc, .int 0]))) 55 (.inl (ca 1, 12, .inr (.inl (cSTA gS n0 ts tp sta))))) 57 (.inl (ca 1, 12, .inr (.inl (cSPA gP n1 tp spa))))) 53 (.inl (ca 0, 36, .inl pl))) rfl ?_
    refine gj_aload_n C 0 dX2_findTurn_61 rfl 2 rfl ?_
    refine gj_aload_n C 0 dX2_findTurn_62 rfl 2 rfl ?_
    refine gj_get C 47 (by decide) (up_nx (by decide) (up_nx (by decide) (up_nx (by decide) (va_up_self _ _ _)))) inX2 rfl 7 (by decide) w_218 (v := .ref (ad 56)) rfl dX2_findTurn_63 ?_
    refine gj_callVi C mi_X0_isFlat w_602 56 (by decide) (up_nx (by decide) (up_nx (by decide) (up_nx (by decide) (up_nx (by decide) (hc56))))) rfl (c_X0_isFlat 56 57 (cSPA gP n1 tp spa) (up_nx (by decide) (up_nx (by decide) (up_nx (by decide) (up_nx (by decide) (hc56))))) (up_nx (by decide) (va_up_self _ _ _)) (by decide) (by decide) (by decide)) mc_X0_isFlat ⟨Nat.le_of_ble_eq_true rfl, Nat.le_of_ble_eq_true rfl⟩ (rest := [.ref (ad 47)]) rfl (Nat.le_of_ble_eq_true rfl) dX2_findTurn_66 (fun r u h => ?_)
    obtain ⟨hr_, hu_⟩ := h; rw [hr_]; subst hu_
    refine gj_if_ne C 86 dX2_findTurn_69 (by decide) (fun c_2 => ?_) (fun c_2 => ?_)
    · refine gj_iconst C (v := 0) (by decide) dX2_findTurn_86 ?_
      refine gj_putS C 47 (by decide) (up_nx (by decide) (up_nx (by decide) (up_nx (by decide) (va_up_self _ _ _)))) inX2 rfl 11 (by decide) tyX2 tyX2_ok nmX2 w_225 rfl (v := .int 0) (fs' := [.ref (ad 48), .ref (ad 49), .ref (ad 50), .ref (ad 51), .ref (ad 52), .ref (ad 53), .ref (ad 54), .ref (ad 56), .int us, .int tc, .int cc, .int 0]) rfl rfl (Nat.le_of_ble_eq_true rfl) rfl dX2_findTurn_87 ?_
      refine gj_setf ((up_comm (by decide)).trans (up_un ((up_comm (by decide)).trans (up_un ((up_comm (by decide)).trans (up_un (bx_uu _ _ _ _))))))) ?_
      refine gj_iconst C (v := 0) (by decide) dX2_findTurn_90 ?_
      refine gj_seti (y := nI 0) rfl ?_
      refine gj_istore C (lv' := [(5, .int (nI 0)), (4, .int (tp 1)), (3, .int (tp 0)), (0, .ref (ad 47)), (1, .ref (ad 2)), (2, .ref (ad 4))]) dX2_findTurn_91 (by decide) rfl ?_
      refine gj_aload_n C 0 dX2_findTurn_93 rfl 3 rfl ?_
      refine gj_get C 47 (by decide) (up_nx (by decide) (up_nx (by decide) (up_nx (by decide) (va_up_self _ _ _)))) inX2 rfl 11 (by decide) w_225 (v := .int 0) rfl dX2_findTurn_94 ?_
      refine gj_if_eq C 142 dX2_findTurn_97 (by decide) (fun c_3 => ?_) (fun c_3 => absurd (by decide) c_3)
      exact RT _ _ _ (by rw [show (cTurn gS gP n0 n1 ts tp tc sta spa pl) = (0, (cSTA gS n0 ts tp sta), (cSPA gP n1 tp spa), pl) from (if_pos c_1).trans ((if_neg c_2).trans (rfl))]) dX2_findTurn_142
    · refine gj_aload_n C 0 dX2_findTurn_72 rfl 2 rfl ?_
      refine gj_get C 47 (by decide) (up_nx (by decide) (up_nx (by decide) (up_nx (by decide) (va_up_self _ _ _)))) inX2 rfl 6 (by decide) w_217 (v := .ref (ad 54)) rfl dX2_findTurn_73 ?_
      refine gj_callVi C mi_X0_isFlat w_602 54 (by decide) (up_nx (by decide) (up_nx (by decide) (up_nx (by decide) (up_nx (by decide) (hc54))))) rfl (c_X0_isFlat 54 55 (cSTA gS n0 ts tp sta) (up_nx (by decide) (up_nx (by decide) (up_nx (by decide) (up_nx (by decide) (hc54))))) (up_nx (by decide) (up_nx (by decide) (va_up_self _ _ _))) (by decide) (by decide) (by decide)) mc_X0_isFlat ⟨Nat.le_of_ble_eq_true rfl, Nat.le_of_ble_eq_true rfl⟩ (rest := [.ref (ad 47)]) rfl (Nat.le_of_ble_eq_true rfl) dX2_findTurn_76 (fun r u h => ?_)
      obtain ⟨hr_, hu_⟩ := h; rw [hr_]; subst hu_
      refine gj_if_ne C 86 dX2_findTurn_79 (by decide) (fun c_4 => ?_) (fun c_4 => ?_)
      · refine gj_iconst C (v := 0) (by decide) dX2_findTurn_86 ?_
        refine gj_putS C 47 (by decide) (up_nx (by decide) (up_nx (by decide) (up_nx (by decide) (va_up_self _ _ _)))) inX2 rfl 11 (by decide) tyX2 tyX2_ok nmX2 w_225 rfl (v := .int 0) (fs' := [.ref (ad 48), .ref (ad 49), .ref (ad 50), .ref (ad 51), .ref (ad 52), .ref (ad 53), .ref (ad 54), .ref (ad 56), .int us, .int tc, .int cc, .int 0]) rfl rfl (Nat.le_of_ble_eq_true rfl) rfl dX2_findTurn_87 ?_
        refine gj_setf ((up_comm (by decide)).trans (up_un ((up_comm (by decide)).trans (up_un ((up_comm (by decide)).trans (up_un (bx_uu _ _ _ _))))))) ?_
        refine gj_iconst C (v := 0) (by decide) dX2_findTurn_90 ?_
        refine gj_seti (y := nI 0) rfl ?_
        refine gj_istore C (lv' := [(5, .int (nI 0)), (4, .int (tp 1)), (3, .int (tp 0)), (0, .ref (ad 47)), (1, .ref (ad 2)), (2, .ref (ad 4))]) dX2_findTurn_91 (by decide) rfl ?_
        refine gj_aload_n C 0 dX2_findTurn_93 rfl 3 rfl ?_
        refine gj_get C 47 (by decide) (up_nx (by decide) (up_nx (by decide) (up_nx (by decide) (va_up_self _ _ _)))) inX2 rfl 11 (by decide) w_225 (v := .int 0) rfl dX2_findTurn_94 ?_
        refine gj_if_eq C 142 dX2_findTurn_97 (by decide) (fun c_5 => ?_) (fun c_5 => absurd (by decide) c_5)
        exact RT _ _ _ (by rw [show (cTurn gS gP n0 n1 ts tp tc sta spa pl) = (0, (cSTA gS n0 ts tp sta), (cSPA gP n1 tp spa), pl) from (if_pos c_1).trans ((if_pos c_2).trans ((if_neg c_4).trans (rfl)))]) dX2_findTurn_142
      · refine gj_iconst C (v := 1) (by decide) dX2_findTurn_82 ?_
        refine gj_goto C 87 dX2_findTurn_83 (by decide) ?_
        refine gj_putS C 47 (by decide) (up_nx (by decide) (up_nx (by decide) (up_nx (by decide) (va_up_self _ _ _)))) inX2 rfl 11 (by decide) tyX2 tyX2_ok nmX2 w_225 rfl (v := .int 1) (fs' := [.ref (ad 48), .ref (ad 49), .ref (ad 50), .ref (ad 51), .ref (ad 52), .ref (ad 53), .ref (ad 54), .ref (ad 56), .int us, .int tc, .int cc, .int 1]) rfl rfl (Nat.le_of_ble_eq_true rfl) rfl dX2_findTurn_87 ?_
        refine gj_setf ((up_comm (by decide)).trans (up_un ((up_comm (by decide)).trans (up_un ((up_comm (by decide)).trans (up_un (bx_uu _ _ _ _))))))) ?_
        refine gj_iconst C (v := 0) (by decide) dX2_findTurn_90 ?_
        refine gj_seti (y := nI 0) rfl ?_
        refine gj_istore C (lv' := [(5, .int (nI 0)), (4, .int (tp 1)), (3, .int (tp 0)), (0, .ref (ad 47)), (1, .ref (ad 2)), (2, .ref (ad 4))]) dX2_findTurn_91 (by decide) rfl ?_
        refine gj_setf (g := va_up (va_up (va_up (va_up f 47 (.inr (2, [.ref (ad 48), .ref (ad 49), .ref (ad 50), .ref (ad 51), .ref (ad 52), .ref (ad 53), .ref (ad 54), .ref (ad 56), .int us, .int tc, .int cc, .int 1]))) 55 (.inl (ca 1, 12, .inr (.inl (cSTA gS n0 ts tp sta))))) 57 (.inl (ca 1, 12, .inr (.inl (cSPA gP n1 tp spa))))) 53 (.inl (ca 0, 36, .inl (cPn (cSTA gS n0 ts tp sta) (cSPA gP n1 tp spa) gS n0 pl 0)))) rfl ?_
        have loop_6 : ∀ (m0 t0 : Nat), t0 + m0 = n0 → gJ pT l eT (Rm 3) sT mT aT below meth cT AT QT D ad 108 6 (va_up (va_up (va_up (va_up f 47 (.inr (2, [.ref (ad 48), .ref (ad 49), .ref (ad 50), .ref (ad 51), .ref (ad 52), .ref (ad 53), .ref (ad 54), .ref (ad 56), .int us, .int tc, .int cc, .int 1]))) 55 (.inl (ca 1, 12, .inr (.inl (cSTA gS n0 ts tp sta))))) 57 (.inl (ca 1, 12, .inr (.inl (cSPA gP n1 tp spa))))) 53 (.inl (ca 0, 36, .inl (cPn (cSTA gS n0 ts tp sta) (cSPA gP n1 tp spa) gS n0 pl t0)))) [(5, .int (nI t0)), (0, .ref (ad 47)), (1, .ref (ad 2)), (2, .ref (ad 4))] 93 [] := by
          intro m0
          induction m0 with
          | zero =>
            intro t0 hk_t0  
            refine gj_aload_n C 0 dX2_findTurn_93 rfl 1 rfl ?_
            refine gj_get C 47 (by decide) (up_nx (by decide) (up_nx (by decide) (up_nx (by decide) (va_up_self _ _ _)))) inX2 rfl 11 (by decide) w_225 (v := .int 1) rfl dX2_findTurn_94 ?_
            refine gj_if_eq C 142 dX2_findTurn_97 (by decide) (fun c_8 => absurd c_8 (by decide)) (fun c_8 => ?_)
            refine gj_iload C dX2_findTurn_100 0 rfl ?_
            refine gj_aload_n C 1 dX2_findTurn_102 rfl 2 rfl ?_
            refine gj_callVi C mi_X1_size w_578 2 (by decide) (up_nx (by decide) (up_nx (by decide) (up_nx (by decide) (up_nx (by decide) (hc2))))) rfl (c_X1_size 2 3 (12 : Int32) (nI n0) 36 gS (up_nx (by decide) (up_nx (by decide) (up_nx (by decide) (up_nx (by decide) (hc2))))) (up_nx (by decide) (up_nx (by decide) (up_nx (by decide) (up_nx (by decide) (hc3))))) (by decide) (by decide) (by decide)) mc_X1_size ⟨Nat.le_of_ble_eq_true rfl, Nat.le_of_ble_eq_true rfl⟩ (rest := [.int (nI t0)]) rfl (Nat.le_of_ble_eq_true rfl) dX2_findTurn_103 (fun r u h => ?_)
            obtain ⟨hr_, hu_⟩ := h; rw [hr_]; subst hu_
            refine gj_icmp_ge C 142 dX2_findTurn_106 (by decide) (fun c_9 => ?_) (fun c_9 => absurd (nI_le (by omega) (by omega)) c_9)
            exact RT _ _ _ (by rw [show (cTurn gS gP n0 n1 ts tp tc sta spa pl) = (1, (cSTA gS n0 ts tp sta), (cSPA gP n1 tp spa), (cPn (cSTA gS n0 ts tp sta) (cSPA gP n1 tp spa) gS n0 pl n0)) from (if_pos c_1).trans ((if_pos c_2).trans ((if_pos c_4).trans (rfl)))]; obtain rfl : t0 = n0 := (by omega); rfl) dX2_findTurn_142
          | succ m0 ih_7 =>
            intro t0 hk_t0  
            refine gj_aload_n C 0 dX2_findTurn_93 rfl 1 rfl ?_
            refine gj_get C 47 (by decide) (up_nx (by decide) (up_nx (by decide) (up_nx (by decide) (va_up_self _ _ _)))) inX2 rfl 11 (by decide) w_225 (v := .int 1) rfl dX2_findTurn_94 ?_
            refine gj_if_eq C 142 dX2_findTurn_97 (by decide) (fun c_10 => absurd c_10 (by decide)) (fun c_10 => ?_)
            refine gj_iload C dX2_findTurn_100 0 rfl ?_
            refine gj_aload_n C 1 dX2_findTurn_102 rfl 2 rfl ?_
            refine gj_callVi C mi_X1_size w_578 2 (by decide) (up_nx (by decide) (up_nx (by decide) (up_nx (by decide) (up_nx (by decide) (hc2))))) rfl (c_X1_size 2 3 (12 : Int32) (nI n0) 36 gS (up_nx (by decide) (up_nx (by decide) (up_nx (by decide) (up_nx (by decide) (hc2))))) (up_nx (by decide) (up_nx (by decide) (up_nx (by decide) (up_nx (by decide) (hc3))))) (by decide) (by decide) (by decide)) mc_X1_size ⟨Nat.le_of_ble_eq_true rfl, Nat.le_of_ble_eq_true rfl⟩ (rest := [.int (nI t0)]) rfl (Nat.le_of_ble_eq_true rfl) dX2_findTurn_103 (fun r u h => ?_)
            obtain ⟨hr_, hu_⟩ := h; rw [hr_]; subst hu_
            refine gj_icmp_ge C 142 dX2_findTurn_106 (by decide) (fun c_11 => absurd c_11 (nI_ge (by omega) (by omega))) (fun c_11 => ?_)
            refine gj_aload_n C 0 dX2_findTurn_109 rfl 1 rfl ?_
            refine gj_iload C dX2_findTurn_110 0 rfl ?_
            refine gj_aload_n C 1 dX2_findTurn_112 rfl 2 rfl ?_
            refine gj_iload C dX2_findTurn_113 0 rfl ?_
            refine gj_iconst C (v := 0) (by decide) dX2_findTurn_115 ?_
            refine gj_callVi C mi_X1_part w_606 2 (by decide) (up_nx (by decide) (up_nx (by decide) (up_nx (by decide) (up_nx (by decide) (hc2))))) rfl (c_X1_part 2 3 (nI t0) (0 : Int32) (12 : Int32) (nI n0) 36 gS (up_nx (by decide) (up_nx (by decide) (up_nx (by decide) (up_nx (by decide) (hc2))))) (up_nx (by decide) (up_nx (by decide) (up_nx (by decide) (up_nx (by decide) (hc3))))) (by decide) (by decide) (by decide) (szk (by omega) (by omega))) mc_X1_part ⟨Nat.le_of_ble_eq_true rfl, Nat.le_of_ble_eq_true rfl⟩ (rest := [.int (nI t0), .ref (ad 47)]) rfl (Nat.le_of_ble_eq_true rfl) dX2_findTurn_116 (fun r u h => ?_)
            obtain ⟨hr_, hu_⟩ := h; rw [hr_]; subst hu_
            refine gj_aload_n C 1 dX2_findTurn_119 rfl 2 rfl ?_
            refine gj_iload C dX2_findTurn_120 0 rfl ?_
            refine gj_iconst C (v := 1) (by decide) dX2_findTurn_122 ?_
            refine gj_callVi C mi_X1_part w_606 2 (by decide) (up_nx (by decide) (up_nx (by decide) (up_nx (by decide) (up_nx (by decide) (hc2))))) rfl (c_X1_part 2 3 (nI t0) (1 : Int32) (12 : Int32) (nI n0) 36 gS (up_nx (by decide) (up_nx (by decide) (up_nx (by decide) (up_nx (by decide) (hc2))))) (up_nx (by decide) (up_nx (by decide) (up_nx (by decide) (up_nx (by decide) (hc3))))) (by decide) (by decide) (by decide) (szk (by omega) (by omega))) mc_X1_part ⟨Nat.le_of_ble_eq_true rfl, Nat.le_of_ble_eq_true rfl⟩ (rest := [.int (s_X1_part (nI t0) (0 : Int32) (nI n0) gS), .int (nI t0), .ref (ad 47)]) rfl (Nat.le_of_ble_eq_true rfl) dX2_findTurn_123 (fun r u h => ?_)
            obtain ⟨hr_, hu_⟩ := h; rw [hr_]; subst hu_
            refine gj_aload_n C 1 dX2_findTurn_126 rfl 2 rfl ?_
            refine gj_iload C dX2_findTurn_127 0 rfl ?_
            refine gj_iconst C (v := 2) (by decide) dX2_findTurn_129 ?_
            refine gj_callVi C mi_X1_part w_606 2 (by decide) (up_nx (by decide) (up_nx (by decide) (up_nx (by decide) (up_nx (by decide) (hc2))))) rfl (c_X1_part 2 3 (nI t0) (2 : Int32) (12 : Int32) (nI n0) 36 gS (up_nx (by decide) (up_nx (by decide) (up_nx (by decide) (up_nx (by decide) (hc2))))) (up_nx (by decide) (up_nx (by decide) (up_nx (by decide) (up_nx (by decide) (hc3))))) (by decide) (by decide) (by decide) (szk (by omega) (by omega))) mc_X1_part ⟨Nat.le_of_ble_eq_true rfl, Nat.le_of_ble_eq_true rfl⟩ (rest := [.int (s_X1_part (nI t0) (1 : Int32) (nI n0) gS), .int (s_X1_part (nI t0) (0 : Int32) (nI n0) gS), .int (nI t0), .ref (ad 47)]) rfl (Nat.le_of_ble_eq_true rfl) dX2_findTurn_130 (fun r u h => ?_)
            obtain ⟨hr_, hu_⟩ := h; rw [hr_]; subst hu_
            refine gj_callVv C mi_X2_findPlace w_607 47 (by decide) (up_nx (by decide) (up_nx (by decide) (up_nx (by decide) (va_up_self _ _ _)))) rfl (c_findPlace_47 t0 (s_X1_part (nI t0) (0 : Int32) (nI n0) gS) (s_X1_part (nI t0) (1 : Int32) (nI n0) gS) (s_X1_part (nI t0) (2 : Int32) (nI n0) gS) us tc cc (1 : Int32) (cPn (cSTA gS n0 ts tp sta) (cSPA gP n1 tp spa) gS n0 pl t0) (cSTA gS n0 ts tp sta) (cSPA gP n1 tp spa) (up_nx (by decide) (up_nx (by decide) (up_nx (by decide) (va_up_self _ _ _)))) (va_up_self _ _ _) (up_nx (by decide) (up_nx (by decide) (va_up_self _ _ _))) (up_nx (by decide) (va_up_self _ _ _)) (up_nx (by decide) (up_nx (by decide) (up_nx (by decide) (up_nx (by decide) (hc54))))) (up_nx (by decide) (up_nx (by decide) (up_nx (by decide) (up_nx (by decide) (hc56))))) (by omega)) mc_X2_findPlace ⟨Nat.le_of_ble_eq_true rfl, Nat.le_of_ble_eq_true rfl⟩ (rest := []) rfl (Nat.le_of_ble_eq_true rfl) dX2_findTurn_133 (fun u h => ?_)
            subst h
            refine gj_setf (bx_uu _ _ _ _) ?_
            refine gj_iinc C (v := nI (t0 + 1)) (lv' := [(5, .int (nI (t0 + 1))), (0, .ref (ad 47)), (1, .ref (ad 2)), (2, .ref (ad 4))]) dX2_findTurn_136 0 rfl (nI_1 _) (by decide) rfl ?_
            refine gj_goto C 93 dX2_findTurn_139 (by decide) ?_
            refine gj_setf (g := va_up (va_up (va_up (va_up f 47 (.inr (2, [.ref (ad 48), .ref (ad 49), .ref (ad 50), .ref (ad 51), .ref (ad 52), .ref (ad 53), .ref (ad 54), .ref (ad 56), .int us, .int tc, .int cc, .int 1]))) 55 (.inl (ca 1, 12, .inr (.inl (cSTA gS n0 ts tp sta))))) 57 (.inl (ca 1, 12, .inr (.inl (cSPA gP n1 tp spa))))) 53 (.inl (ca 0, 36, .inl (cPn (cSTA gS n0 ts tp sta) (cSPA gP n1 tp spa) gS n0 pl (t0 + 1))))) rfl ?_
            refine gj_lv [0, 1, 2, 3] rfl ?_
            exact ih_7 (t0 + 1) (by omega)
        refine gj_lv [0, 3, 4, 5] rfl ?_
        exact loop_6 (n0 - 0) 0 (by omega)
  · exact RT _ _ _ (by rw [show (cTurn gS gP n0 n1 ts tp tc sta spa pl) = (0, sta, spa, pl) from if_neg c_1]) dX2_findTurn_13
set_option maxHeartbeats 400000 in
set_option maxRecDepth 100000 in
theorem c_confirm_47 {l : Launch} {D : va_G} {ca ss ad : Nat → Nat} {f : Nat → va_E} (n0 n1 : Nat) (ne go : Int32) (us tc cc tu : Int32) (cs : Nat → Int32) (cf : Nat → Int32) (pl : Nat → Int32) (gP : Nat → Int32) (hc47 : f 47 = .inr (2, [.ref (ad 48), .ref (ad 49), .ref (ad 50), .ref (ad 51), .ref (ad 52), .ref (ad 53), .ref (ad 54), .ref (ad 56), .int us, .int tc, .int cc, .int tu])) (hc51 : f 51 = .inl (ca 0, 8, .inl cs)) (hc52 : f 52 = .inl (ca 0, 8, .inl cf)) (hc53 : f 53 = .inl (ca 0, 36, .inl pl)) (hc4 : f 4 = .inr (1, [.ref (ad 5), .int 8, .int (nI n1)])) (hc5 : f 5 = .inl (ca 0, 24, .inl gP)) (hn0 : n0 ≤ 12) (hn1 : n1 ≤ 8) : gMv l D ca ss ad 108 yX2_confirmSpots cX2_confirmSpots 10 none 3 f [.ref (ad 47), .int (nI n0), .ref (ad 4), .int ne, .int go] (fun u => u = va_up (va_up (va_up (f) 51 (.inl (ca 0, 8, .inl ((cConf gP n0 n1 pl ne go tu).2.1)))) 52 (.inl (ca 0, 8, .inl ((cConf gP n0 n1 pl ne go tu).2.2.1)))) 47 (.inr (2, [.ref (ad 48), .ref (ad 49), .ref (ad 50), .ref (ad 51), .ref (ad 52), .ref (ad 53), .ref (ad 54), .ref (ad 56), .int ((cConf gP n0 n1 pl ne go tu).1), .int tc, .int ((cConf gP n0 n1 pl ne go tu).2.2.2), .int tu]))) := by
  refine gMv_ofK (by decide +kernel) (Nat.le_of_ble_eq_true rfl) (lv0 := [(0, .ref (ad 47)), (1, .int (nI n0)), (2, .ref (ad 4)), (3, .int ne), (4, .int go)]) rfl (fun pT eT sT mT aT below meth cT AT QT C RT => ?_)
  have C : gX pT sT mT aT meth cT AT D ca ss 10 RX2 cX2_confirmSpots none := C
  refine gj_aload_n C 0 dX2_confirmSpots_0 rfl 0 rfl ?_
  refine gj_get C 47 (by decide) hc47 inX2 rfl 3 (by decide) w_211 (v := .ref (ad 51)) rfl dX2_confirmSpots_1 ?_
  refine gj_iconst C (v := (-1)) (by decide) dX2_confirmSpots_4 ?_
  refine gj_callSv C w_516 w_583 (c_J7_fill_53178 51 (-1 : Int32) 8 cs hc51 (by decide) (by decide)) mc_J7_fill_53178 ⟨Nat.le_of_ble_eq_true rfl, Nat.le_of_ble_eq_true rfl⟩ (rest := []) rfl (Nat.le_of_ble_eq_true rfl) dX2_confirmSpots_5 (fun u h => ?_)
  subst h
  refine gj_aload_n C 0 dX2_confirmSpots_8 rfl 0 rfl ?_
  refine gj_get C 47 (by decide) (up_nx (by decide) (hc47)) inX2 rfl 4 (by decide) w_213 (v := .ref (ad 52)) rfl dX2_confirmSpots_9 ?_
  refine gj_iconst C (v := (-1)) (by decide) dX2_confirmSpots_12 ?_
  refine gj_callSv C w_516 w_583 (c_J7_fill_53178 52 (-1 : Int32) 8 cf (up_nx (by decide) (hc52)) (by decide) (by decide)) mc_J7_fill_53178 ⟨Nat.le_of_ble_eq_true rfl, Nat.le_of_ble_eq_true rfl⟩ (rest := []) rfl (Nat.le_of_ble_eq_true rfl) dX2_confirmSpots_13 (fun u h => ?_)
  subst h
  refine gj_aload_n C 0 dX2_confirmSpots_16 rfl 0 rfl ?_
  refine gj_iconst C (v := 0) (by decide) dX2_confirmSpots_17 ?_
  refine gj_putS C 47 (by decide) (up_nx (by decide) (up_nx (by decide) (hc47))) inX2 rfl 8 (by decide) tyX2 tyX2_ok nmX2 w_219 rfl (v := .int 0) (fs' := [.ref (ad 48), .ref (ad 49), .ref (ad 50), .ref (ad 51), .ref (ad 52), .ref (ad 53), .ref (ad 54), .ref (ad 56), .int 0, .int tc, .int cc, .int tu]) rfl rfl (Nat.le_of_ble_eq_true rfl) rfl dX2_confirmSpots_18 ?_
  refine gj_aload_n C 0 dX2_confirmSpots_21 rfl 0 rfl ?_
  refine gj_iconst C (v := 0) (by decide) dX2_confirmSpots_22 ?_
  refine gj_putS C 47 (by decide) (va_up_self _ _ _) inX2 rfl 10 (by decide) tyX2 tyX2_ok nmX2 w_223 rfl (v := .int 0) (fs' := [.ref (ad 48), .ref (ad 49), .ref (ad 50), .ref (ad 51), .ref (ad 52), .ref (ad 53), .ref (ad 54), .ref (ad 56), .int 0, .int tc, .int 0, .int tu]) rfl rfl (Nat.le_of_ble_eq_true rfl) rfl dX2_confirmSpots_23 ?_
  refine gj_setf (bx_uu _ _ _ _) ?_
  refine gj_iconst C (v := 0) (by decide) dX2_confirmSpots_26 ?_
  refine gj_seti (y := nI 0) rfl ?_
  refine gj_istore C (lv' := [(5, .int (nI 0)), (0, .ref (ad 47)), (1, .int (nI n0)), (2, .ref (ad 4)), (3, .int ne), (4, .int go)]) dX2_confirmSpots_27 (by decide) rfl ?_
  by_cases htu : tu = 0
  · refine gj_aload_n C 0 dX2_confirmSpots_29 rfl 1 rfl ?_
    refine gj_get C 47 (by decide) (va_up_self _ _ _) inX2 rfl 11 (by decide) w_225 (v := .int tu) rfl dX2_confirmSpots_30 ?_
    refine gj_if_eq C 161 dX2_confirmSpots_33 (by decide) (fun c_1 => ?_) (fun c_1 => absurd htu c_1)
    exact RT _ _ _ (by unfold cConf; rw [if_pos htu]) dX2_confirmSpots_161
  · refine gj_setf (g := va_up (va_up (va_up f 51 (.inl (ca 0, 8, .inl ((cCn gP n0 n1 pl ne go (0, kI (-1), kI (-1), 0) 0).2.1)))) 52 (.inl (ca 0, 8, .inl ((cCn gP n0 n1 pl ne go (0, kI (-1), kI (-1), 0) 0).2.2.1)))) 47 (.inr (2, [.ref (ad 48), .ref (ad 49), .ref (ad 50), .ref (ad 51), .ref (ad 52), .ref (ad 53), .ref (ad 54), .ref (ad 56), .int ((cCn gP n0 n1 pl ne go (0, kI (-1), kI (-1), 0) 0).1), .int tc, .int ((cCn gP n0 n1 pl ne go (0, kI (-1), kI (-1), 0) 0).2.2.2), .int tu]))) rfl ?_
    have loop_2 : ∀ (m0 t0 : Nat), t0 + m0 = n1 → gJ pT l eT (Rm 3) sT mT aT below meth cT AT QT D ad 108 10 (va_up (va_up (va_up f 51 (.inl (ca 0, 8, .inl ((cCn gP n0 n1 pl ne go (0, kI (-1), kI (-1), 0) t0).2.1)))) 52 (.inl (ca 0, 8, .inl ((cCn gP n0 n1 pl ne go (0, kI (-1), kI (-1), 0) t0).2.2.1)))) 47 (.inr (2, [.ref (ad 48), .ref (ad 49), .ref (ad 50), .ref (ad 51), .ref (ad 52), .ref (ad 53), .ref (ad 54), .ref (ad 56), .int ((cCn gP n0 n1 pl ne go (0, kI (-1), kI (-1), 0) t0).1), .int tc, .int ((cCn gP n0 n1 pl ne go (0, kI (-1), kI (-1), 0) t0).2.2.2), .int tu]))) [(5, .int (nI t0)), (0, .ref (ad 47)), (1, .int (nI n0)), (2, .ref (ad 4)), (3, .int ne), (4, .int go)] 29 [] := by
      intro m0
      induction m0 with
      | zero =>
        intro t0 hk_t0  
        refine gj_aload_n C 0 dX2_confirmSpots_29 rfl 1 rfl ?_
        refine gj_get C 47 (by decide) (va_up_self _ _ _) inX2 rfl 11 (by decide) w_225 (v := .int tu) rfl dX2_confirmSpots_30 ?_
        refine gj_if_eq C 161 dX2_confirmSpots_33 (by decide) (fun c_4 => absurd c_4 htu) (fun c_4 => ?_)
        refine gj_iload C dX2_confirmSpots_36 0 rfl ?_
        refine gj_aload_n C 2 dX2_confirmSpots_38 rfl 3 rfl ?_
        refine gj_callVi C mi_X1_size w_578 4 (by decide) (up_nx (by decide) (up_nx (by decide) (up_nx (by decide) (hc4)))) rfl (c_X1_size 4 5 (8 : Int32) (nI n1) 24 gP (up_nx (by decide) (up_nx (by decide) (up_nx (by decide) (hc4)))) (up_nx (by decide) (up_nx (by decide) (up_nx (by decide) (hc5)))) (by decide) (by decide) (by decide)) mc_X1_size ⟨Nat.le_of_ble_eq_true rfl, Nat.le_of_ble_eq_true rfl⟩ (rest := [.int (nI t0)]) rfl (Nat.le_of_ble_eq_true rfl) dX2_confirmSpots_39 (fun r u h => ?_)
        obtain ⟨hr_, hu_⟩ := h; rw [hr_]; subst hu_
        refine gj_icmp_ge C 161 dX2_confirmSpots_42 (by decide) (fun c_5 => ?_) (fun c_5 => absurd (nI_le (by omega) (by omega)) c_5)
        exact RT _ _ _ (by unfold cConf; rw [if_neg htu]; obtain rfl : t0 = n1 := (by omega); rfl) dX2_confirmSpots_161
      | succ m0 ih_3 =>
        intro t0 hk_t0  
        refine gj_aload_n C 0 dX2_confirmSpots_29 rfl 1 rfl ?_
        refine gj_get C 47 (by decide) (va_up_self _ _ _) inX2 rfl 11 (by decide) w_225 (v := .int tu) rfl dX2_confirmSpots_30 ?_
        refine gj_if_eq C 161 dX2_confirmSpots_33 (by decide) (fun c_6 => absurd c_6 htu) (fun c_6 => ?_)
        refine gj_iload C dX2_confirmSpots_36 0 rfl ?_
        refine gj_aload_n C 2 dX2_confirmSpots_38 rfl 3 rfl ?_
        refine gj_callVi C mi_X1_size w_578 4 (by decide) (up_nx (by decide) (up_nx (by decide) (up_nx (by decide) (hc4)))) rfl (c_X1_size 4 5 (8 : Int32) (nI n1) 24 gP (up_nx (by decide) (up_nx (by decide) (up_nx (by decide) (hc4)))) (up_nx (by decide) (up_nx (by decide) (up_nx (by decide) (hc5)))) (by decide) (by decide) (by decide)) mc_X1_size ⟨Nat.le_of_ble_eq_true rfl, Nat.le_of_ble_eq_true rfl⟩ (rest := [.int (nI t0)]) rfl (Nat.le_of_ble_eq_true rfl) dX2_confirmSpots_39 (fun r u h => ?_)
        obtain ⟨hr_, hu_⟩ := h; rw [hr_]; subst hu_
        refine gj_icmp_ge C 161 dX2_confirmSpots_42 (by decide) (fun c_7 => absurd c_7 (nI_ge (by omega) (by omega))) (fun c_7 => ?_)
        refine gj_aload_n C 2 dX2_confirmSpots_45 rfl 3 rfl ?_
        refine gj_iload C dX2_confirmSpots_46 0 rfl ?_
        refine gj_iconst C (v := 0) (by decide) dX2_confirmSpots_48 ?_
        refine gj_callVi C mi_X1_part w_606 4 (by decide) (up_nx (by decide) (up_nx (by decide) (up_nx (by decide) (hc4)))) rfl (c_X1_part 4 5 (nI t0) (0 : Int32) (8 : Int32) (nI n1) 24 gP (up_nx (by decide) (up_nx (by decide) (up_nx (by decide) (hc4)))) (up_nx (by decide) (up_nx (by decide) (up_nx (by decide) (hc5)))) (by decide) (by decide) (by decide) (szk (by omega) (by omega))) mc_X1_part ⟨Nat.le_of_ble_eq_true rfl, Nat.le_of_ble_eq_true rfl⟩ (rest := []) rfl (Nat.le_of_ble_eq_true rfl) dX2_confirmSpots_49 (fun r u h => ?_)
        obtain ⟨hr_, hu_⟩ := h; rw [hr_]; subst hu_
        refine gj_istore C (lv' := [(6, .int (s_X1_part (nI t0) (0 : Int32) (nI n1) gP)), (5, .int (nI t0)), (0, .ref (ad 47)), (1, .int (nI n0)), (2, .ref (ad 4)), (3, .int ne), (4, .int go)]) dX2_confirmSpots_52 (by decide) rfl ?_
        refine gj_aload_n C 2 dX2_confirmSpots_54 rfl 4 rfl ?_
        refine gj_iload C dX2_confirmSpots_55 1 rfl ?_
        refine gj_iconst C (v := 1) (by decide) dX2_confirmSpots_57 ?_
        refine gj_callVi C mi_X1_part w_606 4 (by decide) (up_nx (by decide) (up_nx (by decide) (up_nx (by decide) (hc4)))) rfl (c_X1_part 4 5 (nI t0) (1 : Int32) (8 : Int32) (nI n1) 24 gP (up_nx (by decide) (up_nx (by decide) (up_nx (by decide) (hc4)))) (up_nx (by decide) (up_nx (by decide) (up_nx (by decide) (hc5)))) (by decide) (by decide) (by decide) (szk (by omega) (by omega))) mc_X1_part ⟨Nat.le_of_ble_eq_true rfl, Nat.le_of_ble_eq_true rfl⟩ (rest := []) rfl (Nat.le_of_ble_eq_true rfl) dX2_confirmSpots_58 (fun r u h => ?_)
        obtain ⟨hr_, hu_⟩ := h; rw [hr_]; subst hu_
        refine gj_istore C (lv' := [(7, .int (s_X1_part (nI t0) (1 : Int32) (nI n1) gP)), (6, .int (s_X1_part (nI t0) (0 : Int32) (nI n1) gP)), (5, .int (nI t0)), (0, .ref (ad 47)), (1, .int (nI n0)), (2, .ref (ad 4)), (3, .int ne), (4, .int go)]) dX2_confirmSpots_61 (by decide) rfl ?_
        refine gj_aload_n C 2 dX2_confirmSpots_63 rfl 5 rfl ?_
        refine gj_iload C dX2_confirmSpots_64 2 rfl ?_
        refine gj_iconst C (v := 2) (by decide) dX2_confirmSpots_66 ?_
        refine gj_callVi C mi_X1_part w_606 4 (by decide) (up_nx (by decide) (up_nx (by decide) (up_nx (by decide) (hc4)))) rfl (c_X1_part 4 5 (nI t0) (2 : Int32) (8 : Int32) (nI n1) 24 gP (up_nx (by decide) (up_nx (by decide) (up_nx (by decide) (hc4)))) (up_nx (by decide) (up_nx (by decide) (up_nx (by decide) (hc5)))) (by decide) (by decide) (by decide) (szk (by omega) (by omega))) mc_X1_part ⟨Nat.le_of_ble_eq_true rfl, Nat.le_of_ble_eq_true rfl⟩ (rest := []) rfl (Nat.le_of_ble_eq_true rfl) dX2_confirmSpots_67 (fun r u h => ?_)
        obtain ⟨hr_, hu_⟩ := h; rw [hr_]; subst hu_
        refine gj_istore C (lv' := [(8, .int (s_X1_part (nI t0) (2 : Int32) (nI n1) gP)), (7, .int (s_X1_part (nI t0) (1 : Int32) (nI n1) gP)), (6, .int (s_X1_part (nI t0) (0 : Int32) (nI n1) gP)), (5, .int (nI t0)), (0, .ref (ad 47)), (1, .int (nI n0)), (2, .ref (ad 4)), (3, .int ne), (4, .int go)]) dX2_confirmSpots_70 (by decide) rfl ?_
        refine gj_iload C dX2_confirmSpots_72 3 rfl ?_
        refine gj_iload C dX2_confirmSpots_74 8 rfl ?_
        refine gj_icmp_ne C 83 dX2_confirmSpots_76 (by decide) (fun c_8 => ?_) (fun c_8 => ?_)
        · refine gj_aload_n C 0 dX2_confirmSpots_83 rfl 4 rfl ?_
          refine gj_iload_n C 1 dX2_confirmSpots_84 rfl 5 rfl ?_
          refine gj_iload_n C 3 dX2_confirmSpots_85 rfl 7 rfl ?_
          refine gj_iload C dX2_confirmSpots_86 2 rfl ?_
          refine gj_iload C dX2_confirmSpots_88 1 rfl ?_
          refine gj_iload C dX2_confirmSpots_90 0 rfl ?_
          refine gj_callVi C mi_X2_nearestStar w_631 47 (by decide) (va_up_self _ _ _) rfl (c_nearest_47 n0 ne (s_X1_part (nI t0) (0 : Int32) (nI n1) gP) (s_X1_part (nI t0) (1 : Int32) (nI n1) gP) (s_X1_part (nI t0) (2 : Int32) (nI n1) gP) ((cCn gP n0 n1 pl ne go (0, kI (-1), kI (-1), 0) t0).1) tc ((cCn gP n0 n1 pl ne go (0, kI (-1), kI (-1), 0) t0).2.2.2) tu pl (va_up_self _ _ _) (up_nx (by decide) (up_nx (by decide) (up_nx (by decide) (hc53)))) hn0) mc_X2_nearestStar ⟨Nat.le_of_ble_eq_true rfl, Nat.le_of_ble_eq_true rfl⟩ (rest := []) rfl (Nat.le_of_ble_eq_true rfl) dX2_confirmSpots_92 (fun r u h => ?_)
          obtain ⟨hr_, hu_⟩ := h; rw [hr_]; subst hu_
          refine gj_istore C (lv' := [(9, .int ((cC1 pl ((cCn gP n0 n1 pl ne go (0, kI (-1), kI (-1), 0) t0).1) ne (s_X1_part (nI t0) (0 : Int32) (nI n1) gP) (s_X1_part (nI t0) (1 : Int32) (nI n1) gP) (s_X1_part (nI t0) (2 : Int32) (nI n1) gP) n0).1)), (8, .int (s_X1_part (nI t0) (2 : Int32) (nI n1) gP)), (7, .int (s_X1_part (nI t0) (1 : Int32) (nI n1) gP)), (6, .int (s_X1_part (nI t0) (0 : Int32) (nI n1) gP)), (5, .int (nI t0)), (0, .ref (ad 47)), (1, .int (nI n0)), (2, .ref (ad 4)), (3, .int ne), (4, .int go)]) dX2_confirmSpots_95 (by decide) rfl ?_
          refine gj_iload C dX2_confirmSpots_97 0 rfl ?_
          refine gj_iconst C (v := (-1)) (by decide) dX2_confirmSpots_99 ?_
          refine gj_icmp_eq C 155 dX2_confirmSpots_100 (by decide) (fun c_9 => ?_) (fun c_9 => ?_)
          · refine gj_iinc C (v := nI (t0 + 1)) (lv' := [(5, .int (nI (t0 + 1))), (9, .int ((cC1 pl ((cCn gP n0 n1 pl ne go (0, kI (-1), kI (-1), 0) t0).1) ne (s_X1_part (nI t0) (0 : Int32) (nI n1) gP) (s_X1_part (nI t0) (1 : Int32) (nI n1) gP) (s_X1_part (nI t0) (2 : Int32) (nI n1) gP) n0).1)), (8, .int (s_X1_part (nI t0) (2 : Int32) (nI n1) gP)), (7, .int (s_X1_part (nI t0) (1 : Int32) (nI n1) gP)), (6, .int (s_X1_part (nI t0) (0 : Int32) (nI n1) gP)), (0, .ref (ad 47)), (1, .int (nI n0)), (2, .ref (ad 4)), (3, .int ne), (4, .int go)]) dX2_confirmSpots_155 4 rfl (nI_1 _) (by decide) rfl ?_
            refine gj_goto C 29 dX2_confirmSpots_158 (by decide) ?_
            refine gj_setf (g := va_up (va_up (va_up f 51 (.inl (ca 0, 8, .inl ((cCn gP n0 n1 pl ne go (0, kI (-1), kI (-1), 0) (t0 + 1)).2.1)))) 52 (.inl (ca 0, 8, .inl ((cCn gP n0 n1 pl ne go (0, kI (-1), kI (-1), 0) (t0 + 1)).2.2.1)))) 47 (.inr (2, [.ref (ad 48), .ref (ad 49), .ref (ad 50), .ref (ad 51), .ref (ad 52), .ref (ad 53), .ref (ad 54), .ref (ad 56), .int ((cCn gP n0 n1 pl ne go (0, kI (-1), kI (-1), 0) (t0 + 1)).1), .int tc, .int ((cCn gP n0 n1 pl ne go (0, kI (-1), kI (-1), 0) (t0 + 1)).2.2.2), .int tu]))) (by rw [show (cCn gP n0 n1 pl ne go (0, kI (-1), kI (-1), 0) (t0 + 1)) = _ from (if_neg c_8).trans ((if_pos c_9).trans (rfl))]) ?_
            refine gj_lv [0, 5, 6, 7, 8, 9] rfl ?_
            exact ih_3 (t0 + 1) (by omega)
          · obtain ⟨bN, hbN, eb⟩ := cC1_n (v := (cC1 pl (cCn gP n0 n1 pl ne go (0, kI (-1), kI (-1), 0) t0).1 ne (s_X1_part (nI t0) (0 : Int32) (nI n1) gP) (s_X1_part (nI t0) (1 : Int32) (nI n1) gP) (s_X1_part (nI t0) (2 : Int32) (nI n1) gP) n0).1) rfl c_9
            refine gj_aload_n C 0 dX2_confirmSpots_103 rfl 5 rfl ?_
            refine gj_dup C rfl dX2_confirmSpots_104 ?_
            refine gj_get C 47 (by decide) (va_up_self _ _ _) inX2 rfl 8 (by decide) w_219 (v := .int ((cCn gP n0 n1 pl ne go (0, kI (-1), kI (-1), 0) t0).1)) rfl dX2_confirmSpots_105 ?_
            refine gj_iconst C (v := 1) (by decide) dX2_confirmSpots_108 ?_
            refine gj_iload C dX2_confirmSpots_109 0 rfl ?_
            refine gj_ishl C dX2_confirmSpots_111 ?_
            refine gj_ior C dX2_confirmSpots_112 ?_
            refine gj_putS C 47 (by decide) (va_up_self _ _ _) inX2 rfl 8 (by decide) tyX2 tyX2_ok nmX2 w_219 rfl (v := .int (((cCn gP n0 n1 pl ne go (0, kI (-1), kI (-1), 0) t0).1) ||| (1 <<< (((cC1 pl ((cCn gP n0 n1 pl ne go (0, kI (-1), kI (-1), 0) t0).1) ne (s_X1_part (nI t0) (0 : Int32) (nI n1) gP) (s_X1_part (nI t0) (1 : Int32) (nI n1) gP) (s_X1_part (nI t0) (2 : Int32) (nI n1) gP) n0).1) &&& 31)))) (fs' := [.ref (ad 48), .ref (ad 49), .ref (ad 50), .ref (ad 51), .ref (ad 52), .ref (ad 53), .ref (ad 54), .ref (ad 56), .int (((cCn gP n0 n1 pl ne go (0, kI (-1), kI (-1), 0) t0).1) ||| (1 <<< (((cC1 pl ((cCn gP n0 n1 pl ne go (0, kI (-1), kI (-1), 0) t0).1) ne (s_X1_part (nI t0) (0 : Int32) (nI n1) gP) (s_X1_part (nI t0) (1 : Int32) (nI n1) gP) (s_X1_part (nI t0) (2 : Int32) (nI n1) gP) n0).1) &&& 31))), .int tc, .int ((cCn gP n0 n1 pl ne go (0, kI (-1), kI (-1), 0) t0).2.2.2), .int tu]) rfl rfl (Nat.le_of_ble_eq_true rfl) rfl dX2_confirmSpots_113 ?_
            refine gj_setf (bx_uu _ _ _ _) ?_
            refine gj_aload_n C 0 dX2_confirmSpots_116 rfl 5 rfl ?_
            refine gj_get C 47 (by decide) (va_up_self _ _ _) inX2 rfl 3 (by decide) w_211 (v := .ref (ad 51)) rfl dX2_confirmSpots_117 ?_
            refine gj_iload C dX2_confirmSpots_120 4 rfl ?_
            refine gj_iload C dX2_confirmSpots_122 0 rfl ?_
            refine gj_iast C 51 (by decide) (up_nx (by decide) (up_nx (by decide) (va_up_self _ _ _))) (vp_in_nI (by omega) (by omega)) dX2_confirmSpots_124 ?_
            refine gj_setf ((up_comm (by decide)).trans (up_un ((up_comm (by decide)).trans (up_un (bx_uu _ _ _ _))))) ?_
            refine gj_setf (g := va_up (va_up (va_up f 51 (.inl (ca 0, 8, .inl (upd ((cCn gP n0 n1 pl ne go (0, kI (-1), kI (-1), 0) t0).2.1) t0 ((cC1 pl ((cCn gP n0 n1 pl ne go (0, kI (-1), kI (-1), 0) t0).1) ne (s_X1_part (nI t0) (0 : Int32) (nI n1) gP) (s_X1_part (nI t0) (1 : Int32) (nI n1) gP) (s_X1_part (nI t0) (2 : Int32) (nI n1) gP) n0).1))))) 52 (.inl (ca 0, 8, .inl ((cCn gP n0 n1 pl ne go (0, kI (-1), kI (-1), 0) t0).2.2.1)))) 47 (.inr (2, [.ref (ad 48), .ref (ad 49), .ref (ad 50), .ref (ad 51), .ref (ad 52), .ref (ad 53), .ref (ad 54), .ref (ad 56), .int (((cCn gP n0 n1 pl ne go (0, kI (-1), kI (-1), 0) t0).1) ||| (1 <<< (((cC1 pl ((cCn gP n0 n1 pl ne go (0, kI (-1), kI (-1), 0) t0).1) ne (s_X1_part (nI t0) (0 : Int32) (nI n1) gP) (s_X1_part (nI t0) (1 : Int32) (nI n1) gP) (s_X1_part (nI t0) (2 : Int32) (nI n1) gP) n0).1) &&& 31))), .int tc, .int ((cCn gP n0 n1 pl ne go (0, kI (-1), kI (-1), 0) t0).2.2.2), .int tu]))) (by rw [nI_clamp (show t0 < 2 ^ 31 by omega)]) ?_
            refine gj_aload_n C 0 dX2_confirmSpots_125 rfl 5 rfl ?_
            refine gj_get C 47 (by decide) (va_up_self _ _ _) inX2 rfl 4 (by decide) w_213 (v := .ref (ad 52)) rfl dX2_confirmSpots_126 ?_
            refine gj_iload C dX2_confirmSpots_129 4 rfl ?_
            refine gj_aload_n C 0 dX2_confirmSpots_131 rfl 5 rfl ?_
            refine gj_iload C dX2_confirmSpots_132 0 rfl ?_
            refine gj_seti (y := nI bN) eb ?_
            refine gj_iload C dX2_confirmSpots_134 3 rfl ?_
            refine gj_iload C dX2_confirmSpots_136 2 rfl ?_
            refine gj_iload C dX2_confirmSpots_138 1 rfl ?_
            refine gj_callVl C mi_X2_farOf w_635 47 (by decide) (va_up_self _ _ _) rfl (c_farOf_47 bN (s_X1_part (nI t0) (0 : Int32) (nI n1) gP) (s_X1_part (nI t0) (1 : Int32) (nI n1) gP) (s_X1_part (nI t0) (2 : Int32) (nI n1) gP) (((cCn gP n0 n1 pl ne go (0, kI (-1), kI (-1), 0) t0).1) ||| (1 <<< (((cC1 pl ((cCn gP n0 n1 pl ne go (0, kI (-1), kI (-1), 0) t0).1) ne (s_X1_part (nI t0) (0 : Int32) (nI n1) gP) (s_X1_part (nI t0) (1 : Int32) (nI n1) gP) (s_X1_part (nI t0) (2 : Int32) (nI n1) gP) n0).1) &&& 31))) tc ((cCn gP n0 n1 pl ne go (0, kI (-1), kI (-1), 0) t0).2.2.2) tu pl (va_up_self _ _ _) (up_nx (by decide) (up_nx (by decide) (up_nx (by decide) (hc53)))) (by omega)) mc_X2_farOf ⟨Nat.le_of_ble_eq_true rfl, Nat.le_of_ble_eq_true rfl⟩ (rest := [.int (nI t0), .ref (ad 52)]) rfl (Nat.le_of_ble_eq_true rfl) dX2_confirmSpots_140 (fun r u h => ?_)
            obtain ⟨hr_, hu_⟩ := h; rw [hr_]; subst hu_
            refine gj_l2i C dX2_confirmSpots_143 ?_
            refine gj_seti (y := (cFar pl (cC1 pl (cCn gP n0 n1 pl ne go (0, kI (-1), kI (-1), 0) t0).1 ne (s_X1_part (nI t0) (0 : Int32) (nI n1) gP) (s_X1_part (nI t0) (1 : Int32) (nI n1) gP) (s_X1_part (nI t0) (2 : Int32) (nI n1) gP) n0).1.toNatClampNeg (s_X1_part (nI t0) (0 : Int32) (nI n1) gP) (s_X1_part (nI t0) (1 : Int32) (nI n1) gP) (s_X1_part (nI t0) (2 : Int32) (nI n1) gP)).toInt32) (by rw [eb, nI_clamp (show bN < 2 ^ 31 by omega)]) ?_
            refine gj_iast C 52 (by decide) (up_nx (by decide) (va_up_self _ _ _)) (vp_in_nI (by omega) (by omega)) dX2_confirmSpots_144 ?_
            refine gj_setf ((up_comm (by decide)).trans (up_un (bx_uu _ _ _ _))) ?_
            refine gj_setf (g := va_up (va_up (va_up f 51 (.inl (ca 0, 8, .inl (upd ((cCn gP n0 n1 pl ne go (0, kI (-1), kI (-1), 0) t0).2.1) t0 ((cC1 pl ((cCn gP n0 n1 pl ne go (0, kI (-1), kI (-1), 0) t0).1) ne (s_X1_part (nI t0) (0 : Int32) (nI n1) gP) (s_X1_part (nI t0) (1 : Int32) (nI n1) gP) (s_X1_part (nI t0) (2 : Int32) (nI n1) gP) n0).1))))) 52 (.inl (ca 0, 8, .inl (upd ((cCn gP n0 n1 pl ne go (0, kI (-1), kI (-1), 0) t0).2.2.1) t0 ((cFar pl (cC1 pl (cCn gP n0 n1 pl ne go (0, kI (-1), kI (-1), 0) t0).1 ne (s_X1_part (nI t0) (0 : Int32) (nI n1) gP) (s_X1_part (nI t0) (1 : Int32) (nI n1) gP) (s_X1_part (nI t0) (2 : Int32) (nI n1) gP) n0).1.toNatClampNeg (s_X1_part (nI t0) (0 : Int32) (nI n1) gP) (s_X1_part (nI t0) (1 : Int32) (nI n1) gP) (s_X1_part (nI t0) (2 : Int32) (nI n1) gP)).toInt32))))) 47 (.inr (2, [.ref (ad 48), .ref (ad 49), .ref (ad 50), .ref (ad 51), .ref (ad 52), .ref (ad 53), .ref (ad 54), .ref (ad 56), .int (((cCn gP n0 n1 pl ne go (0, kI (-1), kI (-1), 0) t0).1) ||| (1 <<< (((cC1 pl ((cCn gP n0 n1 pl ne go (0, kI (-1), kI (-1), 0) t0).1) ne (s_X1_part (nI t0) (0 : Int32) (nI n1) gP) (s_X1_part (nI t0) (1 : Int32) (nI n1) gP) (s_X1_part (nI t0) (2 : Int32) (nI n1) gP) n0).1) &&& 31))), .int tc, .int ((cCn gP n0 n1 pl ne go (0, kI (-1), kI (-1), 0) t0).2.2.2), .int tu]))) (by rw [nI_clamp (show t0 < 2 ^ 31 by omega)]) ?_
            refine gj_aload_n C 0 dX2_confirmSpots_145 rfl 5 rfl ?_
            refine gj_dup C rfl dX2_confirmSpots_146 ?_
            refine gj_get C 47 (by decide) (va_up_self _ _ _) inX2 rfl 10 (by decide) w_223 (v := .int ((cCn gP n0 n1 pl ne go (0, kI (-1), kI (-1), 0) t0).2.2.2)) rfl dX2_confirmSpots_147 ?_
            refine gj_iconst C (v := 1) (by decide) dX2_confirmSpots_150 ?_
            refine gj_iadd C dX2_confirmSpots_151 ?_
            refine gj_putS C 47 (by decide) (va_up_self _ _ _) inX2 rfl 10 (by decide) tyX2 tyX2_ok nmX2 w_223 rfl (v := .int (((cCn gP n0 n1 pl ne go (0, kI (-1), kI (-1), 0) t0).2.2.2) + 1)) (fs' := [.ref (ad 48), .ref (ad 49), .ref (ad 50), .ref (ad 51), .ref (ad 52), .ref (ad 53), .ref (ad 54), .ref (ad 56), .int (((cCn gP n0 n1 pl ne go (0, kI (-1), kI (-1), 0) t0).1) ||| (1 <<< (((cC1 pl ((cCn gP n0 n1 pl ne go (0, kI (-1), kI (-1), 0) t0).1) ne (s_X1_part (nI t0) (0 : Int32) (nI n1) gP) (s_X1_part (nI t0) (1 : Int32) (nI n1) gP) (s_X1_part (nI t0) (2 : Int32) (nI n1) gP) n0).1) &&& 31))), .int tc, .int (((cCn gP n0 n1 pl ne go (0, kI (-1), kI (-1), 0) t0).2.2.2) + 1), .int tu]) rfl rfl (Nat.le_of_ble_eq_true rfl) rfl dX2_confirmSpots_152 ?_
            refine gj_setf (bx_uu _ _ _ _) ?_
            refine gj_iinc C (v := nI (t0 + 1)) (lv' := [(5, .int (nI (t0 + 1))), (9, .int ((cC1 pl ((cCn gP n0 n1 pl ne go (0, kI (-1), kI (-1), 0) t0).1) ne (s_X1_part (nI t0) (0 : Int32) (nI n1) gP) (s_X1_part (nI t0) (1 : Int32) (nI n1) gP) (s_X1_part (nI t0) (2 : Int32) (nI n1) gP) n0).1)), (8, .int (s_X1_part (nI t0) (2 : Int32) (nI n1) gP)), (7, .int (s_X1_part (nI t0) (1 : Int32) (nI n1) gP)), (6, .int (s_X1_part (nI t0) (0 : Int32) (nI n1) gP)), (0, .ref (ad 47)), (1, .int (nI n0)), (2, .ref (ad 4)), (3, .int ne), (4, .int go)]) dX2_confirmSpots_155 4 rfl (nI_1 _) (by decide) rfl ?_
            refine gj_goto C 29 dX2_confirmSpots_158 (by decide) ?_
            refine gj_setf (g := va_up (va_up (va_up f 51 (.inl (ca 0, 8, .inl ((cCn gP n0 n1 pl ne go (0, kI (-1), kI (-1), 0) (t0 + 1)).2.1)))) 52 (.inl (ca 0, 8, .inl ((cCn gP n0 n1 pl ne go (0, kI (-1), kI (-1), 0) (t0 + 1)).2.2.1)))) 47 (.inr (2, [.ref (ad 48), .ref (ad 49), .ref (ad 50), .ref (ad 51), .ref (ad 52), .ref (ad 53), .ref (ad 54), .ref (ad 56), .int ((cCn gP n0 n1 pl ne go (0, kI (-1), kI (-1), 0) (t0 + 1)).1), .int tc, .int ((cCn gP n0 n1 pl ne go (0, kI (-1), kI (-1), 0) (t0 + 1)).2.2.2), .int tu]))) (by rw [show (cCn gP n0 n1 pl ne go (0, kI (-1), kI (-1), 0) (t0 + 1)) = _ from (if_neg c_8).trans ((if_neg c_9).trans (rfl))]) ?_
            refine gj_lv [0, 5, 6, 7, 8, 9] rfl ?_
            exact ih_3 (t0 + 1) (by omega)
        · refine gj_iconst C (v := (-1)) (by decide) dX2_confirmSpots_79 ?_
          refine gj_goto C 95 dX2_confirmSpots_80 (by decide) ?_
          refine gj_istore C (lv' := [(9, .int (-1)), (8, .int (s_X1_part (nI t0) (2 : Int32) (nI n1) gP)), (7, .int (s_X1_part (nI t0) (1 : Int32) (nI n1) gP)), (6, .int (s_X1_part (nI t0) (0 : Int32) (nI n1) gP)), (5, .int (nI t0)), (0, .ref (ad 47)), (1, .int (nI n0)), (2, .ref (ad 4)), (3, .int ne), (4, .int go)]) dX2_confirmSpots_95 (by decide) rfl ?_
          refine gj_iload C dX2_confirmSpots_97 0 rfl ?_
          refine gj_iconst C (v := (-1)) (by decide) dX2_confirmSpots_99 ?_
          refine gj_icmp_eq C 155 dX2_confirmSpots_100 (by decide) (fun c_10 => ?_) (fun c_10 => absurd (by decide) c_10)
          refine gj_iinc C (v := nI (t0 + 1)) (lv' := [(5, .int (nI (t0 + 1))), (9, .int (-1)), (8, .int (s_X1_part (nI t0) (2 : Int32) (nI n1) gP)), (7, .int (s_X1_part (nI t0) (1 : Int32) (nI n1) gP)), (6, .int (s_X1_part (nI t0) (0 : Int32) (nI n1) gP)), (0, .ref (ad 47)), (1, .int (nI n0)), (2, .ref (ad 4)), (3, .int ne), (4, .int go)]) dX2_confirmSpots_155 4 rfl (nI_1 _) (by decide) rfl ?_
          refine gj_goto C 29 dX2_confirmSpots_158 (by decide) ?_
          refine gj_setf (g := va_up (va_up (va_up f 51 (.inl (ca 0, 8, .inl ((cCn gP n0 n1 pl ne go (0, kI (-1), kI (-1), 0) (t0 + 1)).2.1)))) 52 (.inl (ca 0, 8, .inl ((cCn gP n0 n1 pl ne go (0, kI (-1), kI (-1), 0) (t0 + 1)).2.2.1)))) 47 (.inr (2, [.ref (ad 48), .ref (ad 49), .ref (ad 50), .ref (ad 51), .ref (ad 52), .ref (ad 53), .ref (ad 54), .ref (ad 56), .int ((cCn gP n0 n1 pl ne go (0, kI (-1), kI (-1), 0) (t0 + 1)).1), .int tc, .int ((cCn gP n0 n1 pl ne go (0, kI (-1), kI (-1), 0) (t0 + 1)).2.2.2), .int tu]))) (by rw [show (cCn gP n0 n1 pl ne go (0, kI (-1), kI (-1), 0) (t0 + 1)) = _ from (if_pos c_8).trans (rfl)]) ?_
          refine gj_lv [0, 5, 6, 7, 8, 9] rfl ?_
          exact ih_3 (t0 + 1) (by omega)
    refine gj_lv [0, 1, 2, 3, 4, 5] rfl ?_
    exact loop_2 (n1 - 0) 0 (by omega)
set_option maxHeartbeats 400000 in
set_option maxRecDepth 100000 in
theorem c_solve_47 {l : Launch} {D : va_G} {ca ss ad : Nat → Nat} {f : Nat → va_E} (n0 n1 tb : Nat) (go : Int32) (us tc cc tu : Int32) (ts : Nat → Int32) (tr : Nat → Int32) (tp : Nat → Int32) (cs : Nat → Int32) (cf : Nat → Int32) (pl : Nat → Int32) (sta : Nat → Int64) (spa : Nat → Int64) (gS gP vo se : Nat → Int32) (hc47 : f 47 = .inr (2, [.ref (ad 48), .ref (ad 49), .ref (ad 50), .ref (ad 51), .ref (ad 52), .ref (ad 53), .ref (ad 54), .ref (ad 56), .int us, .int tc, .int cc, .int tu])) (hc48 : f 48 = .inl (ca 0, 8, .inl ts)) (hc49 : f 49 = .inl (ca 0, 8, .inl tr)) (hc50 : f 50 = .inl (ca 0, 8, .inl tp)) (hc51 : f 51 = .inl (ca 0, 8, .inl cs)) (hc52 : f 52 = .inl (ca 0, 8, .inl cf)) (hc53 : f 53 = .inl (ca 0, 36, .inl pl)) (hc55 : f 55 = .inl (ca 1, 12, .inr (.inl sta))) (hc57 : f 57 = .inl (ca 1, 12, .inr (.inl spa))) (hc54 : f 54 = .inr (0, [.ref (ad 55)])) (hc56 : f 56 = .inr (0, [.ref (ad 57)])) (hc2 : f 2 = .inr (1, [.ref (ad 3), .int 12, .int (nI n0)])) (hc3 : f 3 = .inl (ca 0, 36, .inl gS)) (hc4 : f 4 = .inr (1, [.ref (ad 5), .int 8, .int (nI n1)])) (hc5 : f 5 = .inl (ca 0, 24, .inl gP)) (hctb : f tb = .inl (ca 0, 96, .inl vo)) (hc6 : f 6 = .inl (ca 0, 4, .inl se)) (hn0 : n0 ≤ 12) (hn1 : n1 ≤ 8) (htb : 12 < tb ∧ tb < 47) : gMv l D ca ss ad 108 yX2_solve cX2_solve 6 none 4 f [.ref (ad 47), .ref (ad 2), .ref (ad 4), .ref (ad tb), .ref (ad 6), .int go] (fun u => u = va_up (va_up (va_up (va_up (va_up (va_up (va_up (va_up (va_up (f) 47 (.inr (2, [.ref (ad 48), .ref (ad 49), .ref (ad 50), .ref (ad 51), .ref (ad 52), .ref (ad 53), .ref (ad 54), .ref (ad 56), .int ((cConf gP n0 n1 (cTurn gS gP n0 n1 (cTake vo (se 2) n0 n1 tp).1 (cTake vo (se 2) n0 n1 tp).2.2.1 (cTake vo (se 2) n0 n1 tp).2.2.2.2 sta spa pl).2.2.2 (se 3) go (cTurn gS gP n0 n1 (cTake vo (se 2) n0 n1 tp).1 (cTake vo (se 2) n0 n1 tp).2.2.1 (cTake vo (se 2) n0 n1 tp).2.2.2.2 sta spa pl).1).1), .int ((cTake vo (se 2) n0 n1 tp).2.2.2.2), .int ((cConf gP n0 n1 (cTurn gS gP n0 n1 (cTake vo (se 2) n0 n1 tp).1 (cTake vo (se 2) n0 n1 tp).2.2.1 (cTake vo (se 2) n0 n1 tp).2.2.2.2 sta spa pl).2.2.2 (se 3) go (cTurn gS gP n0 n1 (cTake vo (se 2) n0 n1 tp).1 (cTake vo (se 2) n0 n1 tp).2.2.1 (cTake vo (se 2) n0 n1 tp).2.2.2.2 sta spa pl).1).2.2.2), .int ((cTurn gS gP n0 n1 (cTake vo (se 2) n0 n1 tp).1 (cTake vo (se 2) n0 n1 tp).2.2.1 (cTake vo (se 2) n0 n1 tp).2.2.2.2 sta spa pl).1)]))) 48 (.inl (ca 0, 8, .inl ((cTake vo (se 2) n0 n1 tp).1)))) 49 (.inl (ca 0, 8, .inl ((cTake vo (se 2) n0 n1 tp).2.1)))) 50 (.inl (ca 0, 8, .inl ((cTake vo (se 2) n0 n1 tp).2.2.1)))) 51 (.inl (ca 0, 8, .inl ((cConf gP n0 n1 (cTurn gS gP n0 n1 (cTake vo (se 2) n0 n1 tp).1 (cTake vo (se 2) n0 n1 tp).2.2.1 (cTake vo (se 2) n0 n1 tp).2.2.2.2 sta spa pl).2.2.2 (se 3) go (cTurn gS gP n0 n1 (cTake vo (se 2) n0 n1 tp).1 (cTake vo (se 2) n0 n1 tp).2.2.1 (cTake vo (se 2) n0 n1 tp).2.2.2.2 sta spa pl).1).2.1)))) 52 (.inl (ca 0, 8, .inl ((cConf gP n0 n1 (cTurn gS gP n0 n1 (cTake vo (se 2) n0 n1 tp).1 (cTake vo (se 2) n0 n1 tp).2.2.1 (cTake vo (se 2) n0 n1 tp).2.2.2.2 sta spa pl).2.2.2 (se 3) go (cTurn gS gP n0 n1 (cTake vo (se 2) n0 n1 tp).1 (cTake vo (se 2) n0 n1 tp).2.2.1 (cTake vo (se 2) n0 n1 tp).2.2.2.2 sta spa pl).1).2.2.1)))) 53 (.inl (ca 0, 36, .inl ((cTurn gS gP n0 n1 (cTake vo (se 2) n0 n1 tp).1 (cTake vo (se 2) n0 n1 tp).2.2.1 (cTake vo (se 2) n0 n1 tp).2.2.2.2 sta spa pl).2.2.2)))) 55 (.inl (ca 1, 12, .inr (.inl ((cTurn gS gP n0 n1 (cTake vo (se 2) n0 n1 tp).1 (cTake vo (se 2) n0 n1 tp).2.2.1 (cTake vo (se 2) n0 n1 tp).2.2.2.2 sta spa pl).2.1))))) 57 (.inl (ca 1, 12, .inr (.inl ((cTurn gS gP n0 n1 (cTake vo (se 2) n0 n1 tp).1 (cTake vo (se 2) n0 n1 tp).2.2.1 (cTake vo (se 2) n0 n1 tp).2.2.2.2 sta spa pl).2.2.1))))) := by
  refine gMv_ofK (by decide +kernel) (Nat.le_of_ble_eq_true rfl) (lv0 := [(0, .ref (ad 47)), (1, .ref (ad 2)), (2, .ref (ad 4)), (3, .ref (ad tb)), (4, .ref (ad 6)), (5, .int go)]) rfl (fun pT eT sT mT aT below meth cT AT QT C RT => ?_)
  have C : gX pT sT mT aT meth cT AT D ca ss 6 RX2 cX2_solve none := C
  refine gj_setf (up_id hc47).symm ?_
  refine gj_setf (up_id (up_nx (by decide) (hc48))).symm ?_
  refine gj_setf (up_id (up_nx (by decide) (up_nx (by decide) (hc49)))).symm ?_
  refine gj_setf (up_id (up_nx (by decide) (up_nx (by decide) (up_nx (by decide) (hc50))))).symm ?_
  refine gj_setf (up_id (up_nx (by decide) (up_nx (by decide) (up_nx (by decide) (up_nx (by decide) (hc51)))))).symm ?_
  refine gj_setf (up_id (up_nx (by decide) (up_nx (by decide) (up_nx (by decide) (up_nx (by decide) (up_nx (by decide) (hc52))))))).symm ?_
  refine gj_setf (up_id (up_nx (by decide) (up_nx (by decide) (up_nx (by decide) (up_nx (by decide) (up_nx (by decide) (up_nx (by decide) (hc53)))))))).symm ?_
  refine gj_setf (up_id (up_nx (by decide) (up_nx (by decide) (up_nx (by decide) (up_nx (by decide) (up_nx (by decide) (up_nx (by decide) (up_nx (by decide) (hc55))))))))).symm ?_
  refine gj_setf (up_id (up_nx (by decide) (up_nx (by decide) (up_nx (by decide) (up_nx (by decide) (up_nx (by decide) (up_nx (by decide) (up_nx (by decide) (up_nx (by decide) (hc57)))))))))).symm ?_
  refine gj_aload_n C 0 dX2_solve_0 rfl 0 rfl ?_
  refine gj_aload_n C 1 dX2_solve_1 rfl 1 rfl ?_
  refine gj_callVi C mi_X1_size w_578 2 (by decide) (up_nx (by decide) (up_nx (by decide) (up_nx (by decide) (up_nx (by decide) (up_nx (by decide) (up_nx (by decide) (up_nx (by decide) (up_nx (by decide) (up_nx (by decide) (hc2)))))))))) rfl (c_X1_size 2 3 (12 : Int32) (nI n0) 36 gS (up_nx (by decide) (up_nx (by decide) (up_nx (by decide) (up_nx (by decide) (up_nx (by decide) (up_nx (by decide) (up_nx (by decide) (up_nx (by decide) (up_nx (by decide) (hc2)))))))))) (up_nx (by decide) (up_nx (by decide) (up_nx (by decide) (up_nx (by decide) (up_nx (by decide) (up_nx (by decide) (up_nx (by decide) (up_nx (by decide) (up_nx (by decide) (hc3)))))))))) (by decide) (by decide) (by decide)) mc_X1_size ⟨Nat.le_of_ble_eq_true rfl, Nat.le_of_ble_eq_true rfl⟩ (rest := [.ref (ad 47)]) rfl (Nat.le_of_ble_eq_true rfl) dX2_solve_2 (fun r u h => ?_)
  obtain ⟨hr_, hu_⟩ := h; rw [hr_]; subst hu_
  refine gj_aload_n C 2 dX2_solve_5 rfl 2 rfl ?_
  refine gj_callVi C mi_X1_size w_578 4 (by decide) (up_nx (by decide) (up_nx (by decide) (up_nx (by decide) (up_nx (by decide) (up_nx (by decide) (up_nx (by decide) (up_nx (by decide) (up_nx (by decide) (up_nx (by decide) (hc4)))))))))) rfl (c_X1_size 4 5 (8 : Int32) (nI n1) 24 gP (up_nx (by decide) (up_nx (by decide) (up_nx (by decide) (up_nx (by decide) (up_nx (by decide) (up_nx (by decide) (up_nx (by decide) (up_nx (by decide) (up_nx (by decide) (hc4)))))))))) (up_nx (by decide) (up_nx (by decide) (up_nx (by decide) (up_nx (by decide) (up_nx (by decide) (up_nx (by decide) (up_nx (by decide) (up_nx (by decide) (up_nx (by decide) (hc5)))))))))) (by decide) (by decide) (by decide)) mc_X1_size ⟨Nat.le_of_ble_eq_true rfl, Nat.le_of_ble_eq_true rfl⟩ (rest := [.int (s_X1_size (nI n0)), .ref (ad 47)]) rfl (Nat.le_of_ble_eq_true rfl) dX2_solve_6 (fun r u h => ?_)
  obtain ⟨hr_, hu_⟩ := h; rw [hr_]; subst hu_
  refine gj_aload_n C 3 dX2_solve_9 rfl 3 rfl ?_
  refine gj_aload C dX2_solve_10 4 rfl ?_
  refine gj_iconst C (v := 2) (by decide) dX2_solve_12 ?_
  refine gj_iald C 6 (by decide) (up_nx (by decide) (up_nx (by decide) (up_nx (by decide) (up_nx (by decide) (up_nx (by decide) (up_nx (by decide) (up_nx (by decide) (up_nx (by decide) (up_nx (by decide) (hc6)))))))))) (by unfold vp_in; decide) dX2_solve_13 ?_
  refine gj_seti (y := se 2) rfl ?_
  refine gj_callVv C mi_X2_takePairs w_579 47 (by decide) (up_nx (by decide) (up_nx (by decide) (up_nx (by decide) (up_nx (by decide) (up_nx (by decide) (up_nx (by decide) (up_nx (by decide) (up_nx (by decide) (va_up_self _ _ _))))))))) rfl (c_takePairs_47 n0 n1 tb (se 2) us tc cc tu ts tr tp vo (up_nx (by decide) (up_nx (by decide) (up_nx (by decide) (up_nx (by decide) (up_nx (by decide) (up_nx (by decide) (up_nx (by decide) (up_nx (by decide) (va_up_self _ _ _))))))))) (up_nx (by decide) (up_nx (by decide) (up_nx (by decide) (up_nx (by decide) (up_nx (by decide) (up_nx (by decide) (up_nx (by decide) (va_up_self _ _ _)))))))) (up_nx (by decide) (up_nx (by decide) (up_nx (by decide) (up_nx (by decide) (up_nx (by decide) (up_nx (by decide) (va_up_self _ _ _))))))) (up_nx (by decide) (up_nx (by decide) (up_nx (by decide) (up_nx (by decide) (up_nx (by decide) (va_up_self _ _ _)))))) (up_nx (by omega) (up_nx (by omega) (up_nx (by omega) (up_nx (by omega) (up_nx (by omega) (up_nx (by omega) (up_nx (by omega) (up_nx (by omega) (up_nx (by omega) (hctb)))))))))) hn0 hn1 htb) mc_X2_takePairs ⟨Nat.le_of_ble_eq_true rfl, Nat.le_of_ble_eq_true rfl⟩ (rest := []) rfl (Nat.le_of_ble_eq_true rfl) dX2_solve_14 (fun u h => ?_)
  subst h
  refine gj_setf ((up_un ((up_un ((up_un ((up_comm (by decide)).trans (up_un ((up_comm (by decide)).trans (up_un ((up_comm (by decide)).trans (up_un ((up_comm (by decide)).trans (up_un ((up_comm (by decide)).trans (up_un ((up_comm (by decide)).trans (up_un ((up_comm (by decide)).trans (up_un (bx_uu _ _ _ _)))))))))))))))).trans ((up_comm (by decide)).trans (up_un ((up_comm (by decide)).trans (up_un ((up_comm (by decide)).trans (up_un ((up_comm (by decide)).trans (up_un ((up_comm (by decide)).trans (up_un ((up_comm (by decide)).trans (up_un (bx_uu _ _ _ _))))))))))))))).trans ((up_comm (by decide)).trans (up_un ((up_comm (by decide)).trans (up_un ((up_comm (by decide)).trans (up_un ((up_comm (by decide)).trans (up_un ((up_comm (by decide)).trans (up_un ((up_comm (by decide)).trans (up_un ((up_comm (by decide)).trans (up_un ((up_comm (by decide)).trans (up_un (bx_uu _ _ _ _))))))))))))))))))).trans ((up_comm (by decide)).trans (up_un ((up_comm (by decide)).trans (up_un ((up_comm (by decide)).trans (up_un ((up_comm (by decide)).trans (up_un ((up_comm (by decide)).trans (up_un (bx_uu _ _ _ _)))))))))))) ?_
  refine gj_aload_n C 0 dX2_solve_17 rfl 0 rfl ?_
  refine gj_aload_n C 1 dX2_solve_18 rfl 1 rfl ?_
  refine gj_aload_n C 2 dX2_solve_19 rfl 2 rfl ?_
  refine gj_callVv C mi_X2_findTurn w_589 47 (by decide) (up_nx (by decide) (up_nx (by decide) (up_nx (by decide) (up_nx (by decide) (up_nx (by decide) (up_nx (by decide) (up_nx (by decide) (up_nx (by decide) (va_up_self _ _ _))))))))) rfl (c_findTurn_47 n0 n1 ((cTake vo (se 2) n0 n1 tp).2.2.2.1) ((cTake vo (se 2) n0 n1 tp).2.2.2.2) cc tu ((cTake vo (se 2) n0 n1 tp).1) ((cTake vo (se 2) n0 n1 tp).2.2.1) pl sta spa gS gP (up_nx (by decide) (up_nx (by decide) (up_nx (by decide) (up_nx (by decide) (up_nx (by decide) (up_nx (by decide) (up_nx (by decide) (up_nx (by decide) (va_up_self _ _ _))))))))) (up_nx (by decide) (up_nx (by decide) (up_nx (by decide) (up_nx (by decide) (up_nx (by decide) (up_nx (by decide) (up_nx (by decide) (va_up_self _ _ _)))))))) (up_nx (by decide) (up_nx (by decide) (up_nx (by decide) (up_nx (by decide) (up_nx (by decide) (va_up_self _ _ _)))))) (up_nx (by decide) (up_nx (by decide) (va_up_self _ _ _))) (up_nx (by decide) (va_up_self _ _ _)) (va_up_self _ _ _) (up_nx (by decide) (up_nx (by decide) (up_nx (by decide) (up_nx (by decide) (up_nx (by decide) (up_nx (by decide) (up_nx (by decide) (up_nx (by decide) (up_nx (by decide) (hc54)))))))))) (up_nx (by decide) (up_nx (by decide) (up_nx (by decide) (up_nx (by decide) (up_nx (by decide) (up_nx (by decide) (up_nx (by decide) (up_nx (by decide) (up_nx (by decide) (hc56)))))))))) (up_nx (by decide) (up_nx (by decide) (up_nx (by decide) (up_nx (by decide) (up_nx (by decide) (up_nx (by decide) (up_nx (by decide) (up_nx (by decide) (up_nx (by decide) (hc2)))))))))) (up_nx (by decide) (up_nx (by decide) (up_nx (by decide) (up_nx (by decide) (up_nx (by decide) (up_nx (by decide) (up_nx (by decide) (up_nx (by decide) (up_nx (by decide) (hc3)))))))))) (up_nx (by decide) (up_nx (by decide) (up_nx (by decide) (up_nx (by decide) (up_nx (by decide) (up_nx (by decide) (up_nx (by decide) (up_nx (by decide) (up_nx (by decide) (hc4)))))))))) (up_nx (by decide) (up_nx (by decide) (up_nx (by decide) (up_nx (by decide) (up_nx (by decide) (up_nx (by decide) (up_nx (by decide) (up_nx (by decide) (up_nx (by decide) (hc5)))))))))) hn0 hn1 (cTake_tp hn0 hn1)) mc_X2_findTurn ⟨Nat.le_of_ble_eq_true rfl, Nat.le_of_ble_eq_true rfl⟩ (rest := []) rfl (Nat.le_of_ble_eq_true rfl) dX2_solve_20 (fun u h => ?_)
  subst h
  refine gj_setf ((up_un ((up_un ((up_un ((up_comm (by decide)).trans (up_un ((up_comm (by decide)).trans (up_un ((up_comm (by decide)).trans (up_un ((up_comm (by decide)).trans (up_un ((up_comm (by decide)).trans (up_un ((up_comm (by decide)).trans (up_un ((up_comm (by decide)).trans (up_un ((up_comm (by decide)).trans (up_un (bx_uu _ _ _ _)))))))))))))))))).trans ((up_comm (by decide)).trans (up_un (bx_uu _ _ _ _))))).trans (bx_uu _ _ _ _))).trans ((up_comm (by decide)).trans (up_un ((up_comm (by decide)).trans (up_un (bx_uu _ _ _ _)))))) ?_
  refine gj_aload_n C 0 dX2_solve_23 rfl 0 rfl ?_
  refine gj_aload_n C 1 dX2_solve_24 rfl 1 rfl ?_
  refine gj_callVi C mi_X1_size w_578 2 (by decide) (up_nx (by decide) (up_nx (by decide) (up_nx (by decide) (up_nx (by decide) (up_nx (by decide) (up_nx (by decide) (up_nx (by decide) (up_nx (by decide) (up_nx (by decide) (hc2)))))))))) rfl (c_X1_size 2 3 (12 : Int32) (nI n0) 36 gS (up_nx (by decide) (up_nx (by decide) (up_nx (by decide) (up_nx (by decide) (up_nx (by decide) (up_nx (by decide) (up_nx (by decide) (up_nx (by decide) (up_nx (by decide) (hc2)))))))))) (up_nx (by decide) (up_nx (by decide) (up_nx (by decide) (up_nx (by decide) (up_nx (by decide) (up_nx (by decide) (up_nx (by decide) (up_nx (by decide) (up_nx (by decide) (hc3)))))))))) (by decide) (by decide) (by decide)) mc_X1_size ⟨Nat.le_of_ble_eq_true rfl, Nat.le_of_ble_eq_true rfl⟩ (rest := [.ref (ad 47)]) rfl (Nat.le_of_ble_eq_true rfl) dX2_solve_25 (fun r u h => ?_)
  obtain ⟨hr_, hu_⟩ := h; rw [hr_]; subst hu_
  refine gj_aload_n C 2 dX2_solve_28 rfl 2 rfl ?_
  refine gj_aload C dX2_solve_29 4 rfl ?_
  refine gj_iconst C (v := 3) (by decide) dX2_solve_31 ?_
  refine gj_iald C 6 (by decide) (up_nx (by decide) (up_nx (by decide) (up_nx (by decide) (up_nx (by decide) (up_nx (by decide) (up_nx (by decide) (up_nx (by decide) (up_nx (by decide) (up_nx (by decide) (hc6)))))))))) (by unfold vp_in; decide) dX2_solve_32 ?_
  refine gj_seti (y := se 3) rfl ?_
  refine gj_iload C dX2_solve_33 5 rfl ?_
  refine gj_callVv C mi_X2_confirmSpots w_627 47 (by decide) (up_nx (by decide) (up_nx (by decide) (up_nx (by decide) (up_nx (by decide) (up_nx (by decide) (up_nx (by decide) (up_nx (by decide) (up_nx (by decide) (va_up_self _ _ _))))))))) rfl (c_confirm_47 n0 n1 (se 3) go ((cTake vo (se 2) n0 n1 tp).2.2.2.1) ((cTake vo (se 2) n0 n1 tp).2.2.2.2) cc ((cTurn gS gP n0 n1 ((cTake vo (se 2) n0 n1 tp).1) ((cTake vo (se 2) n0 n1 tp).2.2.1) ((cTake vo (se 2) n0 n1 tp).2.2.2.2) sta spa pl).1) cs cf ((cTurn gS gP n0 n1 ((cTake vo (se 2) n0 n1 tp).1) ((cTake vo (se 2) n0 n1 tp).2.2.1) ((cTake vo (se 2) n0 n1 tp).2.2.2.2) sta spa pl).2.2.2) gP (up_nx (by decide) (up_nx (by decide) (up_nx (by decide) (up_nx (by decide) (up_nx (by decide) (up_nx (by decide) (up_nx (by decide) (up_nx (by decide) (va_up_self _ _ _))))))))) (up_nx (by decide) (up_nx (by decide) (up_nx (by decide) (up_nx (by decide) (va_up_self _ _ _))))) (up_nx (by decide) (up_nx (by decide) (up_nx (by decide) (va_up_self _ _ _)))) (up_nx (by decide) (up_nx (by decide) (va_up_self _ _ _))) (up_nx (by decide) (up_nx (by decide) (up_nx (by decide) (up_nx (by decide) (up_nx (by decide) (up_nx (by decide) (up_nx (by decide) (up_nx (by decide) (up_nx (by decide) (hc4)))))))))) (up_nx (by decide) (up_nx (by decide) (up_nx (by decide) (up_nx (by decide) (up_nx (by decide) (up_nx (by decide) (up_nx (by decide) (up_nx (by decide) (up_nx (by decide) (hc5)))))))))) hn0 hn1) mc_X2_confirmSpots ⟨Nat.le_of_ble_eq_true rfl, Nat.le_of_ble_eq_true rfl⟩ (rest := []) rfl (Nat.le_of_ble_eq_true rfl) dX2_solve_35 (fun u h => ?_)
  subst h
  refine gj_setf ((up_un ((up_un ((up_comm (by decide)).trans (up_un ((up_comm (by decide)).trans (up_un ((up_comm (by decide)).trans (up_un ((up_comm (by decide)).trans (up_un (bx_uu _ _ _ _)))))))))).trans ((up_comm (by decide)).trans (up_un ((up_comm (by decide)).trans (up_un ((up_comm (by decide)).trans (up_un (bx_uu _ _ _ _))))))))).trans ((up_comm (by decide)).trans (up_un ((up_comm (by decide)).trans (up_un ((up_comm (by decide)).trans (up_un ((up_comm (by decide)).trans (up_un ((up_comm (by decide)).trans (up_un ((up_comm (by decide)).trans (up_un ((up_comm (by decide)).trans (up_un ((up_comm (by decide)).trans (up_un (bx_uu _ _ _ _)))))))))))))))))) ?_
  exact RT _ _ _ rfl dX2_solve_38
set_option maxHeartbeats 400000 in
set_option maxRecDepth 100000 in
theorem c_wrongBits {l : Launch} {D : va_G} {ca ss ad : Nat → Nat} {f : Nat → va_E} (us tc cc tu : Int32) (ts : Nat → Int32) (cs : Nat → Int32) (hc47 : f 47 = .inr (2, [.ref (ad 48), .ref (ad 49), .ref (ad 50), .ref (ad 51), .ref (ad 52), .ref (ad 53), .ref (ad 54), .ref (ad 56), .int us, .int tc, .int cc, .int tu])) (hc48 : f 48 = .inl (ca 0, 8, .inl ts)) (hc51 : f 51 = .inl (ca 0, 8, .inl cs)) : gMi l D ca ss ad 108 yX2_wrongBits cX2_wrongBits 3 (some .int) 0 f [.ref (ad 47)] (fun r u => r = cWb ts cs 8 ∧ u = f) := by
  refine gMi_ofK (by decide +kernel) (Nat.le_of_ble_eq_true rfl) (lv0 := [(0, .ref (ad 47))]) rfl (fun pT eT sT mT aT below meth cT AT QT C RT => ?_)
  have C : gX pT sT mT aT meth cT AT D ca ss 3 RX2 cX2_wrongBits (some .int) := C
  refine gj_iconst C (v := 0) (by decide) dX2_wrongBits_0 ?_
  refine gj_istore_n C (lv' := [(1, .int 0), (0, .ref (ad 47))]) 1 dX2_wrongBits_1 rfl (by decide) rfl ?_
  refine gj_iconst C (v := 0) (by decide) dX2_wrongBits_2 ?_
  refine gj_seti (y := nI 0) rfl ?_
  refine gj_istore_n C (lv' := [(2, .int (nI 0)), (1, .int 0), (0, .ref (ad 47))]) 2 dX2_wrongBits_3 rfl (by decide) rfl ?_
  refine gj_lvs (lv' := [(2, .int (nI 0)), (1, .int (cWb ts cs 0)), (0, .ref (ad 47))]) rfl ?_
  have loop_1 : ∀ (m0 t0 : Nat), t0 + m0 = 8 → gJ pT l eT (Rm 0) sT mT aT below meth cT AT QT D ad 108 3 (f) [(2, .int (nI t0)), (1, .int (cWb ts cs t0)), (0, .ref (ad 47))] 4 [] := by
    intro m0
    induction m0 with
    | zero =>
      intro t0 hk_t0  
      refine gj_iload_n C 2 dX2_wrongBits_4 rfl 0 rfl ?_
      refine gj_bipush C (v := 8) (by decide) dX2_wrongBits_5 ?_
      refine gj_icmp_ge C 47 dX2_wrongBits_7 (by decide) (fun c_3 => ?_) (fun c_3 => absurd (show (8 : Int32) ≤ nI t0 from nI_le (a := 8) (by omega) (by omega)) c_3)
      refine gj_iload_n C 1 dX2_wrongBits_47 rfl 1 rfl ?_
      exact RT _ _ _ _ ⟨by obtain rfl : t0 = 8 := (by omega); rfl, rfl⟩ dX2_wrongBits_48
    | succ m0 ih_2 =>
      intro t0 hk_t0  
      refine gj_iload_n C 2 dX2_wrongBits_4 rfl 0 rfl ?_
      refine gj_bipush C (v := 8) (by decide) dX2_wrongBits_5 ?_
      refine gj_icmp_ge C 47 dX2_wrongBits_7 (by decide) (fun c_4 => absurd c_4 (show ¬ (8 : Int32) ≤ nI t0 from nI_ge (b := 8) (by omega) (by omega))) (fun c_4 => ?_)
      refine gj_aload_n C 0 dX2_wrongBits_10 rfl 2 rfl ?_
      refine gj_get C 47 (by decide) hc47 inX2 rfl 0 (by decide) w_206 (v := .ref (ad 48)) rfl dX2_wrongBits_11 ?_
      refine gj_iload_n C 2 dX2_wrongBits_14 rfl 0 rfl ?_
      refine gj_iald C 48 (by decide) hc48 (vp_in_nI (by omega) (by omega)) dX2_wrongBits_15 ?_
      refine gj_seti (y := ts t0) (congrArg _ (nI_clamp (show t0 < 2 ^ 31 by omega))) ?_
      refine gj_iconst C (v := (-1)) (by decide) dX2_wrongBits_16 ?_
      refine gj_icmp_eq C 41 dX2_wrongBits_17 (by decide) (fun c_5 => ?_) (fun c_5 => ?_)
      · refine gj_iinc C (v := nI (t0 + 1)) (lv' := [(2, .int (nI (t0 + 1))), (1, .int (cWb ts cs t0)), (0, .ref (ad 47))]) dX2_wrongBits_41 0 rfl (nI_1 _) (by decide) rfl ?_
        refine gj_goto C 4 dX2_wrongBits_44 (by decide) ?_
        refine gj_lvs (lv' := [(2, .int (nI (t0 + 1))), (1, .int (cWb ts cs (t0 + 1))), (0, .ref (ad 47))]) (by rw [show (cWb ts cs (t0 + 1)) = _ from (if_pos c_5).trans (rfl)]) ?_
        refine gj_lv [0, 1, 2] rfl ?_
        exact ih_2 (t0 + 1) (by omega)
      · refine gj_aload_n C 0 dX2_wrongBits_20 rfl 2 rfl ?_
        refine gj_get C 47 (by decide) hc47 inX2 rfl 0 (by decide) w_206 (v := .ref (ad 48)) rfl dX2_wrongBits_21 ?_
        refine gj_iload_n C 2 dX2_wrongBits_24 rfl 0 rfl ?_
        refine gj_iald C 48 (by decide) hc48 (vp_in_nI (by omega) (by omega)) dX2_wrongBits_25 ?_
        refine gj_seti (y := ts t0) (congrArg _ (nI_clamp (show t0 < 2 ^ 31 by omega))) ?_
        refine gj_aload_n C 0 dX2_wrongBits_26 rfl 2 rfl ?_
        refine gj_get C 47 (by decide) hc47 inX2 rfl 3 (by decide) w_211 (v := .ref (ad 51)) rfl dX2_wrongBits_27 ?_
        refine gj_iload_n C 2 dX2_wrongBits_30 rfl 0 rfl ?_
        refine gj_iald C 51 (by decide) hc51 (vp_in_nI (by omega) (by omega)) dX2_wrongBits_31 ?_
        refine gj_seti (y := cs t0) (congrArg _ (nI_clamp (show t0 < 2 ^ 31 by omega))) ?_
        refine gj_icmp_eq C 41 dX2_wrongBits_32 (by decide) (fun c_6 => ?_) (fun c_6 => ?_)
        · refine gj_iinc C (v := nI (t0 + 1)) (lv' := [(2, .int (nI (t0 + 1))), (1, .int (cWb ts cs t0)), (0, .ref (ad 47))]) dX2_wrongBits_41 0 rfl (nI_1 _) (by decide) rfl ?_
          refine gj_goto C 4 dX2_wrongBits_44 (by decide) ?_
          refine gj_lvs (lv' := [(2, .int (nI (t0 + 1))), (1, .int (cWb ts cs (t0 + 1))), (0, .ref (ad 47))]) (by rw [show (cWb ts cs (t0 + 1)) = _ from (if_neg c_5).trans ((if_pos c_6).trans (rfl))]) ?_
          refine gj_lv [0, 1, 2] rfl ?_
          exact ih_2 (t0 + 1) (by omega)
        · refine gj_iload_n C 1 dX2_wrongBits_35 rfl 1 rfl ?_
          refine gj_iconst C (v := 1) (by decide) dX2_wrongBits_36 ?_
          refine gj_iload_n C 2 dX2_wrongBits_37 rfl 0 rfl ?_
          refine gj_ishl C dX2_wrongBits_38 ?_
          refine gj_ior C dX2_wrongBits_39 ?_
          refine gj_istore_n C (lv' := [(1, .int ((cWb ts cs t0) ||| (1 <<< ((nI t0) &&& 31)))), (2, .int (nI t0)), (0, .ref (ad 47))]) 1 dX2_wrongBits_40 rfl (by decide) rfl ?_
          refine gj_iinc C (v := nI (t0 + 1)) (lv' := [(2, .int (nI (t0 + 1))), (1, .int ((cWb ts cs t0) ||| (1 <<< ((nI t0) &&& 31)))), (0, .ref (ad 47))]) dX2_wrongBits_41 1 rfl (nI_1 _) (by decide) rfl ?_
          refine gj_goto C 4 dX2_wrongBits_44 (by decide) ?_
          refine gj_lvs (lv' := [(2, .int (nI (t0 + 1))), (1, .int (cWb ts cs (t0 + 1))), (0, .ref (ad 47))]) (by rw [show (cWb ts cs (t0 + 1)) = _ from (if_neg c_5).trans ((if_neg c_6).trans (rfl))]) ?_
          refine gj_lv [0, 1, 2] rfl ?_
          exact ih_2 (t0 + 1) (by omega)
  refine gj_lv [0, 1, 2] rfl ?_
  exact loop_1 (8 - 0) 0 (by omega)
