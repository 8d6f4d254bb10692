/-! THE FLOAT OF THE CLASS -/
theorem abs_qA {a : Int32} (hal : -30000 ≤ a.toInt) : (if 0 < a.toInt64 then a.toInt64 else -a.toInt64) = lN (qA a) := by
  have r := i32_rng a
  have e0 : (0 : Int64).toInt = 0 := rfl
  rw [i64_eq, pk_lT (by unfold qA; omega)]
  by_cases h : 0 < a.toInt64
  · rw [if_pos h, i32_w]
    rw [i64_lt, i32_w] at h
    unfold qA; omega
  · rw [if_neg h, Int64.toInt_neg, i32_w, i64_bm (by omega) (by omega)]
    rw [i64_lt, i32_w] at h
    unfold qA; omega
theorem two_l (n : Nat) : (2 : Int64) * lN n = lN (2 * n) := by
  rw [show (2 : Int64) = lN 2 from rfl]; exact (Int64.ofNat_mul 2 n).symm
theorem l_two (n : Nat) : lN n * (2 : Int64) = lN (n * 2) := by
  rw [show (2 : Int64) = lN 2 from rfl]; exact (Int64.ofNat_mul n 2).symm
theorem qST {a b : Int32} (ha0 : 1 ≤ qA a) (ha : qA a ≤ 30000) (hb0 : 1 ≤ qA b) (hb : qA b ≤ 30000) : qS a b = 0 ∨ qT a b = 0 := by
  match h : qS a b with
  | 0 => exact Or.inl rfl
  | s + 1 =>
    right
    have h1 := fS_lt 15 (qA a) (qA b) s (by unfold qS at h; omega)
    unfold qT
    rw [h]
    have e : qA a * 2 ^ (s + 1) = 2 * (qA a * 2 ^ s) := by rw [Nat.pow_succ, ← Nat.mul_assoc, Nat.mul_comm]
    show fS (2 * qA b) (qA a * 2 ^ (s + 1) + 1) (14 + 1) = 0
    unfold fS
    rw [if_pos (by omega)]
theorem u1_x {a b : Int32} (ha0 : 1 ≤ qA a) (ha : qA a ≤ 30000) (hb0 : 1 ≤ qA b) (hb : qA b ≤ 30000) : lg_cmp (lN (qA a)) (2 * lN (qA b * 2 ^ qT a b)) < 0 := by
  obtain ⟨h1, h2⟩ := qT_b ha0 ha hb0 hb
  have h3 := h2 _ (Nat.le_refl _)
  have h4 : qA a ≤ qA a * 2 ^ qS a b := Nat.le_mul_of_pos_right _ (Nat.pow_pos (by omega))
  rw [Nat.mul_assoc] at h1
  rw [two_l, lg_cmp_lt, pk_lLT (by omega) (by omega)]
  omega
theorem u1_s {a b : Int32} (ha0 : 1 ≤ qA a) (ha : qA a ≤ 30000) (hb0 : 1 ≤ qA b) (hb : qA b ≤ 30000) {t : Nat} (ht : t < qT a b) : ¬ lg_cmp (lN (qA a)) (2 * lN (qA b * 2 ^ t)) < 0 := by
  obtain ⟨-, h2⟩ := qT_b ha0 ha hb0 hb
  have h3 := h2 _ (Nat.le_of_lt ht)
  have h1 := fS_lt 15 (2 * qA b) (qA a * 2 ^ qS a b + 1) t ht
  have h5 : qS a b = 0 := by
    rcases qST ha0 ha hb0 hb with q | q
    · exact q
    · omega
  rw [h5, Nat.pow_zero, Nat.mul_one, Nat.mul_assoc] at h1
  rw [two_l, lg_cmp_lt, pk_lLT (by omega) (by omega)]
  omega
theorem u2_x {a b : Int32} (ha0 : 1 ≤ qA a) (ha : qA a ≤ 30000) (hb0 : 1 ≤ qA b) (hb : qA b ≤ 30000) : 0 ≤ lg_cmp (lN (qA a * 2 ^ qS a b)) (lN (qA b * 2 ^ qT a b)) := by
  obtain ⟨-, h2⟩ := qT_b ha0 ha hb0 hb
  obtain ⟨h1, h4⟩ := qS_b ha0 ha hb0 hb
  have h3 := h2 _ (Nat.le_refl _)
  rw [lg_cmp_ge, pk_lLE (by omega) (by omega)]
  match h : qT a b with
  | 0 => rw [Nat.pow_zero, Nat.mul_one]; exact h1
  | t + 1 =>
    have h5 := fS_lt 15 (2 * qA b) (qA a * 2 ^ qS a b + 1) t (by unfold qT at h; omega)
    rw [Nat.pow_succ, ← Nat.mul_assoc]
    rw [Nat.mul_assoc] at h5
    omega
theorem u2_s {a b : Int32} (ha0 : 1 ≤ qA a) (ha : qA a ≤ 30000) (hb0 : 1 ≤ qA b) (hb : qA b ≤ 30000) {t : Nat} (ht : t < qS a b) : ¬ 0 ≤ lg_cmp (lN (qA a * 2 ^ t)) (lN (qA b * 2 ^ qT a b)) := by
  obtain ⟨-, h2⟩ := qT_b ha0 ha hb0 hb
  have h3 := h2 _ (Nat.le_refl _)
  have h1 := fS_lt 15 (qA a) (qA b) t ht
  have h4 : qA b ≤ qA b * 2 ^ qT a b := Nat.le_mul_of_pos_right _ (Nat.pow_pos (by omega))
  rw [lg_cmp_ge, pk_lLE (by omega) (by omega)]
  omega
theorem u_p {t u : Nat} (ht : t ≤ 15) (hu : u ≤ 15) : ¬ nI t - nI u ≤ -20 := by
  have e : (-20 : Int32).toInt = -20 := rfl
  rw [i32_le, i32_sub (by rw [nI_toInt (by omega), nI_toInt (by omega)]; omega) (by rw [nI_toInt (by omega), nI_toInt (by omega)]; omega), nI_toInt (by omega), nI_toInt (by omega)]
  omega
theorem pw_t (n t : Nat) : lN (n * 2 ^ t) * (2 : Int64) = lN (n * 2 ^ (t + 1)) := by
  rw [l_two, Nat.mul_assoc, Nat.pow_succ]
theorem bits_eq (P : Int32) (q : Int64) : ((P + 127) <<< ((23 : Int32) &&& 31)) + (q - 8388608).toInt32 = ((((((23 : Int32) - (23 - P)) + 127) <<< ((23 : Int32) &&& 31)).toInt64 + q) - 8388608).toInt32 := by
  have e : (23 : Int32) - (23 - P) = P := by
    rw [Int32.sub_eq_add_neg, Int32.neg_sub, Int32.sub_eq_add_neg, Int32.add_comm P, ← Int32.add_assoc, Int32.add_right_neg, Int32.zero_add]
  rw [e]
  simp only [Int64.toInt32_sub, Int64.toInt32_add, Int32.toInt32_toInt64, Int32.sub_eq_add_neg, Int32.add_assoc]

def cTail (a : Int32) (A B : Int64) (P : Int32) : Int32 := if 0 < (lg_cmp (2 * ((A <<< ((23 : Int32).toInt64 &&& 63)) - (A <<< ((23 : Int32).toInt64 &&& 63)) / B * B)) B) then (if 0 ≤ a then (((P + 127) <<< (23 &&& 31)) + (((((A <<< ((23 : Int32).toInt64 &&& 63)) / B) + 1) - 8388608).toInt32)) else ((((P + 127) <<< (23 &&& 31)) + (((((A <<< ((23 : Int32).toInt64 &&& 63)) / B) + 1) - 8388608).toInt32)) ||| (-2147483648))) else (if (lg_cmp (2 * ((A <<< ((23 : Int32).toInt64 &&& 63)) - (A <<< ((23 : Int32).toInt64 &&& 63)) / B * B)) B) = 0 then (if (lg_cmp (((A <<< ((23 : Int32).toInt64 &&& 63)) / B) - ((A <<< ((23 : Int32).toInt64 &&& 63)) / B) / 2 * 2) 1) = 0 then (if 0 ≤ a then (((P + 127) <<< (23 &&& 31)) + (((((A <<< ((23 : Int32).toInt64 &&& 63)) / B) + 1) - 8388608).toInt32)) else ((((P + 127) <<< (23 &&& 31)) + (((((A <<< ((23 : Int32).toInt64 &&& 63)) / B) + 1) - 8388608).toInt32)) ||| (-2147483648))) else (if 0 ≤ a then (((P + 127) <<< (23 &&& 31)) + ((((A <<< ((23 : Int32).toInt64 &&& 63)) / B) - 8388608).toInt32)) else ((((P + 127) <<< (23 &&& 31)) + ((((A <<< ((23 : Int32).toInt64 &&& 63)) / B) - 8388608).toInt32)) ||| (-2147483648)))) else (if 0 ≤ a then (((P + 127) <<< (23 &&& 31)) + ((((A <<< ((23 : Int32).toInt64 &&& 63)) / B) - 8388608).toInt32)) else ((((P + 127) <<< (23 &&& 31)) + ((((A <<< ((23 : Int32).toInt64 &&& 63)) / B) - 8388608).toInt32)) ||| (-2147483648))))
theorem cTail_eq (a : Int32) (A B : Int64) (P : Int32) : cTail a A B P = qTail a (A <<< ((23 : Int32).toInt64 &&& 63)) B (23 - P) := by
  unfold cTail qTail
  repeat' split
  all_goals first | exact bits_eq _ _ | (rw [bits_eq]; done) | (rw [bits_eq, Int64.add_zero]; done)
def cFlo (a b : Int32) : Int32 := if a = 0 then 0 else cTail a (lN (qA a * 2 ^ (qS a b))) (lN (qA b * 2 ^ (qT a b))) (nI (qT a b) - nI (qS a b))
theorem b_ge1 {b : Int32} (hbn : ¬ b < 0) (hb0 : 1 ≤ qA b) : 1 ≤ b := by
  rw [i32_lt] at hbn
  rw [i32_le]
  have e0 : (0 : Int32).toInt = 0 := rfl
  have e1 : (1 : Int32).toInt = 1 := rfl
  unfold qA at hb0
  omega
set_option maxHeartbeats 400000 in
set_option maxRecDepth 100000 in
theorem c_X11_floatBits {l : Launch} {D : va_G} {ca ss ad : Nat → Nat} {f : Nat → va_E}  (a : Int32) (b : Int32)   (hal : -30000 ≤ a.toInt) (hbn : ¬ b < 0) (ha : qA a ≤ 30000) (hb0 : 1 ≤ qA b) (hb : qA b ≤ 30000) : gMi l D ca ss ad 108 yX11_floatBits cX11_floatBits 12 (some .int) 1 f [.int a, .int b] (fun r u => r = cFlo a b ∧ u = f) := by
  refine gMi_ofK (by decide +kernel) (Nat.le_of_ble_eq_true rfl) (lv0 := [(0, .int a), (1, .int b)]) rfl (fun pT eT sT mT aT below meth cT AT QT C RT => ?_)
  have C : gX pT sT mT aT meth cT AT D ca ss 12 RX11 cX11_floatBits (some .int) := C
  refine gj_iload_n C 0 dX11_floatBits_0 rfl 0 rfl ?_
  refine gj_if_eq C 9 dX11_floatBits_1 (by decide) (fun c_1 => ?_) (fun c_1 => ?_)
  · refine gj_iconst C (v := 0) (by decide) dX11_floatBits_9 ?_
    exact RT _ _ _ _ ⟨(show cFlo a b = _ from if_pos c_1).symm, rfl⟩ dX11_floatBits_10
  · refine gj_iload_n C 1 dX11_floatBits_4 rfl 1 rfl ?_
    refine gj_iconst C (v := 1) (by decide) dX11_floatBits_5 ?_
    refine gj_icmp_ge C 11 dX11_floatBits_6 (by decide) (fun c_2 => ?_) (fun c_2 => absurd (b_ge1 hbn hb0) c_2)
    have ha0 : 1 ≤ qA a := qA_1 c_1
    have hT15 : qT a b ≤ 15 := fS_le 15 _ _
    have hS15 : qS a b ≤ 15 := fS_le 15 _ _
    refine gj_iload_n C 0 dX11_floatBits_11 rfl 0 rfl ?_
    refine gj_i2l C dX11_floatBits_12 ?_
    refine gj_mabsl C w_758 w_640 w_57 w_641 ⟨Nat.le_of_ble_eq_true rfl, Nat.le_of_ble_eq_true rfl⟩ (Nat.le_of_ble_eq_true rfl) dX11_floatBits_13 ?_
    refine gj_setl (y := lN (qA a)) (abs_qA hal) ?_
    refine gj_lstore_n C (lv' := [(2, .long (lN (qA a))), (0, .int a), (1, .int b)]) 2 dX11_floatBits_16 rfl (by decide) rfl ?_
    refine gj_iload_n C 1 dX11_floatBits_17 rfl 2 rfl ?_
    refine gj_i2l C dX11_floatBits_18 ?_
    refine gj_setl (y := lN (qA b)) (qA_pos hbn) ?_
    refine gj_lstore C (lv' := [(4, .long (lN (qA b))), (2, .long (lN (qA a))), (0, .int a), (1, .int b)]) dX11_floatBits_19 (by decide) rfl ?_
    refine gj_iconst C (v := 0) (by decide) dX11_floatBits_21 ?_
    refine gj_istore C (lv' := [(6, .int 0), (4, .long (lN (qA b))), (2, .long (lN (qA a))), (0, .int a), (1, .int b)]) dX11_floatBits_22 (by decide) rfl ?_
    refine gj_lvs (lv' := [(6, .int (nI 0)), (4, .long (lN (qA b * 2 ^ 0))), (2, .long (lN (qA a))), (0, .int a), (1, .int b)]) (by rw [Nat.pow_zero, Nat.mul_one]; rfl) ?_
    have loop_3 : ∀ (m0 t0 : Nat), t0 + m0 = (qT a b) → gJ pT l eT (Rm 1) sT mT aT below meth cT AT QT D ad 108 12 (f) [(6, .int (nI t0)), (4, .long (lN (qA b * 2 ^ t0))), (2, .long (lN (qA a))), (0, .int a), (1, .int b)] 24 [] := by
      intro m0
      induction m0 with
      | zero =>
        intro t0 hk_t0  
        obtain rfl : t0 = (qT a b) := (by omega)
        refine gj_iload C dX11_floatBits_24 0 rfl ?_
        refine gj_bipush C (v := 20) (by decide) dX11_floatBits_26 ?_
        refine gj_icmp_ge C 56 dX11_floatBits_28 (by decide) (fun c_5 => absurd c_5 (show ¬ (20 : Int32) ≤ nI (qT a b) from nI_ge (b := 20) (by omega) (by omega))) (fun c_5 => ?_)
        refine gj_lload_n C 2 dX11_floatBits_31 rfl 2 rfl ?_
        refine gj_ldc2 C (v := 2) w_759 dX11_floatBits_32 ?_
        refine gj_lload C dX11_floatBits_35 1 rfl ?_
        refine gj_lmul C dX11_floatBits_37 ?_
        refine gj_lcmp C dX11_floatBits_38 ?_
        refine gj_if_lt C 56 dX11_floatBits_39 (by decide) (fun c_6 => ?_) (fun c_6 => absurd (u1_x ha0 ha hb0 hb) c_6)
        refine gj_lvs (lv' := [(6, .int (nI (qT a b) - nI 0)), (4, .long (lN (qA b * 2 ^ (qT a b)))), (2, .long (lN (qA a * 2 ^ 0))), (0, .int a), (1, .int b)]) (by rw [Nat.pow_zero, Nat.mul_one, show nI 0 = 0 from rfl, Int32.sub_zero]) ?_
        have loop_7 : ∀ (m1 t1 : Nat), t1 + m1 = (qS a b) → gJ pT l eT (Rm 1) sT mT aT below meth cT AT QT D ad 108 12 (f) [(6, .int (nI (qT a b) - nI t1)), (4, .long (lN (qA b * 2 ^ (qT a b)))), (2, .long (lN (qA a * 2 ^ t1))), (0, .int a), (1, .int b)] 56 [] := by
          intro m1
          induction m1 with
          | zero =>
            intro t1 hk_t1  
            obtain rfl : t1 = (qS a b) := (by omega)
            refine gj_iload C dX11_floatBits_56 0 rfl ?_
            refine gj_bipush C (v := (-20)) (by decide) dX11_floatBits_58 ?_
            refine gj_icmp_le C 82 dX11_floatBits_60 (by decide) (fun c_9 => absurd c_9 (u_p (by omega) (by omega))) (fun c_9 => ?_)
            refine gj_lload_n C 2 dX11_floatBits_63 rfl 2 rfl ?_
            refine gj_lload C dX11_floatBits_64 1 rfl ?_
            refine gj_lcmp C dX11_floatBits_66 ?_
            refine gj_if_ge C 82 dX11_floatBits_67 (by decide) (fun c_10 => ?_) (fun c_10 => absurd (u2_x ha0 ha hb0 hb) c_10)
            refine gj_lload_n C 2 dX11_floatBits_82 rfl 2 rfl ?_
            refine gj_bipush C (v := 23) (by decide) dX11_floatBits_83 ?_
            refine gj_lshl C dX11_floatBits_85 ?_
            refine gj_lload C dX11_floatBits_86 1 rfl ?_
            refine gj_ldiv C (q_nzb ha0 ha hb0 hb (Nat.le_refl _)) dX11_floatBits_88 ?_
            refine gj_lstore C (lv' := [(7, .long (((lN (qA a * 2 ^ (qS a b))) <<< ((23 : Int32).toInt64 &&& 63)) / (lN (qA b * 2 ^ (qT a b))))), (6, .int (nI (qT a b) - nI (qS a b))), (4, .long (lN (qA b * 2 ^ (qT a b)))), (2, .long (lN (qA a * 2 ^ (qS a b)))), (0, .int a), (1, .int b)]) dX11_floatBits_89 (by decide) rfl ?_
            refine gj_ldc2 C (v := 2) w_759 dX11_floatBits_91 ?_
            refine gj_lload_n C 2 dX11_floatBits_94 rfl 3 rfl ?_
            refine gj_bipush C (v := 23) (by decide) dX11_floatBits_95 ?_
            refine gj_lshl C dX11_floatBits_97 ?_
            refine gj_lload C dX11_floatBits_98 2 rfl ?_
            refine gj_lrem C (q_nzb ha0 ha hb0 hb (Nat.le_refl _)) dX11_floatBits_100 ?_
            refine gj_lmul C dX11_floatBits_101 ?_
            refine gj_lstore C (lv' := [(9, .long (2 * (((lN (qA a * 2 ^ (qS a b))) <<< ((23 : Int32).toInt64 &&& 63)) - ((lN (qA a * 2 ^ (qS a b))) <<< ((23 : Int32).toInt64 &&& 63)) / (lN (qA b * 2 ^ (qT a b))) * (lN (qA b * 2 ^ (qT a b)))))), (7, .long (((lN (qA a * 2 ^ (qS a b))) <<< ((23 : Int32).toInt64 &&& 63)) / (lN (qA b * 2 ^ (qT a b))))), (6, .int (nI (qT a b) - nI (qS a b))), (4, .long (lN (qA b * 2 ^ (qT a b)))), (2, .long (lN (qA a * 2 ^ (qS a b)))), (0, .int a), (1, .int b)]) dX11_floatBits_102 (by decide) rfl ?_
            refine gj_lload C dX11_floatBits_104 0 rfl ?_
            refine gj_lload C dX11_floatBits_106 3 rfl ?_
            refine gj_lcmp C dX11_floatBits_108 ?_
            refine gj_if_gt C 131 dX11_floatBits_109 (by decide) (fun c_11 => ?_) (fun c_11 => ?_)
            · refine gj_lload C dX11_floatBits_131 1 rfl ?_
              refine gj_lconst C (v := 1) rfl dX11_floatBits_133 ?_
              refine gj_ladd C dX11_floatBits_134 ?_
              refine gj_lstore C (lv' := [(7, .long ((((lN (qA a * 2 ^ (qS a b))) <<< ((23 : Int32).toInt64 &&& 63)) / (lN (qA b * 2 ^ (qT a b)))) + 1)), (9, .long (2 * (((lN (qA a * 2 ^ (qS a b))) <<< ((23 : Int32).toInt64 &&& 63)) - ((lN (qA a * 2 ^ (qS a b))) <<< ((23 : Int32).toInt64 &&& 63)) / (lN (qA b * 2 ^ (qT a b))) * (lN (qA b * 2 ^ (qT a b)))))), (6, .int (nI (qT a b) - nI (qS a b))), (4, .long (lN (qA b * 2 ^ (qT a b)))), (2, .long (lN (qA a * 2 ^ (qS a b)))), (0, .int a), (1, .int b)]) dX11_floatBits_135 (by decide) rfl ?_
              refine gj_iload C dX11_floatBits_137 2 rfl ?_
              refine gj_bipush C (v := 127) (by decide) dX11_floatBits_139 ?_
              refine gj_iadd C dX11_floatBits_141 ?_
              refine gj_bipush C (v := 23) (by decide) dX11_floatBits_142 ?_
              refine gj_ishl C dX11_floatBits_144 ?_
              refine gj_lload C dX11_floatBits_145 0 rfl ?_
              refine gj_ldc2 C (v := 8388608) w_760 dX11_floatBits_147 ?_
              refine gj_lsub C dX11_floatBits_150 ?_
              refine gj_l2i C dX11_floatBits_151 ?_
              refine gj_iadd C dX11_floatBits_152 ?_
              refine gj_istore C (lv' := [(11, .int ((((nI (qT a b) - nI (qS a b)) + 127) <<< (23 &&& 31)) + ((((((lN (qA a * 2 ^ (qS a b))) <<< ((23 : Int32).toInt64 &&& 63)) / (lN (qA b * 2 ^ (qT a b)))) + 1) - 8388608).toInt32))), (7, .long ((((lN (qA a * 2 ^ (qS a b))) <<< ((23 : Int32).toInt64 &&& 63)) / (lN (qA b * 2 ^ (qT a b)))) + 1)), (9, .long (2 * (((lN (qA a * 2 ^ (qS a b))) <<< ((23 : Int32).toInt64 &&& 63)) - ((lN (qA a * 2 ^ (qS a b))) <<< ((23 : Int32).toInt64 &&& 63)) / (lN (qA b * 2 ^ (qT a b))) * (lN (qA b * 2 ^ (qT a b)))))), (6, .int (nI (qT a b) - nI (qS a b))), (4, .long (lN (qA b * 2 ^ (qT a b)))), (2, .long (lN (qA a * 2 ^ (qS a b)))), (0, .int a), (1, .int b)]) dX11_floatBits_153 (by decide) rfl ?_
              refine gj_iload_n C 0 dX11_floatBits_155 rfl 6 rfl ?_
              refine gj_if_ge C 167 dX11_floatBits_156 (by decide) (fun c_12 => ?_) (fun c_12 => ?_)
              · refine gj_iload C dX11_floatBits_167 0 rfl ?_
                exact RT _ _ _ _ ⟨(show cFlo a b = _ from (if_neg c_1).trans ((if_pos c_11).trans ((if_pos c_12).trans (rfl)))).symm, rfl⟩ dX11_floatBits_169
              · refine gj_iload C dX11_floatBits_159 0 rfl ?_
                refine gj_ldc C (v := (-2147483648)) w_424 dX11_floatBits_161 ?_
                refine gj_ior C dX11_floatBits_163 ?_
                refine gj_goto C 169 dX11_floatBits_164 (by decide) ?_
                exact RT _ _ _ _ ⟨(show cFlo a b = _ from (if_neg c_1).trans ((if_pos c_11).trans ((if_neg c_12).trans (rfl)))).symm, rfl⟩ dX11_floatBits_169
            · refine gj_lload C dX11_floatBits_112 0 rfl ?_
              refine gj_lload C dX11_floatBits_114 3 rfl ?_
              refine gj_lcmp C dX11_floatBits_116 ?_
              refine gj_if_ne C 137 dX11_floatBits_117 (by decide) (fun c_13 => ?_) (fun c_13 => ?_)
              · refine gj_iload C dX11_floatBits_137 2 rfl ?_
                refine gj_bipush C (v := 127) (by decide) dX11_floatBits_139 ?_
                refine gj_iadd C dX11_floatBits_141 ?_
                refine gj_bipush C (v := 23) (by decide) dX11_floatBits_142 ?_
                refine gj_ishl C dX11_floatBits_144 ?_
                refine gj_lload C dX11_floatBits_145 1 rfl ?_
                refine gj_ldc2 C (v := 8388608) w_760 dX11_floatBits_147 ?_
                refine gj_lsub C dX11_floatBits_150 ?_
                refine gj_l2i C dX11_floatBits_151 ?_
                refine gj_iadd C dX11_floatBits_152 ?_
                refine gj_istore C (lv' := [(11, .int ((((nI (qT a b) - nI (qS a b)) + 127) <<< (23 &&& 31)) + (((((lN (qA a * 2 ^ (qS a b))) <<< ((23 : Int32).toInt64 &&& 63)) / (lN (qA b * 2 ^ (qT a b)))) - 8388608).toInt32))), (9, .long (2 * (((lN (qA a * 2 ^ (qS a b))) <<< ((23 : Int32).toInt64 &&& 63)) - ((lN (qA a * 2 ^ (qS a b))) <<< ((23 : Int32).toInt64 &&& 63)) / (lN (qA b * 2 ^ (qT a b))) * (lN (qA b * 2 ^ (qT a b)))))), (7, .long (((lN (qA a * 2 ^ (qS a b))) <<< ((23 : Int32).toInt64 &&& 63)) / (lN (qA b * 2 ^ (qT a b))))), (6, .int (nI (qT a b) - nI (qS a b))), (4, .long (lN (qA b * 2 ^ (qT a b)))), (2, .long (lN (qA a * 2 ^ (qS a b)))), (0, .int a), (1, .int b)]) dX11_floatBits_153 (by decide) rfl ?_
                refine gj_iload_n C 0 dX11_floatBits_155 rfl 6 rfl ?_
                refine gj_if_ge C 167 dX11_floatBits_156 (by decide) (fun c_14 => ?_) (fun c_14 => ?_)
                · refine gj_iload C dX11_floatBits_167 0 rfl ?_
                  exact RT _ _ _ _ ⟨(show cFlo a b = _ from (if_neg c_1).trans ((if_neg c_11).trans ((if_neg c_13).trans ((if_pos c_14).trans (rfl))))).symm, rfl⟩ dX11_floatBits_169
                · refine gj_iload C dX11_floatBits_159 0 rfl ?_
                  refine gj_ldc C (v := (-2147483648)) w_424 dX11_floatBits_161 ?_
                  refine gj_ior C dX11_floatBits_163 ?_
                  refine gj_goto C 169 dX11_floatBits_164 (by decide) ?_
                  exact RT _ _ _ _ ⟨(show cFlo a b = _ from (if_neg c_1).trans ((if_neg c_11).trans ((if_neg c_13).trans ((if_neg c_14).trans (rfl))))).symm, rfl⟩ dX11_floatBits_169
              · refine gj_lload C dX11_floatBits_120 1 rfl ?_
                refine gj_ldc2 C (v := 2) w_759 dX11_floatBits_122 ?_
                refine gj_lrem C (by decide) dX11_floatBits_125 ?_
                refine gj_lconst C (v := 1) rfl dX11_floatBits_126 ?_
                refine gj_lcmp C dX11_floatBits_127 ?_
                refine gj_if_ne C 137 dX11_floatBits_128 (by decide) (fun c_15 => ?_) (fun c_15 => ?_)
                · refine gj_iload C dX11_floatBits_137 2 rfl ?_
                  refine gj_bipush C (v := 127) (by decide) dX11_floatBits_139 ?_
                  refine gj_iadd C dX11_floatBits_141 ?_
                  refine gj_bipush C (v := 23) (by decide) dX11_floatBits_142 ?_
                  refine gj_ishl C dX11_floatBits_144 ?_
                  refine gj_lload C dX11_floatBits_145 1 rfl ?_
                  refine gj_ldc2 C (v := 8388608) w_760 dX11_floatBits_147 ?_
                  refine gj_lsub C dX11_floatBits_150 ?_
                  refine gj_l2i C dX11_floatBits_151 ?_
                  refine gj_iadd C dX11_floatBits_152 ?_
                  refine gj_istore C (lv' := [(11, .int ((((nI (qT a b) - nI (qS a b)) + 127) <<< (23 &&& 31)) + (((((lN (qA a * 2 ^ (qS a b))) <<< ((23 : Int32).toInt64 &&& 63)) / (lN (qA b * 2 ^ (qT a b)))) - 8388608).toInt32))), (9, .long (2 * (((lN (qA a * 2 ^ (qS a b))) <<< ((23 : Int32).toInt64 &&& 63)) - ((lN (qA a * 2 ^ (qS a b))) <<< ((23 : Int32).toInt64 &&& 63)) / (lN (qA b * 2 ^ (qT a b))) * (lN (qA b * 2 ^ (qT a b)))))), (7, .long (((lN (qA a * 2 ^ (qS a b))) <<< ((23 : Int32).toInt64 &&& 63)) / (lN (qA b * 2 ^ (qT a b))))), (6, .int (nI (qT a b) - nI (qS a b))), (4, .long (lN (qA b * 2 ^ (qT a b)))), (2, .long (lN (qA a * 2 ^ (qS a b)))), (0, .int a), (1, .int b)]) dX11_floatBits_153 (by decide) rfl ?_
                  refine gj_iload_n C 0 dX11_floatBits_155 rfl 6 rfl ?_
                  refine gj_if_ge C 167 dX11_floatBits_156 (by decide) (fun c_16 => ?_) (fun c_16 => ?_)
                  · refine gj_iload C dX11_floatBits_167 0 rfl ?_
                    exact RT _ _ _ _ ⟨(show cFlo a b = _ from (if_neg c_1).trans ((if_neg c_11).trans ((if_pos c_13).trans ((if_neg c_15).trans ((if_pos c_16).trans (rfl)))))).symm, rfl⟩ dX11_floatBits_169
                  · refine gj_iload C dX11_floatBits_159 0 rfl ?_
                    refine gj_ldc C (v := (-2147483648)) w_424 dX11_floatBits_161 ?_
                    refine gj_ior C dX11_floatBits_163 ?_
                    refine gj_goto C 169 dX11_floatBits_164 (by decide) ?_
                    exact RT _ _ _ _ ⟨(show cFlo a b = _ from (if_neg c_1).trans ((if_neg c_11).trans ((if_pos c_13).trans ((if_neg c_15).trans ((if_neg c_16).trans (rfl)))))).symm, rfl⟩ dX11_floatBits_169
                · refine gj_lload C dX11_floatBits_131 1 rfl ?_
                  refine gj_lconst C (v := 1) rfl dX11_floatBits_133 ?_
                  refine gj_ladd C dX11_floatBits_134 ?_
                  refine gj_lstore C (lv' := [(7, .long ((((lN (qA a * 2 ^ (qS a b))) <<< ((23 : Int32).toInt64 &&& 63)) / (lN (qA b * 2 ^ (qT a b)))) + 1)), (9, .long (2 * (((lN (qA a * 2 ^ (qS a b))) <<< ((23 : Int32).toInt64 &&& 63)) - ((lN (qA a * 2 ^ (qS a b))) <<< ((23 : Int32).toInt64 &&& 63)) / (lN (qA b * 2 ^ (qT a b))) * (lN (qA b * 2 ^ (qT a b)))))), (6, .int (nI (qT a b) - nI (qS a b))), (4, .long (lN (qA b * 2 ^ (qT a b)))), (2, .long (lN (qA a * 2 ^ (qS a b)))), (0, .int a), (1, .int b)]) dX11_floatBits_135 (by decide) rfl ?_
                  refine gj_iload C dX11_floatBits_137 2 rfl ?_
                  refine gj_bipush C (v := 127) (by decide) dX11_floatBits_139 ?_
                  refine gj_iadd C dX11_floatBits_141 ?_
                  refine gj_bipush C (v := 23) (by decide) dX11_floatBits_142 ?_
                  refine gj_ishl C dX11_floatBits_144 ?_
                  refine gj_lload C dX11_floatBits_145 0 rfl ?_
                  refine gj_ldc2 C (v := 8388608) w_760 dX11_floatBits_147 ?_
                  refine gj_lsub C dX11_floatBits_150 ?_
                  refine gj_l2i C dX11_floatBits_151 ?_
                  refine gj_iadd C dX11_floatBits_152 ?_
                  refine gj_istore C (lv' := [(11, .int ((((nI (qT a b) - nI (qS a b)) + 127) <<< (23 &&& 31)) + ((((((lN (qA a * 2 ^ (qS a b))) <<< ((23 : Int32).toInt64 &&& 63)) / (lN (qA b * 2 ^ (qT a b)))) + 1) - 8388608).toInt32))), (7, .long ((((lN (qA a * 2 ^ (qS a b))) <<< ((23 : Int32).toInt64 &&& 63)) / (lN (qA b * 2 ^ (qT a b)))) + 1)), (9, .long (2 * (((lN (qA a * 2 ^ (qS a b))) <<< ((23 : Int32).toInt64 &&& 63)) - ((lN (qA a * 2 ^ (qS a b))) <<< ((23 : Int32).toInt64 &&& 63)) / (lN (qA b * 2 ^ (qT a b))) * (lN (qA b * 2 ^ (qT a b)))))), (6, .int (nI (qT a b) - nI (qS a b))), (4, .long (lN (qA b * 2 ^ (qT a b)))), (2, .long (lN (qA a * 2 ^ (qS a b)))), (0, .int a), (1, .int b)]) dX11_floatBits_153 (by decide) rfl ?_
                  refine gj_iload_n C 0 dX11_floatBits_155 rfl 6 rfl ?_
                  refine gj_if_ge C 167 dX11_floatBits_156 (by decide) (fun c_17 => ?_) (fun c_17 => ?_)
                  · refine gj_iload C dX11_floatBits_167 0 rfl ?_
                    exact RT _ _ _ _ ⟨(show cFlo a b = _ from (if_neg c_1).trans ((if_neg c_11).trans ((if_pos c_13).trans ((if_pos c_15).trans ((if_pos c_17).trans (rfl)))))).symm, rfl⟩ dX11_floatBits_169
                  · refine gj_iload C dX11_floatBits_159 0 rfl ?_
                    refine gj_ldc C (v := (-2147483648)) w_424 dX11_floatBits_161 ?_
                    refine gj_ior C dX11_floatBits_163 ?_
                    refine gj_goto C 169 dX11_floatBits_164 (by decide) ?_
                    exact RT _ _ _ _ ⟨(show cFlo a b = _ from (if_neg c_1).trans ((if_neg c_11).trans ((if_pos c_13).trans ((if_pos c_15).trans ((if_neg c_17).trans (rfl)))))).symm, rfl⟩ dX11_floatBits_169
          | succ m1 ih_8 =>
            intro t1 hk_t1  
            refine gj_iload C dX11_floatBits_56 0 rfl ?_
            refine gj_bipush C (v := (-20)) (by decide) dX11_floatBits_58 ?_
            refine gj_icmp_le C 82 dX11_floatBits_60 (by decide) (fun c_18 => absurd c_18 (u_p (by omega) (by omega))) (fun c_18 => ?_)
            refine gj_lload_n C 2 dX11_floatBits_63 rfl 2 rfl ?_
            refine gj_lload C dX11_floatBits_64 1 rfl ?_
            refine gj_lcmp C dX11_floatBits_66 ?_
            refine gj_if_ge C 82 dX11_floatBits_67 (by decide) (fun c_19 => absurd c_19 (u2_s ha0 ha hb0 hb (by omega))) (fun c_19 => ?_)
            refine gj_lload_n C 2 dX11_floatBits_70 rfl 2 rfl ?_
            refine gj_ldc2 C (v := 2) w_759 dX11_floatBits_71 ?_
            refine gj_lmul C dX11_floatBits_74 ?_
            refine gj_setl (y := lN (qA a * 2 ^ (t1 + 1))) (pw_t _ _) ?_
            refine gj_lstore_n C (lv' := [(2, .long (lN (qA a * 2 ^ (t1 + 1)))), (6, .int (nI (qT a b) - nI t1)), (4, .long (lN (qA b * 2 ^ (qT a b)))), (0, .int a), (1, .int b)]) 2 dX11_floatBits_75 rfl (by decide) rfl ?_
            refine gj_iinc C (v := nI (qT a b) - nI (t1 + 1)) (lv' := [(6, .int (nI (qT a b) - nI (t1 + 1))), (2, .long (lN (qA a * 2 ^ (t1 + 1)))), (4, .long (lN (qA b * 2 ^ (qT a b)))), (0, .int a), (1, .int b)]) dX11_floatBits_76 1 rfl (nm1 _ _) (by decide) rfl ?_
            refine gj_goto C 56 dX11_floatBits_79 (by decide) ?_
            refine gj_lv [0, 2, 1, 3, 4] rfl ?_
            exact ih_8 (t1 + 1) (by omega)
        refine gj_lv [0, 1, 2, 3, 4] rfl ?_
        exact loop_7 ((qS a b) - 0) 0 (by omega)
      | succ m0 ih_4 =>
        intro t0 hk_t0  
        refine gj_iload C dX11_floatBits_24 0 rfl ?_
        refine gj_bipush C (v := 20) (by decide) dX11_floatBits_26 ?_
        refine gj_icmp_ge C 56 dX11_floatBits_28 (by decide) (fun c_20 => absurd c_20 (show ¬ (20 : Int32) ≤ nI t0 from nI_ge (b := 20) (by omega) (by omega))) (fun c_20 => ?_)
        refine gj_lload_n C 2 dX11_floatBits_31 rfl 2 rfl ?_
        refine gj_ldc2 C (v := 2) w_759 dX11_floatBits_32 ?_
        refine gj_lload C dX11_floatBits_35 1 rfl ?_
        refine gj_lmul C dX11_floatBits_37 ?_
        refine gj_lcmp C dX11_floatBits_38 ?_
        refine gj_if_lt C 56 dX11_floatBits_39 (by decide) (fun c_21 => absurd c_21 (u1_s ha0 ha hb0 hb (by omega))) (fun c_21 => ?_)
        refine gj_lload C dX11_floatBits_42 1 rfl ?_
        refine gj_ldc2 C (v := 2) w_759 dX11_floatBits_44 ?_
        refine gj_lmul C dX11_floatBits_47 ?_
        refine gj_setl (y := lN (qA b * 2 ^ (t0 + 1))) (pw_t _ _) ?_
        refine gj_lstore C (lv' := [(4, .long (lN (qA b * 2 ^ (t0 + 1)))), (6, .int (nI t0)), (2, .long (lN (qA a))), (0, .int a), (1, .int b)]) dX11_floatBits_48 (by decide) rfl ?_
        refine gj_iinc C (v := nI (t0 + 1)) (lv' := [(6, .int (nI (t0 + 1))), (4, .long (lN (qA b * 2 ^ (t0 + 1)))), (2, .long (lN (qA a))), (0, .int a), (1, .int b)]) dX11_floatBits_50 1 rfl (nI_1 _) (by decide) rfl ?_
        refine gj_goto C 24 dX11_floatBits_53 (by decide) ?_
        refine gj_lv [0, 1, 2, 3, 4] rfl ?_
        exact ih_4 (t0 + 1) (by omega)
    refine gj_lv [0, 1, 2, 3, 4] rfl ?_
    exact loop_3 ((qT a b) - 0) 0 (by omega)
theorem cFlo_eq (a b : Int32) : cFlo a b = mQuo a b := by
  unfold cFlo mQuo
  by_cases h : a = 0
  · rw [if_pos h, if_pos h]
  · rw [if_neg h, if_neg h, cTail_eq]
    have e1 : lN (qA a * 2 ^ (qS a b)) <<< ((23 : Int32).toInt64 &&& 63) = lN (qA a * 2 ^ 23 * 2 ^ (qS a b)) := by
      rw [show ((23 : Int32).toInt64 &&& 63) = ((nI 23).toInt64 &&& 63) from rfl, wb_shl _ (by omega), Nat.mul_assoc, Nat.mul_comm (2 ^ (qS a b)), ← Nat.mul_assoc]
    have e2 : (23 : Int32) - (nI (qT a b) - nI (qS a b)) = nI (23 + (qS a b)) - nI (qT a b) := by
      rw [← nI_add, show nI 23 = (23 : Int32) from rfl, Int32.sub_eq_add_neg, Int32.neg_sub, Int32.sub_eq_add_neg, Int32.sub_eq_add_neg, Int32.add_assoc]
    rw [e1, e2]
