/-! pasted from kit/laws/BITS: shifts of lN -/
theorem wb_tb (n : Nat) : (lN n).toBitVec = BitVec.ofNat 64 n := rfl
theorem wb_inj {a b : Int64} (h : a.toBitVec = b.toBitVec) : a = b := Int64.toBitVec_inj.mp h
theorem wb_tn {n : Nat} (h : n < 2 ^ 64) : (lN n).toBitVec.toNat = n := by rw [wb_tb, BitVec.toNat_ofNat, Nat.mod_eq_of_lt h]
theorem wb_c : ∀ k, k < 64 → ((nI k).toInt64 &&& 63) = lN k := by decide +kernel
theorem wb_sm : ∀ k, k < 64 → (BitVec.ofNat 64 k).smod 64 = BitVec.ofNat 64 k := by decide +kernel
theorem wb_shl (n : Nat) {k : Nat} (hk : k < 64) : lN n <<< ((nI k).toInt64 &&& 63) = lN (n * 2 ^ k) := by
  rw [wb_c k hk]
  apply wb_inj
  rw [Int64.toBitVec_shiftLeft, wb_tb, wb_tb, wb_tb, wb_sm k hk]
  apply BitVec.eq_of_toNat_eq
  rw [BitVec.shiftLeft_eq', BitVec.toNat_shiftLeft, BitVec.toNat_ofNat, BitVec.toNat_ofNat, BitVec.toNat_ofNat, Nat.mod_eq_of_lt (show k < 2 ^ 64 by omega), Nat.shiftLeft_eq, Nat.mul_mod, Nat.mod_mod, ← Nat.mul_mod]
/-- how often m must be doubled to come to b -/
def fS (m b : Nat) : Nat → Nat
  | 0 => 0
  | n + 1 => if b ≤ m then 0 else fS (2 * m) b n + 1
theorem fS_le : ∀ (n m b : Nat), fS m b n ≤ n
  | 0, _, _ => Nat.le_refl 0
  | n + 1, m, b => by
    unfold fS
    split
    · omega
    · have := fS_le n (2 * m) b; omega
theorem fS_lt : ∀ (n m b s : Nat), s < fS m b n → m * 2 ^ s < b
  | 0, _, _, s, h => by unfold fS at h; omega
  | n + 1, m, b, s, h => by
    unfold fS at h
    by_cases q : b ≤ m
    · rw [if_pos q] at h; omega
    · rw [if_neg q] at h
      match s with
      | 0 => simp; omega
      | s + 1 =>
        have := fS_lt n (2 * m) b s (by omega)
        rw [Nat.pow_succ]
        have e : m * (2 ^ s * 2) = 2 * m * 2 ^ s := by rw [Nat.mul_comm (2 ^ s) 2, ← Nat.mul_assoc, Nat.mul_comm m 2]
        rw [e]; exact this
theorem fS_ge : ∀ (n m b : Nat), b ≤ m * 2 ^ n → b ≤ m * 2 ^ fS m b n
  | 0, m, b, h => h
  | n + 1, m, b, h => by
    unfold fS
    by_cases q : b ≤ m
    · rw [if_pos q]; simpa using q
    · rw [if_neg q]
      have e : ∀ k, m * 2 ^ (k + 1) = 2 * m * 2 ^ k := fun k => by rw [Nat.pow_succ, Nat.mul_comm (2 ^ k) 2, ← Nat.mul_assoc, Nat.mul_comm m 2]
      rw [e] at h ⊢
      exact fS_ge n (2 * m) b h
def qA (a : Int32) : Nat := a.toInt.natAbs
def qS (a b : Int32) : Nat := fS (qA a) (qA b) 15
def qT (a b : Int32) : Nat := fS (2 * qA b) (qA a * 2 ^ qS a b + 1) 15
theorem qA_pos {a : Int32} (h : ¬ a < 0) : a.toInt64 = lN (qA a) := by
  rw [i64_eq, i32_w, pk_lT (by have := i32_rng a; unfold qA; omega)]
  rw [i32_lt] at h
  have e : (0 : Int32).toInt = 0 := rfl
  unfold qA; omega
theorem qA_neg {a : Int32} (h : a < 0) (hb : -30000 ≤ a.toInt) : (-a).toInt64 = lN (qA a) := by
  rw [i64_eq, i32_w, pk_lT (by have := i32_rng a; unfold qA; omega)]
  rw [i32_lt] at h
  have e : (0 : Int32).toInt = 0 := rfl
  rw [Int32.toInt_neg, i32_bm (by omega) (by omega)]
  unfold qA; omega
theorem qS_b {a b : Int32} (ha0 : 1 ≤ qA a) (ha : qA a ≤ 30000) (hb0 : 1 ≤ qA b) (hb : qA b ≤ 30000) : qA b ≤ qA a * 2 ^ qS a b ∧ qA a * 2 ^ qS a b ≤ 60000 := by
  refine ⟨fS_ge 15 _ _ (by have : 2 ^ 15 = 32768 := rfl; omega), ?_⟩
  have h1 := fS_lt 15 (qA a) (qA b)
  unfold qS
  match h : fS (qA a) (qA b) 15 with
  | 0 => simp; omega
  | s + 1 =>
    have := h1 s (by omega)
    rw [Nat.pow_succ, ← Nat.mul_assoc]
    omega
theorem qT_b {a b : Int32} (ha0 : 1 ≤ qA a) (ha : qA a ≤ 30000) (hb0 : 1 ≤ qA b) (hb : qA b ≤ 30000) : qA a * 2 ^ qS a b < 2 * qA b * 2 ^ qT a b ∧ ∀ t, t ≤ qT a b → qA b * 2 ^ t ≤ 60000 := by
  obtain ⟨h1, h2⟩ := qS_b ha0 ha hb0 hb
  refine ⟨fS_ge 15 _ _ (by have : 2 ^ 15 = 32768 := rfl; omega), ?_⟩
  intro t ht
  match t with
  | 0 => simp; omega
  | t + 1 =>
    have := fS_lt 15 (2 * qA b) (qA a * 2 ^ qS a b + 1) t (by unfold qT at ht; omega)
    have e : qA b * 2 ^ (t + 1) = 2 * qA b * 2 ^ t := by rw [Nat.pow_succ, Nat.mul_comm (2 ^ t) 2, ← Nat.mul_assoc, Nat.mul_comm (qA b) 2]
    omega
theorem dv_ge {A B c : Nat} (hA : A < 2 ^ 63) (hB : 0 < B) (hB2 : B < 2 ^ 63) (hc : c < 2 ^ 63) : lN c ≤ lN A / lN B ↔ c * B ≤ A := by
  rw [pk_lDiv hA hB hB2, pk_lLE hc (Nat.lt_of_le_of_lt (Nat.div_le_self _ _) hA)]
  exact Nat.le_div_iff_mul_le hB
theorem lN_nz {B : Nat} (h0 : 0 < B) (h : B < 2 ^ 63) : ¬ lN B = 0 := by
  have e : (0 : Int64) = lN 0 := rfl
  rw [e, pk_lEQ h (by omega)]
  omega

def qTail (a : Int32) (A B : Int64) (P : Int32) : Int32 := if 0 < (lg_cmp (2 * (A - A / B * B)) B) then (if 0 ≤ a then (((((((23 - P) + 127) <<< (23 &&& 31)).toInt64) + ((A / B) + 1)) - 8388608).toInt32) else ((((((((23 - P) + 127) <<< (23 &&& 31)).toInt64) + ((A / B) + 1)) - 8388608).toInt32) ||| (-2147483648))) else (if (lg_cmp (2 * (A - A / B * B)) B) = 0 then (if (lg_cmp ((A / B) - (A / B) / 2 * 2) 1) = 0 then (if 0 ≤ a then (((((((23 - P) + 127) <<< (23 &&& 31)).toInt64) + ((A / B) + 1)) - 8388608).toInt32) else ((((((((23 - P) + 127) <<< (23 &&& 31)).toInt64) + ((A / B) + 1)) - 8388608).toInt32) ||| (-2147483648))) else (if 0 ≤ a then (((((((23 - P) + 127) <<< (23 &&& 31)).toInt64) + ((A / B) + 0)) - 8388608).toInt32) else ((((((((23 - P) + 127) <<< (23 &&& 31)).toInt64) + ((A / B) + 0)) - 8388608).toInt32) ||| (-2147483648)))) else (if 0 ≤ a then (((((((23 - P) + 127) <<< (23 &&& 31)).toInt64) + ((A / B) + 0)) - 8388608).toInt32) else ((((((((23 - P) + 127) <<< (23 &&& 31)).toInt64) + ((A / B) + 0)) - 8388608).toInt32) ||| (-2147483648))))
theorem qA_1 {a : Int32} (h : ¬ a = 0) : 1 ≤ qA a := by
  rw [i32_eq] at h
  have e : (0 : Int32).toInt = 0 := rfl
  unfold qA; omega
theorem qA_bd {a b : Int32} (ha0 : 1 ≤ qA a) (ha : qA a ≤ 30000) (hb0 : 1 ≤ qA b) (hb : qA b ≤ 30000) {t : Nat} (ht : t ≤ qS a b) : qA a * 2 ^ 23 * 2 ^ t = 8388608 * (qA a * 2 ^ t) ∧ qA a * 2 ^ t ≤ 60000 := by
  refine ⟨by rw [show (8388608 : Nat) = 2 ^ 23 from rfl, Nat.mul_comm (qA a) (2 ^ 23), Nat.mul_assoc], ?_⟩
  obtain ⟨h1, h2⟩ := qS_b ha0 ha hb0 hb
  exact Nat.le_trans (Nat.mul_le_mul_left _ (Nat.pow_le_pow_right (by omega) ht)) h2
theorem q1_x {a b : Int32} (ha0 : 1 ≤ qA a) (ha : qA a ≤ 30000) (hb0 : 1 ≤ qA b) (hb : qA b ≤ 30000) : 0 ≤ lg_cmp (lN (qA a * 2 ^ 23 * 2 ^ qS a b) / lN (qA b)) 8388608 := by
  obtain ⟨e, h⟩ := qA_bd ha0 ha hb0 hb (Nat.le_refl (qS a b))
  obtain ⟨h1, -⟩ := qS_b ha0 ha hb0 hb
  refine (lg_cmp_ge _ _).mpr ((dv_ge (c := 8388608) (by omega) (by omega) (by omega) (by omega)).mpr ?_)
  rw [e]; exact Nat.mul_le_mul_left _ h1
theorem q1_s {a b : Int32} (ha0 : 1 ≤ qA a) (ha : qA a ≤ 30000) (hb0 : 1 ≤ qA b) (hb : qA b ≤ 30000) {t : Nat} (ht : t < qS a b) : ¬ 0 ≤ lg_cmp (lN (qA a * 2 ^ 23 * 2 ^ t) / lN (qA b)) 8388608 := by
  obtain ⟨e, h⟩ := qA_bd ha0 ha hb0 hb (Nat.le_of_lt ht)
  have h1 := fS_lt 15 (qA a) (qA b) t ht
  intro q
  have q2 := (dv_ge (c := 8388608) (by omega) (by omega) (by omega) (by omega)).mp ((lg_cmp_ge _ _).mp q)
  omega
theorem q2_x {a b : Int32} (ha0 : 1 ≤ qA a) (ha : qA a ≤ 30000) (hb0 : 1 ≤ qA b) (hb : qA b ≤ 30000) : lg_cmp (lN (qA a * 2 ^ 23 * 2 ^ qS a b) / lN (qA b * 2 ^ qT a b)) 16777216 < 0 := by
  obtain ⟨e, h⟩ := qA_bd ha0 ha hb0 hb (Nat.le_refl (qS a b))
  obtain ⟨h1, h2⟩ := qT_b ha0 ha hb0 hb
  have h3 := h2 _ (Nat.le_refl _)
  have h4 : 0 < qA b * 2 ^ qT a b := Nat.mul_pos (by omega) (Nat.pow_pos (by omega))
  rw [Nat.mul_assoc] at h1
  refine (lg_cmp_lt _ _).mpr ?_
  have q : ¬ lN 16777216 ≤ lN (qA a * 2 ^ 23 * 2 ^ qS a b) / lN (qA b * 2 ^ qT a b) := fun z => by
    have := (dv_ge (c := 16777216) (by omega) h4 (by omega) (by omega)).mp z
    omega
  rw [i64_le] at q
  rw [i64_lt]
  exact Int.not_le.mp q
theorem q2_s {a b : Int32} (ha0 : 1 ≤ qA a) (ha : qA a ≤ 30000) (hb0 : 1 ≤ qA b) (hb : qA b ≤ 30000) {t : Nat} (ht : t < qT a b) : ¬ lg_cmp (lN (qA a * 2 ^ 23 * 2 ^ qS a b) / lN (qA b * 2 ^ t)) 16777216 < 0 := by
  obtain ⟨e, h⟩ := qA_bd ha0 ha hb0 hb (Nat.le_refl (qS a b))
  obtain ⟨-, h2⟩ := qT_b ha0 ha hb0 hb
  have h3 := h2 _ (Nat.le_of_lt ht)
  have h4 : 0 < qA b * 2 ^ t := Nat.mul_pos (by omega) (Nat.pow_pos (by omega))
  have h1 := fS_lt 15 (2 * qA b) (qA a * 2 ^ qS a b + 1) t ht
  rw [Nat.mul_assoc] at h1
  intro q
  rw [lg_cmp_lt, i64_lt] at q
  have q3 : lN 16777216 ≤ lN (qA a * 2 ^ 23 * 2 ^ qS a b) / lN (qA b * 2 ^ t) := (dv_ge (c := 16777216) (by omega) h4 (by omega) (by omega)).mpr (by omega)
  rw [i64_le] at q3
  exact absurd q (Int.not_lt.mpr q3)
theorem q_nzb {a b : Int32} (ha0 : 1 ≤ qA a) (ha : qA a ≤ 30000) (hb0 : 1 ≤ qA b) (hb : qA b ≤ 30000) {t : Nat} (ht : t ≤ qT a b) : ¬ lN (qA b * 2 ^ t) = 0 := by
  obtain ⟨-, h2⟩ := qT_b ha0 ha hb0 hb
  have h3 := h2 _ ht
  exact lN_nz (Nat.mul_pos (by omega) (Nat.pow_pos (by omega))) (by omega)
theorem sh1 (n : Nat) : lN n <<< ((1 : Int32).toInt64 &&& 63) = lN (n * 2) := by
  rw [show ((1 : Int32).toInt64 &&& 63) = ((nI 1).toInt64 &&& 63) from rfl, wb_shl _ (by omega)]
theorem pw_s (n t : Nat) : lN (n * 2 ^ t) <<< ((1 : Int32).toInt64 &&& 63) = lN (n * 2 ^ (t + 1)) := by
  rw [sh1, Nat.mul_assoc, Nat.pow_succ]
theorem nm1 (p : Int32) (t : Nat) : p - nI t + (-1) = p - nI (t + 1) := by
  rw [← nI_1, Int32.sub_eq_add_neg, Int32.sub_eq_add_neg, Int32.neg_add, Int32.sub_eq_add_neg, Int32.add_assoc]
def mQuo (a b : Int32) : Int32 := if a = 0 then 0 else qTail a (lN (qA a * 2 ^ 23 * 2 ^ (qS a b))) (lN (qA b * 2 ^ (qT a b))) (nI (23 + (qS a b)) - nI (qT a b))
set_option maxHeartbeats 400000 in
set_option maxRecDepth 100000 in
theorem c_X12_quotient {l : Launch} {D : va_G} {ca ss ad : Nat → Nat} {f : Nat → va_E}  (a : Int32) (b : Int32)   (hal : -30000 ≤ a.toInt) (hbn : ¬ b < 0) (ha : qA a ≤ 30000) (hb0 : 1 ≤ qA b) (hb : qA b ≤ 30000) : gMi l D ca ss ad 108 yX12_quotient cX12_quotient 13 (some .int) 0 f [.int a, .int b] (fun r u => r = mQuo a b ∧ u = f) := by
  refine gMi_ofK (by decide +kernel) (Nat.le_of_ble_eq_true rfl) (lv0 := [(0, .int a), (1, .int b)]) rfl (fun pT eT sT mT aT below meth cT AT QT C RT => ?_)
  have C : gX pT sT mT aT meth cT AT D ca ss 13 RX12 cX12_quotient (some .int) := C
  refine gj_iload_n C 0 dX12_quotient_0 rfl 0 rfl ?_
  refine gj_if_ne C 6 dX12_quotient_1 (by decide) (fun c_1 => ?_) (fun c_1 => ?_)
  · have ha0 : 1 ≤ qA a := qA_1 c_1
    refine gj_iload_n C 0 dX12_quotient_6 rfl 0 rfl ?_
    refine gj_if_ge C 16 dX12_quotient_7 (by decide) (fun c_2 => ?_) (fun c_2 => ?_)
    · refine gj_iload_n C 0 dX12_quotient_16 rfl 0 rfl ?_
      refine gj_i2l C dX12_quotient_17 ?_
      refine gj_setl (y := lN (qA a)) (qA_pos (fun q => absurd ((i32_le _ _).mp c_2) (Int.not_le.mpr ((i32_lt _ _).mp q)))) ?_
      refine gj_lstore_n C (lv' := [(2, .long (lN (qA a))), (0, .int a), (1, .int b)]) 2 dX12_quotient_18 rfl (by decide) rfl ?_
      refine gj_iload_n C 1 dX12_quotient_19 rfl 2 rfl ?_
      refine gj_i2l C dX12_quotient_20 ?_
      refine gj_setl (y := lN (qA b)) (qA_pos hbn) ?_
      refine gj_lstore C (lv' := [(4, .long (lN (qA b))), (2, .long (lN (qA a))), (0, .int a), (1, .int b)]) dX12_quotient_21 (by decide) rfl ?_
      refine gj_bipush C (v := 23) (by decide) dX12_quotient_23 ?_
      refine gj_seti (y := nI (23 + 0)) rfl ?_
      refine gj_istore C (lv' := [(6, .int (nI (23 + 0))), (4, .long (lN (qA b))), (2, .long (lN (qA a))), (0, .int a), (1, .int b)]) dX12_quotient_25 (by decide) rfl ?_
      refine gj_lload_n C 2 dX12_quotient_27 rfl 2 rfl ?_
      refine gj_bipush C (v := 23) (by decide) dX12_quotient_28 ?_
      refine gj_lshl C dX12_quotient_30 ?_
      refine gj_setl (y := lN (qA a * 2 ^ 23 * 2 ^ 0)) (by rw [show ((23 : Int32).toInt64 &&& 63) = ((nI 23).toInt64 &&& 63) from rfl, wb_shl _ (by omega), Nat.pow_zero, Nat.mul_one]) ?_
      refine gj_lstore_n C (lv' := [(2, .long (lN (qA a * 2 ^ 23 * 2 ^ 0))), (6, .int (nI (23 + 0))), (4, .long (lN (qA b))), (0, .int a), (1, .int b)]) 2 dX12_quotient_31 rfl (by decide) rfl ?_
      have loop_3 : ∀ (m0 t0 : Nat), t0 + m0 = (qS a b) → gJ pT l eT (Rm 0) sT mT aT below meth cT AT QT D ad 108 13 (f) [(2, .long (lN (qA a * 2 ^ 23 * 2 ^ t0))), (6, .int (nI (23 + t0))), (4, .long (lN (qA b))), (0, .int a), (1, .int b)] 32 [] := by
        intro m0
        induction m0 with
        | zero =>
          intro t0 hk_t0  
          obtain rfl : t0 = (qS a b) := (by omega)
          refine gj_lload_n C 2 dX12_quotient_32 rfl 0 rfl ?_
          refine gj_lload C dX12_quotient_33 2 rfl ?_
          refine gj_ldiv C (lN_nz (by omega) (by omega)) dX12_quotient_35 ?_
          refine gj_ldc2 C (v := 8388608) w_1234 dX12_quotient_36 ?_
          refine gj_lcmp C dX12_quotient_39 ?_
          refine gj_if_ge C 53 dX12_quotient_40 (by decide) (fun c_5 => ?_) (fun c_5 => absurd (q1_x ha0 ha hb0 hb) c_5)
          refine gj_lvs (lv' := [(2, .long (lN (qA a * 2 ^ 23 * 2 ^ (qS a b)))), (6, .int (nI (23 + (qS a b)) - nI 0)), (4, .long (lN (qA b * 2 ^ 0))), (0, .int a), (1, .int b)]) (by rw [Nat.pow_zero, Nat.mul_one, show nI 0 = 0 from rfl, Int32.sub_zero]) ?_
          have loop_6 : ∀ (m1 t1 : Nat), t1 + m1 = (qT a b) → gJ pT l eT (Rm 0) sT mT aT below meth cT AT QT D ad 108 13 (f) [(2, .long (lN (qA a * 2 ^ 23 * 2 ^ (qS a b)))), (6, .int (nI (23 + (qS a b)) - nI t1)), (4, .long (lN (qA b * 2 ^ t1))), (0, .int a), (1, .int b)] 53 [] := by
            intro m1
            induction m1 with
            | zero =>
              intro t1 hk_t1  
              obtain rfl : t1 = (qT a b) := (by omega)
              refine gj_lload_n C 2 dX12_quotient_53 rfl 0 rfl ?_
              refine gj_lload C dX12_quotient_54 2 rfl ?_
              refine gj_ldiv C (q_nzb ha0 ha hb0 hb (by omega)) dX12_quotient_56 ?_
              refine gj_ldc2 C (v := 16777216) w_1235 dX12_quotient_57 ?_
              refine gj_lcmp C dX12_quotient_60 ?_
              refine gj_if_lt C 76 dX12_quotient_61 (by decide) (fun c_8 => ?_) (fun c_8 => absurd (q2_x ha0 ha hb0 hb) c_8)
              refine gj_lload_n C 2 dX12_quotient_76 rfl 0 rfl ?_
              refine gj_lload C dX12_quotient_77 2 rfl ?_
              refine gj_ldiv C (q_nzb ha0 ha hb0 hb (Nat.le_refl _)) dX12_quotient_79 ?_
              refine gj_lstore C (lv' := [(7, .long ((lN (qA a * 2 ^ 23 * 2 ^ (qS a b))) / (lN (qA b * 2 ^ (qT a b))))), (2, .long (lN (qA a * 2 ^ 23 * 2 ^ (qS a b)))), (6, .int (nI (23 + (qS a b)) - nI (qT a b))), (4, .long (lN (qA b * 2 ^ (qT a b)))), (0, .int a), (1, .int b)]) dX12_quotient_80 (by decide) rfl ?_
              refine gj_ldc2 C (v := 2) w_946 dX12_quotient_82 ?_
              refine gj_lload_n C 2 dX12_quotient_85 rfl 1 rfl ?_
              refine gj_lload C dX12_quotient_86 3 rfl ?_
              refine gj_lrem C (q_nzb ha0 ha hb0 hb (Nat.le_refl _)) dX12_quotient_88 ?_
              refine gj_lmul C dX12_quotient_89 ?_
              refine gj_lstore C (lv' := [(9, .long (2 * ((lN (qA a * 2 ^ 23 * 2 ^ (qS a b))) - (lN (qA a * 2 ^ 23 * 2 ^ (qS a b))) / (lN (qA b * 2 ^ (qT a b))) * (lN (qA b * 2 ^ (qT a b)))))), (7, .long ((lN (qA a * 2 ^ 23 * 2 ^ (qS a b))) / (lN (qA b * 2 ^ (qT a b))))), (2, .long (lN (qA a * 2 ^ 23 * 2 ^ (qS a b)))), (6, .int (nI (23 + (qS a b)) - nI (qT a b))), (4, .long (lN (qA b * 2 ^ (qT a b)))), (0, .int a), (1, .int b)]) dX12_quotient_90 (by decide) rfl ?_
              refine gj_lload C dX12_quotient_92 1 rfl ?_
              refine gj_lload C dX12_quotient_94 0 rfl ?_
              refine gj_lload C dX12_quotient_96 4 rfl ?_
              refine gj_lcmp C dX12_quotient_98 ?_
              refine gj_if_gt C 121 dX12_quotient_99 (by decide) (fun c_9 => ?_) (fun c_9 => ?_)
              · refine gj_lconst C (v := 1) rfl dX12_quotient_121 ?_
                refine gj_goto C 126 dX12_quotient_122 (by decide) ?_
                refine gj_ladd C dX12_quotient_126 ?_
                refine gj_lstore C (lv' := [(7, .long (((lN (qA a * 2 ^ 23 * 2 ^ (qS a b))) / (lN (qA b * 2 ^ (qT a b)))) + 1)), (9, .long (2 * ((lN (qA a * 2 ^ 23 * 2 ^ (qS a b))) - (lN (qA a * 2 ^ 23 * 2 ^ (qS a b))) / (lN (qA b * 2 ^ (qT a b))) * (lN (qA b * 2 ^ (qT a b)))))), (2, .long (lN (qA a * 2 ^ 23 * 2 ^ (qS a b)))), (6, .int (nI (23 + (qS a b)) - nI (qT a b))), (4, .long (lN (qA b * 2 ^ (qT a b)))), (0, .int a), (1, .int b)]) dX12_quotient_127 (by decide) rfl ?_
                refine gj_bipush C (v := 23) (by decide) dX12_quotient_129 ?_
                refine gj_iload C dX12_quotient_131 3 rfl ?_
                refine gj_isub C dX12_quotient_133 ?_
                refine gj_bipush C (v := 127) (by decide) dX12_quotient_134 ?_
                refine gj_iadd C dX12_quotient_136 ?_
                refine gj_istore C (lv' := [(11, .int ((23 - (nI (23 + (qS a b)) - nI (qT a b))) + 127)), (7, .long (((lN (qA a * 2 ^ 23 * 2 ^ (qS a b))) / (lN (qA b * 2 ^ (qT a b)))) + 1)), (9, .long (2 * ((lN (qA a * 2 ^ 23 * 2 ^ (qS a b))) - (lN (qA a * 2 ^ 23 * 2 ^ (qS a b))) / (lN (qA b * 2 ^ (qT a b))) * (lN (qA b * 2 ^ (qT a b)))))), (2, .long (lN (qA a * 2 ^ 23 * 2 ^ (qS a b)))), (6, .int (nI (23 + (qS a b)) - nI (qT a b))), (4, .long (lN (qA b * 2 ^ (qT a b)))), (0, .int a), (1, .int b)]) dX12_quotient_137 (by decide) rfl ?_
                refine gj_iload C dX12_quotient_139 0 rfl ?_
                refine gj_bipush C (v := 23) (by decide) dX12_quotient_141 ?_
                refine gj_ishl C dX12_quotient_143 ?_
                refine gj_i2l C dX12_quotient_144 ?_
                refine gj_lload C dX12_quotient_145 1 rfl ?_
                refine gj_ladd C dX12_quotient_147 ?_
                refine gj_ldc2 C (v := 8388608) w_1234 dX12_quotient_148 ?_
                refine gj_lsub C dX12_quotient_151 ?_
                refine gj_l2i C dX12_quotient_152 ?_
                refine gj_istore C (lv' := [(12, .int (((((((23 - (nI (23 + (qS a b)) - nI (qT a b))) + 127) <<< (23 &&& 31)).toInt64) + (((lN (qA a * 2 ^ 23 * 2 ^ (qS a b))) / (lN (qA b * 2 ^ (qT a b)))) + 1)) - 8388608).toInt32)), (11, .int ((23 - (nI (23 + (qS a b)) - nI (qT a b))) + 127)), (7, .long (((lN (qA a * 2 ^ 23 * 2 ^ (qS a b))) / (lN (qA b * 2 ^ (qT a b)))) + 1)), (9, .long (2 * ((lN (qA a * 2 ^ 23 * 2 ^ (qS a b))) - (lN (qA a * 2 ^ 23 * 2 ^ (qS a b))) / (lN (qA b * 2 ^ (qT a b))) * (lN (qA b * 2 ^ (qT a b)))))), (2, .long (lN (qA a * 2 ^ 23 * 2 ^ (qS a b)))), (6, .int (nI (23 + (qS a b)) - nI (qT a b))), (4, .long (lN (qA b * 2 ^ (qT a b)))), (0, .int a), (1, .int b)]) dX12_quotient_153 (by decide) rfl ?_
                refine gj_iload_n C 0 dX12_quotient_155 rfl 7 rfl ?_
                refine gj_if_ge C 167 dX12_quotient_156 (by decide) (fun c_10 => ?_) (fun c_10 => ?_)
                · refine gj_iload C dX12_quotient_167 0 rfl ?_
                  exact RT _ _ _ _ ⟨(show mQuo a b = _ from (if_neg c_1).trans ((if_pos c_9).trans ((if_pos c_10).trans (rfl)))).symm, rfl⟩ dX12_quotient_169
                · refine gj_iload C dX12_quotient_159 0 rfl ?_
                  refine gj_ldc C (v := (-2147483648)) w_970 dX12_quotient_161 ?_
                  refine gj_ior C dX12_quotient_163 ?_
                  refine gj_goto C 169 dX12_quotient_164 (by decide) ?_
                  exact RT _ _ _ _ ⟨(show mQuo a b = _ from (if_neg c_1).trans ((if_pos c_9).trans ((if_neg c_10).trans (rfl)))).symm, rfl⟩ dX12_quotient_169
              · refine gj_lload C dX12_quotient_102 0 rfl ?_
                refine gj_lload C dX12_quotient_104 4 rfl ?_
                refine gj_lcmp C dX12_quotient_106 ?_
                refine gj_if_ne C 125 dX12_quotient_107 (by decide) (fun c_11 => ?_) (fun c_11 => ?_)
                · refine gj_lconst C (v := 0) rfl dX12_quotient_125 ?_
                  refine gj_ladd C dX12_quotient_126 ?_
                  refine gj_lstore C (lv' := [(7, .long (((lN (qA a * 2 ^ 23 * 2 ^ (qS a b))) / (lN (qA b * 2 ^ (qT a b)))) + 0)), (9, .long (2 * ((lN (qA a * 2 ^ 23 * 2 ^ (qS a b))) - (lN (qA a * 2 ^ 23 * 2 ^ (qS a b))) / (lN (qA b * 2 ^ (qT a b))) * (lN (qA b * 2 ^ (qT a b)))))), (2, .long (lN (qA a * 2 ^ 23 * 2 ^ (qS a b)))), (6, .int (nI (23 + (qS a b)) - nI (qT a b))), (4, .long (lN (qA b * 2 ^ (qT a b)))), (0, .int a), (1, .int b)]) dX12_quotient_127 (by decide) rfl ?_
                  refine gj_bipush C (v := 23) (by decide) dX12_quotient_129 ?_
                  refine gj_iload C dX12_quotient_131 3 rfl ?_
                  refine gj_isub C dX12_quotient_133 ?_
                  refine gj_bipush C (v := 127) (by decide) dX12_quotient_134 ?_
                  refine gj_iadd C dX12_quotient_136 ?_
                  refine gj_istore C (lv' := [(11, .int ((23 - (nI (23 + (qS a b)) - nI (qT a b))) + 127)), (7, .long (((lN (qA a * 2 ^ 23 * 2 ^ (qS a b))) / (lN (qA b * 2 ^ (qT a b)))) + 0)), (9, .long (2 * ((lN (qA a * 2 ^ 23 * 2 ^ (qS a b))) - (lN (qA a * 2 ^ 23 * 2 ^ (qS a b))) / (lN (qA b * 2 ^ (qT a b))) * (lN (qA b * 2 ^ (qT a b)))))), (2, .long (lN (qA a * 2 ^ 23 * 2 ^ (qS a b)))), (6, .int (nI (23 + (qS a b)) - nI (qT a b))), (4, .long (lN (qA b * 2 ^ (qT a b)))), (0, .int a), (1, .int b)]) dX12_quotient_137 (by decide) rfl ?_
                  refine gj_iload C dX12_quotient_139 0 rfl ?_
                  refine gj_bipush C (v := 23) (by decide) dX12_quotient_141 ?_
                  refine gj_ishl C dX12_quotient_143 ?_
                  refine gj_i2l C dX12_quotient_144 ?_
                  refine gj_lload C dX12_quotient_145 1 rfl ?_
                  refine gj_ladd C dX12_quotient_147 ?_
                  refine gj_ldc2 C (v := 8388608) w_1234 dX12_quotient_148 ?_
                  refine gj_lsub C dX12_quotient_151 ?_
                  refine gj_l2i C dX12_quotient_152 ?_
                  refine gj_istore C (lv' := [(12, .int (((((((23 - (nI (23 + (qS a b)) - nI (qT a b))) + 127) <<< (23 &&& 31)).toInt64) + (((lN (qA a * 2 ^ 23 * 2 ^ (qS a b))) / (lN (qA b * 2 ^ (qT a b)))) + 0)) - 8388608).toInt32)), (11, .int ((23 - (nI (23 + (qS a b)) - nI (qT a b))) + 127)), (7, .long (((lN (qA a * 2 ^ 23 * 2 ^ (qS a b))) / (lN (qA b * 2 ^ (qT a b)))) + 0)), (9, .long (2 * ((lN (qA a * 2 ^ 23 * 2 ^ (qS a b))) - (lN (qA a * 2 ^ 23 * 2 ^ (qS a b))) / (lN (qA b * 2 ^ (qT a b))) * (lN (qA b * 2 ^ (qT a b)))))), (2, .long (lN (qA a * 2 ^ 23 * 2 ^ (qS a b)))), (6, .int (nI (23 + (qS a b)) - nI (qT a b))), (4, .long (lN (qA b * 2 ^ (qT a b)))), (0, .int a), (1, .int b)]) dX12_quotient_153 (by decide) rfl ?_
                  refine gj_iload_n C 0 dX12_quotient_155 rfl 7 rfl ?_
                  refine gj_if_ge C 167 dX12_quotient_156 (by decide) (fun c_12 => ?_) (fun c_12 => ?_)
                  · refine gj_iload C dX12_quotient_167 0 rfl ?_
                    exact RT _ _ _ _ ⟨(show mQuo a b = _ from (if_neg c_1).trans ((if_neg c_9).trans ((if_neg c_11).trans ((if_pos c_12).trans (rfl))))).symm, rfl⟩ dX12_quotient_169
                  · refine gj_iload C dX12_quotient_159 0 rfl ?_
                    refine gj_ldc C (v := (-2147483648)) w_970 dX12_quotient_161 ?_
                    refine gj_ior C dX12_quotient_163 ?_
                    refine gj_goto C 169 dX12_quotient_164 (by decide) ?_
                    exact RT _ _ _ _ ⟨(show mQuo a b = _ from (if_neg c_1).trans ((if_neg c_9).trans ((if_neg c_11).trans ((if_neg c_12).trans (rfl))))).symm, rfl⟩ dX12_quotient_169
                · refine gj_lload C dX12_quotient_110 1 rfl ?_
                  refine gj_ldc2 C (v := 2) w_946 dX12_quotient_112 ?_
                  refine gj_lrem C (by decide) dX12_quotient_115 ?_
                  refine gj_lconst C (v := 1) rfl dX12_quotient_116 ?_
                  refine gj_lcmp C dX12_quotient_117 ?_
                  refine gj_if_ne C 125 dX12_quotient_118 (by decide) (fun c_13 => ?_) (fun c_13 => ?_)
                  · refine gj_lconst C (v := 0) rfl dX12_quotient_125 ?_
                    refine gj_ladd C dX12_quotient_126 ?_
                    refine gj_lstore C (lv' := [(7, .long (((lN (qA a * 2 ^ 23 * 2 ^ (qS a b))) / (lN (qA b * 2 ^ (qT a b)))) + 0)), (9, .long (2 * ((lN (qA a * 2 ^ 23 * 2 ^ (qS a b))) - (lN (qA a * 2 ^ 23 * 2 ^ (qS a b))) / (lN (qA b * 2 ^ (qT a b))) * (lN (qA b * 2 ^ (qT a b)))))), (2, .long (lN (qA a * 2 ^ 23 * 2 ^ (qS a b)))), (6, .int (nI (23 + (qS a b)) - nI (qT a b))), (4, .long (lN (qA b * 2 ^ (qT a b)))), (0, .int a), (1, .int b)]) dX12_quotient_127 (by decide) rfl ?_
                    refine gj_bipush C (v := 23) (by decide) dX12_quotient_129 ?_
                    refine gj_iload C dX12_quotient_131 3 rfl ?_
                    refine gj_isub C dX12_quotient_133 ?_
                    refine gj_bipush C (v := 127) (by decide) dX12_quotient_134 ?_
                    refine gj_iadd C dX12_quotient_136 ?_
                    refine gj_istore C (lv' := [(11, .int ((23 - (nI (23 + (qS a b)) - nI (qT a b))) + 127)), (7, .long (((lN (qA a * 2 ^ 23 * 2 ^ (qS a b))) / (lN (qA b * 2 ^ (qT a b)))) + 0)), (9, .long (2 * ((lN (qA a * 2 ^ 23 * 2 ^ (qS a b))) - (lN (qA a * 2 ^ 23 * 2 ^ (qS a b))) / (lN (qA b * 2 ^ (qT a b))) * (lN (qA b * 2 ^ (qT a b)))))), (2, .long (lN (qA a * 2 ^ 23 * 2 ^ (qS a b)))), (6, .int (nI (23 + (qS a b)) - nI (qT a b))), (4, .long (lN (qA b * 2 ^ (qT a b)))), (0, .int a), (1, .int b)]) dX12_quotient_137 (by decide) rfl ?_
                    refine gj_iload C dX12_quotient_139 0 rfl ?_
                    refine gj_bipush C (v := 23) (by decide) dX12_quotient_141 ?_
                    refine gj_ishl C dX12_quotient_143 ?_
                    refine gj_i2l C dX12_quotient_144 ?_
                    refine gj_lload C dX12_quotient_145 1 rfl ?_
                    refine gj_ladd C dX12_quotient_147 ?_
                    refine gj_ldc2 C (v := 8388608) w_1234 dX12_quotient_148 ?_
                    refine gj_lsub C dX12_quotient_151 ?_
                    refine gj_l2i C dX12_quotient_152 ?_
                    refine gj_istore C (lv' := [(12, .int (((((((23 - (nI (23 + (qS a b)) - nI (qT a b))) + 127) <<< (23 &&& 31)).toInt64) + (((lN (qA a * 2 ^ 23 * 2 ^ (qS a b))) / (lN (qA b * 2 ^ (qT a b)))) + 0)) - 8388608).toInt32)), (11, .int ((23 - (nI (23 + (qS a b)) - nI (qT a b))) + 127)), (7, .long (((lN (qA a * 2 ^ 23 * 2 ^ (qS a b))) / (lN (qA b * 2 ^ (qT a b)))) + 0)), (9, .long (2 * ((lN (qA a * 2 ^ 23 * 2 ^ (qS a b))) - (lN (qA a * 2 ^ 23 * 2 ^ (qS a b))) / (lN (qA b * 2 ^ (qT a b))) * (lN (qA b * 2 ^ (qT a b)))))), (2, .long (lN (qA a * 2 ^ 23 * 2 ^ (qS a b)))), (6, .int (nI (23 + (qS a b)) - nI (qT a b))), (4, .long (lN (qA b * 2 ^ (qT a b)))), (0, .int a), (1, .int b)]) dX12_quotient_153 (by decide) rfl ?_
                    refine gj_iload_n C 0 dX12_quotient_155 rfl 7 rfl ?_
                    refine gj_if_ge C 167 dX12_quotient_156 (by decide) (fun c_14 => ?_) (fun c_14 => ?_)
                    · refine gj_iload C dX12_quotient_167 0 rfl ?_
                      exact RT _ _ _ _ ⟨(show mQuo a b = _ from (if_neg c_1).trans ((if_neg c_9).trans ((if_pos c_11).trans ((if_neg c_13).trans ((if_pos c_14).trans (rfl)))))).symm, rfl⟩ dX12_quotient_169
                    · refine gj_iload C dX12_quotient_159 0 rfl ?_
                      refine gj_ldc C (v := (-2147483648)) w_970 dX12_quotient_161 ?_
                      refine gj_ior C dX12_quotient_163 ?_
                      refine gj_goto C 169 dX12_quotient_164 (by decide) ?_
                      exact RT _ _ _ _ ⟨(show mQuo a b = _ from (if_neg c_1).trans ((if_neg c_9).trans ((if_pos c_11).trans ((if_neg c_13).trans ((if_neg c_14).trans (rfl)))))).symm, rfl⟩ dX12_quotient_169
                  · refine gj_lconst C (v := 1) rfl dX12_quotient_121 ?_
                    refine gj_goto C 126 dX12_quotient_122 (by decide) ?_
                    refine gj_ladd C dX12_quotient_126 ?_
                    refine gj_lstore C (lv' := [(7, .long (((lN (qA a * 2 ^ 23 * 2 ^ (qS a b))) / (lN (qA b * 2 ^ (qT a b)))) + 1)), (9, .long (2 * ((lN (qA a * 2 ^ 23 * 2 ^ (qS a b))) - (lN (qA a * 2 ^ 23 * 2 ^ (qS a b))) / (lN (qA b * 2 ^ (qT a b))) * (lN (qA b * 2 ^ (qT a b)))))), (2, .long (lN (qA a * 2 ^ 23 * 2 ^ (qS a b)))), (6, .int (nI (23 + (qS a b)) - nI (qT a b))), (4, .long (lN (qA b * 2 ^ (qT a b)))), (0, .int a), (1, .int b)]) dX12_quotient_127 (by decide) rfl ?_
                    refine gj_bipush C (v := 23) (by decide) dX12_quotient_129 ?_
                    refine gj_iload C dX12_quotient_131 3 rfl ?_
                    refine gj_isub C dX12_quotient_133 ?_
                    refine gj_bipush C (v := 127) (by decide) dX12_quotient_134 ?_
                    refine gj_iadd C dX12_quotient_136 ?_
                    refine gj_istore C (lv' := [(11, .int ((23 - (nI (23 + (qS a b)) - nI (qT a b))) + 127)), (7, .long (((lN (qA a * 2 ^ 23 * 2 ^ (qS a b))) / (lN (qA b * 2 ^ (qT a b)))) + 1)), (9, .long (2 * ((lN (qA a * 2 ^ 23 * 2 ^ (qS a b))) - (lN (qA a * 2 ^ 23 * 2 ^ (qS a b))) / (lN (qA b * 2 ^ (qT a b))) * (lN (qA b * 2 ^ (qT a b)))))), (2, .long (lN (qA a * 2 ^ 23 * 2 ^ (qS a b)))), (6, .int (nI (23 + (qS a b)) - nI (qT a b))), (4, .long (lN (qA b * 2 ^ (qT a b)))), (0, .int a), (1, .int b)]) dX12_quotient_137 (by decide) rfl ?_
                    refine gj_iload C dX12_quotient_139 0 rfl ?_
                    refine gj_bipush C (v := 23) (by decide) dX12_quotient_141 ?_
                    refine gj_ishl C dX12_quotient_143 ?_
                    refine gj_i2l C dX12_quotient_144 ?_
                    refine gj_lload C dX12_quotient_145 1 rfl ?_
                    refine gj_ladd C dX12_quotient_147 ?_
                    refine gj_ldc2 C (v := 8388608) w_1234 dX12_quotient_148 ?_
                    refine gj_lsub C dX12_quotient_151 ?_
                    refine gj_l2i C dX12_quotient_152 ?_
                    refine gj_istore C (lv' := [(12, .int (((((((23 - (nI (23 + (qS a b)) - nI (qT a b))) + 127) <<< (23 &&& 31)).toInt64) + (((lN (qA a * 2 ^ 23 * 2 ^ (qS a b))) / (lN (qA b * 2 ^ (qT a b)))) + 1)) - 8388608).toInt32)), (11, .int ((23 - (nI (23 + (qS a b)) - nI (qT a b))) + 127)), (7, .long (((lN (qA a * 2 ^ 23 * 2 ^ (qS a b))) / (lN (qA b * 2 ^ (qT a b)))) + 1)), (9, .long (2 * ((lN (qA a * 2 ^ 23 * 2 ^ (qS a b))) - (lN (qA a * 2 ^ 23 * 2 ^ (qS a b))) / (lN (qA b * 2 ^ (qT a b))) * (lN (qA b * 2 ^ (qT a b)))))), (2, .long (lN (qA a * 2 ^ 23 * 2 ^ (qS a b)))), (6, .int (nI (23 + (qS a b)) - nI (qT a b))), (4, .long (lN (qA b * 2 ^ (qT a b)))), (0, .int a), (1, .int b)]) dX12_quotient_153 (by decide) rfl ?_
                    refine gj_iload_n C 0 dX12_quotient_155 rfl 7 rfl ?_
                    refine gj_if_ge C 167 dX12_quotient_156 (by decide) (fun c_15 => ?_) (fun c_15 => ?_)
                    · refine gj_iload C dX12_quotient_167 0 rfl ?_
                      exact RT _ _ _ _ ⟨(show mQuo a b = _ from (if_neg c_1).trans ((if_neg c_9).trans ((if_pos c_11).trans ((if_pos c_13).trans ((if_pos c_15).trans (rfl)))))).symm, rfl⟩ dX12_quotient_169
                    · refine gj_iload C dX12_quotient_159 0 rfl ?_
                      refine gj_ldc C (v := (-2147483648)) w_970 dX12_quotient_161 ?_
                      refine gj_ior C dX12_quotient_163 ?_
                      refine gj_goto C 169 dX12_quotient_164 (by decide) ?_
                      exact RT _ _ _ _ ⟨(show mQuo a b = _ from (if_neg c_1).trans ((if_neg c_9).trans ((if_pos c_11).trans ((if_pos c_13).trans ((if_neg c_15).trans (rfl)))))).symm, rfl⟩ dX12_quotient_169
            | succ m1 ih_7 =>
              intro t1 hk_t1  
              refine gj_lload_n C 2 dX12_quotient_53 rfl 0 rfl ?_
              refine gj_lload C dX12_quotient_54 2 rfl ?_
              refine gj_ldiv C (q_nzb ha0 ha hb0 hb (by omega)) dX12_quotient_56 ?_
              refine gj_ldc2 C (v := 16777216) w_1235 dX12_quotient_57 ?_
              refine gj_lcmp C dX12_quotient_60 ?_
              refine gj_if_lt C 76 dX12_quotient_61 (by decide) (fun c_16 => absurd c_16 (q2_s ha0 ha hb0 hb (by omega))) (fun c_16 => ?_)
              refine gj_lload C dX12_quotient_64 2 rfl ?_
              refine gj_iconst C (v := 1) (by decide) dX12_quotient_66 ?_
              refine gj_lshl C dX12_quotient_67 ?_
              refine gj_setl (y := lN (qA b * 2 ^ (t1 + 1))) (pw_s _ _) ?_
              refine gj_lstore C (lv' := [(4, .long (lN (qA b * 2 ^ (t1 + 1)))), (2, .long (lN (qA a * 2 ^ 23 * 2 ^ (qS a b)))), (6, .int (nI (23 + (qS a b)) - nI t1)), (0, .int a), (1, .int b)]) dX12_quotient_68 (by decide) rfl ?_
              refine gj_iinc C (v := nI (23 + (qS a b)) - nI (t1 + 1)) (lv' := [(6, .int (nI (23 + (qS a b)) - nI (t1 + 1))), (4, .long (lN (qA b * 2 ^ (t1 + 1)))), (2, .long (lN (qA a * 2 ^ 23 * 2 ^ (qS a b)))), (0, .int a), (1, .int b)]) dX12_quotient_70 2 rfl (nm1 _ _) (by decide) rfl ?_
              refine gj_goto C 53 dX12_quotient_73 (by decide) ?_
              refine gj_lv [2, 0, 1, 3, 4] rfl ?_
              exact ih_7 (t1 + 1) (by omega)
          refine gj_lv [0, 1, 2, 3, 4] rfl ?_
          exact loop_6 ((qT a b) - 0) 0 (by omega)
        | succ m0 ih_4 =>
          intro t0 hk_t0  
          refine gj_lload_n C 2 dX12_quotient_32 rfl 0 rfl ?_
          refine gj_lload C dX12_quotient_33 2 rfl ?_
          refine gj_ldiv C (lN_nz (by omega) (by omega)) dX12_quotient_35 ?_
          refine gj_ldc2 C (v := 8388608) w_1234 dX12_quotient_36 ?_
          refine gj_lcmp C dX12_quotient_39 ?_
          refine gj_if_ge C 53 dX12_quotient_40 (by decide) (fun c_17 => absurd c_17 (q1_s ha0 ha hb0 hb (by omega))) (fun c_17 => ?_)
          refine gj_lload_n C 2 dX12_quotient_43 rfl 0 rfl ?_
          refine gj_iconst C (v := 1) (by decide) dX12_quotient_44 ?_
          refine gj_lshl C dX12_quotient_45 ?_
          refine gj_setl (y := lN (qA a * 2 ^ 23 * 2 ^ (t0 + 1))) (pw_s _ _) ?_
          refine gj_lstore_n C (lv' := [(2, .long (lN (qA a * 2 ^ 23 * 2 ^ (t0 + 1)))), (6, .int (nI (23 + t0))), (4, .long (lN (qA b))), (0, .int a), (1, .int b)]) 2 dX12_quotient_46 rfl (by decide) rfl ?_
          refine gj_iinc C (v := nI (23 + (t0 + 1))) (lv' := [(6, .int (nI (23 + (t0 + 1)))), (2, .long (lN (qA a * 2 ^ 23 * 2 ^ (t0 + 1)))), (4, .long (lN (qA b))), (0, .int a), (1, .int b)]) dX12_quotient_47 1 rfl (nI_1 _) (by decide) rfl ?_
          refine gj_goto C 32 dX12_quotient_50 (by decide) ?_
          refine gj_lv [1, 0, 2, 3, 4] rfl ?_
          exact ih_4 (t0 + 1) (by omega)
      refine gj_lv [0, 1, 2, 3, 4] rfl ?_
      exact loop_3 ((qS a b) - 0) 0 (by omega)
    · refine gj_iload_n C 0 dX12_quotient_10 rfl 0 rfl ?_
      refine gj_ineg C dX12_quotient_11 ?_
      refine gj_i2l C dX12_quotient_12 ?_
      refine gj_goto C 18 dX12_quotient_13 (by decide) ?_
      refine gj_setl (y := lN (qA a)) (qA_neg ((i32_lt _ _).mpr (Int.not_le.mp (fun q => c_2 ((i32_le _ _).mpr q)))) hal) ?_
      refine gj_lstore_n C (lv' := [(2, .long (lN (qA a))), (0, .int a), (1, .int b)]) 2 dX12_quotient_18 rfl (by decide) rfl ?_
      refine gj_iload_n C 1 dX12_quotient_19 rfl 2 rfl ?_
      refine gj_i2l C dX12_quotient_20 ?_
      refine gj_setl (y := lN (qA b)) (qA_pos hbn) ?_
      refine gj_lstore C (lv' := [(4, .long (lN (qA b))), (2, .long (lN (qA a))), (0, .int a), (1, .int b)]) dX12_quotient_21 (by decide) rfl ?_
      refine gj_bipush C (v := 23) (by decide) dX12_quotient_23 ?_
      refine gj_seti (y := nI (23 + 0)) rfl ?_
      refine gj_istore C (lv' := [(6, .int (nI (23 + 0))), (4, .long (lN (qA b))), (2, .long (lN (qA a))), (0, .int a), (1, .int b)]) dX12_quotient_25 (by decide) rfl ?_
      refine gj_lload_n C 2 dX12_quotient_27 rfl 2 rfl ?_
      refine gj_bipush C (v := 23) (by decide) dX12_quotient_28 ?_
      refine gj_lshl C dX12_quotient_30 ?_
      refine gj_setl (y := lN (qA a * 2 ^ 23 * 2 ^ 0)) (by rw [show ((23 : Int32).toInt64 &&& 63) = ((nI 23).toInt64 &&& 63) from rfl, wb_shl _ (by omega), Nat.pow_zero, Nat.mul_one]) ?_
      refine gj_lstore_n C (lv' := [(2, .long (lN (qA a * 2 ^ 23 * 2 ^ 0))), (6, .int (nI (23 + 0))), (4, .long (lN (qA b))), (0, .int a), (1, .int b)]) 2 dX12_quotient_31 rfl (by decide) rfl ?_
      have loop_18 : ∀ (m0 t0 : Nat), t0 + m0 = (qS a b) → gJ pT l eT (Rm 0) sT mT aT below meth cT AT QT D ad 108 13 (f) [(2, .long (lN (qA a * 2 ^ 23 * 2 ^ t0))), (6, .int (nI (23 + t0))), (4, .long (lN (qA b))), (0, .int a), (1, .int b)] 32 [] := by
        intro m0
        induction m0 with
        | zero =>
          intro t0 hk_t0  
          obtain rfl : t0 = (qS a b) := (by omega)
          refine gj_lload_n C 2 dX12_quotient_32 rfl 0 rfl ?_
          refine gj_lload C dX12_quotient_33 2 rfl ?_
          refine gj_ldiv C (lN_nz (by omega) (by omega)) dX12_quotient_35 ?_
          refine gj_ldc2 C (v := 8388608) w_1234 dX12_quotient_36 ?_
          refine gj_lcmp C dX12_quotient_39 ?_
          refine gj_if_ge C 53 dX12_quotient_40 (by decide) (fun c_20 => ?_) (fun c_20 => absurd (q1_x ha0 ha hb0 hb) c_20)
          refine gj_lvs (lv' := [(2, .long (lN (qA a * 2 ^ 23 * 2 ^ (qS a b)))), (6, .int (nI (23 + (qS a b)) - nI 0)), (4, .long (lN (qA b * 2 ^ 0))), (0, .int a), (1, .int b)]) (by rw [Nat.pow_zero, Nat.mul_one, show nI 0 = 0 from rfl, Int32.sub_zero]) ?_
          have loop_21 : ∀ (m1 t1 : Nat), t1 + m1 = (qT a b) → gJ pT l eT (Rm 0) sT mT aT below meth cT AT QT D ad 108 13 (f) [(2, .long (lN (qA a * 2 ^ 23 * 2 ^ (qS a b)))), (6, .int (nI (23 + (qS a b)) - nI t1)), (4, .long (lN (qA b * 2 ^ t1))), (0, .int a), (1, .int b)] 53 [] := by
            intro m1
            induction m1 with
            | zero =>
              intro t1 hk_t1  
              obtain rfl : t1 = (qT a b) := (by omega)
              refine gj_lload_n C 2 dX12_quotient_53 rfl 0 rfl ?_
              refine gj_lload C dX12_quotient_54 2 rfl ?_
              refine gj_ldiv C (q_nzb ha0 ha hb0 hb (by omega)) dX12_quotient_56 ?_
              refine gj_ldc2 C (v := 16777216) w_1235 dX12_quotient_57 ?_
              refine gj_lcmp C dX12_quotient_60 ?_
              refine gj_if_lt C 76 dX12_quotient_61 (by decide) (fun c_23 => ?_) (fun c_23 => absurd (q2_x ha0 ha hb0 hb) c_23)
              refine gj_lload_n C 2 dX12_quotient_76 rfl 0 rfl ?_
              refine gj_lload C dX12_quotient_77 2 rfl ?_
              refine gj_ldiv C (q_nzb ha0 ha hb0 hb (Nat.le_refl _)) dX12_quotient_79 ?_
              refine gj_lstore C (lv' := [(7, .long ((lN (qA a * 2 ^ 23 * 2 ^ (qS a b))) / (lN (qA b * 2 ^ (qT a b))))), (2, .long (lN (qA a * 2 ^ 23 * 2 ^ (qS a b)))), (6, .int (nI (23 + (qS a b)) - nI (qT a b))), (4, .long (lN (qA b * 2 ^ (qT a b)))), (0, .int a), (1, .int b)]) dX12_quotient_80 (by decide) rfl ?_
              refine gj_ldc2 C (v := 2) w_946 dX12_quotient_82 ?_
              refine gj_lload_n C 2 dX12_quotient_85 rfl 1 rfl ?_
              refine gj_lload C dX12_quotient_86 3 rfl ?_
              refine gj_lrem C (q_nzb ha0 ha hb0 hb (Nat.le_refl _)) dX12_quotient_88 ?_
              refine gj_lmul C dX12_quotient_89 ?_
              refine gj_lstore C (lv' := [(9, .long (2 * ((lN (qA a * 2 ^ 23 * 2 ^ (qS a b))) - (lN (qA a * 2 ^ 23 * 2 ^ (qS a b))) / (lN (qA b * 2 ^ (qT a b))) * (lN (qA b * 2 ^ (qT a b)))))), (7, .long ((lN (qA a * 2 ^ 23 * 2 ^ (qS a b))) / (lN (qA b * 2 ^ (qT a b))))), (2, .long (lN (qA a * 2 ^ 23 * 2 ^ (qS a b)))), (6, .int (nI (23 + (qS a b)) - nI (qT a b))), (4, .long (lN (qA b * 2 ^ (qT a b)))), (0, .int a), (1, .int b)]) dX12_quotient_90 (by decide) rfl ?_
              refine gj_lload C dX12_quotient_92 1 rfl ?_
              refine gj_lload C dX12_quotient_94 0 rfl ?_
              refine gj_lload C dX12_quotient_96 4 rfl ?_
              refine gj_lcmp C dX12_quotient_98 ?_
              refine gj_if_gt C 121 dX12_quotient_99 (by decide) (fun c_24 => ?_) (fun c_24 => ?_)
              · refine gj_lconst C (v := 1) rfl dX12_quotient_121 ?_
                refine gj_goto C 126 dX12_quotient_122 (by decide) ?_
                refine gj_ladd C dX12_quotient_126 ?_
                refine gj_lstore C (lv' := [(7, .long (((lN (qA a * 2 ^ 23 * 2 ^ (qS a b))) / (lN (qA b * 2 ^ (qT a b)))) + 1)), (9, .long (2 * ((lN (qA a * 2 ^ 23 * 2 ^ (qS a b))) - (lN (qA a * 2 ^ 23 * 2 ^ (qS a b))) / (lN (qA b * 2 ^ (qT a b))) * (lN (qA b * 2 ^ (qT a b)))))), (2, .long (lN (qA a * 2 ^ 23 * 2 ^ (qS a b)))), (6, .int (nI (23 + (qS a b)) - nI (qT a b))), (4, .long (lN (qA b * 2 ^ (qT a b)))), (0, .int a), (1, .int b)]) dX12_quotient_127 (by decide) rfl ?_
                refine gj_bipush C (v := 23) (by decide) dX12_quotient_129 ?_
                refine gj_iload C dX12_quotient_131 3 rfl ?_
                refine gj_isub C dX12_quotient_133 ?_
                refine gj_bipush C (v := 127) (by decide) dX12_quotient_134 ?_
                refine gj_iadd C dX12_quotient_136 ?_
                refine gj_istore C (lv' := [(11, .int ((23 - (nI (23 + (qS a b)) - nI (qT a b))) + 127)), (7, .long (((lN (qA a * 2 ^ 23 * 2 ^ (qS a b))) / (lN (qA b * 2 ^ (qT a b)))) + 1)), (9, .long (2 * ((lN (qA a * 2 ^ 23 * 2 ^ (qS a b))) - (lN (qA a * 2 ^ 23 * 2 ^ (qS a b))) / (lN (qA b * 2 ^ (qT a b))) * (lN (qA b * 2 ^ (qT a b)))))), (2, .long (lN (qA a * 2 ^ 23 * 2 ^ (qS a b)))), (6, .int (nI (23 + (qS a b)) - nI (qT a b))), (4, .long (lN (qA b * 2 ^ (qT a b)))), (0, .int a), (1, .int b)]) dX12_quotient_137 (by decide) rfl ?_
                refine gj_iload C dX12_quotient_139 0 rfl ?_
                refine gj_bipush C (v := 23) (by decide) dX12_quotient_141 ?_
                refine gj_ishl C dX12_quotient_143 ?_
                refine gj_i2l C dX12_quotient_144 ?_
                refine gj_lload C dX12_quotient_145 1 rfl ?_
                refine gj_ladd C dX12_quotient_147 ?_
                refine gj_ldc2 C (v := 8388608) w_1234 dX12_quotient_148 ?_
                refine gj_lsub C dX12_quotient_151 ?_
                refine gj_l2i C dX12_quotient_152 ?_
                refine gj_istore C (lv' := [(12, .int (((((((23 - (nI (23 + (qS a b)) - nI (qT a b))) + 127) <<< (23 &&& 31)).toInt64) + (((lN (qA a * 2 ^ 23 * 2 ^ (qS a b))) / (lN (qA b * 2 ^ (qT a b)))) + 1)) - 8388608).toInt32)), (11, .int ((23 - (nI (23 + (qS a b)) - nI (qT a b))) + 127)), (7, .long (((lN (qA a * 2 ^ 23 * 2 ^ (qS a b))) / (lN (qA b * 2 ^ (qT a b)))) + 1)), (9, .long (2 * ((lN (qA a * 2 ^ 23 * 2 ^ (qS a b))) - (lN (qA a * 2 ^ 23 * 2 ^ (qS a b))) / (lN (qA b * 2 ^ (qT a b))) * (lN (qA b * 2 ^ (qT a b)))))), (2, .long (lN (qA a * 2 ^ 23 * 2 ^ (qS a b)))), (6, .int (nI (23 + (qS a b)) - nI (qT a b))), (4, .long (lN (qA b * 2 ^ (qT a b)))), (0, .int a), (1, .int b)]) dX12_quotient_153 (by decide) rfl ?_
                refine gj_iload_n C 0 dX12_quotient_155 rfl 7 rfl ?_
                refine gj_if_ge C 167 dX12_quotient_156 (by decide) (fun c_25 => ?_) (fun c_25 => ?_)
                · refine gj_iload C dX12_quotient_167 0 rfl ?_
                  exact RT _ _ _ _ ⟨(show mQuo a b = _ from (if_neg c_1).trans ((if_pos c_24).trans ((if_pos c_25).trans (rfl)))).symm, rfl⟩ dX12_quotient_169
                · refine gj_iload C dX12_quotient_159 0 rfl ?_
                  refine gj_ldc C (v := (-2147483648)) w_970 dX12_quotient_161 ?_
                  refine gj_ior C dX12_quotient_163 ?_
                  refine gj_goto C 169 dX12_quotient_164 (by decide) ?_
                  exact RT _ _ _ _ ⟨(show mQuo a b = _ from (if_neg c_1).trans ((if_pos c_24).trans ((if_neg c_25).trans (rfl)))).symm, rfl⟩ dX12_quotient_169
              · refine gj_lload C dX12_quotient_102 0 rfl ?_
                refine gj_lload C dX12_quotient_104 4 rfl ?_
                refine gj_lcmp C dX12_quotient_106 ?_
                refine gj_if_ne C 125 dX12_quotient_107 (by decide) (fun c_26 => ?_) (fun c_26 => ?_)
                · refine gj_lconst C (v := 0) rfl dX12_quotient_125 ?_
                  refine gj_ladd C dX12_quotient_126 ?_
                  refine gj_lstore C (lv' := [(7, .long (((lN (qA a * 2 ^ 23 * 2 ^ (qS a b))) / (lN (qA b * 2 ^ (qT a b)))) + 0)), (9, .long (2 * ((lN (qA a * 2 ^ 23 * 2 ^ (qS a b))) - (lN (qA a * 2 ^ 23 * 2 ^ (qS a b))) / (lN (qA b * 2 ^ (qT a b))) * (lN (qA b * 2 ^ (qT a b)))))), (2, .long (lN (qA a * 2 ^ 23 * 2 ^ (qS a b)))), (6, .int (nI (23 + (qS a b)) - nI (qT a b))), (4, .long (lN (qA b * 2 ^ (qT a b)))), (0, .int a), (1, .int b)]) dX12_quotient_127 (by decide) rfl ?_
                  refine gj_bipush C (v := 23) (by decide) dX12_quotient_129 ?_
                  refine gj_iload C dX12_quotient_131 3 rfl ?_
                  refine gj_isub C dX12_quotient_133 ?_
                  refine gj_bipush C (v := 127) (by decide) dX12_quotient_134 ?_
                  refine gj_iadd C dX12_quotient_136 ?_
                  refine gj_istore C (lv' := [(11, .int ((23 - (nI (23 + (qS a b)) - nI (qT a b))) + 127)), (7, .long (((lN (qA a * 2 ^ 23 * 2 ^ (qS a b))) / (lN (qA b * 2 ^ (qT a b)))) + 0)), (9, .long (2 * ((lN (qA a * 2 ^ 23 * 2 ^ (qS a b))) - (lN (qA a * 2 ^ 23 * 2 ^ (qS a b))) / (lN (qA b * 2 ^ (qT a b))) * (lN (qA b * 2 ^ (qT a b)))))), (2, .long (lN (qA a * 2 ^ 23 * 2 ^ (qS a b)))), (6, .int (nI (23 + (qS a b)) - nI (qT a b))), (4, .long (lN (qA b * 2 ^ (qT a b)))), (0, .int a), (1, .int b)]) dX12_quotient_137 (by decide) rfl ?_
                  refine gj_iload C dX12_quotient_139 0 rfl ?_
                  refine gj_bipush C (v := 23) (by decide) dX12_quotient_141 ?_
                  refine gj_ishl C dX12_quotient_143 ?_
                  refine gj_i2l C dX12_quotient_144 ?_
                  refine gj_lload C dX12_quotient_145 1 rfl ?_
                  refine gj_ladd C dX12_quotient_147 ?_
                  refine gj_ldc2 C (v := 8388608) w_1234 dX12_quotient_148 ?_
                  refine gj_lsub C dX12_quotient_151 ?_
                  refine gj_l2i C dX12_quotient_152 ?_
                  refine gj_istore C (lv' := [(12, .int (((((((23 - (nI (23 + (qS a b)) - nI (qT a b))) + 127) <<< (23 &&& 31)).toInt64) + (((lN (qA a * 2 ^ 23 * 2 ^ (qS a b))) / (lN (qA b * 2 ^ (qT a b)))) + 0)) - 8388608).toInt32)), (11, .int ((23 - (nI (23 + (qS a b)) - nI (qT a b))) + 127)), (7, .long (((lN (qA a * 2 ^ 23 * 2 ^ (qS a b))) / (lN (qA b * 2 ^ (qT a b)))) + 0)), (9, .long (2 * ((lN (qA a * 2 ^ 23 * 2 ^ (qS a b))) - (lN (qA a * 2 ^ 23 * 2 ^ (qS a b))) / (lN (qA b * 2 ^ (qT a b))) * (lN (qA b * 2 ^ (qT a b)))))), (2, .long (lN (qA a * 2 ^ 23 * 2 ^ (qS a b)))), (6, .int (nI (23 + (qS a b)) - nI (qT a b))), (4, .long (lN (qA b * 2 ^ (qT a b)))), (0, .int a), (1, .int b)]) dX12_quotient_153 (by decide) rfl ?_
                  refine gj_iload_n C 0 dX12_quotient_155 rfl 7 rfl ?_
                  refine gj_if_ge C 167 dX12_quotient_156 (by decide) (fun c_27 => ?_) (fun c_27 => ?_)
                  · refine gj_iload C dX12_quotient_167 0 rfl ?_
                    exact RT _ _ _ _ ⟨(show mQuo a b = _ from (if_neg c_1).trans ((if_neg c_24).trans ((if_neg c_26).trans ((if_pos c_27).trans (rfl))))).symm, rfl⟩ dX12_quotient_169
                  · refine gj_iload C dX12_quotient_159 0 rfl ?_
                    refine gj_ldc C (v := (-2147483648)) w_970 dX12_quotient_161 ?_
                    refine gj_ior C dX12_quotient_163 ?_
                    refine gj_goto C 169 dX12_quotient_164 (by decide) ?_
                    exact RT _ _ _ _ ⟨(show mQuo a b = _ from (if_neg c_1).trans ((if_neg c_24).trans ((if_neg c_26).trans ((if_neg c_27).trans (rfl))))).symm, rfl⟩ dX12_quotient_169
                · refine gj_lload C dX12_quotient_110 1 rfl ?_
                  refine gj_ldc2 C (v := 2) w_946 dX12_quotient_112 ?_
                  refine gj_lrem C (by decide) dX12_quotient_115 ?_
                  refine gj_lconst C (v := 1) rfl dX12_quotient_116 ?_
                  refine gj_lcmp C dX12_quotient_117 ?_
                  refine gj_if_ne C 125 dX12_quotient_118 (by decide) (fun c_28 => ?_) (fun c_28 => ?_)
                  · refine gj_lconst C (v := 0) rfl dX12_quotient_125 ?_
                    refine gj_ladd C dX12_quotient_126 ?_
                    refine gj_lstore C (lv' := [(7, .long (((lN (qA a * 2 ^ 23 * 2 ^ (qS a b))) / (lN (qA b * 2 ^ (qT a b)))) + 0)), (9, .long (2 * ((lN (qA a * 2 ^ 23 * 2 ^ (qS a b))) - (lN (qA a * 2 ^ 23 * 2 ^ (qS a b))) / (lN (qA b * 2 ^ (qT a b))) * (lN (qA b * 2 ^ (qT a b)))))), (2, .long (lN (qA a * 2 ^ 23 * 2 ^ (qS a b)))), (6, .int (nI (23 + (qS a b)) - nI (qT a b))), (4, .long (lN (qA b * 2 ^ (qT a b)))), (0, .int a), (1, .int b)]) dX12_quotient_127 (by decide) rfl ?_
                    refine gj_bipush C (v := 23) (by decide) dX12_quotient_129 ?_
                    refine gj_iload C dX12_quotient_131 3 rfl ?_
                    refine gj_isub C dX12_quotient_133 ?_
                    refine gj_bipush C (v := 127) (by decide) dX12_quotient_134 ?_
                    refine gj_iadd C dX12_quotient_136 ?_
                    refine gj_istore C (lv' := [(11, .int ((23 - (nI (23 + (qS a b)) - nI (qT a b))) + 127)), (7, .long (((lN (qA a * 2 ^ 23 * 2 ^ (qS a b))) / (lN (qA b * 2 ^ (qT a b)))) + 0)), (9, .long (2 * ((lN (qA a * 2 ^ 23 * 2 ^ (qS a b))) - (lN (qA a * 2 ^ 23 * 2 ^ (qS a b))) / (lN (qA b * 2 ^ (qT a b))) * (lN (qA b * 2 ^ (qT a b)))))), (2, .long (lN (qA a * 2 ^ 23 * 2 ^ (qS a b)))), (6, .int (nI (23 + (qS a b)) - nI (qT a b))), (4, .long (lN (qA b * 2 ^ (qT a b)))), (0, .int a), (1, .int b)]) dX12_quotient_137 (by decide) rfl ?_
                    refine gj_iload C dX12_quotient_139 0 rfl ?_
                    refine gj_bipush C (v := 23) (by decide) dX12_quotient_141 ?_
                    refine gj_ishl C dX12_quotient_143 ?_
                    refine gj_i2l C dX12_quotient_144 ?_
                    refine gj_lload C dX12_quotient_145 1 rfl ?_
                    refine gj_ladd C dX12_quotient_147 ?_
                    refine gj_ldc2 C (v := 8388608) w_1234 dX12_quotient_148 ?_
                    refine gj_lsub C dX12_quotient_151 ?_
                    refine gj_l2i C dX12_quotient_152 ?_
                    refine gj_istore C (lv' := [(12, .int (((((((23 - (nI (23 + (qS a b)) - nI (qT a b))) + 127) <<< (23 &&& 31)).toInt64) + (((lN (qA a * 2 ^ 23 * 2 ^ (qS a b))) / (lN (qA b * 2 ^ (qT a b)))) + 0)) - 8388608).toInt32)), (11, .int ((23 - (nI (23 + (qS a b)) - nI (qT a b))) + 127)), (7, .long (((lN (qA a * 2 ^ 23 * 2 ^ (qS a b))) / (lN (qA b * 2 ^ (qT a b)))) + 0)), (9, .long (2 * ((lN (qA a * 2 ^ 23 * 2 ^ (qS a b))) - (lN (qA a * 2 ^ 23 * 2 ^ (qS a b))) / (lN (qA b * 2 ^ (qT a b))) * (lN (qA b * 2 ^ (qT a b)))))), (2, .long (lN (qA a * 2 ^ 23 * 2 ^ (qS a b)))), (6, .int (nI (23 + (qS a b)) - nI (qT a b))), (4, .long (lN (qA b * 2 ^ (qT a b)))), (0, .int a), (1, .int b)]) dX12_quotient_153 (by decide) rfl ?_
                    refine gj_iload_n C 0 dX12_quotient_155 rfl 7 rfl ?_
                    refine gj_if_ge C 167 dX12_quotient_156 (by decide) (fun c_29 => ?_) (fun c_29 => ?_)
                    · refine gj_iload C dX12_quotient_167 0 rfl ?_
                      exact RT _ _ _ _ ⟨(show mQuo a b = _ from (if_neg c_1).trans ((if_neg c_24).trans ((if_pos c_26).trans ((if_neg c_28).trans ((if_pos c_29).trans (rfl)))))).symm, rfl⟩ dX12_quotient_169
                    · refine gj_iload C dX12_quotient_159 0 rfl ?_
                      refine gj_ldc C (v := (-2147483648)) w_970 dX12_quotient_161 ?_
                      refine gj_ior C dX12_quotient_163 ?_
                      refine gj_goto C 169 dX12_quotient_164 (by decide) ?_
                      exact RT _ _ _ _ ⟨(show mQuo a b = _ from (if_neg c_1).trans ((if_neg c_24).trans ((if_pos c_26).trans ((if_neg c_28).trans ((if_neg c_29).trans (rfl)))))).symm, rfl⟩ dX12_quotient_169
                  · refine gj_lconst C (v := 1) rfl dX12_quotient_121 ?_
                    refine gj_goto C 126 dX12_quotient_122 (by decide) ?_
                    refine gj_ladd C dX12_quotient_126 ?_
                    refine gj_lstore C (lv' := [(7, .long (((lN (qA a * 2 ^ 23 * 2 ^ (qS a b))) / (lN (qA b * 2 ^ (qT a b)))) + 1)), (9, .long (2 * ((lN (qA a * 2 ^ 23 * 2 ^ (qS a b))) - (lN (qA a * 2 ^ 23 * 2 ^ (qS a b))) / (lN (qA b * 2 ^ (qT a b))) * (lN (qA b * 2 ^ (qT a b)))))), (2, .long (lN (qA a * 2 ^ 23 * 2 ^ (qS a b)))), (6, .int (nI (23 + (qS a b)) - nI (qT a b))), (4, .long (lN (qA b * 2 ^ (qT a b)))), (0, .int a), (1, .int b)]) dX12_quotient_127 (by decide) rfl ?_
                    refine gj_bipush C (v := 23) (by decide) dX12_quotient_129 ?_
                    refine gj_iload C dX12_quotient_131 3 rfl ?_
                    refine gj_isub C dX12_quotient_133 ?_
                    refine gj_bipush C (v := 127) (by decide) dX12_quotient_134 ?_
                    refine gj_iadd C dX12_quotient_136 ?_
                    refine gj_istore C (lv' := [(11, .int ((23 - (nI (23 + (qS a b)) - nI (qT a b))) + 127)), (7, .long (((lN (qA a * 2 ^ 23 * 2 ^ (qS a b))) / (lN (qA b * 2 ^ (qT a b)))) + 1)), (9, .long (2 * ((lN (qA a * 2 ^ 23 * 2 ^ (qS a b))) - (lN (qA a * 2 ^ 23 * 2 ^ (qS a b))) / (lN (qA b * 2 ^ (qT a b))) * (lN (qA b * 2 ^ (qT a b)))))), (2, .long (lN (qA a * 2 ^ 23 * 2 ^ (qS a b)))), (6, .int (nI (23 + (qS a b)) - nI (qT a b))), (4, .long (lN (qA b * 2 ^ (qT a b)))), (0, .int a), (1, .int b)]) dX12_quotient_137 (by decide) rfl ?_
                    refine gj_iload C dX12_quotient_139 0 rfl ?_
                    refine gj_bipush C (v := 23) (by decide) dX12_quotient_141 ?_
                    refine gj_ishl C dX12_quotient_143 ?_
                    refine gj_i2l C dX12_quotient_144 ?_
                    refine gj_lload C dX12_quotient_145 1 rfl ?_
                    refine gj_ladd C dX12_quotient_147 ?_
                    refine gj_ldc2 C (v := 8388608) w_1234 dX12_quotient_148 ?_
                    refine gj_lsub C dX12_quotient_151 ?_
                    refine gj_l2i C dX12_quotient_152 ?_
                    refine gj_istore C (lv' := [(12, .int (((((((23 - (nI (23 + (qS a b)) - nI (qT a b))) + 127) <<< (23 &&& 31)).toInt64) + (((lN (qA a * 2 ^ 23 * 2 ^ (qS a b))) / (lN (qA b * 2 ^ (qT a b)))) + 1)) - 8388608).toInt32)), (11, .int ((23 - (nI (23 + (qS a b)) - nI (qT a b))) + 127)), (7, .long (((lN (qA a * 2 ^ 23 * 2 ^ (qS a b))) / (lN (qA b * 2 ^ (qT a b)))) + 1)), (9, .long (2 * ((lN (qA a * 2 ^ 23 * 2 ^ (qS a b))) - (lN (qA a * 2 ^ 23 * 2 ^ (qS a b))) / (lN (qA b * 2 ^ (qT a b))) * (lN (qA b * 2 ^ (qT a b)))))), (2, .long (lN (qA a * 2 ^ 23 * 2 ^ (qS a b)))), (6, .int (nI (23 + (qS a b)) - nI (qT a b))), (4, .long (lN (qA b * 2 ^ (qT a b)))), (0, .int a), (1, .int b)]) dX12_quotient_153 (by decide) rfl ?_
                    refine gj_iload_n C 0 dX12_quotient_155 rfl 7 rfl ?_
                    refine gj_if_ge C 167 dX12_quotient_156 (by decide) (fun c_30 => ?_) (fun c_30 => ?_)
                    · refine gj_iload C dX12_quotient_167 0 rfl ?_
                      exact RT _ _ _ _ ⟨(show mQuo a b = _ from (if_neg c_1).trans ((if_neg c_24).trans ((if_pos c_26).trans ((if_pos c_28).trans ((if_pos c_30).trans (rfl)))))).symm, rfl⟩ dX12_quotient_169
                    · refine gj_iload C dX12_quotient_159 0 rfl ?_
                      refine gj_ldc C (v := (-2147483648)) w_970 dX12_quotient_161 ?_
                      refine gj_ior C dX12_quotient_163 ?_
                      refine gj_goto C 169 dX12_quotient_164 (by decide) ?_
                      exact RT _ _ _ _ ⟨(show mQuo a b = _ from (if_neg c_1).trans ((if_neg c_24).trans ((if_pos c_26).trans ((if_pos c_28).trans ((if_neg c_30).trans (rfl)))))).symm, rfl⟩ dX12_quotient_169
            | succ m1 ih_22 =>
              intro t1 hk_t1  
              refine gj_lload_n C 2 dX12_quotient_53 rfl 0 rfl ?_
              refine gj_lload C dX12_quotient_54 2 rfl ?_
              refine gj_ldiv C (q_nzb ha0 ha hb0 hb (by omega)) dX12_quotient_56 ?_
              refine gj_ldc2 C (v := 16777216) w_1235 dX12_quotient_57 ?_
              refine gj_lcmp C dX12_quotient_60 ?_
              refine gj_if_lt C 76 dX12_quotient_61 (by decide) (fun c_31 => absurd c_31 (q2_s ha0 ha hb0 hb (by omega))) (fun c_31 => ?_)
              refine gj_lload C dX12_quotient_64 2 rfl ?_
              refine gj_iconst C (v := 1) (by decide) dX12_quotient_66 ?_
              refine gj_lshl C dX12_quotient_67 ?_
              refine gj_setl (y := lN (qA b * 2 ^ (t1 + 1))) (pw_s _ _) ?_
              refine gj_lstore C (lv' := [(4, .long (lN (qA b * 2 ^ (t1 + 1)))), (2, .long (lN (qA a * 2 ^ 23 * 2 ^ (qS a b)))), (6, .int (nI (23 + (qS a b)) - nI t1)), (0, .int a), (1, .int b)]) dX12_quotient_68 (by decide) rfl ?_
              refine gj_iinc C (v := nI (23 + (qS a b)) - nI (t1 + 1)) (lv' := [(6, .int (nI (23 + (qS a b)) - nI (t1 + 1))), (4, .long (lN (qA b * 2 ^ (t1 + 1)))), (2, .long (lN (qA a * 2 ^ 23 * 2 ^ (qS a b)))), (0, .int a), (1, .int b)]) dX12_quotient_70 2 rfl (nm1 _ _) (by decide) rfl ?_
              refine gj_goto C 53 dX12_quotient_73 (by decide) ?_
              refine gj_lv [2, 0, 1, 3, 4] rfl ?_
              exact ih_22 (t1 + 1) (by omega)
          refine gj_lv [0, 1, 2, 3, 4] rfl ?_
          exact loop_21 ((qT a b) - 0) 0 (by omega)
        | succ m0 ih_19 =>
          intro t0 hk_t0  
          refine gj_lload_n C 2 dX12_quotient_32 rfl 0 rfl ?_
          refine gj_lload C dX12_quotient_33 2 rfl ?_
          refine gj_ldiv C (lN_nz (by omega) (by omega)) dX12_quotient_35 ?_
          refine gj_ldc2 C (v := 8388608) w_1234 dX12_quotient_36 ?_
          refine gj_lcmp C dX12_quotient_39 ?_
          refine gj_if_ge C 53 dX12_quotient_40 (by decide) (fun c_32 => absurd c_32 (q1_s ha0 ha hb0 hb (by omega))) (fun c_32 => ?_)
          refine gj_lload_n C 2 dX12_quotient_43 rfl 0 rfl ?_
          refine gj_iconst C (v := 1) (by decide) dX12_quotient_44 ?_
          refine gj_lshl C dX12_quotient_45 ?_
          refine gj_setl (y := lN (qA a * 2 ^ 23 * 2 ^ (t0 + 1))) (pw_s _ _) ?_
          refine gj_lstore_n C (lv' := [(2, .long (lN (qA a * 2 ^ 23 * 2 ^ (t0 + 1)))), (6, .int (nI (23 + t0))), (4, .long (lN (qA b))), (0, .int a), (1, .int b)]) 2 dX12_quotient_46 rfl (by decide) rfl ?_
          refine gj_iinc C (v := nI (23 + (t0 + 1))) (lv' := [(6, .int (nI (23 + (t0 + 1)))), (2, .long (lN (qA a * 2 ^ 23 * 2 ^ (t0 + 1)))), (4, .long (lN (qA b))), (0, .int a), (1, .int b)]) dX12_quotient_47 1 rfl (nI_1 _) (by decide) rfl ?_
          refine gj_goto C 32 dX12_quotient_50 (by decide) ?_
          refine gj_lv [1, 0, 2, 3, 4] rfl ?_
          exact ih_19 (t0 + 1) (by omega)
      refine gj_lv [0, 1, 2, 3, 4] rfl ?_
      exact loop_18 ((qS a b) - 0) 0 (by omega)
  · refine gj_iconst C (v := 0) (by decide) dX12_quotient_4 ?_
    exact RT _ _ _ _ ⟨(show mQuo a b = _ from (if_pos c_1).trans (rfl)).symm, rfl⟩ dX12_quotient_5
