/-! places -/
theorem all_eq {g v w : Nat → Int64} (hv : ∀ j, j < 3 → bd (v j) 100) (hw : ∀ j, j < 3 → bd (w j) 100) : cAll (armC g v w) = selfF kL (armF kL v w) 2 := by
  obtain ⟨⟨d0, d1, d2⟩, e0, e1, e2⟩ := arm_bd hv hw
  obtain ⟨s0, l0⟩ := sq_sum (hv 0 (by omega)) (hv 1 (by omega)) (hv 2 (by omega)) (by omega) (by omega)
  obtain ⟨s1, l1⟩ := sq_sum d0 d1 d2 (by omega) (by omega)
  obtain ⟨se, -⟩ := self_eq (g := kL) (sf := kL) hv hw
  unfold cAll
  rw [sq_self g kL kL v w (a := 0) (by omega), sq_self g kL kL v w (a := 1) (by omega), i64_eq, se]
  have t0 : selfF kL (armF kL v w) 0 = 0 + v 0 * v 0 + v 1 * v 1 + v 2 * v 2 := rfl
  have t1 : selfF kL (armF kL v w) 1 = 0 + c0 v w * c0 v w + c1 v w * c1 v w + c2 v w * c2 v w := rfl
  have z0 := sq0 (v 0).toInt
  have z1 := sq0 (v 1).toInt
  have z2 := sq0 (v 2).toInt
  have y0 := sq0 (c0 v w).toInt
  have y1 := sq0 (c1 v w).toInt
  have y2 := sq0 (c2 v w).toInt
  obtain ⟨m, -⟩ := bd_mul (x := selfF kL (armF kL v w) 0) (y := selfF kL (armF kL v w) 1) (a := 30000) (b := 1200000000) (by unfold bd; rw [t0, s0]; omega) (by unfold bd; rw [t1, s1]; omega) (by omega)
  rw [m, t0, s0, t1, s1, e0, e1, e2]
theorem cSum_eq {sta spa staM spaM sf : Nat → Int64} (h1 : ∀ j, j < 9 → sta j = staM j) (h2 : ∀ j, j < 9 → spa j = spaM j) (q0 : s_X0_square 0 sta = sf 0) (q1 : s_X0_square 1 sta = sf 1) (x y z : Int32) {k : Nat} (hk : k < 3) : cSum sta spa x y z k = ((0 + (((((0 + (x.toInt64 * (staM 0))) + (y.toInt64 * (staM 1))) + (z.toInt64 * (staM 2))) * (spaM (0 + k))) * (sf 1))) + (((((0 + (x.toInt64 * (staM 3))) + (y.toInt64 * (staM 4))) + (z.toInt64 * (staM 5))) * (spaM (3 + k))) * (sf 0))) + (((((0 + (x.toInt64 * (staM 6))) + (y.toInt64 * (staM 7))) + (z.toInt64 * (staM 8))) * (spaM (6 + k))) * 1) := by
  unfold cSum
  rw [q0, q1]
  show ((((sta 0 * x.toInt64 + sta 1 * y.toInt64) + sta 2 * z.toInt64) * sf 1) * spa (0 + k) + (((sta 3 * x.toInt64 + sta 4 * y.toInt64) + sta 5 * z.toInt64) * sf 0) * spa (3 + k)) + ((sta 6 * x.toInt64 + sta 7 * y.toInt64) + sta 8 * z.toInt64) * spa (6 + k) = _
  rw [h1 0 (by omega), h1 1 (by omega), h1 2 (by omega), h1 3 (by omega), h1 4 (by omega), h1 5 (by omega), h1 6 (by omega), h1 7 (by omega), h1 8 (by omega), h2 (0 + k) (by omega), h2 (3 + k) (by omega), h2 (6 + k) (by omega)]
  have r : ∀ a b c : Int64, a * b * c = a * c * b := fun a b c => by rw [Int64.mul_assoc, Int64.mul_comm b c, ← Int64.mul_assoc]
  rw [Int64.mul_one, Int64.zero_add, Int64.zero_add, Int64.zero_add, Int64.zero_add, r _ (sf 1), r _ (sf 0)]
  rw [Int64.mul_comm (staM 0), Int64.mul_comm (staM 1), Int64.mul_comm (staM 2), Int64.mul_comm (staM 3), Int64.mul_comm (staM 4), Int64.mul_comm (staM 5), Int64.mul_comm (staM 6), Int64.mul_comm (staM 7), Int64.mul_comm (staM 8)]
theorem self_pos {v w : Nat → Int64} (hv : ∀ j, j < 3 → bd (v j) 100) (hw : ∀ j, j < 3 → bd (w j) 100) (h : s_X12_isNone (armF kL v w) = 0) : 1 ≤ (selfF kL (armF kL v w) 2).toInt ∧ (selfF kL (armF kL v w) 2).toInt ≤ 48000000000000 := by
  obtain ⟨e, l1, l2⟩ := self_eq (g := kL) (sf := kL) hv hw
  have p := lagr_pos (none_no hv hw h)
  rw [← e] at p
  exact ⟨by omega, l2⟩
theorem two_toInt {a : Int64} (h : 0 ≤ a.toInt ∧ a.toInt ≤ 48000000000000) : (2 * a).toInt = 2 * a.toInt := by
  have z0 : bd (2 : Int64) 2 := ⟨by decide, by decide⟩
  obtain ⟨e2, -⟩ := bd_mul z0 (show bd a 48000000000000 from ⟨by omega, h.2⟩) (by omega)
  exact e2
theorem cPv_eq {sta spa : Nat → Int64} {x y z : Int32} {k : Nat} {S A : Int64} (hS : cSum sta spa x y z k = S) (hA : cAll sta = A) (h : 1 ≤ A.toInt ∧ A.toInt ≤ 48000000000000) : cPv sta spa x y z k = (s_X12_nearest S A).toInt32 := by
  unfold cPv
  rw [hS, hA]
  have t := two_toInt (a := A) (by omega)
  rw [if_pos (by rw [lg_cmp_ge, i64_le]; have : (1 : Int64).toInt = 1 := rfl; omega), fd_near (by omega)]
  rfl
/-! how large a place may be -/
theorem ab_sq (a : Int) : -(a * a) ≤ a ∧ a ≤ a * a := by
  rcases Int.lt_or_le a 1 with h | h
  · have q := sq0 a
    rcases Int.lt_or_le (-1) a with h2 | h2
    · have : a = 0 := by omega
      subst this; omega
    · have := Int.mul_le_mul (show 1 ≤ -a by omega) (Int.le_refl (-a)) (by omega) (by omega)
      rw [Int.neg_mul_neg] at this
      omega
  · have := Int.mul_le_mul h (Int.le_refl a) (by omega) (by omega)
    omega
theorem ab_t {x a : Int} (hx : -100 ≤ x ∧ x ≤ 100) : -(100 * (a * a)) ≤ x * a ∧ x * a ≤ 100 * (a * a) := int_mulb hx (ab_sq a)
theorem tb3 {x y z a b c : Int} (hx : -100 ≤ x ∧ x ≤ 100) (hy : -100 ≤ y ∧ y ≤ 100) (hz : -100 ≤ z ∧ z ≤ 100) : -(100 * (a * a + b * b + c * c)) ≤ x * a + y * b + z * c ∧ x * a + y * b + z * c ≤ 100 * (a * a + b * b + c * c) := by
  have h1 := ab_t (a := a) hx
  have h2 := ab_t (a := b) hy
  have h3 := ab_t (a := c) hz
  omega
theorem S_bd {t0 t1 t2 b0 b1 b2 q0 q1 A : Int} (h0 : 0 ≤ q0) (h1 : 0 ≤ q1) (hA : A = q0 * q1) (ht0 : -(100 * q0) ≤ t0 ∧ t0 ≤ 100 * q0) (ht1 : -(100 * q1) ≤ t1 ∧ t1 ≤ 100 * q1) (ht2 : -(100 * A) ≤ t2 ∧ t2 ≤ 100 * A) (hb0 : -100 ≤ b0 ∧ b0 ≤ 100) (hb1 : -20000 ≤ b1 ∧ b1 ≤ 20000) (hb2 : -4000000 ≤ b2 ∧ b2 ≤ 4000000) : -(402010000 * A) ≤ t0 * b0 * q1 + t1 * b1 * q0 + t2 * b2 ∧ t0 * b0 * q1 + t1 * b1 * q0 + t2 * b2 ≤ 402010000 * A := by
  have e1 := int_mulb (int_mulb ht0 hb0) (show -q1 ≤ q1 ∧ q1 ≤ q1 by omega)
  have e2 := int_mulb (int_mulb ht1 hb1) (show -q0 ≤ q0 ∧ q0 ≤ q0 by omega)
  have e3 := int_mulb ht2 hb2
  have r1 : 100 * q0 * 100 * q1 = 10000 * A := by rw [hA]; grind
  have r2 : 100 * q1 * 20000 * q0 = 2000000 * A := by rw [hA]; grind
  omega
theorem nearest_bd {S A : Int64} (hA : 1 ≤ A.toInt ∧ A.toInt ≤ 48000000000000) (hS : bd S 20000000000000000) (h : -(402010000 * A.toInt) ≤ S.toInt ∧ S.toInt ≤ 402010000 * A.toInt) : -402010003 ≤ (s_X12_nearest S A).toInt ∧ (s_X12_nearest S A).toInt ≤ 402010003 := by
  have t := two_toInt (a := A) (by omega)
  have z0 : bd (2 : Int64) 2 := ⟨by decide, by decide⟩
  obtain ⟨e1, b1⟩ := bd_mul z0 hS (by omega)
  obtain ⟨e2, -⟩ := bd_add b1 (show bd A 48000000000000 from ⟨by omega, hA.2⟩) (by omega)
  have e0 : (2 : Int64).toInt = 2 := rfl
  rw [e1, e0] at e2
  obtain ⟨q, f1, f2, f3⟩ := dv_pos (n := 2 * S + A) (d := 2 * A) (by omega)
  rw [t, e2] at f3
  have r : q * (2 * A.toInt) = 2 * (q * A.toInt) := by rw [Int.mul_left_comm]
  rw [t, r] at f2
  rw [r] at f3
  have up : q ≤ 402010002 := by
    apply Decidable.byContradiction
    intro c
    have := Int.mul_le_mul_of_nonneg_right (show 402010003 ≤ q by omega) (show 0 ≤ A.toInt by omega)
    omega
  have lo : -402010002 ≤ q := by
    apply Decidable.byContradiction
    intro c
    have := Int.mul_le_mul_of_nonneg_right (show q ≤ -402010003 by omega) (show 0 ≤ A.toInt by omega)
    omega
  unfold s_X12_nearest
  split
  · rw [f1]; omega
  · have o : (1 : Int64).toInt = 1 := rfl
    rw [i64_sub (by rw [f1]; omega) (by rw [f1]; omega), f1]; omega
