/-! arms and places -/
theorem arm_CF (g g' v w : Nat → Int64) {j : Nat} (h : j < 9) : armC g v w j = armF g' v w j := by
  unfold armC armF
  by_cases h1 : j < 3
  · rw [if_pos h1, if_pos h1]
  · rw [if_neg h1, if_neg h1]
    by_cases h2 : j < 6
    · rw [if_pos h2, if_pos h2]
    · rw [if_neg h2, if_neg h2, if_pos h, if_pos h]
theorem flat_none (g g' v w : Nat → Int64) : s_X0_isFlat (armC g v w) = s_X12_isNone (armF g' v w) := by
  unfold s_X0_isFlat s_X12_isNone
  rw [arm_CF g g' v w (by omega), arm_CF g g' v w (by omega), arm_CF g g' v w (by omega)]
theorem sq_self (g g' sf v w : Nat → Int64) {a : Nat} (ha : a < 3) : s_X0_square a (armC g v w) = selfF sf (armF g' v w) a := by
  unfold s_X0_square
  rw [arm_CF g g' v w (by omega), arm_CF g g' v w (by omega), arm_CF g g' v w (by omega)]
  rcases (show a = 0 ∨ a = 1 ∨ a = 2 by omega) with rfl | rfl | rfl
  · show _ = 0 + _ + _ + _
    rw [Int64.zero_add]
  · show _ = 0 + _ + _ + _
    rw [Int64.zero_add]
  · show _ = 0 + _ + _ + _
    rw [Int64.zero_add]
theorem xor_neg (a b : Int64) : (a ^^^ b).toInt < 0 ↔ ¬ (a.toInt < 0 ↔ b.toInt < 0) := by
  have h : ∀ x : Int64, x.toInt < 0 ↔ x.toBitVec.msb = true := by
    intro x
    rw [BitVec.msb_eq_toInt]
    show x.toBitVec.toInt < 0 ↔ _
    simp
  rw [h, h, h, Int64.toBitVec_xor, BitVec.msb_xor]
  cases a.toBitVec.msb <;> cases b.toBitVec.msb <;> simp
theorem i64_rng (x : Int64) : -9223372036854775808 ≤ x.toInt ∧ x.toInt < 9223372036854775808 := ⟨Int64.le_toInt x, Int64.toInt_lt x⟩
/-- a quotient by a positive number -/
theorem dv_pos {n d : Int64} (hd : 0 < d.toInt) : ∃ q : Int, (n / d).toInt = q ∧ (n / d * d).toInt = q * d.toInt ∧ ((0 ≤ n.toInt ∧ 0 ≤ q ∧ 0 ≤ n.toInt - q * d.toInt ∧ n.toInt - q * d.toInt < d.toInt) ∨ (n.toInt < 0 ∧ q ≤ 0 ∧ n.toInt - q * d.toInt ≤ 0 ∧ - d.toInt < n.toInt - q * d.toInt)) := by
  have rn := i64_rng n
  have rd := i64_rng d
  refine ⟨n.toInt.tdiv d.toInt, ?_⟩
  have key : (0 ≤ n.toInt ∧ 0 ≤ n.toInt.tdiv d.toInt ∧ 0 ≤ n.toInt - n.toInt.tdiv d.toInt * d.toInt ∧ n.toInt - n.toInt.tdiv d.toInt * d.toInt < d.toInt) ∨ (n.toInt < 0 ∧ n.toInt.tdiv d.toInt ≤ 0 ∧ n.toInt - n.toInt.tdiv d.toInt * d.toInt ≤ 0 ∧ - d.toInt < n.toInt - n.toInt.tdiv d.toInt * d.toInt) := by
    rcases Int.lt_or_le n.toInt 0 with h | h
    · right
      have e : n.toInt.tdiv d.toInt = -((-n.toInt) / d.toInt) := by
        rw [← Int.tdiv_eq_ediv_of_nonneg (show 0 ≤ -n.toInt by omega), Int.neg_tdiv, Int.neg_neg]
      have h1 := Int.emod_nonneg (-n.toInt) (show d.toInt ≠ 0 by omega)
      have h2 := Int.emod_lt_of_pos (-n.toInt) hd
      have h3 := Int.emod_add_mul_ediv (-n.toInt) d.toInt
      have h4 := Int.ediv_nonneg (show 0 ≤ -n.toInt by omega) (show 0 ≤ d.toInt by omega)
      rw [e, Int.neg_mul, Int.mul_comm]
      omega
    · left
      have e : n.toInt.tdiv d.toInt = n.toInt / d.toInt := Int.tdiv_eq_ediv_of_nonneg h
      have h1 := Int.emod_nonneg n.toInt (show d.toInt ≠ 0 by omega)
      have h2 := Int.emod_lt_of_pos n.toInt hd
      have h3 := Int.emod_add_mul_ediv n.toInt d.toInt
      have h4 := Int.ediv_nonneg h (show 0 ≤ d.toInt by omega)
      rw [e, Int.mul_comm]
      omega
  have qb : -9223372036854775808 ≤ n.toInt.tdiv d.toInt ∧ n.toInt.tdiv d.toInt < 9223372036854775808 := by
    have := Int.natAbs_tdiv_le_natAbs n.toInt d.toInt
    omega
  have e1 : (n / d).toInt = n.toInt.tdiv d.toInt := by
    rw [Int64.toInt_div]
    rcases Int.lt_or_le n.toInt 0 with h | h
    · exact i64_bm (by omega) (by omega)
    · exact i64_bm (by omega) (by omega)
  refine ⟨e1, ?_, key⟩
  rw [i64_mul (by rw [e1]; omega) (by rw [e1]; omega), e1]
theorem lg0 (x : Int64) : 0 ≤ lg_cmp x 0 ↔ 0 ≤ x.toInt := by
  rw [lg_cmp_ge, i64_le]; exact Iff.rfl
theorem lgz (x y : Int64) : lg_cmp x y = 0 ↔ x.toInt = y.toInt := by
  unfold lg_cmp
  repeat' split
  all_goals simp_all only [i64_le, i64_lt, i64_eq, gt_iff_lt]
  all_goals simp
  all_goals omega
theorem fd_near {n d : Int64} (hd : 0 < d.toInt) : s_J9_floorDiv_f86c9 n d = if 0 ≤ lg_cmp (n - n / d * d) 0 then n / d else n / d - 1 := by
  obtain ⟨q, e1, e2, h⟩ := dv_pos (n := n) hd
  have rn := i64_rng n
  have e3 : (n - n / d * d).toInt = n.toInt - q * d.toInt := by
    have rd := i64_rng d
    rw [i64_sub (by rw [e2]; omega) (by rw [e2]; omega), e2]
  unfold s_J9_floorDiv_f86c9
  have x := xor_neg n d
  by_cases c1 : 0 ≤ lg_cmp (n ^^^ d) 0
  · rw [if_pos c1]
    rw [lg0] at c1
    rw [if_pos (by rw [lg0, e3]; omega)]
  · rw [if_neg c1]
    rw [lg0] at c1
    by_cases c2 : lg_cmp (n / d * d) n = 0
    · rw [if_pos c2, if_pos (by rw [lg0, e3]; rw [lgz, e2] at c2; omega)]
    · rw [if_neg c2, if_neg (by rw [lg0, e3]; rw [lgz, e2] at c2; omega)]
