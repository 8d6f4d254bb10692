theorem sq0 (x : Int) : 0 ≤ x * x := by
  rcases Int.le_total 0 x with h | h
  · exact Int.mul_nonneg h h
  · have := Int.mul_nonneg (show 0 ≤ -x by omega) (show 0 ≤ -x by omega)
    rw [Int.neg_mul_neg] at this
    exact this
theorem sqz {x : Int} (h : x * x = 0) : x = 0 := by
  rcases Int.mul_eq_zero.mp h with q | q <;> exact q
theorem sq3 {x y z : Int} (h : x * x + y * y + z * z = 0) : x = 0 ∧ y = 0 ∧ z = 0 := by
  have a := sq0 x
  have b := sq0 y
  have c := sq0 z
  exact ⟨sqz (by omega), sqz (by omega), sqz (by omega)⟩
theorem lagr (v0 v1 v2 c0 c1 c2 : Int) (h : v0 * c0 + v1 * c1 + v2 * c2 = 0) : (v1 * c2 - v2 * c1) * (v1 * c2 - v2 * c1) + (v2 * c0 - v0 * c2) * (v2 * c0 - v0 * c2) + (v0 * c1 - v1 * c0) * (v0 * c1 - v1 * c0) = (v0 * v0 + v1 * v1 + v2 * v2) * (c0 * c0 + c1 * c1 + c2 * c2) := by
  grind
theorem perp (v0 v1 v2 w0 w1 w2 : Int) : v0 * (v1 * w2 - v2 * w1) + v1 * (v2 * w0 - v0 * w2) + v2 * (v0 * w1 - v1 * w0) = 0 := by
  grind
theorem lagr_pos {v0 v1 v2 w0 w1 w2 : Int} (h : ¬ (v1 * w2 - v2 * w1 = 0 ∧ v2 * w0 - v0 * w2 = 0 ∧ v0 * w1 - v1 * w0 = 0)) : (v0 * v0 + v1 * v1 + v2 * v2) * ((v1 * w2 - v2 * w1) * (v1 * w2 - v2 * w1) + (v2 * w0 - v0 * w2) * (v2 * w0 - v0 * w2) + (v0 * w1 - v1 * w0) * (v0 * w1 - v1 * w0)) ≠ 0 := by
  intro q
  rcases Int.mul_eq_zero.mp q with q | q
  · obtain ⟨a, b, c⟩ := sq3 q
    apply h
    rw [a, b, c]
    simp
  · exact h (sq3 q)
/-- the arms of two directions: their whole numbers -/
theorem arm_bd {v w : Nat → Int64} (hv : ∀ j, j < 3 → bd (v j) 100) (hw : ∀ j, j < 3 → bd (w j) 100) : (bd (c0 v w) 20000 ∧ bd (c1 v w) 20000 ∧ bd (c2 v w) 20000) ∧ (c0 v w).toInt = (v 1).toInt * (w 2).toInt - (v 2).toInt * (w 1).toInt ∧ (c1 v w).toInt = (v 2).toInt * (w 0).toInt - (v 0).toInt * (w 2).toInt ∧ (c2 v w).toInt = (v 0).toInt * (w 1).toInt - (v 1).toInt * (w 0).toInt := by
  have a0 := hv 0 (by omega)
  have a1 := hv 1 (by omega)
  have a2 := hv 2 (by omega)
  have b0 := hw 0 (by omega)
  have b1 := hw 1 (by omega)
  have b2 := hw 2 (by omega)
  obtain ⟨e0, d0⟩ := bd_det a1 b2 a2 b1 (by omega) (by omega)
  obtain ⟨e1, d1⟩ := bd_det a2 b0 a0 b2 (by omega) (by omega)
  obtain ⟨e2, d2⟩ := bd_det a0 b1 a1 b0 (by omega) (by omega)
  exact ⟨⟨d0, d1, d2⟩, e0, e1, e2⟩
theorem arm_bd2 {v c : Nat → Int64} (hv : ∀ j, j < 3 → bd (v j) 100) (hc : ∀ j, j < 3 → bd (c j) 20000) : (bd (c0 v c) 4000000 ∧ bd (c1 v c) 4000000 ∧ bd (c2 v c) 4000000) ∧ (c0 v c).toInt = (v 1).toInt * (c 2).toInt - (v 2).toInt * (c 1).toInt ∧ (c1 v c).toInt = (v 2).toInt * (c 0).toInt - (v 0).toInt * (c 2).toInt ∧ (c2 v c).toInt = (v 0).toInt * (c 1).toInt - (v 1).toInt * (c 0).toInt := by
  have a0 := hv 0 (by omega)
  have a1 := hv 1 (by omega)
  have a2 := hv 2 (by omega)
  have b0 := hc 0 (by omega)
  have b1 := hc 1 (by omega)
  have b2 := hc 2 (by omega)
  obtain ⟨e0, d0⟩ := bd_det a1 b2 a2 b1 (by omega) (by omega)
  obtain ⟨e1, d1⟩ := bd_det a2 b0 a0 b2 (by omega) (by omega)
  obtain ⟨e2, d2⟩ := bd_det a0 b1 a1 b0 (by omega) (by omega)
  exact ⟨⟨d0, d1, d2⟩, e0, e1, e2⟩
theorem cr_bd {v w : Nat → Int64} (hv : ∀ j, j < 3 → bd (v j) 100) (hw : ∀ j, j < 3 → bd (w j) 100) : ∀ j, j < 3 → bd (cr v w j) 20000 := by
  obtain ⟨⟨h0, h1, h2⟩, -⟩ := arm_bd hv hw
  intro j hj
  rcases (show j = 0 ∨ j = 1 ∨ j = 2 by omega) with rfl | rfl | rfl
  · exact h0
  · exact h1
  · exact h2
/-- a sum of three squares -/
theorem sq_sum {x y z : Int64} {b : Int} (hx : bd x b) (hy : bd y b) (hz : bd z b) (hb : b * b ≤ 1000000000000000000) (hb0 : 0 ≤ b * b) : (0 + x * x + y * y + z * z).toInt = x.toInt * x.toInt + y.toInt * y.toInt + z.toInt * z.toInt ∧ (x.toInt * x.toInt + y.toInt * y.toInt + z.toInt * z.toInt) ≤ 3 * (b * b) := by
  obtain ⟨e1, b1⟩ := bd_mul hx hx (by omega)
  obtain ⟨e2, b2⟩ := bd_mul hy hy (by omega)
  obtain ⟨e3, b3⟩ := bd_mul hz hz (by omega)
  have z0 : bd (0 : Int64) 0 := ⟨by decide, by decide⟩
  obtain ⟨e4, b4⟩ := bd_add z0 b1 (by omega)
  obtain ⟨e5, b5⟩ := bd_add b4 b2 (by omega)
  obtain ⟨e6, b6⟩ := bd_add b5 b3 (by omega)
  have e0 : (0 : Int64).toInt = 0 := rfl
  refine ⟨by rw [e6, e5, e4, e3, e2, e1, e0]; omega, ?_⟩
  unfold bd at b1 b2 b3
  omega
theorem lgc0 {x : Int64} : lg_cmp x 0 = 0 ↔ x.toInt = 0 := by
  have e : (0 : Int64).toInt = 0 := rfl
  unfold lg_cmp
  repeat' split
  all_goals simp_all only [i64_le, i64_lt, i64_eq, gt_iff_lt]
  all_goals simp
  all_goals omega
theorem none_no {g v w : Nat → Int64} (hv : ∀ j, j < 3 → bd (v j) 100) (hw : ∀ j, j < 3 → bd (w j) 100) (h : s_X12_isNone (armF g v w) = 0) : ¬ ((v 1).toInt * (w 2).toInt - (v 2).toInt * (w 1).toInt = 0 ∧ (v 2).toInt * (w 0).toInt - (v 0).toInt * (w 2).toInt = 0 ∧ (v 0).toInt * (w 1).toInt - (v 1).toInt * (w 0).toInt = 0) := by
  obtain ⟨-, e0, e1, e2⟩ := arm_bd hv hw
  rintro ⟨q0, q1, q2⟩
  have a3 : lg_cmp (armF g v w 3) 0 = 0 := lgc0.mpr (e0.trans q0)
  have a4 : lg_cmp (armF g v w 4) 0 = 0 := lgc0.mpr (e1.trans q1)
  have a5 : lg_cmp (armF g v w 5) 0 = 0 := lgc0.mpr (e2.trans q2)
  unfold s_X12_isNone at h
  rw [if_pos a3, if_pos a4, if_pos a5] at h
  exact absurd h (by decide)
/-- the three squares of arms that aren't flat -/
theorem self_eq {g sf v w : Nat → Int64} (hv : ∀ j, j < 3 → bd (v j) 100) (hw : ∀ j, j < 3 → bd (w j) 100) : (selfF sf (armF g v w) 2).toInt = ((v 0).toInt * (v 0).toInt + (v 1).toInt * (v 1).toInt + (v 2).toInt * (v 2).toInt) * (((v 1).toInt * (w 2).toInt - (v 2).toInt * (w 1).toInt) * ((v 1).toInt * (w 2).toInt - (v 2).toInt * (w 1).toInt) + ((v 2).toInt * (w 0).toInt - (v 0).toInt * (w 2).toInt) * ((v 2).toInt * (w 0).toInt - (v 0).toInt * (w 2).toInt) + ((v 0).toInt * (w 1).toInt - (v 1).toInt * (w 0).toInt) * ((v 0).toInt * (w 1).toInt - (v 1).toInt * (w 0).toInt)) ∧ 0 ≤ (selfF sf (armF g v w) 2).toInt ∧ (selfF sf (armF g v w) 2).toInt ≤ 48000000000000 := by
  obtain ⟨-, e0, e1, e2⟩ := arm_bd hv hw
  obtain ⟨⟨d0, d1, d2⟩, f0, f1, f2⟩ := arm_bd2 hv (cr_bd hv hw)
  obtain ⟨s1, s2⟩ := sq_sum d0 d1 d2 (by omega) (by omega)
  have es : selfF sf (armF g v w) 2 = 0 + c0 v (cr v w) * c0 v (cr v w) + c1 v (cr v w) * c1 v (cr v w) + c2 v (cr v w) * c2 v (cr v w) := rfl
  have k0 : (cr v w 0).toInt = _ := e0
  have k1 : (cr v w 1).toInt = _ := e1
  have k2 : (cr v w 2).toInt = _ := e2
  have p := lagr (v 0).toInt (v 1).toInt (v 2).toInt _ _ _ (perp (v 0).toInt (v 1).toInt (v 2).toInt (w 0).toInt (w 1).toInt (w 2).toInt)
  have n0 := sq0 (c0 v (cr v w)).toInt
  have n1 := sq0 (c1 v (cr v w)).toInt
  have n2 := sq0 (c2 v (cr v w)).toInt
  rw [es, s1]
  refine ⟨?_, by omega, by omega⟩
  rw [f0, f1, f2, k0, k1, k2]
  exact p
theorem self_nz {g sf v w : Nat → Int64} (hv : ∀ j, j < 3 → bd (v j) 100) (hw : ∀ j, j < 3 → bd (w j) 100) (h : s_X12_isNone (armF g v w) = 0) : ¬ 2 * selfF sf (armF g v w) 2 = 0 := by
  obtain ⟨e, l1, l2⟩ := self_eq (g := g) (sf := sf) hv hw
  have p := lagr_pos (none_no hv hw h)
  rw [← e] at p
  intro q
  have z0 : bd (2 : Int64) 2 := ⟨by decide, by decide⟩
  obtain ⟨e2, -⟩ := bd_mul z0 (show bd (selfF sf (armF g v w) 2) 48000000000000 from ⟨by omega, l2⟩) (by omega)
  rw [q] at e2
  have t2 : (2 : Int64).toInt = 2 := rfl
  have t0 : (0 : Int64).toInt = 0 := rfl
  rw [t2, t0] at e2
  omega
theorem ofL_bd {di : Nat → Int32} (hd : dOk di) {k i : Int32} (h : dIn k i) : ∀ j, j < 3 → bd (ofL di k i j) 100 := by
  intro j hj
  rcases (show j = 0 ∨ j = 1 ∨ j = 2 by omega) with rfl | rfl | rfl
  · exact of_bd hd h w0
  · exact of_bd hd h w1
  · exact of_bd hd h w2
