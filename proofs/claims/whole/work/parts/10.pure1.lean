/-! numbers: the tests of the small static methods, in whole numbers -/
theorem i32_le (a b : Int32) : a ≤ b ↔ a.toInt ≤ b.toInt := Int32.le_iff_toInt_le
theorem i32_lt (a b : Int32) : a < b ↔ a.toInt < b.toInt := Int32.lt_iff_toInt_lt
theorem i32_eq (a b : Int32) : a = b ↔ a.toInt = b.toInt := Int32.toInt_inj.symm
theorem i64_le (a b : Int64) : a ≤ b ↔ a.toInt ≤ b.toInt := Int64.le_iff_toInt_le
theorem i64_lt (a b : Int64) : a < b ↔ a.toInt < b.toInt := Int64.lt_iff_toInt_lt
theorem i64_eq (a b : Int64) : a = b ↔ a.toInt = b.toInt := Int64.toInt_inj.symm
theorem i32_rng (x : Int32) : -2147483648 ≤ x.toInt ∧ x.toInt < 2147483648 := ⟨Int32.le_toInt x, Int32.toInt_lt x⟩
theorem i32_w (x : Int32) : x.toInt64.toInt = x.toInt := Int32.toInt_toInt64 x
theorem i32_bm {z : Int} (h1 : -2147483648 ≤ z) (h2 : z < 2147483648) : z.bmod (2 ^ 32) = z := by
  rw [Int.bmod_eq_of_le] <;> omega
theorem i32_add {x y : Int32} (h1 : -2147483648 ≤ x.toInt + y.toInt) (h2 : x.toInt + y.toInt < 2147483648) : (x + y).toInt = x.toInt + y.toInt := by
  rw [Int32.toInt_add]; exact i32_bm h1 h2
theorem i32_sub {x y : Int32} (h1 : -2147483648 ≤ x.toInt - y.toInt) (h2 : x.toInt - y.toInt < 2147483648) : (x - y).toInt = x.toInt - y.toInt := by
  rw [Int32.toInt_sub]; exact i32_bm h1 h2
theorem i32_mul {x y : Int32} (h1 : -2147483648 ≤ x.toInt * y.toInt) (h2 : x.toInt * y.toInt < 2147483648) : (x * y).toInt = x.toInt * y.toInt := by
  rw [Int32.toInt_mul]; exact i32_bm h1 h2
theorem in_no {v lo hi : Int32} : s_X11_isWithin v lo hi = 0 ↔ ¬ (lo.toInt ≤ v.toInt ∧ v.toInt ≤ hi.toInt) := by
  unfold s_X11_isWithin
  repeat' split
  all_goals simp_all only [i32_le, i32_lt, i32_eq]
  all_goals simp
  all_goals omega
theorem in_yes {v lo hi : Int32} : ¬ s_X11_isWithin v lo hi = 0 ↔ (lo.toInt ≤ v.toInt ∧ v.toInt ≤ hi.toInt) := by
  rw [in_no]; exact Decidable.not_not
theorem min_no {v lo hi : Int64} : s_X12_in v lo hi = 0 ↔ ¬ (lo.toInt ≤ v.toInt ∧ v.toInt ≤ hi.toInt) := by
  unfold s_X12_in lg_cmp
  repeat' split
  all_goals simp_all only [i64_le, i64_lt, i64_eq]
  all_goals simp at *
  all_goals omega
theorem min_yes {v lo hi : Int64} : ¬ s_X12_in v lo hi = 0 ↔ (lo.toInt ≤ v.toInt ∧ v.toInt ≤ hi.toInt) := by
  rw [min_no]; exact Decidable.not_not
theorem vin {x : Int32} {n : Nat} (h1 : 0 ≤ x.toInt) (h2 : x.toInt < n) : vp_in x n := vp_in_iff.mpr ⟨h1, h2⟩
theorem cl_toInt {x : Int32} (h : 0 ≤ x.toInt) : (x.toNatClampNeg : Int) = x.toInt := by
  unfold Int32.toNatClampNeg; omega
abbrev mF (ad : Nat → Nat) (la dr go lo ma pa tu su : Int32) : List Value := [.ref (ad 88), .ref (ad 89), .ref (ad 90), .ref (ad 91), .int la, .ref (ad 92), .ref (ad 93), .ref (ad 94), .int dr, .int go, .int lo, .int ma, .ref (ad 95), .ref (ad 96), .ref (ad 97), .ref (ad 98), .int pa, .int tu, .ref (ad 99), .ref (ad 100), .ref (ad 101), .ref (ad 102), .ref (ad 103), .ref (ad 104), .int su, .ref (ad 105), .ref (ad 106), .ref (ad 107)]
