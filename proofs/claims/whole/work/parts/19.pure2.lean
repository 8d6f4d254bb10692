/-- what the pairs that are taken are, at any turn -/
def tOk (T : mTS) (k : Nat) : Prop := T.2.2.2 = nI k ∧ (∀ p, p < 8 → (T.1 p = -1 ∧ T.2.1 p = -1) ∨ ∃ s r, s < 12 ∧ r < k ∧ T.1 p = nI s ∧ T.2.1 p = nI r) ∧ ∀ r, r < k → ∃ p, p < 8 ∧ T.2.1 p = nI r
theorem tOk_0 : tOk (kI (-1), kI (-1), kI 0, 0) 0 := ⟨rfl, fun p hp => Or.inl ⟨rfl, rfl⟩, fun r hr => by omega⟩
theorem tOk_s {vo : Nat → Int32} {le : Int32} {T : mTS} {k : Nat} (hk : k < 9) (h : tOk T k) : ∃ k', k' ≤ k + 1 ∧ tOk (mTk vo le T) k' := by
  by_cases h1 : mTb vo le T = -1
  · rw [mTk_id h1]
    exact ⟨k, by omega, h⟩
  · rcases mB_in T.1 T.2.2.1 vo le 96 with q | ⟨b, h2, h3, h4, -⟩
    · exact absurd q h1
    · have hb : mTb vo le T = nI b := h3
      have e : mTk vo le T = (upd T.1 (b / 12) (nI (b % 12)), upd T.2.1 (b / 12) T.2.2.2, upd T.2.2.1 (b % 12) (1 &&& 1), T.2.2.2 + 1) := by
        have e0 : mTk vo le T = _ := if_neg h1
        rw [e0, hb, dv12_cl h2, rm12 h2, nI_clamp (by omega)]
      obtain ⟨ha, hc, hd⟩ := h
      refine ⟨k + 1, Nat.le_refl _, ?_⟩
      rw [e]
      refine ⟨?_, ?_, ?_⟩
      · show T.2.2.2 + 1 = nI (k + 1)
        rw [ha]; exact nI_1 k
      · intro p hp
        show (upd T.1 (b / 12) (nI (b % 12)) p = -1 ∧ upd T.2.1 (b / 12) T.2.2.2 p = -1) ∨ ∃ s r, s < 12 ∧ r < k + 1 ∧ upd T.1 (b / 12) (nI (b % 12)) p = nI s ∧ upd T.2.1 (b / 12) T.2.2.2 p = nI r
        by_cases hp2 : p = b / 12
        · subst hp2
          rw [pk_us, pk_us]
          exact Or.inr ⟨b % 12, k, by omega, by omega, rfl, ha⟩
        · rw [pk_un hp2, pk_un hp2]
          rcases hc p hp with q | ⟨s, r, q1, q2, q3, q4⟩
          · exact Or.inl q
          · exact Or.inr ⟨s, r, q1, by omega, q3, q4⟩
      · intro r hr
        show ∃ p, p < 8 ∧ upd T.2.1 (b / 12) T.2.2.2 p = nI r
        by_cases hr2 : r = k
        · subst hr2
          exact ⟨b / 12, by omega, by rw [pk_us]; exact ha⟩
        · obtain ⟨p, hp, hp1⟩ := hd r (by omega)
          refine ⟨p, hp, ?_⟩
          rw [pk_un]
          · exact hp1
          · intro q
            subst q
            rcases hc (b / 12) hp with q | ⟨s, r', q1, q2, q3, q4⟩
            · rw [q.2] at hp1
              exact nI_m1 (by omega) hp1.symm
            · rw [h4] at q3
              exact nI_m1 (by omega) q3.symm
theorem tOk_n {vo : Nat → Int32} {le : Int32} {T : mTS} (h : tOk T 0) : ∀ n, n ≤ 9 → ∃ k, k ≤ n ∧ tOk (mTn vo le T n) k
  | 0, _ => ⟨0, Nat.le_refl _, h⟩
  | n + 1, hn => by
    obtain ⟨k, h1, h2⟩ := tOk_n h n (by omega)
    obtain ⟨k', h3, h4⟩ := tOk_s (vo := vo) (le := le) (by omega) h2
    exact ⟨k', by omega, h4⟩
theorem mTake_ok (vo : Nat → Int32) (le : Int32) : ∃ k, k ≤ 9 ∧ tOk (mTake vo le) k := tOk_n tOk_0 9 (Nat.le_refl _)
theorem mSp_some {ro : Nat → Int32} {x : Int32} : ∀ n, (∃ p, p < n ∧ ro p = x) → ∃ p, p < n ∧ mSp ro x n = nI p ∧ ro p = x
  | 0, h => by obtain ⟨p, hp, _⟩ := h; omega
  | n + 1, h => by
    by_cases e : ro n = x
    · exact ⟨n, by omega, if_pos e, e⟩
    · obtain ⟨p, hp, hp1⟩ := h
      have hne : p ≠ n := fun q => e (q ▸ hp1)
      obtain ⟨p2, h1, h2, h3⟩ := mSp_some n ⟨p, by omega, hp1⟩
      exact ⟨p2, by omega, (if_neg e).trans h2, h3⟩
theorem tOk_sp {T : mTS} {k r : Nat} (h : tOk T k) (hk : k ≤ 9) (hr : r < k) : ∃ p s, p < 8 ∧ s < 12 ∧ mSp T.2.1 (nI r) 8 = nI p ∧ T.1 p = nI s := by
  obtain ⟨p, h1, h2, h3⟩ := mSp_some 8 (h.2.2 r hr)
  rcases h.2.1 p h1 with q | ⟨s, r', q1, q2, q3, q4⟩
  · rw [q.2] at h3
    exact absurd h3.symm (nI_m1 (by omega))
  · exact ⟨p, s, h1, q1, h2, q3⟩
theorem mTake_hT (vo : Nat → Int32) (le : Int32) : ¬ (mTake vo le).2.2.2 ≤ 1 → dIn (1 : Int32) (mSp (mTake vo le).2.1 (0 : Int32) 8) ∧ dIn (1 : Int32) (mSp (mTake vo le).2.1 (1 : Int32) 8) ∧ dIn (0 : Int32) ((mTake vo le).1 (mSp (mTake vo le).2.1 (0 : Int32) 8).toNatClampNeg) ∧ dIn (0 : Int32) ((mTake vo le).1 (mSp (mTake vo le).2.1 (1 : Int32) 8).toNatClampNeg) := by
  obtain ⟨k, hk, h⟩ := mTake_ok vo le
  generalize mTake vo le = T at h ⊢
  intro hp
  rw [h.1, i32_le, nI_toInt (by omega)] at hp
  have e1 : (1 : Int32).toInt = 1 := rfl
  obtain ⟨p, s, a1, a2, a3, a4⟩ := tOk_sp h hk (show 0 < k by omega)
  obtain ⟨q, t, b1, b2, b3, b4⟩ := tOk_sp h hk (show 1 < k by omega)
  have a3 : mSp T.2.1 (0 : Int32) 8 = nI p := a3
  have b3 : mSp T.2.1 (1 : Int32) 8 = nI q := b3
  rw [a3, b3, nI_clamp (by omega), nI_clamp (by omega), a4, b4]
  exact ⟨dIn_1 a1, dIn_1 b1, dIn_0 a2, dIn_0 b2⟩
/-! longs without overflow -/
theorem i64_bm {z : Int} (h1 : -9223372036854775808 ≤ z) (h2 : z < 9223372036854775808) : z.bmod (2 ^ 64) = z := by
  rw [Int.bmod_eq_of_le] <;> omega
theorem i64_add {x y : Int64} (h1 : -9223372036854775808 ≤ x.toInt + y.toInt) (h2 : x.toInt + y.toInt < 9223372036854775808) : (x + y).toInt = x.toInt + y.toInt := by
  rw [Int64.toInt_add]; exact i64_bm h1 h2
theorem i64_sub {x y : Int64} (h1 : -9223372036854775808 ≤ x.toInt - y.toInt) (h2 : x.toInt - y.toInt < 9223372036854775808) : (x - y).toInt = x.toInt - y.toInt := by
  rw [Int64.toInt_sub]; exact i64_bm h1 h2
theorem i64_mul {x y : Int64} (h1 : -9223372036854775808 ≤ x.toInt * y.toInt) (h2 : x.toInt * y.toInt < 9223372036854775808) : (x * y).toInt = x.toInt * y.toInt := by
  rw [Int64.toInt_mul]; exact i64_bm h1 h2
/-- |x| ≤ b -/
def bd (x : Int64) (b : Int) : Prop := -b ≤ x.toInt ∧ x.toInt ≤ b
theorem int_mulb {x y a b : Int} (hx : -a ≤ x ∧ x ≤ a) (hy : -b ≤ y ∧ y ≤ b) : -(a * b) ≤ x * y ∧ x * y ≤ a * b := by
  have ha : 0 ≤ a := by omega
  have hb : 0 ≤ b := by omega
  rcases Int.le_total 0 x with h1 | h1 <;> rcases Int.le_total 0 y with h2 | h2
  · have := Int.mul_le_mul hx.2 hy.2 h2 ha
    have := Int.mul_nonneg h1 h2
    omega
  · have q := Int.mul_le_mul hx.2 (show -y ≤ b by omega) (by omega) ha
    have r := Int.mul_nonneg h1 (show 0 ≤ -y by omega)
    rw [Int.mul_neg] at q r
    omega
  · have q := Int.mul_le_mul (show -x ≤ a by omega) hy.2 h2 ha
    have r := Int.mul_nonneg (show 0 ≤ -x by omega) h2
    rw [Int.neg_mul] at q r
    omega
  · have q := Int.mul_le_mul (show -x ≤ a by omega) (show -y ≤ b by omega) (by omega) ha
    have r := Int.mul_nonneg (show 0 ≤ -x by omega) (show 0 ≤ -y by omega)
    rw [Int.neg_mul_neg] at q r
    omega
theorem bd_mul {x y : Int64} {a b : Int} (hx : bd x a) (hy : bd y b) (hab : a * b ≤ 4000000000000000000) : (x * y).toInt = x.toInt * y.toInt ∧ bd (x * y) (a * b) := by
  have h := int_mulb hx hy
  have e : (x * y).toInt = x.toInt * y.toInt := i64_mul (by omega) (by omega)
  exact ⟨e, by unfold bd; omega⟩
theorem bd_sub {x y : Int64} {a b : Int} (hx : bd x a) (hy : bd y b) (hab : a + b ≤ 4000000000000000000) : (x - y).toInt = x.toInt - y.toInt ∧ bd (x - y) (a + b) := by
  unfold bd at hx hy
  have e : (x - y).toInt = x.toInt - y.toInt := i64_sub (by omega) (by omega)
  exact ⟨e, by unfold bd; omega⟩
theorem bd_add {x y : Int64} {a b : Int} (hx : bd x a) (hy : bd y b) (hab : a + b ≤ 4000000000000000000) : (x + y).toInt = x.toInt + y.toInt ∧ bd (x + y) (a + b) := by
  unfold bd at hx hy
  have e : (x + y).toInt = x.toInt + y.toInt := i64_add (by omega) (by omega)
  exact ⟨e, by unfold bd; omega⟩
theorem bd_det {a b c d : Int64} {m n : Int} (ha : bd a m) (hb : bd b n) (hc : bd c m) (hd : bd d n) (h : m * n + m * n ≤ 4000000000000000000) (h0 : 0 ≤ m * n) : (a * b - c * d).toInt = a.toInt * b.toInt - c.toInt * d.toInt ∧ bd (a * b - c * d) (m * n + m * n) := by
  obtain ⟨e1, b1⟩ := bd_mul ha hb (by omega)
  obtain ⟨e2, b2⟩ := bd_mul hc hd (by omega)
  obtain ⟨e3, b3⟩ := bd_sub b1 b2 h
  exact ⟨by rw [e3, e1, e2], b3⟩
/-- all directions' numbers are small -/
def dOk (di : Nat → Int32) : Prop := ∀ j, j < 60 → -100 ≤ (di j).toInt ∧ (di j).toInt ≤ 100
theorem of_bd {di : Nat → Int32} (hd : dOk di) {k i w : Int32} (h : dIn k i) (hw : 0 ≤ w.toInt ∧ w.toInt ≤ 2) : bd (s_X12_of k i w di).toInt64 100 := by
  obtain ⟨e, h2⟩ := dIn_ix h hw
  unfold s_X12_of bd
  rw [i32_w]
  have h3 : 0 ≤ (36 * k + 3 * i + w).toInt := by obtain ⟨⟨h1, _⟩, h3, _⟩ := h; omega
  have h4 := cl_toInt h3
  have := hd (36 * k + 3 * i + w).toNatClampNeg (by omega)
  omega
