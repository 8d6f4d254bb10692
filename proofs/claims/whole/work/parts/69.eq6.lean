/-! places of the class are the model's -/
theorem coord_eq {gS gP : Nat → Int32} {n0 : Nat} {sta spa v w v' w' : Nat → Int64} (hn : n0 ≤ 12) (hv : ∀ j, j < 3 → bd (v j) 100) (hw : ∀ j, j < 3 → bd (w j) 100) (h : s_X12_isNone (armF kL v w) = 0) {i k : Nat} (hi : i < n0) (hk : k < 3) : cPv (armC sta v w) (armC spa v' w') (cOf gS n0 (nI i) 0) (cOf gS n0 (nI i) 1) (cOf gS n0 (nI i) 2) k = s_X12_coordinate i k (dj gS gP) (armF kL v w) (armF kL v' w') (selfF kL (armF kL v w)) := by
  have a : cOf gS n0 (nI i) 0 = s_X12_of (0 : Int32) (nI i) (0 : Int32) (dj gS gP) := partS (w := 0) hi hn (by omega)
  have b : cOf gS n0 (nI i) 1 = s_X12_of (0 : Int32) (nI i) (1 : Int32) (dj gS gP) := partS (w := 1) hi hn (by omega)
  have c : cOf gS n0 (nI i) 2 = s_X12_of (0 : Int32) (nI i) (2 : Int32) (dj gS gP) := partS (w := 2) hi hn (by omega)
  rw [a, b, c]
  exact cPv_eq (cSum_eq (fun j hj => arm_CF sta kL v w hj) (fun j hj => arm_CF spa kL v' w' hj) (sq_self sta kL kL v w (by omega)) (sq_self sta kL kL v w (by omega)) _ _ _ hk) (all_eq hv hw) (self_pos hv hw h)
theorem t_bd {x y z a b c : Int64} {m : Int} (hx : bd x 100) (hy : bd y 100) (hz : bd z 100) (ha : bd a m) (hb : bd b m) (hc : bd c m) (h0 : 0 ≤ m) (hm : m ≤ 10000000) : (((0 + x * a) + y * b) + z * c).toInt = x.toInt * a.toInt + y.toInt * b.toInt + z.toInt * c.toInt ∧ bd (((0 + x * a) + y * b) + z * c) (300 * m) := by
  obtain ⟨e1, b1⟩ := bd_mul hx ha (by omega)
  obtain ⟨e2, b2⟩ := bd_mul hy hb (by omega)
  obtain ⟨e3, b3⟩ := bd_mul hz hc (by omega)
  obtain ⟨e4, b4⟩ := bd_add b1 b2 (by omega)
  obtain ⟨e5, b5⟩ := bd_add b4 b3 (by omega)
  rw [Int64.zero_add]
  refine ⟨by rw [e5, e4, e3, e2, e1], ?_⟩
  unfold bd at b5 ⊢
  omega
theorem sf_bd {v w : Nat → Int64} (hv : ∀ j, j < 3 → bd (v j) 100) (hw : ∀ j, j < 3 → bd (w j) 100) : ((selfF kL (armF kL v w) 0).toInt = (v 0).toInt * (v 0).toInt + (v 1).toInt * (v 1).toInt + (v 2).toInt * (v 2).toInt ∧ (selfF kL (armF kL v w) 1).toInt = (c0 v w).toInt * (c0 v w).toInt + (c1 v w).toInt * (c1 v w).toInt + (c2 v w).toInt * (c2 v w).toInt ∧ (selfF kL (armF kL v w) 2).toInt = (c0 v (cr v w)).toInt * (c0 v (cr v w)).toInt + (c1 v (cr v w)).toInt * (c1 v (cr v w)).toInt + (c2 v (cr v w)).toInt * (c2 v (cr v w)).toInt) ∧ (0 ≤ (selfF kL (armF kL v w) 0).toInt ∧ (selfF kL (armF kL v w) 0).toInt ≤ 30000) ∧ (0 ≤ (selfF kL (armF kL v w) 1).toInt ∧ (selfF kL (armF kL v w) 1).toInt ≤ 1200000000) ∧ (selfF kL (armF kL v w) 2).toInt = (selfF kL (armF kL v w) 0).toInt * (selfF kL (armF kL v w) 1).toInt := by
  obtain ⟨⟨d0, d1, d2⟩, e0, e1, e2⟩ := arm_bd hv hw
  obtain ⟨⟨g0, g1, g2⟩, -⟩ := arm_bd2 hv (cr_bd hv hw)
  obtain ⟨s0, l0⟩ := sq_sum (hv 0 (by omega)) (hv 1 (by omega)) (hv 2 (by omega)) (by omega) (by omega)
  obtain ⟨s1, l1⟩ := sq_sum d0 d1 d2 (by omega) (by omega)
  obtain ⟨s2, -⟩ := sq_sum g0 g1 g2 (by omega) (by omega)
  obtain ⟨se, -⟩ := self_eq (g := kL) (sf := kL) hv hw
  have t0 : selfF kL (armF kL v w) 0 = 0 + v 0 * v 0 + v 1 * v 1 + v 2 * v 2 := rfl
  have t1 : selfF kL (armF kL v w) 1 = 0 + c0 v w * c0 v w + c1 v w * c1 v w + c2 v w * c2 v w := rfl
  have t2 : selfF kL (armF kL v w) 2 = 0 + c0 v (cr v w) * c0 v (cr v w) + c1 v (cr v w) * c1 v (cr v w) + c2 v (cr v w) * c2 v (cr v w) := rfl
  have z0 := sq0 (v 0).toInt
  have z1 := sq0 (v 1).toInt
  have z2 := sq0 (v 2).toInt
  have y0 := sq0 (c0 v w).toInt
  have y1 := sq0 (c1 v w).toInt
  have y2 := sq0 (c2 v w).toInt
  refine ⟨⟨by rw [t0, s0], by rw [t1, s1], by rw [t2, s2]⟩, by rw [t0, s0]; omega, by rw [t1, s1]; omega, ?_⟩
  rw [se, t0, s0, t1, s1, e0, e1, e2]
theorem arm_0 (g v w : Nat → Int64) {k : Nat} (h : k < 3) : armF g v w (0 + k) = v k := by
  unfold armF; rw [if_pos (by omega), Nat.zero_add]
theorem arm_3 (g v w : Nat → Int64) {k : Nat} (h : k < 3) : armF g v w (3 + k) = cr v w k := by
  unfold armF; rw [if_neg (by omega), if_pos (by omega), Nat.add_sub_cancel_left]
theorem arm_6 (g v w : Nat → Int64) {k : Nat} (h : k < 3) : armF g v w (6 + k) = cr v (cr v w) k := by
  unfold armF; rw [if_neg (by omega), if_neg (by omega), if_pos (by omega), Nat.add_sub_cancel_left]
theorem cr_bd2 {v w : Nat → Int64} (hv : ∀ j, j < 3 → bd (v j) 100) (hw : ∀ j, j < 3 → bd (w j) 100) : ∀ j, j < 3 → bd (cr v (cr v w) j) 4000000 := by
  obtain ⟨⟨h0, h1, h2⟩, -⟩ := arm_bd2 hv (cr_bd hv hw)
  intro j hj
  rcases (show j = 0 ∨ j = 1 ∨ j = 2 by omega) with rfl | rfl | rfl
  · exact h0
  · exact h1
  · exact h2
theorem coord_bd {di : Nat → Int32} (hd : dOk di) {v w v' w' : Nat → Int64} (hv : ∀ j, j < 3 → bd (v j) 100) (hw : ∀ j, j < 3 → bd (w j) 100) (hv' : ∀ j, j < 3 → bd (v' j) 100) (hw' : ∀ j, j < 3 → bd (w' j) 100) (h : s_X12_isNone (armF kL v w) = 0) {i k : Nat} (hi : i < 12) (hk : k < 3) : -402010003 ≤ (s_X12_coordinate i k di (armF kL v w) (armF kL v' w') (selfF kL (armF kL v w))).toInt ∧ (s_X12_coordinate i k di (armF kL v w) (armF kL v' w') (selfF kL (armF kL v w))).toInt ≤ 402010003 := by
  obtain ⟨⟨u0, u1, u2⟩, q0, q1, qA⟩ := sf_bd hv hw
  have pos := self_pos hv hw h
  have hx := of_bd hd (dIn_0p hi) w0
  have hy := of_bd hd (dIn_0p hi) w1
  have hz := of_bd hd (dIn_0p hi) w2
  obtain ⟨⟨d0, d1, d2⟩, -⟩ := arm_bd hv hw
  obtain ⟨⟨g0, g1, g2⟩, -⟩ := arm_bd2 hv (cr_bd hv hw)
  unfold s_X12_coordinate
  rw [arm_0 kL v' w' hk, arm_3 kL v' w' hk, arm_6 kL v' w' hk]
  have b0 := hv' k hk
  have b1 := cr_bd hv' hw' k hk
  have b2 := cr_bd2 hv' hw' k hk
  generalize (s_X12_of (0 : Int32) (nI i) (0 : Int32) di).toInt64 = x at hx ⊢
  generalize (s_X12_of (0 : Int32) (nI i) (1 : Int32) di).toInt64 = y at hy ⊢
  generalize (s_X12_of (0 : Int32) (nI i) (2 : Int32) di).toInt64 = z at hz ⊢
  generalize v' k = B0 at b0 ⊢
  generalize cr v' w' k = B1 at b1 ⊢
  generalize cr v' (cr v' w') k = B2 at b2 ⊢
  obtain ⟨f0, r0⟩ := t_bd hx hy hz (hv 0 (by omega)) (hv 1 (by omega)) (hv 2 (by omega)) (by omega) (by omega)
  obtain ⟨f1, r1⟩ := t_bd hx hy hz d0 d1 d2 (by omega) (by omega)
  obtain ⟨f2, r2⟩ := t_bd hx hy hz g0 g1 g2 (by omega) (by omega)
  have k0 := tb3 (a := (v 0).toInt) (b := (v 1).toInt) (c := (v 2).toInt) hx hy hz
  have k1 := tb3 (a := (c0 v w).toInt) (b := (c1 v w).toInt) (c := (c2 v w).toInt) hx hy hz
  have k2 := tb3 (a := (c0 v (cr v w)).toInt) (b := (c1 v (cr v w)).toInt) (c := (c2 v (cr v w)).toInt) hx hy hz
  rw [← u0, ← f0] at k0
  rw [← u1, ← f1] at k1
  rw [← u2, ← f2] at k2
  have n0 : armF kL v w 0 = v 0 := rfl
  have n1 : armF kL v w 1 = v 1 := rfl
  have n2 : armF kL v w 2 = v 2 := rfl
  have n3 : armF kL v w 3 = c0 v w := rfl
  have n4 : armF kL v w 4 = c1 v w := rfl
  have n5 : armF kL v w 5 = c2 v w := rfl
  have n6 : armF kL v w 6 = c0 v (cr v w) := rfl
  have n7 : armF kL v w 7 = c1 v (cr v w) := rfl
  have n8 : armF kL v w 8 = c2 v (cr v w) := rfl
  rw [n0, n1, n2, n3, n4, n5, n6, n7, n8]
  clear n0 n1 n2 n3 n4 n5 n6 n7 n8
  generalize (((0 + x * v 0) + y * v 1) + z * v 2) = T0 at k0 r0 ⊢
  generalize (((0 + x * c0 v w) + y * c1 v w) + z * c2 v w) = T1 at k1 r1 ⊢
  generalize (((0 + x * c0 v (cr v w)) + y * c1 v (cr v w)) + z * c2 v (cr v w)) = T2 at k2 r2 ⊢
  generalize selfF kL (armF kL v w) 0 = Q0 at q0 qA k0 ⊢
  generalize selfF kL (armF kL v w) 1 = Q1 at q1 qA k1 ⊢
  generalize selfF kL (armF kL v w) 2 = A at pos qA k2 ⊢
  obtain ⟨m1, o1⟩ := bd_mul r0 b0 (by omega)
  obtain ⟨m2, o2⟩ := bd_mul o1 (show bd Q1 1200000000 from ⟨by omega, q1.2⟩) (by omega)
  obtain ⟨m3, o3⟩ := bd_mul r1 b1 (by omega)
  obtain ⟨m4, o4⟩ := bd_mul o3 (show bd Q0 30000 from ⟨by omega, q0.2⟩) (by omega)
  obtain ⟨m5, o5⟩ := bd_mul r2 b2 (by omega)
  obtain ⟨m6, o6⟩ := bd_add o2 o4 (by omega)
  obtain ⟨m7, o7⟩ := bd_add o6 o5 (by omega)
  rw [Int64.zero_add, Int64.mul_one]
  have S := S_bd (t0 := T0.toInt) (t1 := T1.toInt) (t2 := T2.toInt) (b0 := B0.toInt) (b1 := B1.toInt) (b2 := B2.toInt) q0.1 q1.1 qA k0 k1 k2 b0 b1 b2
  have eS : (T0 * B0 * Q1 + T1 * B1 * Q0 + T2 * B2).toInt = T0.toInt * B0.toInt * Q1.toInt + T1.toInt * B1.toInt * Q0.toInt + T2.toInt * B2.toInt := by rw [m7, m6, m5, m4, m3, m2, m1]
  rw [← eS] at S
  have nb := nearest_bd pos (by unfold bd at o7 ⊢; omega) S
  rw [Int64.toInt_toInt32, Int.bmod_eq_of_le (by omega) (by omega)]
  exact nb
/-! how far -/
theorem far1 {p x : Int32} (hp : -402010003 ≤ p.toInt ∧ p.toInt ≤ 402010003) (hx : -100 ≤ x.toInt ∧ x.toInt ≤ 100) : (if 0 < (p.toInt64 - x.toInt64) then (p.toInt64 - x.toInt64) else -(p.toInt64 - x.toInt64)).toInt = (s_X12_apart x p).toInt ∧ 0 ≤ (s_X12_apart x p).toInt ∧ (s_X12_apart x p).toInt ≤ 402010103 := by
  have e : (p.toInt64 - x.toInt64).toInt = p.toInt - x.toInt := by
    rw [i64_sub (by rw [i32_w, i32_w]; omega) (by rw [i32_w, i32_w]; omega), i32_w, i32_w]
  have e2 : (-(p.toInt64 - x.toInt64)).toInt = x.toInt - p.toInt := by
    rw [Int64.toInt_neg, e, i64_bm (by omega) (by omega)]; omega
  have s1 : (x - p).toInt = x.toInt - p.toInt := i32_sub (by omega) (by omega)
  have s2 : (p - x).toInt = p.toInt - x.toInt := i32_sub (by omega) (by omega)
  have z : (0 : Int64).toInt = 0 := rfl
  unfold s_X12_apart
  by_cases c1 : 0 < p.toInt64 - x.toInt64
  · rw [if_pos c1, e]
    rw [i64_lt, e, z] at c1
    rw [if_neg (by rw [i32_le]; omega), s2]
    omega
  · rw [if_neg c1, e2]
    rw [i64_lt, e, z] at c1
    rw [if_pos (by rw [i32_le]; omega), s1]
    omega
theorem sum3 {a b c : Int32} (ha : 0 ≤ a.toInt ∧ a.toInt ≤ 402010103) (hb : 0 ≤ b.toInt ∧ b.toInt ≤ 402010103) (hc : 0 ≤ c.toInt ∧ c.toInt ≤ 402010103) : (((0 + a) + b) + c).toInt = a.toInt + b.toInt + c.toInt := by
  have e : (a + b).toInt = a.toInt + b.toInt := i32_add (by omega) (by omega)
  rw [Int32.zero_add, i32_add (by rw [e]; omega) (by rw [e]; omega), e]
theorem far_eq {gS gP plC pl : Nat → Int32} {n1 : Nat} (hd : dOk (dj gS gP)) (hn1 : n1 ≤ 8) {p i : Nat} (hp : p < n1) (hc : ∀ c, c < 3 → plC (3 * i + c) = pl (3 * i + c)) (hb : ∀ c, c < 3 → -402010003 ≤ (pl (3 * i + c)).toInt ∧ (pl (3 * i + c)).toInt ≤ 402010003) : cFar plC i (cOf gP n1 (nI p) 0) (cOf gP n1 (nI p) 1) (cOf gP n1 (nI p) 2) = (s_X12_farOf p i (dj gS gP) pl).toInt64 := by
  have a : cOf gP n1 (nI p) 0 = s_X12_of (1 : Int32) (nI p) (0 : Int32) (dj gS gP) := partP (w := 0) hp hn1 (by omega)
  have b : cOf gP n1 (nI p) 1 = s_X12_of (1 : Int32) (nI p) (1 : Int32) (dj gS gP) := partP (w := 1) hp hn1 (by omega)
  have c : cOf gP n1 (nI p) 2 = s_X12_of (1 : Int32) (nI p) (2 : Int32) (dj gS gP) := partP (w := 2) hp hn1 (by omega)
  have g : ∀ {w : Int32}, 0 ≤ w.toInt ∧ w.toInt ≤ 2 → -100 ≤ (s_X12_of (1 : Int32) (nI p) w (dj gS gP)).toInt ∧ (s_X12_of (1 : Int32) (nI p) w (dj gS gP)).toInt ≤ 100 := by
    intro w hw
    have := of_bd hd (dIn_1p (show p < 8 by omega)) hw
    unfold bd at this
    rwa [i32_w] at this
  have hc0 := hc 0 (by omega)
  rw [Nat.add_zero] at hc0
  have hb0 := hb 0 (by omega)
  rw [Nat.add_zero] at hb0
  obtain ⟨f0, l0⟩ := far1 hb0 (g w0)
  obtain ⟨f1, l1⟩ := far1 (hb 1 (by omega)) (g w1)
  obtain ⟨f2, l2⟩ := far1 (hb 2 (by omega)) (g w2)
  unfold cFar s_X12_farOf
  rw [a, b, c, hc0, hc 1 (by omega), hc 2 (by omega), i64_eq, i32_w]
  refine Eq.trans ?_ (sum3 l0 l1 l2).symm
  rw [i64_add (by rw [i64_add (by rw [f0, f1]; omega) (by rw [f0, f1]; omega), f0, f1, f2]; omega) (by rw [i64_add (by rw [f0, f1]; omega) (by rw [f0, f1]; omega), f0, f1, f2]; omega), i64_add (by rw [f0, f1]; omega) (by rw [f0, f1]; omega), f0, f1, f2]
theorem far_bd {gS gP pl : Nat → Int32} (hd : dOk (dj gS gP)) {p i : Nat} (hp : p < 8) (hb : ∀ c, c < 3 → -402010003 ≤ (pl (3 * i + c)).toInt ∧ (pl (3 * i + c)).toInt ≤ 402010003) : 0 ≤ (s_X12_farOf p i (dj gS gP) pl).toInt ∧ (s_X12_farOf p i (dj gS gP) pl).toInt ≤ 1206030309 := by
  have g : ∀ {w : Int32}, 0 ≤ w.toInt ∧ w.toInt ≤ 2 → -100 ≤ (s_X12_of (1 : Int32) (nI p) w (dj gS gP)).toInt ∧ (s_X12_of (1 : Int32) (nI p) w (dj gS gP)).toInt ≤ 100 := by
    intro w hw
    have := of_bd hd (dIn_1p hp) hw
    unfold bd at this
    rwa [i32_w] at this
  obtain ⟨-, l0⟩ := far1 (hb 0 (by omega)) (g w0)
  obtain ⟨-, l1⟩ := far1 (hb 1 (by omega)) (g w1)
  obtain ⟨-, l2⟩ := far1 (hb 2 (by omega)) (g w2)
  unfold s_X12_farOf
  rw [sum3 l0 l1 l2]
  omega
/-! who confirms -/
def cOkN (ne : Int32) (X : Int32 × Int64) (M : Int32 × Int32) : Prop := X.1 = M.1 ∧ (M.1 = -1 → X.2 = ne.toInt64 + 1) ∧ (¬ M.1 = -1 → X.2 = M.2.toInt64 ∧ M.2.toInt ≤ ne.toInt) ∧ (M.1 = -1 → M.2 = -1)
theorem near_eq {gS gP plC pl us' : Nat → Int32} {us ne : Int32} {n1 : Nat} (hd : dOk (dj gS gP)) (hn1 : n1 ≤ 8) (hne : 0 ≤ ne.toInt ∧ ne.toInt ≤ 300) {p : Nat} (hp : p < n1) (hu : ∀ i, i < 12 → (bt us i = false ↔ us' i = 0)) : ∀ i, i ≤ 12 → (∀ j, j < 3 * i → plC j = pl j) → (∀ j, j < 3 * i → -402010003 ≤ (pl j).toInt ∧ (pl j).toInt ≤ 402010003) → cOkN ne (cC1 plC us ne (cOf gP n1 (nI p) 0) (cOf gP n1 (nI p) 1) (cOf gP n1 (nI p) 2) i) (mC1 (dj gS gP) pl us' ne p i)
  | 0, _, _, _ => ⟨rfl, fun _ => rfl, fun h => absurd rfl h, fun _ => rfl⟩
  | i + 1, hi, hc, hb => by
    have ih := near_eq hd hn1 hne hp hu i (by omega) (fun j hj => hc j (by omega)) (fun j hj => hb j (by omega))
    have fe := far_eq (gS := gS) (gP := gP) (plC := plC) (pl := pl) (i := i) hd hn1 hp (fun c h => hc _ (by omega)) (fun c h => hb _ (by omega))
    have fb := far_bd (gS := gS) (gP := gP) (pl := pl) (p := p) (i := i) hd (by omega) (fun c h => hb _ (by omega))
    show cOkN ne (if (us >>> (nI i &&& 31)) &&& 1 = 0 then (if 0 ≤ lg_cmp (cFar plC i (cOf gP n1 (nI p) 0) (cOf gP n1 (nI p) 1) (cOf gP n1 (nI p) 2)) (cC1 plC us ne (cOf gP n1 (nI p) 0) (cOf gP n1 (nI p) 1) (cOf gP n1 (nI p) 2) i).2 then cC1 plC us ne (cOf gP n1 (nI p) 0) (cOf gP n1 (nI p) 1) (cOf gP n1 (nI p) 2) i else (nI i, cFar plC i (cOf gP n1 (nI p) 0) (cOf gP n1 (nI p) 1) (cOf gP n1 (nI p) 2))) else cC1 plC us ne (cOf gP n1 (nI p) 0) (cOf gP n1 (nI p) 1) (cOf gP n1 (nI p) 2) i) (if us' i = 0 then (if ne < s_X12_farOf p i (dj gS gP) pl then mC1 (dj gS gP) pl us' ne p i else (if (mC1 (dj gS gP) pl us' ne p i).1 = -1 then (nI i, s_X12_farOf p i (dj gS gP) pl) else (if (mC1 (dj gS gP) pl us' ne p i).2 ≤ s_X12_farOf p i (dj gS gP) pl then mC1 (dj gS gP) pl us' ne p i else (nI i, s_X12_farOf p i (dj gS gP) pl)))) else mC1 (dj gS gP) pl us' ne p i)
    rw [fe]
    generalize cC1 plC us ne (cOf gP n1 (nI p) 0) (cOf gP n1 (nI p) 1) (cOf gP n1 (nI p) 2) i = X at ih ⊢
    generalize mC1 (dj gS gP) pl us' ne p i = M at ih ⊢
    generalize s_X12_farOf p i (dj gS gP) pl = F at fb ⊢
    have ih' := ih
    obtain ⟨i1, i2, i3, i4⟩ := ih
    have n1' : (ne.toInt64 + 1).toInt = ne.toInt + 1 := by
      have o : (1 : Int64).toInt = 1 := rfl
      rw [i64_add (by rw [i32_w]; omega) (by rw [i32_w]; omega), i32_w, o]
    have new : F.toInt ≤ ne.toInt → cOkN ne (nI i, F.toInt64) (nI i, F) := fun h => ⟨rfl, fun q => absurd q (nI_m1 (by omega)), fun _ => ⟨rfl, h⟩, fun q => absurd q (nI_m1 (by omega))⟩
    by_cases hb' : us' i = 0
    · rw [if_pos hb', if_pos ((bt_test us (by omega)).mpr ((hu i (by omega)).mpr hb'))]
      by_cases c1 : M.1 = -1
      · have j2 := i2 c1
        by_cases c2 : ne < F
        · rw [if_pos c2, if_pos (by rw [lg_cmp_ge, j2, i64_le, n1', i32_w]; rw [i32_lt] at c2; omega)]
          exact ih'
        · rw [if_neg c2, if_pos c1, if_neg (by rw [lg_cmp_ge, j2, i64_le, n1', i32_w]; rw [i32_lt] at c2; omega)]
          exact new (by rw [i32_lt] at c2; omega)
      · obtain ⟨j3, j4⟩ := i3 c1
        by_cases c2 : ne < F
        · rw [if_pos c2, if_pos (by rw [lg_cmp_ge, j3, i64_le, i32_w, i32_w]; rw [i32_lt] at c2; omega)]
          exact ih'
        · rw [if_neg c2, if_neg c1]
          by_cases c3 : M.2 ≤ F
          · rw [if_pos c3, if_pos (by rw [lg_cmp_ge, j3, i64_le, i32_w, i32_w]; rw [i32_le] at c3; omega)]
            exact ih'
          · rw [if_neg c3, if_neg (by rw [lg_cmp_ge, j3, i64_le, i32_w, i32_w]; rw [i32_le] at c3; omega)]
            exact new (by rw [i32_lt] at c2; omega)
    · rw [if_neg hb', if_neg (fun q => hb' ((hu i (by omega)).mp ((bt_test us (by omega)).mp q)))]
      exact ih'
