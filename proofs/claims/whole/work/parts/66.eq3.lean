/-! bits of a number -/
def bt (x : Int32) (i : Nat) : Bool := x.toBitVec.getLsbD i
theorem sh_i : ∀ i, i < 12 → ((nI i &&& 31).toBitVec.smod 32).toNat = i := by decide +kernel
theorem one_bit : ∀ s, s < 12 → ∀ i, i < 12 → ((1 : Int32) <<< (nI s &&& 31)).toBitVec.getLsbD i = decide (i = s) := by decide +kernel
theorem and1 (x : BitVec 32) : x &&& 1#32 = 0#32 ↔ x.getLsbD 0 = false := by
  rw [BitVec.and_one_eq_setWidth_ofBool_getLsbD]
  cases x.getLsbD 0 <;> decide
theorem bt_test (x : Int32) {i : Nat} (hi : i < 12) : (x >>> (nI i &&& 31)) &&& 1 = 0 ↔ bt x i = false := by
  have e : ((x >>> (nI i &&& 31)) &&& 1).toBitVec = x.toBitVec.sshiftRight i &&& 1#32 := by
    rw [Int32.toBitVec_and, Int32.toBitVec_shiftRight]
    show x.toBitVec.sshiftRight ((nI i &&& 31).toBitVec.smod 32).toNat &&& 1#32 = _
    rw [sh_i i hi]
  have q : (x >>> (nI i &&& 31)) &&& 1 = 0 ↔ ((x >>> (nI i &&& 31)) &&& 1).toBitVec = 0#32 := Int32.toBitVec_inj.symm
  rw [q, e, and1, BitVec.getLsbD_sshiftRight]
  unfold bt
  rw [Nat.add_zero, if_pos (by omega)]
  simp
theorem bt_or (x : Int32) {s i : Nat} (hs : s < 12) (hi : i < 12) : bt (x ||| (1 <<< (nI s &&& 31))) i = (bt x i || decide (i = s)) := by
  unfold bt
  rw [Int32.toBitVec_or, BitVec.getLsbD_or, one_bit s hs i hi]
theorem bt_0 (i : Nat) : bt 0 i = false := by
  unfold bt
  show (0#32).getLsbD i = false
  simp
/-! the surest pair -/
def pOk (n0 n1 : Nat) (vo vo' : Nat → Int32) (le : Int32) : Prop := (n0 ≤ 12) ∧ (n1 ≤ 8) ∧ (∀ j, j < 96 → vo j = vo' j) ∧ (∀ p i, p < 8 → i < 12 → (n1 ≤ p ∨ n0 ≤ i) → vo' (12 * p + i) = 0) ∧ (1 ≤ le.toInt)
theorem pOk.h0 {n0 n1 : Nat} {vo vo' : Nat → Int32} {le : Int32} (h : pOk n0 n1 vo vo' le) : n0 ≤ 12 := h.1
theorem pOk.h1 {n0 n1 : Nat} {vo vo' : Nat → Int32} {le : Int32} (h : pOk n0 n1 vo vo' le) : n1 ≤ 8 := h.2.1
theorem pOk.hv {n0 n1 : Nat} {vo vo' : Nat → Int32} {le : Int32} (h : pOk n0 n1 vo vo' le) : ∀ j, j < 96 → vo j = vo' j := h.2.2.1
theorem pOk.hz {n0 n1 : Nat} {vo vo' : Nat → Int32} {le : Int32} (h : pOk n0 n1 vo vo' le) : ∀ p i, p < 8 → i < 12 → (n1 ≤ p ∨ n0 ≤ i) → vo' (12 * p + i) = 0 := h.2.2.2.1
theorem pOk.hl {n0 n1 : Nat} {vo vo' : Nat → Int32} {le : Int32} (h : pOk n0 n1 vo vo' le) : 1 ≤ le.toInt := h.2.2.2.2
theorem mB_s (so us vo : Nat → Int32) (le : Int32) {p i : Nat} (hi : i < 12) : mB so us vo le (12 * p + i + 1) = if so p = -1 then (if us i = 0 then (if vo (12 * p + i) < le then mB so us vo le (12 * p + i) else (if mB so us vo le (12 * p + i) = -1 then nI (12 * p + i) else (if vo (12 * p + i) ≤ vo (mB so us vo le (12 * p + i)).toNatClampNeg then mB so us vo le (12 * p + i) else nI (12 * p + i)))) else mB so us vo le (12 * p + i)) else mB so us vo le (12 * p + i) := by
  have a : (12 * p + i) / 12 = p := by omega
  have b : (12 * p + i) % 12 = i := by omega
  show (if so ((12 * p + i) / 12) = -1 then (if us ((12 * p + i) % 12) = 0 then _ else _) else _) = _
  rw [a, b]
theorem mB_skip {so us vo : Nat → Int32} {le : Int32} {p i : Nat} (hi : i < 12) (h : ¬ so p = -1 ∨ vo (12 * p + i) < le) : mB so us vo le (12 * p + i + 1) = mB so us vo le (12 * p + i) := by
  rw [mB_s so us vo le hi]
  rcases h with h | h
  · rw [if_neg h]
  · repeat' split
    all_goals first | rfl | exact absurd h ‹_›
theorem mB_skips {so us vo : Nat → Int32} {le : Int32} {p i : Nat} : ∀ m, i + m ≤ 12 → (∀ j, i ≤ j → j < i + m → ¬ so p = -1 ∨ vo (12 * p + j) < le) → mB so us vo le (12 * p + i + m) = mB so us vo le (12 * p + i)
  | 0, _, _ => rfl
  | m + 1, h1, h2 => by
    have := mB_skip (so := so) (us := us) (vo := vo) (le := le) (p := p) (i := i + m) (by omega) (h2 (i + m) (by omega) (by omega))
    rw [show 12 * p + i + (m + 1) = 12 * p + (i + m) + 1 by omega, this, show 12 * p + (i + m) = 12 * p + i + m by omega]
    exact mB_skips m (by omega) (fun j h3 h4 => h2 j h3 (by omega))
def bX (vo : Nat → Int32) (le : Int32) (X : Int32 × Int32) (m : Int32) : Prop := X.1 = m ∧ X.2 = if m = -1 then le - 1 else vo m.toNatClampNeg
theorem sure1 {n0 n1 : Nat} {vo vo' : Nat → Int32} {le us : Int32} {so us' : Nat → Int32} (h : pOk n0 n1 vo vo' le) (hu : ∀ i, i < 12 → (bt us i = false ↔ us' i = 0)) {p : Nat} (hp : p < 8) (hs : so p = -1) {X : Int32 × Int32} (hX : bX vo' le X (mB so us' vo' le (12 * p))) : ∀ i, i ≤ n0 → bX vo' le (cB1 us vo p X i) (mB so us' vo' le (12 * p + i))
  | 0, _ => hX
  | i + 1, hi => by
    have hn := h.h0
    have ih := sure1 h hu hp hs hX i (by omega)
    have e := mB_s so us' vo' le (p := p) (i := i) (by omega)
    rw [if_pos hs] at e
    have hm := mB_in so us' vo' le (12 * p + i)
    rw [show 12 * p + (i + 1) = 12 * p + i + 1 by omega, e]
    show bX vo' le (if (us >>> (nI i &&& 31)) &&& 1 = 0 then (if vo (12 * p + i) ≤ (cB1 us vo p X i).2 then cB1 us vo p X i else (nI (12 * p + i), vo (12 * p + i))) else cB1 us vo p X i) _
    generalize cB1 us vo p X i = Y at ih ⊢
    generalize hM : mB so us' vo' le (12 * p + i) = m at ih hm ⊢
    obtain ⟨i1, i2⟩ := ih
    rw [h.hv _ (by omega)]
    have el : (le - 1).toInt = le.toInt - 1 := by
      have := h.hl
      have r := i32_rng le
      exact i32_sub (by have e1 : (1 : Int32).toInt = 1 := rfl; omega) (by have e1 : (1 : Int32).toInt = 1 := rfl; omega)
    have new : bX vo' le (nI (12 * p + i), vo' (12 * p + i)) (nI (12 * p + i)) := ⟨rfl, by rw [if_neg (nI_m1 (by omega)), nI_clamp (by omega)]⟩
    by_cases hb : us' i = 0
    · rw [if_pos hb, if_pos ((bt_test us (by omega)).mpr ((hu i (by omega)).mpr hb))]
      by_cases hm1 : m = -1
      · rw [if_pos hm1] at i2
        rw [i2]
        by_cases hv : vo' (12 * p + i) < le
        · rw [if_pos hv, if_pos (by rw [i32_le, el]; rw [i32_lt] at hv; omega)]
          exact ⟨i1, by rw [if_pos hm1]; exact i2⟩
        · rw [if_neg hv, if_pos hm1, if_neg (by rw [i32_le, el]; rw [i32_lt] at hv; omega)]
          exact new
      · rw [if_neg hm1] at i2
        rcases hm with q | ⟨b, b1, b2, -, -, b5⟩
        · exact absurd q hm1
        · rw [i2]
          by_cases hv : vo' (12 * p + i) < le
          · rw [if_pos hv, if_pos (by rw [b2, nI_clamp (by omega), i32_le]; rw [i32_lt] at hv b5; omega)]
            exact ⟨i1, by rw [if_neg hm1]; exact i2⟩
          · rw [if_neg hv, if_neg hm1]
            by_cases hw : vo' (12 * p + i) ≤ vo' m.toNatClampNeg
            · rw [if_pos hw, if_pos hw]; exact ⟨i1, by rw [if_neg hm1]; exact i2⟩
            · rw [if_neg hw, if_neg hw]; exact new
    · rw [if_neg hb, if_neg (fun q => hb ((hu i (by omega)).mp ((bt_test us (by omega)).mp q)))]
      exact ⟨i1, i2⟩
theorem zlt {le : Int32} (h : 1 ≤ le.toInt) : (0 : Int32) < le := by
  rw [i32_lt]; have : (0 : Int32).toInt = 0 := rfl; omega
theorem sure2 {n0 n1 : Nat} {vo vo' : Nat → Int32} {le us : Int32} {ts so us' : Nat → Int32} (h : pOk n0 n1 vo vo' le) (ht : ∀ p, p < 8 → ts p = so p) (hu : ∀ i, i < 12 → (bt us i = false ↔ us' i = 0)) : ∀ p, p ≤ n1 → bX vo' le (cB2 ts us vo n0 le p) (mB so us' vo' le (12 * p))
  | 0, _ => ⟨rfl, (if_pos rfl).symm⟩
  | p + 1, hp => by
    have hn := h.h0
    have hn1 := h.h1
    have ih := sure2 h ht hu p (by omega)
    have z := zlt h.hl
    show bX vo' le (if ts p = -1 then cB1 us vo p (cB2 ts us vo n0 le p) n0 else cB2 ts us vo n0 le p) _
    by_cases hs : so p = -1
    · rw [if_pos (by rw [ht p (by omega)]; exact hs)]
      have := sure1 h hu (p := p) (by omega) hs ih n0 (Nat.le_refl _)
      have e := mB_skips (so := so) (us := us') (vo := vo') (le := le) (p := p) (i := n0) (12 - n0) (by omega) (fun j h1 h2 => Or.inr (by rw [h.hz p j (by omega) (by omega) (Or.inr h1)]; exact z))
      rw [show 12 * (p + 1) = 12 * p + n0 + (12 - n0) by omega, e]
      exact this
    · rw [if_neg (by rw [ht p (by omega)]; exact hs)]
      have e := mB_skips (so := so) (us := us') (vo := vo') (le := le) (p := p) (i := 0) 12 (by omega) (fun j h1 h2 => Or.inl hs)
      rw [show 12 * (p + 1) = 12 * p + 0 + 12 by omega, e]
      exact ih
theorem mB_rest {n0 n1 : Nat} {vo vo' : Nat → Int32} {le : Int32} {so us' : Nat → Int32} (h : pOk n0 n1 vo vo' le) : ∀ m, n1 + m ≤ 8 → mB so us' vo' le (12 * (n1 + m)) = mB so us' vo' le (12 * n1)
  | 0, _ => rfl
  | m + 1, hm => by
    have z := zlt h.hl
    have e := mB_skips (so := so) (us := us') (vo := vo') (le := le) (p := n1 + m) (i := 0) 12 (by omega) (fun j h1 h2 => Or.inr (by rw [h.hz (n1 + m) j (by omega) (by omega) (Or.inl (by omega))]; exact z))
    rw [show 12 * (n1 + (m + 1)) = 12 * (n1 + m) + 0 + 12 by omega, e]
    exact mB_rest h m (by omega)
theorem sure_eq {n0 n1 : Nat} {vo vo' : Nat → Int32} {le us : Int32} {ts so us' : Nat → Int32} (h : pOk n0 n1 vo vo' le) (ht : ∀ p, p < 8 → ts p = so p) (hu : ∀ i, i < 12 → (bt us i = false ↔ us' i = 0)) : (cB2 ts us vo n0 le n1).1 = mB so us' vo' le 96 := by
  have hn1 := h.h1
  have e := mB_rest (so := so) (us' := us') h (8 - n1) (by omega)
  rw [show 12 * (n1 + (8 - n1)) = 96 by omega] at e
  rw [e]
  exact (sure2 h ht hu n1 (Nat.le_refl _)).1
/-! the pairs that are taken -/
def tkOk (n0 n1 : Nat) (C : cTS) (M : mTS) (k : Nat) : Prop := (∀ p, p < 8 → C.1 p = M.1 p ∧ C.2.1 p = M.2.1 p) ∧ (∀ i, i < 12 → (bt C.2.2.2.1 i = false ↔ M.2.2.1 i = 0)) ∧ (C.2.2.2.2 = M.2.2.2) ∧ (M.2.2.2 = nI k) ∧ (∀ r, r < k → ∃ p s, p < n1 ∧ s < n0 ∧ C.2.2.1 r = nI p ∧ M.2.1 p = nI r ∧ M.1 p = nI s) ∧ (∀ p, p < 8 → (M.1 p = -1 ∧ M.2.1 p = -1) ∨ ∃ r, r < k ∧ C.2.2.1 r = nI p ∧ M.2.1 p = nI r)
theorem tkOk.a {n0 n1 : Nat} {C : cTS} {M : mTS} {k : Nat} (h : tkOk n0 n1 C M k) : ∀ p, p < 8 → C.1 p = M.1 p ∧ C.2.1 p = M.2.1 p := h.1
theorem tkOk.b {n0 n1 : Nat} {C : cTS} {M : mTS} {k : Nat} (h : tkOk n0 n1 C M k) : ∀ i, i < 12 → (bt C.2.2.2.1 i = false ↔ M.2.2.1 i = 0) := h.2.1
theorem tkOk.c {n0 n1 : Nat} {C : cTS} {M : mTS} {k : Nat} (h : tkOk n0 n1 C M k) : C.2.2.2.2 = M.2.2.2 := h.2.2.1
theorem tkOk.d {n0 n1 : Nat} {C : cTS} {M : mTS} {k : Nat} (h : tkOk n0 n1 C M k) : M.2.2.2 = nI k := h.2.2.2.1
theorem tkOk.e {n0 n1 : Nat} {C : cTS} {M : mTS} {k : Nat} (h : tkOk n0 n1 C M k) : ∀ r, r < k → ∃ p s, p < n1 ∧ s < n0 ∧ C.2.2.1 r = nI p ∧ M.2.1 p = nI r ∧ M.1 p = nI s := h.2.2.2.2.1
theorem tkOk.f {n0 n1 : Nat} {C : cTS} {M : mTS} {k : Nat} (h : tkOk n0 n1 C M k) : ∀ p, p < 8 → (M.1 p = -1 ∧ M.2.1 p = -1) ∨ ∃ r, r < k ∧ C.2.2.1 r = nI p ∧ M.2.1 p = nI r := h.2.2.2.2.2
theorem tk_step {n0 n1 : Nat} {vo vo' : Nat → Int32} {le : Int32} (h : pOk n0 n1 vo vo' le) {C : cTS} {M : mTS} {k : Nat} (hk : k ≤ 8) (T : tkOk n0 n1 C M k) : (mTb vo' le M = -1 ∧ cTk vo le n0 n1 k C = C ∧ mTk vo' le M = M) ∨ (¬ mTb vo' le M = -1 ∧ tkOk n0 n1 (cTk vo le n0 n1 k C) (mTk vo' le M) (k + 1) ∧ mFree (mTk vo' le M).1 n1 + 1 = mFree M.1 n1) := by
  have hn := h.h0
  have hn1 := h.h1
  have e : cTb vo le n0 n1 C = mTb vo' le M := sure_eq h (fun p hp => (T.a p hp).1) T.b
  by_cases h1 : mTb vo' le M = -1
  · exact Or.inl ⟨h1, if_pos (e.trans h1), if_pos h1⟩
  · refine Or.inr ⟨h1, ?_⟩
    rcases cB2_in C.1 C.2.2.2.1 vo n0 le n1 with q | ⟨p, s, hp, hs, h3, h4, h5⟩
    · have : cTb vo le n0 n1 C = -1 := by show (cB2 C.1 C.2.2.2.1 vo n0 le n1).1 = -1; rw [q]
      exact absurd (e ▸ this) h1
    · have ec : cTb vo le n0 n1 C = nI (12 * p + s) := by show (cB2 C.1 C.2.2.2.1 vo n0 le n1).1 = _; rw [h5]
      have em : mTb vo' le M = nI (12 * p + s) := e ▸ ec
      have d1 : (12 * p + s) / 12 = p := by omega
      have d2 : (12 * p + s) % 12 = s := by omega
      have hc : cTk vo le n0 n1 k C = (upd C.1 p (nI s), upd C.2.1 p (nI k), upd C.2.2.1 k (nI p), C.2.2.2.1 ||| (1 <<< (nI s &&& 31)), C.2.2.2.2 + 1) := by
        have e0 : cTk vo le n0 n1 k C = _ := if_neg (by rw [ec]; exact nI_m1 (by omega))
        rw [e0, ec, dv12_cl (by omega), rm12 (by omega), dv12 (by omega), d1, d2]
      have hm : mTk vo' le M = (upd M.1 p (nI s), upd M.2.1 p (nI k), upd M.2.2.1 s (1 &&& 1), nI k + 1) := by
        have e0 : mTk vo' le M = _ := if_neg h1
        rw [e0, em, dv12_cl (by omega), rm12 (by omega), d1, d2, nI_clamp (by omega), T.d]
      have sp : M.1 p = -1 := by rw [← (T.a p (by omega)).1]; exact h3
      have rp : M.2.1 p = -1 := by
        rcases T.f p (by omega) with q | ⟨r, hr, q1, q2⟩
        · exact q.2
        · obtain ⟨p', s', g1, g2, g3, g4, g5⟩ := T.e r hr
          rw [g3] at q1
          have := (nI_eq (by omega) (by omega)).mp q1
          subst this
          rw [sp] at g5
          exact absurd g5.symm (nI_m1 (by omega))
      refine ⟨?_, ?_⟩
      · rw [hc, hm]
        refine ⟨?_, ?_, ?_, ?_, ?_, ?_⟩
        · intro x hx
          show upd C.1 p (nI s) x = upd M.1 p (nI s) x ∧ upd C.2.1 p (nI k) x = upd M.2.1 p (nI k) x
          by_cases q : x = p
          · subst q; rw [pk_us, pk_us, pk_us, pk_us]; exact ⟨rfl, rfl⟩
          · rw [pk_un q, pk_un q, pk_un q, pk_un q]; exact T.a x hx
        · intro i hi
          show bt (C.2.2.2.1 ||| (1 <<< (nI s &&& 31))) i = false ↔ upd M.2.2.1 s (1 &&& 1) i = 0
          rw [bt_or _ (by omega) hi]
          by_cases q : i = s
          · subst q; rw [pk_us]; simp
          · rw [pk_un q, ← T.b i hi]; simp [q]
        · show C.2.2.2.2 + 1 = nI k + 1
          rw [T.c, T.d]
        · show nI k + 1 = nI (k + 1)
          exact nI_1 k
        · intro r hr
          show ∃ p' s', p' < n1 ∧ s' < n0 ∧ upd C.2.2.1 k (nI p) r = nI p' ∧ upd M.2.1 p (nI k) p' = nI r ∧ upd M.1 p (nI s) p' = nI s'
          by_cases q : r = k
          · subst q; exact ⟨p, s, hp, hs, pk_us, pk_us, pk_us⟩
          · obtain ⟨p', s', g1, g2, g3, g4, g5⟩ := T.e r (by omega)
            have ne : p' ≠ p := by
              intro z; subst z; rw [sp] at g5; exact nI_m1 (by omega) g5.symm
            exact ⟨p', s', g1, g2, by rw [pk_un q]; exact g3, by rw [pk_un ne]; exact g4, by rw [pk_un ne]; exact g5⟩
        · intro x hx
          show (upd M.1 p (nI s) x = -1 ∧ upd M.2.1 p (nI k) x = -1) ∨ ∃ r, r < k + 1 ∧ upd C.2.2.1 k (nI p) r = nI x ∧ upd M.2.1 p (nI k) x = nI r
          by_cases q : x = p
          · subst q; exact Or.inr ⟨k, by omega, pk_us, pk_us⟩
          · rw [pk_un q, pk_un q]
            rcases T.f x hx with g | ⟨r, hr, g1, g2⟩
            · exact Or.inl g
            · exact Or.inr ⟨r, by omega, by rw [pk_un (by omega)]; exact g1, g2⟩
      · rw [hm]
        have := mFree_upd M.1 (i := p) (v := nI s) sp (nI_m1 (by omega)) n1
        rw [if_pos hp] at this
        exact this
theorem mFree_all : ∀ n, mFree (kI (-1)) n = n
  | 0 => rfl
  | n + 1 => by
    show mFree (kI (-1)) n + (if kI (-1) n = -1 then 1 else 0) = n + 1
    rw [mFree_all n, if_pos (show kI (-1) n = -1 from rfl)]
theorem tk_0 (n0 n1 : Nat) (tp : Nat → Int32) : tkOk n0 n1 (kI (-1), kI (-1), tp, 0, 0) (kI (-1), kI (-1), kI 0, 0) 0 :=
  ⟨fun p _ => ⟨rfl, rfl⟩, fun i _ => ⟨fun _ => rfl, fun _ => bt_0 i⟩, rfl, rfl, fun r hr => absurd hr (Nat.not_lt_zero r), fun p _ => Or.inl ⟨rfl, rfl⟩⟩
theorem tk_n {n0 n1 : Nat} {vo vo' : Nat → Int32} {le : Int32} (h : pOk n0 n1 vo vo' le) (tp : Nat → Int32) : ∀ r, r ≤ n1 → (∃ k, k ≤ r ∧ tkOk n0 n1 (cTn vo le n0 n1 (kI (-1), kI (-1), tp, 0, 0) r) (mTn vo' le (kI (-1), kI (-1), kI 0, 0) r) k ∧ mTb vo' le (mTn vo' le (kI (-1), kI (-1), kI 0, 0) r) = -1) ∨ (tkOk n0 n1 (cTn vo le n0 n1 (kI (-1), kI (-1), tp, 0, 0) r) (mTn vo' le (kI (-1), kI (-1), kI 0, 0) r) r ∧ mFree (mTn vo' le (kI (-1), kI (-1), kI 0, 0) r).1 n1 + r = n1)
  | 0, _ => Or.inr ⟨tk_0 n0 n1 tp, mFree_all n1⟩
  | r + 1, hr => by
    have hn1 := h.h1
    have ih := tk_n h tp r (by omega)
    show (∃ k, k ≤ r + 1 ∧ tkOk n0 n1 (cTk vo le n0 n1 r (cTn vo le n0 n1 (kI (-1), kI (-1), tp, 0, 0) r)) (mTk vo' le (mTn vo' le (kI (-1), kI (-1), kI 0, 0) r)) k ∧ mTb vo' le (mTk vo' le (mTn vo' le (kI (-1), kI (-1), kI 0, 0) r)) = -1) ∨ (tkOk n0 n1 (cTk vo le n0 n1 r (cTn vo le n0 n1 (kI (-1), kI (-1), tp, 0, 0) r)) (mTk vo' le (mTn vo' le (kI (-1), kI (-1), kI 0, 0) r)) (r + 1) ∧ mFree (mTk vo' le (mTn vo' le (kI (-1), kI (-1), kI 0, 0) r)).1 n1 + (r + 1) = n1)
    generalize cTn vo le n0 n1 (kI (-1), kI (-1), tp, 0, 0) r = C at ih ⊢
    generalize mTn vo' le (kI (-1), kI (-1), kI 0, 0) r = M at ih ⊢
    rcases ih with ⟨k, hk, T, hM⟩ | ⟨T, hF⟩
    · have e : cTb vo le n0 n1 C = mTb vo' le M := sure_eq h (fun p hp => (T.a p hp).1) T.b
      have e1 : cTk vo le n0 n1 r C = C := if_pos (e.trans hM)
      rw [e1, mTk_id hM]
      exact Or.inl ⟨k, by omega, T, hM⟩
    · rcases tk_step h (by omega) T with ⟨q1, q2, q3⟩ | ⟨q1, q2, q3⟩
      · rw [q2, q3]
        exact Or.inl ⟨r, by omega, T, q1⟩
      · exact Or.inr ⟨q2, by omega⟩
theorem take_eq {n0 n1 : Nat} {vo vo' : Nat → Int32} {le : Int32} (h : pOk n0 n1 vo vo' le) (tp : Nat → Int32) : ∃ k, k ≤ 8 ∧ tkOk n0 n1 (cTake vo le n0 n1 tp) (mTake vo' le) k := by
  have hn1 := h.h1
  have key : ∃ k, k ≤ 8 ∧ tkOk n0 n1 (cTn vo le n0 n1 (kI (-1), kI (-1), tp, 0, 0) n1) (mTn vo' le (kI (-1), kI (-1), kI 0, 0) n1) k ∧ mTb vo' le (mTn vo' le (kI (-1), kI (-1), kI 0, 0) n1) = -1 := by
    rcases tk_n h tp n1 (Nat.le_refl _) with ⟨k, hk, T, hM⟩ | ⟨T, hF⟩
    · exact ⟨k, by omega, T, hM⟩
    · refine ⟨n1, hn1, T, ?_⟩
      generalize cTn vo le n0 n1 (kI (-1), kI (-1), tp, 0, 0) n1 = C at T
      generalize mTn vo' le (kI (-1), kI (-1), kI 0, 0) n1 = M at T hF ⊢
      have e : cTb vo le n0 n1 C = mTb vo' le M := sure_eq h (fun p hp => (T.a p hp).1) T.b
      rw [← e]
      rcases cB2_in C.1 C.2.2.2.1 vo n0 le n1 with q | ⟨p, s, hp, hs, h3, h4, h5⟩
      · show (cB2 C.1 C.2.2.2.1 vo n0 le n1).1 = -1
        rw [q]
      · rw [(T.a p (by omega)).1] at h3
        have := mFree_pos hp h3
        omega
  obtain ⟨k, hk, T, hM⟩ := key
  have e := mTn_stay hM (9 - n1)
  rw [show n1 + (9 - n1) = 9 by omega] at e
  refine ⟨k, hk, ?_⟩
  show tkOk n0 n1 (cTn vo le n0 n1 (kI (-1), kI (-1), tp, 0, 0) n1) (mTn vo' le (kI (-1), kI (-1), kI 0, 0) 9) k
  rw [e]
  exact T
/-- the first two pairs -/
theorem tk_sp {n0 n1 : Nat} {C : cTS} {M : mTS} {k : Nat} (hk : k ≤ 8) (hn1 : n1 ≤ 8) (T : tkOk n0 n1 C M k) {r : Nat} (hr : r < k) : ∃ p s, p < n1 ∧ s < n0 ∧ C.2.2.1 r = nI p ∧ mSp M.2.1 (nI r) 8 = nI p ∧ C.1 p = nI s ∧ M.1 p = nI s := by
  obtain ⟨p, s, hp, hs, h1, h2, h3⟩ := T.e r hr
  obtain ⟨p', hp', g1, g2⟩ := mSp_some (ro := M.2.1) (x := nI r) 8 ⟨p, by omega, h2⟩
  have : p' = p := by
    rcases T.f p' hp' with q | ⟨r', hr', q1, q2⟩
    · rw [q.2] at g2; exact absurd g2.symm (nI_m1 (by omega))
    · rw [g2] at q2
      have := (nI_eq (by omega) (by omega)).mp q2
      subst this
      rw [h1] at q1
      exact ((nI_eq (by omega) (by omega)).mp q1).symm
  subst this
  exact ⟨p', s, hp, hs, h1, g1, by rw [(T.a p' hp').1]; exact h3, h3⟩
