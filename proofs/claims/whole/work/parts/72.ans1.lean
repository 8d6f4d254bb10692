/-! THE ANSWERS ARE THE SAME -/
theorem in_min {v lo hi : Int32} {LO HI : Int64} (h1 : lo.toInt = LO.toInt) (h2 : hi.toInt = HI.toInt) : s_X11_isWithin v lo hi = 0 ↔ s_X12_in v.toInt64 LO HI = 0 := by
  rw [in_no, min_no, i32_w, h1, h2]
theorem kind_two {k : Int32} : s_X11_isKind k = 0 ↔ s_X12_isTwo k = 0 := by
  unfold s_X12_isTwo
  rw [min_no, i32_w]
  have e0 : (0 : Int64).toInt = 0 := rfl
  have e1 : (1 : Int64).toInt = 1 := rfl
  have z0 : (0 : Int32).toInt = 0 := rfl
  have z1 : (1 : Int32).toInt = 1 := rfl
  unfold s_X11_isKind
  by_cases h0 : k = 0
  · rw [if_pos h0]; subst h0; simp [z0, e0, e1]
  · rw [if_neg h0]
    by_cases h1 : k = 1
    · rw [if_pos h1]; subst h1; simp [z1, e0, e1]
    · rw [if_neg h1]
      rw [i32_eq] at h0 h1
      simp
      omega
theorem kind_01 {k : Int32} (h : ¬ s_X11_isKind k = 0) : k = 0 ∨ k = 1 := by
  unfold s_X11_isKind at h
  by_cases h0 : k = 0
  · exact Or.inl h0
  · by_cases h1 : k = 1
    · exact Or.inr h1
    · rw [if_neg h0, if_neg h1] at h; exact absurd rfl h
theorem has_nJ {x : Int32} {n : Nat} (hn : n ≤ 60) : s_X1_has x (nI n) = 0 ↔ ¬ (0 ≤ x.toInt ∧ x.toInt < n) := by
  have z : (0 : Int32).toInt = 0 := rfl
  unfold s_X1_has
  by_cases h1 : x < 0
  · rw [if_pos h1]; rw [i32_lt, z] at h1; simp; omega
  · rw [if_neg h1]; rw [i32_lt, z] at h1
    by_cases h2 : nI n ≤ x
    · rw [if_pos h2]; rw [i32_le, nI_toInt (by omega)] at h2; simp; omega
    · rw [if_neg h2]; rw [i32_le, nI_toInt (by omega)] at h2; simp; omega
theorem m1_toInt {n : Nat} (hn : n ≤ 60) : ((nI n - 1).toInt64).toInt = (n : Int) - 1 := by
  have o : (1 : Int32).toInt = 1 := rfl
  rw [i32_w, i32_sub (by rw [nI_toInt (by omega)]; omega) (by rw [nI_toInt (by omega)]; omega), nI_toInt (by omega), o]
theorem in_m1 {x : Int32} {n : Nat} (hn : n ≤ 60) : s_X12_in x.toInt64 (0 : Int64) ((nI n - 1).toInt64) = 0 ↔ ¬ (0 ≤ x.toInt ∧ x.toInt < n) := by
  rw [min_no, i32_w, m1_toInt hn]
  have e0 : (0 : Int64).toInt = 0 := rfl
  rw [e0]
  omega
theorem two_0 : ¬ s_X12_isTwo (0 : Int32) = 0 := by decide +kernel
theorem two_1 : ¬ s_X12_isTwo (1 : Int32) = 0 := by decide +kernel
theorem th_0 {x : Int32} {mn : Nat → Int32} {n0 : Nat} (h0 : mn 0 = nI n0) (hn : n0 ≤ 12) : s_X12_isThere (0 : Int32) x mn = 0 ↔ ¬ (0 ≤ x.toInt ∧ x.toInt < n0) := by
  unfold s_X12_isThere
  rw [if_neg two_0]
  show (if s_X12_in x.toInt64 (0 : Int64) ((mn 0 - 1).toInt64) = 0 then (0 : Int32) else 1) = 0 ↔ _
  rw [h0, ← in_m1 (x := x) (show n0 ≤ 60 by omega)]
  split <;> simp_all
theorem th_1 {x : Int32} {mn : Nat → Int32} {n1 : Nat} (h1 : mn 1 = nI n1) (hn : n1 ≤ 8) : s_X12_isThere (1 : Int32) x mn = 0 ↔ ¬ (0 ≤ x.toInt ∧ x.toInt < n1) := by
  unfold s_X12_isThere
  rw [if_neg two_1]
  show (if s_X12_in x.toInt64 (0 : Int64) ((mn 1 - 1).toInt64) = 0 then (0 : Int32) else 1) = 0 ↔ _
  rw [h1, ← in_m1 (x := x) (show n1 ≤ 60 by omega)]
  split <;> simp_all
theorem one_0 {x : Int32} {n0 : Nat} (hn : n0 ≤ 12) : s_isOne0 x n0 = 0 ↔ ¬ (0 ≤ x.toInt ∧ x.toInt < n0) := by
  unfold s_isOne0
  rw [← has_nJ (x := x) (show n0 ≤ 60 by omega)]
  split <;> simp_all
theorem one_1 {x : Int32} {n1 : Nat} (hn : n1 ≤ 8) : s_isOne1 x n1 = 0 ↔ ¬ (0 ≤ x.toInt ∧ x.toInt < n1) := by
  unfold s_isOne1
  rw [← has_nJ (x := x) (show n1 ≤ 60 by omega)]
  split <;> simp_all
theorem ifc {α : Type} {P Q : Prop} [Decidable P] [Decidable Q] {a b c : α} (h : P ↔ Q) (hb : ¬ P → b = c) : (if P then a else b) = if Q then a else c := by
  by_cases p : P
  · rw [if_pos p, if_pos (h.mp p)]
  · rw [if_neg p, if_neg (fun q => p (h.mpr q)), hb p]
theorem oneth_0 {n0 : Nat} {mn : Nat → Int32} (h0 : mn 0 = nI n0) (hn0 : n0 ≤ 12) {x : Int32} : s_isOne0 x n0 = 0 ↔ s_X12_isThere (0 : Int32) x mn = 0 := by rw [one_0 hn0, th_0 h0 hn0]
theorem oneth_1 {n1 : Nat} {mn : Nat → Int32} (h1 : mn 1 = nI n1) (hn1 : n1 ≤ 8) {x : Int32} : s_isOne1 x n1 = 0 ↔ s_X12_isThere (1 : Int32) x mn = 0 := by rw [one_1 hn1, th_1 h1 hn1]
theorem one_n0 {n0 : Nat} (hn0 : n0 ≤ 12) {x : Int32} (h : ¬ s_isOne0 x n0 = 0) : ∃ j, j < n0 ∧ x = nI j := by
  rw [one_0 hn0, Decidable.not_not] at h
  obtain ⟨j, hj, e⟩ := nI_of (x := x) (by rw [i32_lt]; have z : (0 : Int32).toInt = 0 := rfl; omega)
  subst e
  rw [nI_toInt hj] at h
  exact ⟨j, by omega, rfl⟩
theorem one_n1 {n1 : Nat} (hn1 : n1 ≤ 8) {x : Int32} (h : ¬ s_isOne1 x n1 = 0) : ∃ j, j < n1 ∧ x = nI j := by
  rw [one_1 hn1, Decidable.not_not] at h
  obtain ⟨j, hj, e⟩ := nI_of (x := x) (by rw [i32_lt]; have z : (0 : Int32).toInt = 0 := rfl; omega)
  subst e
  rw [nI_toInt hj] at h
  exact ⟨j, by omega, rfl⟩
theorem looks_eq {n0 n1 : Nat} {gS gP se mn : Nat → Int32} (h0 : mn 0 = nI n0) (h1 : mn 1 = nI n1) (w : Int32) : s_looks w n0 n1 gS gP se = s_X12_looks w (-1) (dj gS gP) mn se n0 n1 := by
  unfold s_looks s_X12_looks s_X12_looksBy
  rw [h0, h1]
  have e0 : (0 : Int64).toInt = 0 := rfl
  have e3 : (3 : Int64).toInt = 3 := rfl
  have z0 : (0 : Int32).toInt = 0 := rfl
  have z1 : (1 : Int32).toInt = 1 := rfl
  have z2 : (2 : Int32).toInt = 2 := rfl
  have z3 : (3 : Int32).toInt = 3 := rfl
  by_cases c : s_X12_in w.toInt64 (0 : Int64) (3 : Int64) = 0
  · rw [if_pos c]
    rw [min_no, i32_w, e0, e3] at c
    rw [if_neg (by rw [i32_eq]; omega), if_neg (by rw [i32_eq]; omega), if_neg (by rw [i32_eq]; omega), if_neg (by rw [i32_eq]; omega)]
  · rw [if_neg c]
    rw [min_yes, i32_w, e0, e3] at c
    by_cases c0 : w = 0
    · rw [if_pos c0, if_pos c0]; rfl
    · rw [if_neg c0, if_neg c0]
      by_cases c1 : w = 1
      · rw [if_pos c1, if_pos c1]; rfl
      · rw [if_neg c1, if_neg c1]
        by_cases c2 : w = 2
        · rw [if_pos c2, if_pos c2]
        · rw [if_neg c2, if_neg c2, if_pos (by rw [i32_eq] at c0 c1 c2 ⊢; omega)]
theorem votes_ans {n0 n1 : Nat} {gS gP se mn : Nat → Int32} (h0 : mn 0 = nI n0) (h1 : mn 1 = nI n1) (hn0 : n0 ≤ 12) (hn1 : n1 ≤ 8) (p i : Int32) : s_votes p i n0 n1 gS gP se = s_X12_votes p i (-1) (dj gS gP) mn se n0 n1 := by
  unfold s_votes s_X12_votes
  refine ifc (oneth_1 h1 hn1) (fun _ => ifc (oneth_0 h0 hn0) (fun _ => ?_))
  unfold s_X11_pairOf
  rw [Int32.mul_comm p 12]
theorem taken_ans {n0 n1 : Nat} {gS gP se mn : Nat → Int32} (h1 : mn 1 = nI n1) (hn1 : n1 ≤ 8) (p w : Int32) : s_taken p w n0 n1 gS gP se = s_X12_taken p w (-1) (dj gS gP) mn se n0 n1 := by
  unfold s_taken s_X12_taken s_X12_takenBy s_X12_isTwo kT
  generalize rT (dj gS gP) se n0 n1 (-1) = X
  exact ifc (oneth_1 h1 hn1) (fun _ => ifc (in_min rfl rfl) (fun _ => rfl))
theorem confirmed_ans {n0 n1 : Nat} {gS gP se mn : Nat → Int32} (h1 : mn 1 = nI n1) (hn1 : n1 ≤ 8) (p w : Int32) : s_confirmed p w n0 n1 gS gP se = s_X12_confirmed p w (-1) (dj gS gP) mn se n0 n1 := by
  unfold s_confirmed s_X12_confirmed s_X12_confirmedBy s_X12_isTwo kC
  generalize rC (dj gS gP) se n0 n1 (-1) = X
  exact ifc (oneth_1 h1 hn1) (fun _ => ifc (in_min rfl rfl) (fun _ => rfl))
theorem place_ans {n0 n1 : Nat} {gS gP se mn : Nat → Int32} (h0 : mn 0 = nI n0) (hn0 : n0 ≤ 12) (i w : Int32) : s_place i w n0 n1 gS gP se = s_X12_place i w (-1) (dj gS gP) mn se n0 n1 := by
  unfold s_place s_X12_place s_X12_placeBy kU kP
  generalize rU (dj gS gP) se n0 n1 (-1) = X
  generalize rP (dj gS gP) se n0 n1 (-1) = Y
  exact ifc (oneth_0 h0 hn0) (fun _ => ifc (in_min rfl rfl) (fun _ => rfl))
theorem wb_mW (ts cs : Nat → Int32) : ∀ p, cWb ts cs p = mW ts cs p
  | 0 => rfl
  | p + 1 => by
    show (if ts p = -1 then cWb ts cs p else if ts p = cs p then cWb ts cs p else cWb ts cs p ||| (1 <<< (nI p &&& 31))) = mW ts cs p ||| (if ts p = -1 then (0 : Int32) else if ts p = cs p then (0 : Int32) else (1 : Int32) <<< (nI p &&& 31))
    rw [wb_mW ts cs p]
    repeat' split
    · rw [Int32.or_zero]
    · rw [Int32.or_zero]
    · rfl
theorem cBet_s (cnt : Nat → Int32) (b0 : Int32) (t : Nat) : cBet cnt b0 (t + 1) = if cnt t ≤ (cBet cnt b0 t).2 then cBet cnt b0 t else (nI t * 50, cnt t) := rfl
theorem mBt_s (di se : Nat → Int32) (n n1 : Nat) (go : Int32) (t : Nat) : mBt di se n n1 go (t + 1) = (if mBc di se n n1 go t ≤ (mBt di se n n1 go t).2 then (mBt di se n n1 go t).1 else nI (50 * t), s_X12_greater (mBc di se n n1 go t) (mBt di se n n1 go t).2) := rfl
theorem bet_1 {c : Int32} {B M : Int32 × Int32} {t k : Nat} (i1 : B.2 = M.2) (i2 : 0 < t → B.1 = M.1) (hk : k ≤ 8) (e : c = nI k) (hz : t = 0 → M.2 = -1) : (if c ≤ B.2 then B else (nI t * 50, c)).2 = (if c ≤ M.2 then M.1 else nI (50 * t), s_X12_greater c M.2).2 ∧ (if c ≤ B.2 then B else (nI t * 50, c)).1 = (if c ≤ M.2 then M.1 else nI (50 * t), s_X12_greater c M.2).1 := by
  rw [i1]
  unfold s_X12_greater
  by_cases q : c ≤ M.2
  · rw [if_pos q, if_pos q, if_pos q]
    refine ⟨i1, ?_⟩
    by_cases z : t = 0
    · rw [hz z, e, i32_le, nI_toInt (by omega)] at q
      have o : (-1 : Int32).toInt = -1 := rfl
      omega
    · exact i2 (by omega)
  · rw [if_neg q, if_neg q, if_neg q]
    refine ⟨rfl, ?_⟩
    show nI t * 50 = nI (50 * t)
    rw [show (50 : Int32) = nI 50 from rfl, pk_mul, Nat.mul_comm]
theorem bet_mBt (di se : Nat → Int32) (n n1 : Nat) (go : Int32) (b0 : Int32) (cnt : Nat → Int32) (hc : cnt = mBc di se n n1 go) : ∀ t, (cBet cnt b0 t).2 = (mBt di se n n1 go t).2 ∧ (0 < t → (cBet cnt b0 t).1 = (mBt di se n n1 go t).1)
  | 0 => ⟨rfl, fun h => absurd h (Nat.lt_irrefl 0)⟩
  | t + 1 => by
    obtain ⟨i1, i2⟩ := bet_mBt di se n n1 go b0 cnt hc t
    obtain ⟨k, hk, e⟩ := rC_cnt di (upd se 1 (nI (50 * t))) n n1 go
    have eb : mBc di se n n1 go t = nI k := by unfold mBc; exact e
    have z0 : t = 0 → (mBt di se n n1 go t).2 = -1 := by intro z; subst z; rfl
    rw [cBet_s, mBt_s, hc] at *
    generalize cBet (mBc di se n n1 go) b0 t = B at i1 i2 ⊢
    generalize mBt di se n n1 go t = M at i1 i2 z0 ⊢
    generalize mBc di se n n1 go t = c at eb ⊢
    have := bet_1 i1 i2 hk eb z0
    exact ⟨this.1, fun _ => this.2⟩
theorem spa_mSt (di se : Nat → Int32) (n n1 : Nat) : ∀ t, cSpa (fun k => (rC di se n n1 (nI k)).2.2.2) t = mSt di se n n1 t
  | 0 => rfl
  | t + 1 => by
    have ih := spa_mSt di se n n1 t
    show (if mSc di se n n1 t ≤ (cSpa (fun k => (rC di se n n1 (nI k)).2.2.2) t).2 then cSpa (fun k => (rC di se n n1 (nI k)).2.2.2) t else (nI t, mSc di se n n1 t)) = (if mSc di se n n1 t ≤ (mSt di se n n1 t).2 then (mSt di se n n1 t).1 else nI t, s_X12_greater (mSc di se n n1 t) (mSt di se n n1 t).2)
    rw [ih]
    unfold s_X12_greater
    by_cases c : mSc di se n n1 t ≤ (mSt di se n n1 t).2
    · rw [if_pos c, if_pos c, if_pos c]
    · rw [if_neg c, if_neg c, if_neg c]
theorem wrong_ans (n0 n1 : Nat) (gS gP se : Nat → Int32) : s_wrong n0 n1 gS gP se = s_X12_wrong (-1) (dj gS gP) se n0 n1 := by
  unfold s_wrong s_X12_wrong kT kC
  generalize (rT (dj gS gP) se n0 n1 (-1)).1 = X
  generalize (rC (dj gS gP) se n0 n1 (-1)).2.1 = Y
  exact wb_mW X Y 8
theorem better_ans (w : Int32) (n0 n1 : Nat) (gS gP se : Nat → Int32) : s_better w n0 n1 gS gP se = s_X12_better w (dj gS gP) se n0 n1 := by
  unfold s_better s_X12_better s_X12_isTwo
  obtain ⟨a, b⟩ := bet_mBt (dj gS gP) se n0 n1 (-1) 0 (kBet n0 n1 gS gP se) rfl 21
  refine ifc (in_min rfl rfl) (fun _ => ?_)
  rw [a, b (by omega)]
theorem spare_ans (w : Int32) (n0 n1 : Nat) (gS gP se : Nat → Int32) : s_spare w n0 n1 gS gP se = s_X12_spare w (dj gS gP) se n0 n1 := by
  unfold s_spare s_X12_spare s_X12_isTwo kSpa
  refine ifc (in_min rfl rfl) (fun _ => ?_)
  rw [spa_mSt]
