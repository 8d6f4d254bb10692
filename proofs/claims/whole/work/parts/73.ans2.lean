/-! answers, on -/
theorem wi_n {w : Int32} {m : Nat} {hi : Int32} (hm : hi.toInt = m) (h : ¬ s_X11_isWithin w (0 : Int32) hi = 0) : ∃ c, c ≤ m ∧ w = nI c := by
  rw [in_yes, hm] at h
  have z : (0 : Int32).toInt = 0 := rfl
  obtain ⟨j, hj, e⟩ := nI_of (x := w) (by rw [i32_lt]; omega)
  subst e
  rw [nI_toInt hj] at h
  exact ⟨j, by omega, rfl⟩
theorem th_bad {k x : Int32} {mn : Nat → Int32} (h : s_X11_isKind k = 0) : s_X12_isThere k x mn = 0 := by
  unfold s_X12_isThere
  exact if_pos (kind_two.mp h)
theorem at_0 {n0 : Nat} {gS gP mn : Nat → Int32} (h0 : mn 0 = nI n0) (hn0 : n0 ≤ 12) (i w : Int32) : s_at0 i w n0 gS = s_X12_at (0 : Int32) i w (dj gS gP) mn := by
  unfold s_at0 s_X12_at
  refine ifc (oneth_0 h0 hn0) (fun a => ifc (in_min rfl rfl) (fun b => ?_))
  obtain ⟨j, hj, rfl⟩ := one_n0 hn0 a
  obtain ⟨c, hc, rfl⟩ := wi_n (m := 2) rfl b
  exact partS hj hn0 (by omega)
theorem at_1 {n1 : Nat} {gS gP mn : Nat → Int32} (h1 : mn 1 = nI n1) (hn1 : n1 ≤ 8) (i w : Int32) : s_at1 i w n1 gP = s_X12_at (1 : Int32) i w (dj gS gP) mn := by
  unfold s_at1 s_X12_at
  refine ifc (oneth_1 h1 hn1) (fun a => ifc (in_min rfl rfl) (fun b => ?_))
  obtain ⟨j, hj, rfl⟩ := one_n1 hn1 a
  obtain ⟨c, hc, rfl⟩ := wi_n (m := 2) rfl b
  exact partP hj hn1 (by omega)
theorem at_B {gS gP mn : Nat → Int32} {k : Int32} (h : s_X11_isKind k = 0) (i w : Int32) : (-2147483648) = s_X12_at k i w (dj gS gP) mn := by
  unfold s_X12_at
  rw [if_pos (th_bad h)]
theorem side_0 {n0 : Nat} {gS gP mn : Nat → Int32} (h0 : mn 0 = nI n0) (hn0 : n0 ≤ 12) (i j : Int32) : s_side0 i j n0 gS = s_X12_side (0 : Int32) i j (dj gS gP) mn := by
  unfold s_side0 s_X12_side
  refine ifc (oneth_0 h0 hn0) (fun a => ifc (oneth_0 h0 hn0) (fun b => ?_))
  obtain ⟨x, hx, rfl⟩ := one_n0 hn0 a
  obtain ⟨y, hy, rfl⟩ := one_n0 hn0 b
  exact sdS hx hy hn0
theorem side_1 {n1 : Nat} {gS gP mn : Nat → Int32} (h1 : mn 1 = nI n1) (hn1 : n1 ≤ 8) (i j : Int32) : s_side1 i j n1 gP = s_X12_side (1 : Int32) i j (dj gS gP) mn := by
  unfold s_side1 s_X12_side
  refine ifc (oneth_1 h1 hn1) (fun a => ifc (oneth_1 h1 hn1) (fun b => ?_))
  obtain ⟨x, hx, rfl⟩ := one_n1 hn1 a
  obtain ⟨y, hy, rfl⟩ := one_n1 hn1 b
  exact sdP hx hy hn1
theorem side_B {gS gP mn : Nat → Int32} {k : Int32} (h : s_X11_isKind k = 0) (i j : Int32) : (-2) = s_X12_side k i j (dj gS gP) mn := by
  unfold s_X12_side
  rw [if_pos (th_bad h)]
theorem keys_if {α : Type} {A B C W E1 E2 E3 A' B' C' W' : Prop} [Decidable A] [Decidable B] [Decidable C] [Decidable W] [Decidable E1] [Decidable E2] [Decidable E3] [Decidable A'] [Decidable B'] [Decidable C'] [Decidable W'] {x y z : α} (hA : A ↔ A') (hB : B ↔ B') (hC : C ↔ C') (hW : W ↔ W') (h : ¬ A → ¬ B → ¬ C → ¬ W → y = z) : (if A then x else if B then x else if C then x else if W then x else if E1 then x else if E2 then x else if E3 then x else y) = if (if A' then (0 : Int32) else if B' then 0 else if C' then 0 else if E1 then 0 else if E3 then 0 else if E2 then 0 else 1) = 0 then x else if W' then x else z := by
  have o : ¬ (1 : Int32) = 0 := by decide
  by_cases a : A
  · rw [if_pos a, if_pos (hA.mp a), if_pos rfl]
  · rw [if_neg a, if_neg (fun q => a (hA.mpr q))]
    by_cases b : B
    · rw [if_pos b, if_pos (hB.mp b), if_pos rfl]
    · rw [if_neg b, if_neg (fun q => b (hB.mpr q))]
      by_cases c : C
      · rw [if_pos c, if_pos (hC.mp c), if_pos rfl]
      · rw [if_neg c, if_neg (fun q => c (hC.mpr q))]
        by_cases w : W
        · rw [if_pos w, if_pos (hW.mp w)]
          repeat' split
          all_goals rfl
        · rw [if_neg w, if_neg (fun q => w (hW.mpr q)), h a b c w]
          by_cases e1 : E1 <;> by_cases e2 : E2 <;> by_cases e3 : E3 <;> simp [e1, e2, e3, o]
theorem key_0 {n0 : Nat} {gS gP se mn : Nat → Int32} (h0 : mn 0 = nI n0) (hn0 : n0 ≤ 12) (hb : 1 ≤ (se 0).toInt) (a b c w : Int32) : s_key0 a b c w n0 gS se = s_X12_key (0 : Int32) a b c w (dj gS gP) mn se := by
  unfold s_key0 s_X12_key s_X12_isTriangle
  refine keys_if (oneth_0 h0 hn0) (oneth_0 h0 hn0) (oneth_0 h0 hn0) (in_min rfl rfl) (fun ha hB hc hw => ?_)
  obtain ⟨x, hx, rfl⟩ := one_n0 hn0 ha
  obtain ⟨y, hy, rfl⟩ := one_n0 hn0 hB
  obtain ⟨z, hz, rfl⟩ := one_n0 hn0 hc
  exact keyS hn0 hb hx hy hz w
theorem key_1 {n1 : Nat} {gS gP se mn : Nat → Int32} (h1 : mn 1 = nI n1) (hn1 : n1 ≤ 8) (hb : 1 ≤ (se 0).toInt) (a b c w : Int32) : s_key1 a b c w n1 gP se = s_X12_key (1 : Int32) a b c w (dj gS gP) mn se := by
  unfold s_key1 s_X12_key s_X12_isTriangle
  refine keys_if (oneth_1 h1 hn1) (oneth_1 h1 hn1) (oneth_1 h1 hn1) (in_min rfl rfl) (fun ha hB hc hw => ?_)
  obtain ⟨x, hx, rfl⟩ := one_n1 hn1 ha
  obtain ⟨y, hy, rfl⟩ := one_n1 hn1 hB
  obtain ⟨z, hz, rfl⟩ := one_n1 hn1 hc
  exact keyP hn1 hb hx hy hz w
theorem key_B {gS gP se mn : Nat → Int32} {k : Int32} (h : s_X11_isKind k = 0) (a b c w : Int32) : (-2) = s_X12_key k a b c w (dj gS gP) mn se := by
  unfold s_X12_key s_X12_isTriangle
  rw [if_pos (th_bad h), if_pos rfl]
/-! bits that are set -/
theorem or_bit : ∀ p, p < 8 → ∀ x, x < 256 → nI x ||| ((1 : Int32) <<< (nI p &&& 31)) = nI (x ||| 2 ^ p) := by decide +kernel
theorem mW_n (so su : Nat → Int32) : ∀ p, p ≤ 8 → ∃ x, x < 256 ∧ mW so su p = nI x
  | 0, _ => ⟨0, by omega, rfl⟩
  | p + 1, h => by
    obtain ⟨x, hx, e⟩ := mW_n so su p (by omega)
    show ∃ x, x < 256 ∧ mW so su p ||| (if so p = -1 then (0 : Int32) else if so p = su p then (0 : Int32) else (1 : Int32) <<< (nI p &&& 31)) = nI x
    rw [e]
    repeat' split
    · exact ⟨x, hx, Int32.or_zero⟩
    · exact ⟨x, hx, Int32.or_zero⟩
    · exact ⟨x ||| 2 ^ p, Nat.or_lt_two_pow (n := 8) hx (Nat.pow_lt_pow_right (by omega) (by omega)), or_bit p (by omega) x hx⟩
theorem bits256 : ∀ x, x < 256 → s_J6_bitCount_0f7a4 (nI x) = mBits (nI x) 8 := by decide +kernel
theorem wbits (so su : Nat → Int32) : s_J6_bitCount_0f7a4 (cWb so su 8) = mBits (mW so su 8) 8 := by
  obtain ⟨x, hx, e⟩ := mW_n so su 8 (Nat.le_refl _)
  rw [wb_mW, e]
  exact bits256 x hx
theorem count_ans {n0 n1 : Nat} {gS gP se mn tm tZ : Nat → Int32} (h0 : mn 0 = nI n0) (h1 : mn 1 = nI n1) (ht : ∀ t, t < 4 → tm t = tZ t) (w la : Int32) : s_count w la tZ n0 n1 gS gP se = s_X12_count w la (-1) (dj gS gP) mn se tm n0 n1 := by
  unfold s_count s_X12_count s_X12_manyThings kT kC kV
  rw [wbits, h0, h1, ht 0 (by omega), ht 1 (by omega), ht 2 (by omega), ht 3 (by omega)]
