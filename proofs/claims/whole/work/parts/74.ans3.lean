/-! trays -/
def tRel (tr tm tZ : Nat → Int32) (tG : Nat → Nat → Int32) : Prop := ∀ t, t < 4 → tm t = tZ t ∧ (0 ≤ (tZ t).toInt ∧ (tZ t).toInt ≤ 8) ∧ ∀ j, j < 32 → tr (32 * t + j) = tG t j
theorem tz_n {x : Int32} (h : 0 ≤ x.toInt ∧ x.toInt ≤ 8) : ∃ z, z ≤ 8 ∧ x = nI z := by
  have o : (0 : Int32).toInt = 0 := rfl
  obtain ⟨j, hj, e⟩ := nI_of (x := x) (by rw [i32_lt]; omega)
  subst e
  rw [nI_toInt hj] at h
  exact ⟨j, by omega, rfl⟩
theorem has10 {x : Int32} {n : Nat} (hn : n ≤ 60) : s_X10_has x (nI n) = 0 ↔ ¬ (0 ≤ x.toInt ∧ x.toInt < n) := has_nJ hn
theorem tray_n : ∀ t, t < 4 → ¬ s_X12_isTray (nI t) = 0 := by decide +kernel
theorem thing_iff {tr tm tZ : Nat → Int32} {tG : Nat → Nat → Int32} (h : tRel tr tm tZ tG) {t : Nat} (ht : t < 4) (i : Int32) : s_X10_has i (tZ t) = 0 ↔ s_X12_isThing (nI t) i tm = 0 := by
  obtain ⟨h1, h2, -⟩ := h t ht
  obtain ⟨z, hz, e⟩ := tz_n h2
  unfold s_X12_isThing
  rw [if_neg (tray_n t ht), nI_clamp (by omega), h1, e, has10 (by omega), ← in_m1 (x := i) (show z ≤ 60 by omega)]
  split <;> simp_all
theorem has_n10 {tr tm tZ : Nat → Int32} {tG : Nat → Nat → Int32} (h : tRel tr tm tZ tG) {t : Nat} (ht : t < 4) {i : Int32} (hi : ¬ s_X10_has i (tZ t) = 0) : ∃ j, j < 8 ∧ i = nI j := by
  obtain ⟨h1, h2, -⟩ := h t ht
  obtain ⟨z, hz, e⟩ := tz_n h2
  rw [e, has10 (by omega), Decidable.not_not] at hi
  have o : (0 : Int32).toInt = 0 := rfl
  obtain ⟨j, hj, q⟩ := nI_of (x := i) (by rw [i32_lt]; omega)
  subst q
  rw [nI_toInt hj] at hi
  exact ⟨j, by omega, rfl⟩
theorem col_eq {tr tm tZ : Nat → Int32} {tG : Nat → Nat → Int32} (h : tRel tr tm tZ tG) {t i w : Nat} (ht : t < 4) (hh : ¬ s_X10_has (nI i) (tZ t) = 0) (hi : i < 8) (hw : w < 4) : s_X10_column (nI i) (nI w) (tZ t) (tG t) = tr (((32 * nI t) + (4 * nI i)) + nI w).toNatClampNeg := by
  obtain ⟨-, -, h3⟩ := h t ht
  unfold s_X10_column
  have z0 : (0 : Int32).toInt = 0 := rfl
  have z3 : (3 : Int32).toInt = 3 := rfl
  rw [if_neg hh, if_neg (by rw [in_yes, nI_toInt (by omega)]; omega)]
  rw [show (4 : Int32) = nI 4 from rfl, show (32 : Int32) = nI 32 from rfl, pk_mul, pk_mul, nI_add, nI_add, nI_add, nI_clamp (by omega), nI_clamp (by omega), show 32 * t + 4 * i + w = 32 * t + (4 * i + w) by omega, h3 _ (by omega)]
theorem thing_ans {tr tm tZ : Nat → Int32} {tG : Nat → Nat → Int32} (h : tRel tr tm tZ tG) {t : Nat} (ht : t < 4) (i w : Int32) : s_thing i w (tZ t) (tG t) = s_X12_thing (nI t) i w tr tm := by
  unfold s_thing s_X12_thing
  refine ifc (thing_iff h ht i) (fun a => ifc (in_min rfl rfl) (fun b => ?_))
  obtain ⟨j, hj, rfl⟩ := has_n10 h ht a
  obtain ⟨c, hc, rfl⟩ := wi_n (m := 3) rfl b
  exact col_eq h ht a hj (by omega)
theorem prod_eq {tr tm tZ : Nat → Int32} {tG : Nat → Nat → Int32} (h : tRel tr tm tZ tG) {t : Nat} (ht : t < 4) {i j : Int32} (hi : ¬ s_X10_has i (tZ t) = 0) (hj : ¬ s_X10_has j (tZ t) = 0) : s_X10_product i j (tZ t) (tG t) = s_X12_product (nI t) i j tr := by
  obtain ⟨x, hx, rfl⟩ := has_n10 h ht hi
  obtain ⟨y, hy, rfl⟩ := has_n10 h ht hj
  have a1 := col_eq (w := 1) h ht hi hx (by omega)
  have a2 := col_eq (w := 2) h ht hi hx (by omega)
  have a3 := col_eq (w := 3) h ht hi hx (by omega)
  have b1 := col_eq (w := 1) h ht hj hy (by omega)
  have b2 := col_eq (w := 2) h ht hj hy (by omega)
  have b3 := col_eq (w := 3) h ht hj hy (by omega)
  have a1 : s_X10_column (nI x) (1 : Int32) (tZ t) (tG t) = tr (((32 * nI t) + (4 * nI x)) + 1).toNatClampNeg := a1
  have a2 : s_X10_column (nI x) (2 : Int32) (tZ t) (tG t) = tr (((32 * nI t) + (4 * nI x)) + 2).toNatClampNeg := a2
  have a3 : s_X10_column (nI x) (3 : Int32) (tZ t) (tG t) = tr (((32 * nI t) + (4 * nI x)) + 3).toNatClampNeg := a3
  have b1 : s_X10_column (nI y) (1 : Int32) (tZ t) (tG t) = tr (((32 * nI t) + (4 * nI y)) + 1).toNatClampNeg := b1
  have b2 : s_X10_column (nI y) (2 : Int32) (tZ t) (tG t) = tr (((32 * nI t) + (4 * nI y)) + 2).toNatClampNeg := b2
  have b3 : s_X10_column (nI y) (3 : Int32) (tZ t) (tG t) = tr (((32 * nI t) + (4 * nI y)) + 3).toNatClampNeg := b3
  unfold s_X10_product s_X12_product
  rw [a1, a2, a3, b1, b2, b3, Int32.zero_add]
theorem share_ans {tr tm tZ : Nat → Int32} {tG : Nat → Nat → Int32} (h : tRel tr tm tZ tG) {t : Nat} (ht : t < 4) (i j : Int32) : s_share i j (tZ t) (tG t) = s_X12_shareBy (nI t) i j tr tm := by
  unfold s_share s_X12_shareBy
  refine ifc (thing_iff h ht i) (fun a => ifc (thing_iff h ht j) (fun b => ?_))
  rw [cFlo_eq, prod_eq h ht a b, prod_eq h ht a a]
theorem tm_ok {tr tm tZ : Nat → Int32} {tG : Nat → Nat → Int32} (h : tRel tr tm tZ tG) : tmOk tm := fun j hj => by rw [(h j hj).1]; exact (h j hj).2.1
theorem trc_of {tr tm tZ : Nat → Int32} {tG : Nat → Nat → Int32} (h : tRel tr tm tZ tG) (ho : trOk tr tm) {t : Nat} (ht : t < 4) : trOkC (tZ t) (tG t) := by
  intro i j hi hj
  rw [prod_eq h ht hi hj, prod_eq h ht hi hi]
  exact sh_h (tm_ok h) ho (fun q => hi ((thing_iff h ht i).mpr q)) (fun q => hj ((thing_iff h ht j).mpr q))
