/-! the votes of the class are the model's -/
theorem fR_hom {α β : Type} (φ : α → β) {H : Nat → α → α} {S : Nat → β → β} (h : ∀ k x, φ (H k x) = S k (φ x)) (x : α) (a : Nat) : ∀ t, φ (fR H x a t) = fR S (φ x) a t
  | 0 => rfl
  | t + 1 => by
    show φ (H (a + t) (fR H x a t)) = S (a + t) (fR S (φ x) a t)
    rw [h, fR_hom φ h x a t]
theorem fR_rel {α β : Type} (R : α → β → Prop) {H : Nat → α → α} {S : Nat → β → β} {a : Nat} {x : α} {y : β} (h0 : R x y) : ∀ (t : Nat), (∀ k x y, a ≤ k → k < a + t → R x y → R (H k x) (S k y)) → R (fR H x a t) (fR S y a t)
  | 0, _ => h0
  | t + 1, h => h (a + t) _ _ (by omega) (by omega) (fR_rel R h0 t (fun k x y h1 h2 => h k x y h1 (by omega)))
theorem fR_id {α : Type} (x : α) (a : Nat) : ∀ t, fR (fun _ y => y) x a t = x
  | 0 => rfl
  | t + 1 => fR_id x a t
theorem fR_cg {α : Type} {H S : Nat → α → α} {a : Nat} {x : α} : ∀ (t : Nat), (∀ k x, a ≤ k → k < a + t → H k x = S k x) → fR H x a t = fR S x a t
  | 0, _ => rfl
  | t + 1, h => by
    show H (a + t) (fR H x a t) = S (a + t) (fR S x a t)
    rw [fR_cg t (fun k x h1 h2 => h k x h1 (by omega)), h _ _ (by omega) (by omega)]
def trX (n : Nat) : List tri := fR (fun i L => fR (fun j L => fR (fun k L => L ++ [(i, j, k)]) L (j + 1) (n - (j + 1))) L (i + 1) (n - (i + 1))) [] 0 n
set_option maxRecDepth 100000 in
theorem trL_X : ∀ n, n < 13 → trL n = trX n := by decide +kernel
theorem fR_fold {α : Type} (G : tri → α → α) (L : List tri) (X : α) : ∀ t, t ≤ L.length → fR (fun c X => G (tGet L c) X) X 0 t = (L.take t).foldl (fun X t => G t X) X
  | 0, _ => rfl
  | t + 1, h => by
    show G (tGet L (0 + t)) (fR (fun c X => G (tGet L c) X) X 0 t) = _
    rw [fR_fold G L X t (by omega), List.take_succ, List.foldl_append, Nat.zero_add]
    have e : L[t]? = some L[t] := List.getElem?_eq_getElem (by omega)
    have g : tGet L t = L[t] := by unfold tGet; rw [List.getD_eq_getElem?_getD, e]; rfl
    rw [e, g]; rfl
def fT {α : Type} (G : tri → α → α) (n : Nat) (X : α) : α := fR (fun i X => fR (fun j X => fR (fun k X => G (i, j, k) X) X (j + 1) (n - (j + 1))) X (i + 1) (n - (i + 1))) X 0 n
theorem fold_X {α : Type} (G : tri → α → α) (n : Nat) (X : α) : (trX n).foldl (fun X t => G t X) X = fT G n X := by
  unfold trX fT
  exact fR_hom (fun L : List tri => L.foldl (fun X t => G t X) X) (fun i L => fR_hom (fun L : List tri => L.foldl (fun X t => G t X) X) (fun j L => fR_hom (fun L : List tri => L.foldl (fun X t => G t X) X) (fun k L => by simp) L (j + 1) (n - (j + 1))) L (i + 1) (n - (i + 1))) [] 0 n
theorem look_T {K : Type} (th : K → Int32 → Int32 → Int32 → Int32 → K) (sP sS : Nat → Nat → Int32) (bk : Int32) {n : Nat} (hn : n ≤ 12) (p q r : Nat) (X : Int32 × K) : cLook th sP sS bk (trL n) p q r X = fT (cLk1 th sP sS bk p q r) n X := by
  unfold cLook cLkN
  rw [fR_fold _ _ _ _ (Nat.le_refl _), List.take_length, trL_X n (by omega), fold_X]
theorem mLook_T (di se : Nat → Int32) (n p q r : Nat) (st : mVS) : mLook di se n p q r st = fT (fun t st => mMeet di se p q r t.1 t.2.1 t.2.2 st) n st := rfl
theorem fT_rel {α β : Type} (R : α → β → Prop) {G : tri → α → α} {H : tri → β → β} {n : Nat} {x : α} {y : β} (h0 : R x y) (h : ∀ i j k x y, i < j → j < k → k < n → R x y → R (G (i, j, k) x) (H (i, j, k) y)) : R (fT G n x) (fT H n y) :=
  fR_rel R h0 n (fun i x y hi1 hi2 h1 => fR_rel R h1 _ (fun j x y hj1 hj2 h2 => fR_rel R h2 _ (fun k x y hk1 hk2 h3 => h i j k x y (by omega) (by omega) (by omega) h3)))
theorem fT_id {α : Type} (n : Nat) (x : α) : fT (fun _ y => y) n x = x := by
  unfold fT
  have e : (fun (i : Nat) (X : α) => fR (fun j X => fR (fun _ X => X) X (j + 1) (n - (j + 1))) X (i + 1) (n - (i + 1))) = fun _ X => X := by
    funext i X
    have e2 : (fun (j : Nat) (X : α) => fR (fun _ X => X) X (j + 1) (n - (j + 1))) = fun _ X => X := by
      funext j X; exact fR_id _ _ _
    rw [e2]; exact fR_id _ _ _
  rw [e]; exact fR_id _ _ _
theorem walk_rel {K : Type} {th : K → Int32 → Int32 → Int32 → Int32 → K} {sP sS : Nat → Nat → Int32} {bk : Int32} {n0 n1 : Nat} {di se : Nat → Int32} {go : Int32} {st0 : K} (R : Int32 × K → mVS → Prop) (hn : n0 ≤ 12) (h0 : R (0, st0) (kI 0, 0, 0))
    (hm : ∀ p q r i j k X st, p < q → q < r → r < n1 → i < j → j < k → k < n0 → ¬ nI p = go → ¬ nI q = go → ¬ nI r = go → R X st → R (cLk1 th sP sS bk p q r (i, j, k) X) (mMeet di se p q r i j k st))
    (hs : ∀ p q r i j k X st, p < q → q < r → r < n1 → i < j → j < k → k < n0 → (nI p = go ∨ nI q = go ∨ nI r = go) → R X st → R (cLk1 th sP sS bk p q r (i, j, k) X) st) : R (cWalk th sP sS bk n0 n1 st0) (mVotes di se n0 n1 go) := by
  unfold cWalk mVotes
  refine fR_rel R h0 n1 (fun p x y hp1 hp2 h1 => fR_rel R h1 _ (fun q x y hq1 hq2 h2 => fR_rel R h2 _ (fun r x y hr1 hr2 h3 => ?_)))
  show R (cLook th sP sS bk (trL n0) p q r x) (mVr di se n0 go p q r y)
  rw [look_T _ _ _ _ hn]
  have skip : (nI p = go ∨ nI q = go ∨ nI r = go) → R (fT (cLk1 th sP sS bk p q r) n0 x) y := by
    intro hg
    rw [← fT_id n0 y]
    exact fT_rel R h3 (fun i j k x y h1 h2 h4 h5 => hs p q r i j k x y (by omega) (by omega) (by omega) h1 h2 h4 hg h5)
  unfold mVr
  by_cases g1 : nI p = go
  · rw [if_pos g1]; exact skip (Or.inl g1)
  · rw [if_neg g1]
    by_cases g2 : nI q = go
    · rw [if_pos g2]; exact skip (Or.inr (Or.inl g2))
    · rw [if_neg g2]
      by_cases g3 : nI r = go
      · rw [if_pos g3]; exact skip (Or.inr (Or.inr g3))
      · rw [if_neg g3, mLook_T]
        exact fT_rel R h3 (fun i j k x y h1 h2 h4 h5 => hm p q r i j k x y (by omega) (by omega) (by omega) h1 h2 h4 g1 g2 g3 h5)
/-! sides and keys -/
theorem ofS {gS gP : Nat → Int32} {i w : Nat} (hi : i < 12) (hw : w < 3) : s_X12_of (0 : Int32) (nI i) (nI w) (dj gS gP) = gS (3 * i + w) := by
  unfold s_X12_of
  have e : ((36 * (0 : Int32)) + (3 * nI i)) + nI w = nI (3 * i + w) := by
    rw [show (36 : Int32) * 0 = nI 0 from rfl, show (3 : Int32) = nI 3 from rfl, pk_mul, nI_add, nI_add, Nat.zero_add]
  rw [e, nI_clamp (by omega)]
  unfold dj; rw [if_pos (by omega)]
theorem ofP {gS gP : Nat → Int32} {i w : Nat} (hi : i < 8) (hw : w < 3) : s_X12_of (1 : Int32) (nI i) (nI w) (dj gS gP) = gP (3 * i + w) := by
  unfold s_X12_of
  have e : ((36 * (1 : Int32)) + (3 * nI i)) + nI w = nI (36 + (3 * i + w)) := by
    rw [show (36 : Int32) * 1 = nI 36 from rfl, show (3 : Int32) = nI 3 from rfl, pk_mul, nI_add, nI_add, Nat.add_assoc]
  rw [e, nI_clamp (by omega)]
  unfold dj; rw [if_neg (by omega), Nat.add_sub_cancel_left]
theorem partN {g : Nat → Int32} {n i w : Nat} (hi : i < n) (hn : n ≤ 12) (hw : w < 3) : s_X1_part (nI i) (nI w) (nI n) g = g (3 * i + w) := by
  have h1 : ¬ s_X1_has (nI i) (nI n) = 0 := by
    unfold s_X1_has
    rw [if_neg (nI_pos (by omega)), if_neg (nI_ge hi (by omega))]; decide
  have h2 : ¬ s_X11_isWithin (nI w) (0 : Int32) (2 : Int32) = 0 := by
    rw [in_yes, nI_toInt (by omega)]
    have e0 : (0 : Int32).toInt = 0 := rfl
    have e2 : (2 : Int32).toInt = 2 := rfl
    omega
  unfold s_X1_part
  rw [if_neg h1, if_neg h2, show (3 : Int32) = nI 3 from rfl, pk_mul, nI_add, nI_clamp (by omega)]
theorem partS {gS gP : Nat → Int32} {n i w : Nat} (hi : i < n) (hn : n ≤ 12) (hw : w < 3) : s_X1_part (nI i) (nI w) (nI n) gS = s_X12_of (0 : Int32) (nI i) (nI w) (dj gS gP) := by rw [partN hi hn hw, ofS (by omega) hw]
theorem partP {gS gP : Nat → Int32} {n i w : Nat} (hi : i < n) (hn : n ≤ 8) (hw : w < 3) : s_X1_part (nI i) (nI w) (nI n) gP = s_X12_of (1 : Int32) (nI i) (nI w) (dj gS gP) := by rw [partN hi (by omega) hw, ofP (by omega) hw]
theorem sdS {gS gP : Nat → Int32} {n i j : Nat} (hi : i < n) (hj : j < n) (hn : n ≤ 12) : cSD gS n i j = s_X12_sideOf (0 : Int32) (nI i) (nI j) (dj gS gP) := by
  have a := partS (gS := gS) (gP := gP) (w := 0) hi hn (by omega)
  have b := partS (gS := gS) (gP := gP) (w := 1) hi hn (by omega)
  have c := partS (gS := gS) (gP := gP) (w := 2) hi hn (by omega)
  have d := partS (gS := gS) (gP := gP) (w := 0) hj hn (by omega)
  have e := partS (gS := gS) (gP := gP) (w := 1) hj hn (by omega)
  have f := partS (gS := gS) (gP := gP) (w := 2) hj hn (by omega)
  show s_X1_sideOf (nI i) (nI j) (nI n) gS = _
  unfold s_X1_sideOf s_X12_sideOf
  rw [Int32.zero_add]
  rw [show (0 : Int32) = nI 0 from rfl, show (1 : Int32) = nI 1 from rfl, show (2 : Int32) = nI 2 from rfl, a, b, c, d, e, f]
  rfl
theorem sdP {gS gP : Nat → Int32} {n i j : Nat} (hi : i < n) (hj : j < n) (hn : n ≤ 8) : cSD gP n i j = s_X12_sideOf (1 : Int32) (nI i) (nI j) (dj gS gP) := by
  have a := partP (gS := gS) (gP := gP) (w := 0) hi hn (by omega)
  have b := partP (gS := gS) (gP := gP) (w := 1) hi hn (by omega)
  have c := partP (gS := gS) (gP := gP) (w := 2) hi hn (by omega)
  have d := partP (gS := gS) (gP := gP) (w := 0) hj hn (by omega)
  have e := partP (gS := gS) (gP := gP) (w := 1) hj hn (by omega)
  have f := partP (gS := gS) (gP := gP) (w := 2) hj hn (by omega)
  have a : s_X1_part (nI i) (0 : Int32) (nI n) gP = s_X12_of (1 : Int32) (nI i) (0 : Int32) (dj gS gP) := a
  have b : s_X1_part (nI i) (1 : Int32) (nI n) gP = s_X12_of (1 : Int32) (nI i) (1 : Int32) (dj gS gP) := b
  have c : s_X1_part (nI i) (2 : Int32) (nI n) gP = s_X12_of (1 : Int32) (nI i) (2 : Int32) (dj gS gP) := c
  have d : s_X1_part (nI j) (0 : Int32) (nI n) gP = s_X12_of (1 : Int32) (nI j) (0 : Int32) (dj gS gP) := d
  have e : s_X1_part (nI j) (1 : Int32) (nI n) gP = s_X12_of (1 : Int32) (nI j) (1 : Int32) (dj gS gP) := e
  have f : s_X1_part (nI j) (2 : Int32) (nI n) gP = s_X12_of (1 : Int32) (nI j) (2 : Int32) (dj gS gP) := f
  show s_X1_sideOf (nI i) (nI j) (nI n) gP = _
  unfold s_X1_sideOf s_X12_sideOf
  rw [Int32.zero_add, a, b, c, d, e, f]
theorem i32_dv {a b : Int32} (ha : 0 ≤ a.toInt) (hb : 1 ≤ b.toInt) : (a / b).toInt = a.toInt / b.toInt := by
  obtain ⟨x, hx, rfl⟩ := nI_of (x := a) (by rw [i32_lt]; have : (0 : Int32).toInt = 0 := rfl; omega)
  obtain ⟨y, hy, rfl⟩ := nI_of (x := b) (by rw [i32_lt]; have : (0 : Int32).toInt = 0 := rfl; omega)
  rw [nI_toInt hy] at hb
  rw [pk_div hx (by omega) hy, nI_toInt (by have := Nat.div_le_self x y; omega), nI_toInt hx, nI_toInt hy]
  exact Int.natCast_ediv x y
theorem df_bd {a b : Int32} (ha : -100 ≤ a.toInt ∧ a.toInt ≤ 100) (hb : -100 ≤ b.toInt ∧ b.toInt ≤ 100) : 0 ≤ ((a - b) * (a - b)).toInt ∧ ((a - b) * (a - b)).toInt ≤ 40000 := by
  have e : (a - b).toInt = a.toInt - b.toInt := i32_sub (by omega) (by omega)
  have q := int_mulb (x := (a - b).toInt) (y := (a - b).toInt) (a := 200) (b := 200) (by omega) (by omega)
  have e2 : ((a - b) * (a - b)).toInt = (a - b).toInt * (a - b).toInt := i32_mul (by omega) (by omega)
  have z := sq0 (a - b).toInt
  omega
theorem side_bd {di : Nat → Int32} (hd : dOk di) {k i j : Int32} (hi : dIn k i) (hj : dIn k j) : 0 ≤ (s_X12_sideOf k i j di).toInt ∧ (s_X12_sideOf k i j di).toInt ≤ 120000 := by
  have g : ∀ {i w : Int32}, dIn k i → 0 ≤ w.toInt ∧ w.toInt ≤ 2 → -100 ≤ (s_X12_of k i w di).toInt ∧ (s_X12_of k i w di).toInt ≤ 100 := by
    intro i w h hw
    have := of_bd hd h hw
    unfold bd at this
    rwa [i32_w] at this
  have q0 := df_bd (g hi w0) (g hj w0)
  have q1 := df_bd (g hi w1) (g hj w1)
  have q2 := df_bd (g hi w2) (g hj w2)
  unfold s_X12_sideOf
  rw [Int32.zero_add]
  have e1 := i32_add (x := ((s_X12_of k i (0 : Int32) di) - (s_X12_of k j (0 : Int32) di)) * ((s_X12_of k i (0 : Int32) di) - (s_X12_of k j (0 : Int32) di))) (y := ((s_X12_of k i (1 : Int32) di) - (s_X12_of k j (1 : Int32) di)) * ((s_X12_of k i (1 : Int32) di) - (s_X12_of k j (1 : Int32) di))) (by omega) (by omega)
  rw [i32_add (by omega) (by omega)]
  omega
theorem min3 (x y z : Int32) : (if (if z < y then z else y) < x then (if z < y then z else y) else x) = s_X12_lesser x (s_X12_lesser z y) := by
  unfold s_X12_lesser
  repeat' split
  all_goals simp_all only [i32_le, i32_lt, i32_eq]
  all_goals omega
theorem max3 (x y z : Int32) : (if x < (if y < z then z else y) then (if y < z then z else y) else x) = s_X12_greater x (s_X12_greater z y) := by
  unfold s_X12_greater
  repeat' split
  all_goals simp_all only [i32_le, i32_lt, i32_eq]
  all_goals omega
theorem les_bd (a b : Int32) : (s_X12_lesser a b).toInt ≤ a.toInt ∧ (s_X12_lesser a b).toInt ≤ b.toInt ∧ ((s_X12_lesser a b).toInt = a.toInt ∨ (s_X12_lesser a b).toInt = b.toInt) := by
  unfold s_X12_lesser
  by_cases h : b ≤ a
  · rw [if_pos h]; rw [i32_le] at h; exact ⟨h, Int.le_refl _, Or.inr rfl⟩
  · rw [if_neg h]; rw [i32_le] at h; exact ⟨Int.le_refl _, by omega, Or.inl rfl⟩
theorem gre_bd (a b : Int32) : a.toInt ≤ (s_X12_greater a b).toInt ∧ b.toInt ≤ (s_X12_greater a b).toInt ∧ ((s_X12_greater a b).toInt = a.toInt ∨ (s_X12_greater a b).toInt = b.toInt) := by
  unfold s_X12_greater
  by_cases h : a ≤ b
  · rw [if_pos h]; rw [i32_le] at h; exact ⟨h, Int.le_refl _, Or.inr rfl⟩
  · rw [if_neg h]; rw [i32_le] at h; exact ⟨Int.le_refl _, by omega, Or.inl rfl⟩
theorem if3 {α : Type} {P Q R : Prop} [Decidable P] [Decidable Q] [Decidable R] (a b : α) : (if P then a else if Q then a else if R then a else b) = if (P ∨ Q) ∨ R then a else b := by
  by_cases hP : P <;> by_cases hQ : Q <;> by_cases hR : R <;> simp [hP, hQ, hR]
theorem key_eq {x y z q w : Int32} (hq : 1 ≤ q) : s_X11_keyNumber w x y z q = if w = 0 then ((s_X12_lesser x (s_X12_lesser z y)) / q) else (if w = 2 then ((s_X12_greater x (s_X12_greater z y)) / q) else (((((x + z) + y) - (s_X12_lesser x (s_X12_lesser z y))) - (s_X12_greater x (s_X12_greater z y))) / q)) := by
  unfold s_X11_keyNumber
  rw [if_pos hq, if_pos hq, if_pos hq, min3, max3, Int32.add_assoc x y z, Int32.add_comm y z, ← Int32.add_assoc]
theorem key_bd {x y z q w : Int32} (hq : 1 ≤ q) (hx : 0 ≤ x.toInt ∧ x.toInt ≤ 120000) (hy : 0 ≤ y.toInt ∧ y.toInt ≤ 120000) (hz : 0 ≤ z.toInt ∧ z.toInt ≤ 120000) : 0 ≤ (s_X11_keyNumber w x y z q).toInt ∧ (s_X11_keyNumber w x y z q).toInt ≤ 360000 := by
  have hq' : 1 ≤ q.toInt := by rw [i32_le] at hq; exact hq
  have dv : ∀ a : Int32, 0 ≤ a.toInt → a.toInt ≤ 360000 → 0 ≤ (a / q).toInt ∧ (a / q).toInt ≤ 360000 := by
    intro a h1 h2
    rw [i32_dv h1 hq']
    have := Int.ediv_le_self q.toInt h1
    have := Int.ediv_nonneg h1 (show 0 ≤ q.toInt by omega)
    omega
  rw [key_eq hq]
  have l1 := les_bd z y
  have l2 := les_bd x (s_X12_lesser z y)
  have g1 := gre_bd z y
  have g2 := gre_bd x (s_X12_greater z y)
  have s1 : (x + z).toInt = x.toInt + z.toInt := i32_add (by omega) (by omega)
  have s2 : (x + z + y).toInt = x.toInt + z.toInt + y.toInt := by rw [i32_add (by omega) (by omega), s1]
  have s3 : (x + z + y - s_X12_lesser x (s_X12_lesser z y)).toInt = x.toInt + z.toInt + y.toInt - (s_X12_lesser x (s_X12_lesser z y)).toInt := by rw [i32_sub (by omega) (by omega), s2]
  have s4 : (x + z + y - s_X12_lesser x (s_X12_lesser z y) - s_X12_greater x (s_X12_greater z y)).toInt = x.toInt + z.toInt + y.toInt - (s_X12_lesser x (s_X12_lesser z y)).toInt - (s_X12_greater x (s_X12_greater z y)).toInt := by rw [i32_sub (by omega) (by omega), s3]
  repeat' split
  all_goals refine dv _ (by omega) (by omega)
theorem absA {a b : Int32} (ha : 0 ≤ a.toInt ∧ a.toInt ≤ 360000) (hb : 0 ≤ b.toInt ∧ b.toInt ≤ 360000) : cAbs (a - b) = s_X12_apart a b := by
  have e : (a - b).toInt = a.toInt - b.toInt := i32_sub (by omega) (by omega)
  have e2 : (b - a).toInt = b.toInt - a.toInt := i32_sub (by omega) (by omega)
  have e0 : (0 : Int32).toInt = 0 := rfl
  have e3 : (0 - (a - b)).toInt = b.toInt - a.toInt := by rw [i32_sub (by omega) (by omega)]; omega
  unfold cAbs s_X12_apart
  repeat' split
  all_goals simp_all only [i32_le, i32_eq]
  all_goals omega
theorem apart_c (a b : Int32) : s_X12_apart a b = s_X12_apart b a := by
  unfold s_X12_apart
  by_cases h : a = b
  · subst h; rfl
  · repeat' split
    all_goals simp_all only [i32_le, i32_eq]
    all_goals omega
theorem apart_bd {a b : Int32} (ha : 0 ≤ a.toInt ∧ a.toInt ≤ 360000) (hb : 0 ≤ b.toInt ∧ b.toInt ≤ 360000) : 0 ≤ (s_X12_apart a b).toInt ∧ (s_X12_apart a b).toInt ≤ 360000 := by
  have e : (a - b).toInt = a.toInt - b.toInt := i32_sub (by omega) (by omega)
  have e2 : (b - a).toInt = b.toInt - a.toInt := i32_sub (by omega) (by omega)
  unfold s_X12_apart
  repeat' split
  all_goals simp_all only [i32_le]
  all_goals omega
/-- what an order needs -/
def mNeed (di : Nat → Int32) (p q r i j k : Nat) : Int32 := cMax (cMax (s_X12_apart (s_X12_sideOf (1 : Int32) (nI p) (nI q) di) (s_X12_sideOf (0 : Int32) (nI i) (nI j) di)) (s_X12_apart (s_X12_sideOf (1 : Int32) (nI q) (nI r) di) (s_X12_sideOf (0 : Int32) (nI j) (nI k) di))) (s_X12_apart (s_X12_sideOf (1 : Int32) (nI p) (nI r) di) (s_X12_sideOf (0 : Int32) (nI i) (nI k) di))
theorem cMax_lt (t a b : Int32) : t < cMax a b ↔ t < a ∨ t < b := by
  unfold cMax
  split
  all_goals simp_all only [i32_lt]
  all_goals omega
theorem like0 (p q i j : Nat) (di se : Nat → Int32) : s_X12_isLike p q i j di se = 0 ↔ se 1 < s_X12_apart (s_X12_sideOf (1 : Int32) (nI p) (nI q) di) (s_X12_sideOf (0 : Int32) (nI i) (nI j) di) := by
  unfold s_X12_isLike
  split
  · simp_all
  · simp_all
theorem tr11 (p q r i j k : Nat) (ma : Int32) (di se : Nat → Int32) : t_X12_tries_87_11 p q r i j k ma di se = if se 1 < mNeed di p q r i j k then ma else ma + 1 := by
  unfold t_X12_tries_87_11 mNeed
  simp only [cMax_lt, like0]
  exact if3 _ _
theorem tr95 {p q r i j k : Nat} (hp : p < 8) (hq : q < 8) (hr : r < 8) (hi : i < 12) (hj : j < 12) (hk : k < 12) (di se vo : Nat → Int32) : t_X12_tries_95 p q r i j k di se vo = if se 1 < mNeed di p q r i j k then vo else v3 vo (nI (12 * p + i)) (nI (12 * q + j)) (nI (12 * r + k)) := by
  unfold t_X12_tries_95 mNeed v3
  rw [nI_clamp (show 12 * p + i < 2 ^ 31 by omega), nI_clamp (show 12 * q + j < 2 ^ 31 by omega), nI_clamp (show 12 * r + k < 2 ^ 31 by omega)]
  simp only [cMax_lt, like0]
  exact if3 _ _
