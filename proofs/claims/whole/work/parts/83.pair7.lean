/-! PAIRS: add, back, set -/
theorem JC_n {ca ad : Nat → Nat} {la : Int32} {n0 n1 n0' n1' : Nat} {gS gP se gS' gP' se' tS tP tZ : Nat → Int32} {tG : Nat → Nat → Int32} {fm ln : Nat → Int32} {sG : Nat → Nat → Int32} {f u : Nat → va_E} (h : JC ca ad la n0 n1 gS gP se tS tP tZ tG fm ln sG f) (hI : cSI ca ad n0' n1' gS' gP' se' u) (e : ∀ k, k = 0 ∨ 69 ≤ k → u k = f k) : JC ca ad la n0' n1' gS' gP' se' tS tP tZ tG fm ln sG u :=
  ⟨(e 0 (Or.inl rfl)).trans h.1, hI, cTr_c h.2.2.1 (fun k h1 _ => e k (Or.inr h1)), cSh_c h.2.2.2 (fun k h2 => e k (Or.inr (by omega)))⟩
theorem dir_eq (x y z : Int32) : s_X11_mayBeDirection x y z = s_X12_isDirection x y z := by
  unfold s_X11_mayBeDirection s_X12_isDirection
  exact ifc (in_min rfl rfl) (fun _ => ifc (in_min rfl rfl) (fun _ => ifc (in_min rfl rfl) (fun _ => rfl)))
theorem dir_ok {x y z : Int32} (h : ¬ s_X11_mayBeDirection x y z = 0) : (-100 ≤ x.toInt ∧ x.toInt ≤ 100) ∧ (-100 ≤ y.toInt ∧ y.toInt ≤ 100) ∧ (-100 ≤ z.toInt ∧ z.toInt ≤ 100) ∧ ¬ (x = 0 ∧ y = 0 ∧ z = 0) := by
  have e1 : (-100 : Int32).toInt = -100 := rfl
  have e2 : (100 : Int32).toInt = 100 := rfl
  unfold s_X11_mayBeDirection at h
  by_cases a : s_X11_isWithin x (-100 : Int32) (100 : Int32) = 0
  · rw [if_pos a] at h; exact absurd rfl h
  · rw [if_neg a] at h
    by_cases b : s_X11_isWithin y (-100 : Int32) (100 : Int32) = 0
    · rw [if_pos b] at h; exact absurd rfl h
    · rw [if_neg b] at h
      by_cases c : s_X11_isWithin z (-100 : Int32) (100 : Int32) = 0
      · rw [if_pos c] at h; exact absurd rfl h
      · rw [if_neg c] at h
        rw [in_yes, e1, e2] at a b c
        refine ⟨a, b, c, ?_⟩
        intro q
        rw [if_pos q.1, if_pos q.2.1, if_pos q.2.2] at h
        exact absurd rfl h
theorem full_n {m n : Nat} (hm : m ≤ 12) (hn : n ≤ 12) : s_X1_isFull (nI m) (nI n) = 0 ↔ n < m := by
  unfold s_X1_isFull
  by_cases a : nI n < nI m
  · rw [if_pos a]
    rw [i32_lt, nI_toInt (by omega), nI_toInt (by omega)] at a
    exact ⟨fun _ => by omega, fun _ => rfl⟩
  · rw [if_neg a]
    rw [i32_lt, nI_toInt (by omega), nI_toInt (by omega)] at a
    exact ⟨fun z => absurd z (by decide), fun z => absurd z (by omega)⟩
theorem nI_inj {m n : Nat} (hm : m < 100) (hn : n < 100) (h : nI m = nI n) : m = n := by
  have := congrArg Int32.toInt h
  rw [nI_toInt (by omega), nI_toInt (by omega)] at this
  omega
theorem add_ix {k n w : Nat} (hk : k < 2) (hn : n < 12) (hw : w < 3) : (((36 * nI k) + (3 * nI n)) + nI w).toNatClampNeg = 36 * k + 3 * n + w := by
  rw [show (36 : Int32) = nI 36 from rfl, show (3 : Int32) = nI 3 from rfl, pk_mul, pk_mul, nI_add, nI_add, nI_clamp (by omega)]
theorem add_ix0 {k n : Nat} (hk : k < 2) (hn : n < 12) : ((36 * nI k) + (3 * nI n)).toNatClampNeg = 36 * k + 3 * n := by
  rw [show (36 : Int32) = nI 36 from rfl, show (3 : Int32) = nI 3 from rfl, pk_mul, pk_mul, nI_add, nI_clamp (by omega)]
def up3 (g : Nat → Int32) (b : Nat) (x y z : Int32) : Nat → Int32 := upd (upd (upd g b x) (b + 1) y) (b + 2) z
theorem add_m {k n : Nat} (hk : k < 2) (hn : n < 12) (di : Nat → Int32) (x y z : Int32) : upd (upd (upd di ((36 * nI k) + (3 * nI n)).toNatClampNeg x) (((36 * nI k) + (3 * nI n)) + 1).toNatClampNeg y) (((36 * nI k) + (3 * nI n)) + 2).toNatClampNeg z = up3 di (36 * k + 3 * n) x y z := by
  have e1 : (((36 * nI k) + (3 * nI n)) + 1).toNatClampNeg = 36 * k + 3 * n + 1 := add_ix (w := 1) hk hn (by omega)
  have e2 : (((36 * nI k) + (3 * nI n)) + 2).toNatClampNeg = 36 * k + 3 * n + 2 := add_ix (w := 2) hk hn (by omega)
  rw [add_ix0 hk hn, e1, e2]
  rfl
theorem add_m0 {n : Nat} (hn : n < 12) (di : Nat → Int32) (x y z : Int32) : upd (upd (upd di ((36 * (0 : Int32)) + (3 * nI n)).toNatClampNeg x) (((36 * (0 : Int32)) + (3 * nI n)) + 1).toNatClampNeg y) (((36 * (0 : Int32)) + (3 * nI n)) + 2).toNatClampNeg z = up3 di (3 * n) x y z := by
  have := add_m (k := 0) (by omega) hn di x y z
  rw [show 36 * 0 + 3 * n = 3 * n by omega] at this
  exact this
theorem add_m1 {n : Nat} (hn : n < 12) (di : Nat → Int32) (x y z : Int32) : upd (upd (upd di ((36 * (1 : Int32)) + (3 * nI n)).toNatClampNeg x) (((36 * (1 : Int32)) + (3 * nI n)) + 1).toNatClampNeg y) (((36 * (1 : Int32)) + (3 * nI n)) + 2).toNatClampNeg z = up3 di (36 + 3 * n) x y z := add_m (k := 1) (by omega) hn di x y z
theorem w3_s0 {g : Nat → Int32} {i : Nat} {x y z : Int32} : w3 g i x y z (3 * i) = x := if_pos rfl
theorem w3_s1 {g : Nat → Int32} {i : Nat} {x y z : Int32} : w3 g i x y z (3 * i + 1) = y := by
  unfold w3; rw [if_neg (by omega), if_pos rfl]
theorem w3_s2 {g : Nat → Int32} {i : Nat} {x y z : Int32} : w3 g i x y z (3 * i + 2) = z := by
  unfold w3; rw [if_neg (by omega), if_neg (by omega), if_pos rfl]
theorem w3_o {g : Nat → Int32} {i k : Nat} {x y z : Int32} (h : k < 3 * i ∨ 3 * i + 3 ≤ k) : w3 g i x y z k = g k := by
  unfold w3; rw [if_neg (by omega), if_neg (by omega), if_neg (by omega)]
theorem up3_0 {g : Nat → Int32} {b : Nat} {x y z : Int32} : up3 g b x y z b = x := by
  unfold up3; rw [pk_un (by omega), pk_un (by omega), pk_us]
theorem up3_1 {g : Nat → Int32} {b : Nat} {x y z : Int32} : up3 g b x y z (b + 1) = y := by
  unfold up3; rw [pk_un (by omega), pk_us]
theorem up3_2 {g : Nat → Int32} {b : Nat} {x y z : Int32} : up3 g b x y z (b + 2) = z := by
  unfold up3; rw [pk_us]
theorem up3_o {g : Nat → Int32} {b j : Nat} {x y z : Int32} (h : j < b ∨ b + 3 ≤ j) : up3 g b x y z j = g j := by
  unfold up3; rw [pk_un (by omega), pk_un (by omega), pk_un (by omega)]
theorem dj_lo {gS gP : Nat → Int32} {j : Nat} (h : j < 36) : dj gS gP j = gS j := if_pos h
theorem dj_hi {gS gP : Nat → Int32} {j : Nat} (h : 36 ≤ j) : dj gS gP j = gP (j - 36) := if_neg (by omega)
theorem dj_w0 {gS gP : Nat → Int32} {n : Nat} (hn : n < 12) (x y z : Int32) : up3 (dj gS gP) (3 * n) x y z = dj (w3 gS n x y z) gP := by
  funext j
  by_cases e0 : j = 3 * n
  · subst e0; rw [up3_0, dj_lo (by omega), w3_s0]
  · by_cases e1 : j = 3 * n + 1
    · subst e1; rw [up3_1, dj_lo (by omega), w3_s1]
    · by_cases e2 : j = 3 * n + 2
      · subst e2; rw [up3_2, dj_lo (by omega), w3_s2]
      · rw [up3_o (by omega)]
        by_cases a : j < 36
        · rw [dj_lo a, dj_lo a, w3_o (by omega)]
        · rw [dj_hi (by omega), dj_hi (by omega)]
theorem dj_w1 {gS gP : Nat → Int32} {n : Nat} (x y z : Int32) : up3 (dj gS gP) (36 + 3 * n) x y z = dj gS (w3 gP n x y z) := by
  funext j
  by_cases e0 : j = 36 + 3 * n
  · subst e0; rw [up3_0, dj_hi (by omega), Nat.add_sub_cancel_left, w3_s0]
  · by_cases e1 : j = 36 + 3 * n + 1
    · subst e1; rw [up3_1, dj_hi (by omega), show 36 + 3 * n + 1 - 36 = 3 * n + 1 by omega, w3_s1]
    · by_cases e2 : j = 36 + 3 * n + 2
      · subst e2; rw [up3_2, dj_hi (by omega), show 36 + 3 * n + 2 - 36 = 3 * n + 2 by omega, w3_s2]
      · rw [up3_o (by omega)]
        by_cases a : j < 36
        · rw [dj_lo a, dj_lo a]
        · rw [dj_hi (by omega), dj_hi (by omega), w3_o (by omega)]
theorem w3_c (g : Nat → Int32) (i : Nat) (x y z : Int32) (k : Nat) : w3 g i x y z k = x ∨ w3 g i x y z k = y ∨ w3 g i x y z k = z ∨ w3 g i x y z k = g k := by
  unfold w3
  by_cases a : k = 3 * i
  · exact Or.inl (if_pos a)
  · rw [if_neg a]
    by_cases b : k = 3 * i + 1
    · exact Or.inr (Or.inl (if_pos b))
    · rw [if_neg b]
      by_cases c : k = 3 * i + 2
      · exact Or.inr (Or.inr (Or.inl (if_pos c)))
      · rw [if_neg c]; exact Or.inr (Or.inr (Or.inr rfl))
def in100 (x : Int32) : Prop := -100 ≤ x.toInt ∧ x.toInt ≤ 100
theorem dOk_w0 {gS gP : Nat → Int32} (h : dOk (dj gS gP)) {n : Nat} {x y z : Int32} (hx : in100 x) (hy : in100 y) (hz : in100 z) : dOk (dj (w3 gS n x y z) gP) := by
  intro j hj
  have o := h j hj
  by_cases a : j < 36
  · rw [dj_lo a] at o ⊢
    rcases w3_c gS n x y z j with e | e | e | e <;> rw [e]
    · exact hx
    · exact hy
    · exact hz
    · exact o
  · rw [dj_hi (by omega)] at o ⊢
    exact o
theorem dOk_w1 {gS gP : Nat → Int32} (h : dOk (dj gS gP)) {n : Nat} {x y z : Int32} (hx : in100 x) (hy : in100 y) (hz : in100 z) : dOk (dj gS (w3 gP n x y z)) := by
  intro j hj
  have o := h j hj
  by_cases a : j < 36
  · rw [dj_lo a] at o ⊢
    exact o
  · rw [dj_hi (by omega)] at o ⊢
    rcases w3_c gP n x y z (j - 36) with e | e | e | e <;> rw [e]
    · exact hx
    · exact hy
    · exact hz
    · exact o
theorem nzD_w {g : Nat → Int32} {n : Nat} (h : nzD g n) {x y z : Int32} (hz : ¬ (x = 0 ∧ y = 0 ∧ z = 0)) : nzD (w3 g n x y z) (n + 1) := by
  intro i hi
  by_cases e : i = n
  · subst e; rw [w3_s0, w3_s1, w3_s2]; exact hz
  · rw [w3_o (by omega), w3_o (by omega), w3_o (by omega)]; exact h i (by omega)
theorem nI_pre {n : Nat} (h : 0 < n) : nI n - 1 = nI (n - 1) := by
  obtain ⟨m, rfl⟩ : ∃ m, n = m + 1 := ⟨n - 1, by omega⟩
  rw [← nI_add m 1, Nat.add_sub_cancel]
  exact Int32.add_sub_cancel _ _
theorem mn_u0 {mn : Nat → Int32} {v : Int32} : upd mn 0 v 1 = mn 1 := pk_un (by decide)
theorem mn_u1 {mn : Nat → Int32} {v : Int32} : upd mn 1 v 0 = mn 0 := pk_un (by decide)
theorem most_0 : s_X12_most (0 : Int32) = nI 12 := by decide +kernel
theorem most_1 : s_X12_most (1 : Int32) = nI 8 := by decide +kernel
theorem cl0 : (0 : Int32).toNatClampNeg = 0 := rfl
theorem cl1 : (1 : Int32).toNatClampNeg = 1 := rfl
theorem p_add0 {l : Launch} {D : va_G} {ca ss ad : Nat → Nat} (x y z : Int32) : gPr l D ca ss ad yX11_add cX11_add 6 2 yX12_add cX12_add 5 2 [.int 0, .int x, .int y, .int z] := by
  intro f hJ
  have hJ' := hJ
  obtain ⟨la, n0, n1, gS, gP, se, tS, tP, tZ, tG, fm, ln, sG, mn, tr, tm, ho, fo, sz, it, hC, hM, hR⟩ := hJ
  have hC' := hC
  obtain ⟨hc0, hI, hT, hS⟩ := hC
  have hR' := hR
  obtain ⟨wO, h0, h1, nzS, nzP, hTR, hTO, hHR, hSR⟩ := hR
  have hI' := hI
  obtain ⟨⟨hn0, hn1, d2, d3, d4, d5, d6⟩, hCel, lo', ma', bt, bc, sp, sc, fk, bk, sk, e1, -⟩ := hI
  by_cases hA : s_X11_mayBeDirection x y z = 0
  · have hA' : s_X12_isDirection x y z = 0 := (dir_eq x y z).symm.trans hA
    refine ⟨-2, fun u => u = f, gMi_mono (c_add0 x y z la n0 n1 gS gP se hc0 hI') (fun r u h => by rw [if_pos hA] at h; exact h), fun u hu => ?_⟩
    subst hu
    obtain ⟨dr, lo, ma, pa, tu, su, vo, so, ro, us, pl, sur, far, mo, sta, spa, sf, a87, a88, a89, a90, a91, a92, a93, a94, a95, a96, a97, a98, a99, a100, a101, a102, a103, a104, a105, a106, a107⟩ := hM
    refine gMm a87 (c_X12_add (l := l) (D := D) (ss := ss) 0 x y z la dr (-1) lo ma pa tu su (dj gS gP) mn a87 a92 a93 (mn_ok h0 h1 hn0 hn1)) (fun r u' h => ?_)
    unfold s_X12_add at h
    rw [if_neg two_0, if_pos hA'] at h
    obtain ⟨rfl, rfl⟩ := pair_eq h
    exact ⟨rfl, hJ'⟩
  · have hA' : ¬ s_X12_isDirection x y z = 0 := fun q => hA ((dir_eq x y z).trans q)
    obtain ⟨bx, bY, bz, hnz⟩ := dir_ok hA
    by_cases hB : s_X1_isFull (12 : Int32) (nI n0) = 0
    · have hlt : n0 < 12 := (full_n (m := 12) (by omega) (by omega)).mp hB
      have hne : ¬ nI n0 = s_X12_most 0 := fun q => by
        have := nI_inj (m := n0) (n := 12) (by omega) (by omega) (q.trans most_0)
        omega
      refine ⟨nI (n0 + 1), fun u => cSI ca ad (n0 + 1) n1 (w3 gS n0 x y z) gP se u ∧ ∀ k, k = 0 ∨ 69 ≤ k → u k = f k, gMi_mono (c_add0 x y z la n0 n1 gS gP se hc0 hI') (fun r u h => by rw [if_neg hA, if_pos hB] at h; exact h), fun u hu => ?_⟩
      have hMu := JM_c hM (fun k h _ => hu.2 k (by omega))
      have hCu := JC_n hC' hu.1 hu.2
      obtain ⟨dr, lo, ma, pa, tu, su, vo, so, ro, us, pl, sur, far, mo, sta, spa, sf, b87, b88, b89, b90, b91, b92, b93, b94, b95, b96, b97, b98, b99, b100, b101, b102, b103, b104, b105, b106, b107⟩ := hMu
      refine gMm b87 (c_X12_add (l := l) (D := D) (ss := ss) 0 x y z la dr (-1) lo ma pa tu su (dj gS gP) mn b87 b92 b93 (mn_ok h0 h1 hn0 hn1)) (fun r u' h => ?_)
      unfold s_X12_add at h
      rw [if_neg two_0, if_neg hA', cl0, h0, if_neg hne, add_m0 (by omega), dj_w0 hlt, pk_us, show nI n0 + 1 = nI (n0 + 1) from nI_add n0 1] at h
      obtain ⟨rfl, rfl⟩ := pair_eq h
      exact ⟨rfl, ⟨la, n0 + 1, n1, w3 gS n0 x y z, gP, se, tS, tP, tZ, tG, fm, ln, sG, upd mn 0 (nI (n0 + 1)), tr, tm, ho, fo, sz, it, JC_c hCu (fun k hk => up_nx (by omega) (up_nx (by omega) (rfl))), ⟨dr, lo, ma, pa, tu, su, vo, so, ro, us, pl, sur, far, mo, sta, spa, sf, up_nx (by decide) (up_nx (by decide) (b87)), up_nx (by decide) (up_nx (by decide) (b88)), up_nx (by decide) (up_nx (by decide) (b89)), up_nx (by decide) (up_nx (by decide) (b90)), up_nx (by decide) (up_nx (by decide) (b91)), up_nx (by decide) (va_up_self _ _ _), va_up_self _ _ _, up_nx (by decide) (up_nx (by decide) (b94)), up_nx (by decide) (up_nx (by decide) (b95)), up_nx (by decide) (up_nx (by decide) (b96)), up_nx (by decide) (up_nx (by decide) (b97)), up_nx (by decide) (up_nx (by decide) (b98)), up_nx (by decide) (up_nx (by decide) (b99)), up_nx (by decide) (up_nx (by decide) (b100)), up_nx (by decide) (up_nx (by decide) (b101)), up_nx (by decide) (up_nx (by decide) (b102)), up_nx (by decide) (up_nx (by decide) (b103)), up_nx (by decide) (up_nx (by decide) (b104)), up_nx (by decide) (up_nx (by decide) (b105)), up_nx (by decide) (up_nx (by decide) (b106)), up_nx (by decide) (up_nx (by decide) (b107))⟩, ⟨by omega, hn1, dOk_w0 wO.2.2.1 bx bY bz, wO.2.2.2⟩, pk_us, mn_u0.trans h1, nzD_w nzS hnz, nzP, hTR, hTO, hHR, hSR⟩⟩
    · have hge : ¬ n0 < 12 := fun q => hB ((full_n (m := 12) (by omega) (by omega)).mpr q)
      have he : nI n0 = s_X12_most 0 := by rw [most_0, show n0 = 12 by omega]
      refine ⟨-4, fun u => u = f, gMi_mono (c_add0 x y z la n0 n1 gS gP se hc0 hI') (fun r u h => by rw [if_neg hA, if_neg hB] at h; exact h), fun u hu => ?_⟩
      subst hu
      obtain ⟨dr, lo, ma, pa, tu, su, vo, so, ro, us, pl, sur, far, mo, sta, spa, sf, a87, a88, a89, a90, a91, a92, a93, a94, a95, a96, a97, a98, a99, a100, a101, a102, a103, a104, a105, a106, a107⟩ := hM
      refine gMm a87 (c_X12_add (l := l) (D := D) (ss := ss) 0 x y z la dr (-1) lo ma pa tu su (dj gS gP) mn a87 a92 a93 (mn_ok h0 h1 hn0 hn1)) (fun r u' h => ?_)
      unfold s_X12_add at h
      rw [if_neg two_0, if_neg hA', cl0, h0, if_pos he] at h
      obtain ⟨rfl, rfl⟩ := pair_eq h
      exact ⟨rfl, hJ'⟩

theorem p_add1 {l : Launch} {D : va_G} {ca ss ad : Nat → Nat} (x y z : Int32) : gPr l D ca ss ad yX11_add cX11_add 6 2 yX12_add cX12_add 5 2 [.int 1, .int x, .int y, .int z] := by
  intro f hJ
  have hJ' := hJ
  obtain ⟨la, n0, n1, gS, gP, se, tS, tP, tZ, tG, fm, ln, sG, mn, tr, tm, ho, fo, sz, it, hC, hM, hR⟩ := hJ
  have hC' := hC
  obtain ⟨hc0, hI, hT, hS⟩ := hC
  have hR' := hR
  obtain ⟨wO, h0, h1, nzS, nzP, hTR, hTO, hHR, hSR⟩ := hR
  have hI' := hI
  obtain ⟨⟨hn0, hn1, d2, d3, d4, d5, d6⟩, hCel, lo', ma', bt, bc, sp, sc, fk, bk, sk, e1, -⟩ := hI
  by_cases hA : s_X11_mayBeDirection x y z = 0
  · have hA' : s_X12_isDirection x y z = 0 := (dir_eq x y z).symm.trans hA
    refine ⟨-2, fun u => u = f, gMi_mono (c_add1 x y z la n0 n1 gS gP se hc0 hI') (fun r u h => by rw [if_pos hA] at h; exact h), fun u hu => ?_⟩
    subst hu
    obtain ⟨dr, lo, ma, pa, tu, su, vo, so, ro, us, pl, sur, far, mo, sta, spa, sf, a87, a88, a89, a90, a91, a92, a93, a94, a95, a96, a97, a98, a99, a100, a101, a102, a103, a104, a105, a106, a107⟩ := hM
    refine gMm a87 (c_X12_add (l := l) (D := D) (ss := ss) 1 x y z la dr (-1) lo ma pa tu su (dj gS gP) mn a87 a92 a93 (mn_ok h0 h1 hn0 hn1)) (fun r u' h => ?_)
    unfold s_X12_add at h
    rw [if_neg two_1, if_pos hA'] at h
    obtain ⟨rfl, rfl⟩ := pair_eq h
    exact ⟨rfl, hJ'⟩
  · have hA' : ¬ s_X12_isDirection x y z = 0 := fun q => hA ((dir_eq x y z).trans q)
    obtain ⟨bx, bY, bz, hnz⟩ := dir_ok hA
    by_cases hB : s_X1_isFull (8 : Int32) (nI n1) = 0
    · have hlt : n1 < 8 := (full_n (m := 8) (by omega) (by omega)).mp hB
      have hne : ¬ nI n1 = s_X12_most 1 := fun q => by
        have := nI_inj (m := n1) (n := 8) (by omega) (by omega) (q.trans most_1)
        omega
      refine ⟨nI (n1 + 1), fun u => cSI ca ad n0 (n1 + 1) gS (w3 gP n1 x y z) se u ∧ ∀ k, k = 0 ∨ 69 ≤ k → u k = f k, gMi_mono (c_add1 x y z la n0 n1 gS gP se hc0 hI') (fun r u h => by rw [if_neg hA, if_pos hB] at h; exact h), fun u hu => ?_⟩
      have hMu := JM_c hM (fun k h _ => hu.2 k (by omega))
      have hCu := JC_n hC' hu.1 hu.2
      obtain ⟨dr, lo, ma, pa, tu, su, vo, so, ro, us, pl, sur, far, mo, sta, spa, sf, b87, b88, b89, b90, b91, b92, b93, b94, b95, b96, b97, b98, b99, b100, b101, b102, b103, b104, b105, b106, b107⟩ := hMu
      refine gMm b87 (c_X12_add (l := l) (D := D) (ss := ss) 1 x y z la dr (-1) lo ma pa tu su (dj gS gP) mn b87 b92 b93 (mn_ok h0 h1 hn0 hn1)) (fun r u' h => ?_)
      unfold s_X12_add at h
      rw [if_neg two_1, if_neg hA', cl1, h1, if_neg hne, add_m1 (by omega), dj_w1, pk_us, show nI n1 + 1 = nI (n1 + 1) from nI_add n1 1] at h
      obtain ⟨rfl, rfl⟩ := pair_eq h
      exact ⟨rfl, ⟨la, n0, n1 + 1, gS, w3 gP n1 x y z, se, tS, tP, tZ, tG, fm, ln, sG, upd mn 1 (nI (n1 + 1)), tr, tm, ho, fo, sz, it, JC_c hCu (fun k hk => up_nx (by omega) (up_nx (by omega) (rfl))), ⟨dr, lo, ma, pa, tu, su, vo, so, ro, us, pl, sur, far, mo, sta, spa, sf, up_nx (by decide) (up_nx (by decide) (b87)), up_nx (by decide) (up_nx (by decide) (b88)), up_nx (by decide) (up_nx (by decide) (b89)), up_nx (by decide) (up_nx (by decide) (b90)), up_nx (by decide) (up_nx (by decide) (b91)), up_nx (by decide) (va_up_self _ _ _), va_up_self _ _ _, up_nx (by decide) (up_nx (by decide) (b94)), up_nx (by decide) (up_nx (by decide) (b95)), up_nx (by decide) (up_nx (by decide) (b96)), up_nx (by decide) (up_nx (by decide) (b97)), up_nx (by decide) (up_nx (by decide) (b98)), up_nx (by decide) (up_nx (by decide) (b99)), up_nx (by decide) (up_nx (by decide) (b100)), up_nx (by decide) (up_nx (by decide) (b101)), up_nx (by decide) (up_nx (by decide) (b102)), up_nx (by decide) (up_nx (by decide) (b103)), up_nx (by decide) (up_nx (by decide) (b104)), up_nx (by decide) (up_nx (by decide) (b105)), up_nx (by decide) (up_nx (by decide) (b106)), up_nx (by decide) (up_nx (by decide) (b107))⟩, ⟨hn0, by omega, dOk_w1 wO.2.2.1 bx bY bz, wO.2.2.2⟩, mn_u1.trans h0, pk_us, nzS, nzD_w nzP hnz, hTR, hTO, hHR, hSR⟩⟩
    · have hge : ¬ n1 < 8 := fun q => hB ((full_n (m := 8) (by omega) (by omega)).mpr q)
      have he : nI n1 = s_X12_most 1 := by rw [most_1, show n1 = 8 by omega]
      refine ⟨-4, fun u => u = f, gMi_mono (c_add1 x y z la n0 n1 gS gP se hc0 hI') (fun r u h => by rw [if_neg hA, if_neg hB] at h; exact h), fun u hu => ?_⟩
      subst hu
      obtain ⟨dr, lo, ma, pa, tu, su, vo, so, ro, us, pl, sur, far, mo, sta, spa, sf, a87, a88, a89, a90, a91, a92, a93, a94, a95, a96, a97, a98, a99, a100, a101, a102, a103, a104, a105, a106, a107⟩ := hM
      refine gMm a87 (c_X12_add (l := l) (D := D) (ss := ss) 1 x y z la dr (-1) lo ma pa tu su (dj gS gP) mn a87 a92 a93 (mn_ok h0 h1 hn0 hn1)) (fun r u' h => ?_)
      unfold s_X12_add at h
      rw [if_neg two_1, if_neg hA', cl1, h1, if_pos he] at h
      obtain ⟨rfl, rfl⟩ := pair_eq h
      exact ⟨rfl, hJ'⟩

theorem p_add {l : Launch} {D : va_G} {ca ss ad : Nat → Nat} (k x y z : Int32) : gPr l D ca ss ad yX11_add cX11_add 6 2 yX12_add cX12_add 5 2 [.int k, .int x, .int y, .int z] := by
  by_cases hk : s_X11_isKind k = 0
  · intro f hJ
    have hJ' := hJ
    obtain ⟨la, n0, n1, gS, gP, se, tS, tP, tZ, tG, fm, ln, sG, mn, tr, tm, ho, fo, sz, it, hC, hM, hR⟩ := hJ
    have hC' := hC
    obtain ⟨hc0, hI, hT, hS⟩ := hC
    have hR' := hR
    obtain ⟨wO, h0, h1, nzS, nzP, hTR, hTO, hHR, hSR⟩ := hR
    have hI' := hI
    obtain ⟨⟨hn0, hn1, d2, d3, d4, d5, d6⟩, hCel, lo', ma', bt, bc, sp, sc, fk, bk, sk, e1, -⟩ := hI
    refine ⟨-2, fun u => u = f, gMi_mono (c_addB k x y z la hc0 hk) (fun r u h => h), fun u hu => ?_⟩
    subst hu
    obtain ⟨dr, lo, ma, pa, tu, su, vo, so, ro, us, pl, sur, far, mo, sta, spa, sf, a87, a88, a89, a90, a91, a92, a93, a94, a95, a96, a97, a98, a99, a100, a101, a102, a103, a104, a105, a106, a107⟩ := hM
    refine gMm a87 (c_X12_add (l := l) (D := D) (ss := ss) k x y z la dr (-1) lo ma pa tu su (dj gS gP) mn a87 a92 a93 (mn_ok h0 h1 hn0 hn1)) (fun r u' h => ?_)
    unfold s_X12_add at h
    rw [if_pos (kind_two.mp hk)] at h
    obtain ⟨rfl, rfl⟩ := pair_eq h
    exact ⟨rfl, hJ'⟩
  · rcases kind_01 hk with rfl | rfl
    · exact p_add0 x y z
    · exact p_add1 x y z

theorem p_back0 {l : Launch} {D : va_G} {ca ss ad : Nat → Nat} : gPr l D ca ss ad yX11_back cX11_back 3 1 yX12_back cX12_back 2 2 [.int 0] := by
  intro f hJ
  have hJ' := hJ
  obtain ⟨la, n0, n1, gS, gP, se, tS, tP, tZ, tG, fm, ln, sG, mn, tr, tm, ho, fo, sz, it, hC, hM, hR⟩ := hJ
  have hC' := hC
  obtain ⟨hc0, hI, hT, hS⟩ := hC
  have hR' := hR
  obtain ⟨wO, h0, h1, nzS, nzP, hTR, hTO, hHR, hSR⟩ := hR
  have hI' := hI
  obtain ⟨⟨hn0, hn1, d2, d3, d4, d5, d6⟩, hCel, lo', ma', bt, bc, sp, sc, fk, bk, sk, e1, -⟩ := hI
  by_cases hA : s_X1_size (nI n0) = 0
  · have hA' : nI n0 = 0 := hA
    refine ⟨-3, fun u => u = f, gMi_mono (c_back0 la n0 n1 gS gP se hc0 hI') (fun r u h => by rw [if_pos hA] at h; exact h), fun u hu => ?_⟩
    subst hu
    obtain ⟨dr, lo, ma, pa, tu, su, vo, so, ro, us, pl, sur, far, mo, sta, spa, sf, a87, a88, a89, a90, a91, a92, a93, a94, a95, a96, a97, a98, a99, a100, a101, a102, a103, a104, a105, a106, a107⟩ := hM
    refine gMm a87 (c_X12_back (l := l) (D := D) (ss := ss) 0 la dr (-1) lo ma pa tu su mn a87 a93) (fun r u' h => ?_)
    unfold s_X12_back at h
    rw [if_neg two_0, cl0, h0, if_pos hA'] at h
    obtain ⟨rfl, rfl⟩ := pair_eq h
    exact ⟨rfl, hJ'⟩
  · have hA' : ¬ nI n0 = 0 := hA
    have hp : 0 < n0 := by
      rcases Nat.eq_zero_or_pos n0 with a | a
      · exact absurd (by rw [a]; rfl) hA'
      · exact a
    refine ⟨nI (n0 - 1), fun u => cSI ca ad (n0 - 1) n1 gS gP se u ∧ ∀ k, k = 0 ∨ 69 ≤ k → u k = f k, gMi_mono (c_back0 la n0 n1 gS gP se hc0 hI') (fun r u h => by rw [if_neg hA] at h; exact h), fun u hu => ?_⟩
    have hMu := JM_c hM (fun k h _ => hu.2 k (by omega))
    have hCu := JC_n hC' hu.1 hu.2
    obtain ⟨dr, lo, ma, pa, tu, su, vo, so, ro, us, pl, sur, far, mo, sta, spa, sf, b87, b88, b89, b90, b91, b92, b93, b94, b95, b96, b97, b98, b99, b100, b101, b102, b103, b104, b105, b106, b107⟩ := hMu
    refine gMm b87 (c_X12_back (l := l) (D := D) (ss := ss) 0 la dr (-1) lo ma pa tu su mn b87 b93) (fun r u' h => ?_)
    unfold s_X12_back at h
    rw [if_neg two_0, cl0, h0, if_neg hA', nI_pre hp, pk_us] at h
    obtain ⟨rfl, rfl⟩ := pair_eq h
    exact ⟨rfl, ⟨la, n0 - 1, n1, gS, gP, se, tS, tP, tZ, tG, fm, ln, sG, upd mn 0 (nI (n0 - 1)), tr, tm, ho, fo, sz, it, JC_c hCu (fun k hk => up_nx (by omega) (rfl)), ⟨dr, lo, ma, pa, tu, su, vo, so, ro, us, pl, sur, far, mo, sta, spa, sf, up_nx (by decide) (b87), up_nx (by decide) (b88), up_nx (by decide) (b89), up_nx (by decide) (b90), up_nx (by decide) (b91), up_nx (by decide) (b92), va_up_self _ _ _, up_nx (by decide) (b94), up_nx (by decide) (b95), up_nx (by decide) (b96), up_nx (by decide) (b97), up_nx (by decide) (b98), up_nx (by decide) (b99), up_nx (by decide) (b100), up_nx (by decide) (b101), up_nx (by decide) (b102), up_nx (by decide) (b103), up_nx (by decide) (b104), up_nx (by decide) (b105), up_nx (by decide) (b106), up_nx (by decide) (b107)⟩, ⟨by omega, by omega, wO.2.2⟩, pk_us, mn_u0.trans h1, fun i hi => nzS i (by omega), nzP, hTR, hTO, hHR, hSR⟩⟩

theorem p_back1 {l : Launch} {D : va_G} {ca ss ad : Nat → Nat} : gPr l D ca ss ad yX11_back cX11_back 3 1 yX12_back cX12_back 2 2 [.int 1] := by
  intro f hJ
  have hJ' := hJ
  obtain ⟨la, n0, n1, gS, gP, se, tS, tP, tZ, tG, fm, ln, sG, mn, tr, tm, ho, fo, sz, it, hC, hM, hR⟩ := hJ
  have hC' := hC
  obtain ⟨hc0, hI, hT, hS⟩ := hC
  have hR' := hR
  obtain ⟨wO, h0, h1, nzS, nzP, hTR, hTO, hHR, hSR⟩ := hR
  have hI' := hI
  obtain ⟨⟨hn0, hn1, d2, d3, d4, d5, d6⟩, hCel, lo', ma', bt, bc, sp, sc, fk, bk, sk, e1, -⟩ := hI
  by_cases hA : s_X1_size (nI n1) = 0
  · have hA' : nI n1 = 0 := hA
    refine ⟨-3, fun u => u = f, gMi_mono (c_back1 la n0 n1 gS gP se hc0 hI') (fun r u h => by rw [if_pos hA] at h; exact h), fun u hu => ?_⟩
    subst hu
    obtain ⟨dr, lo, ma, pa, tu, su, vo, so, ro, us, pl, sur, far, mo, sta, spa, sf, a87, a88, a89, a90, a91, a92, a93, a94, a95, a96, a97, a98, a99, a100, a101, a102, a103, a104, a105, a106, a107⟩ := hM
    refine gMm a87 (c_X12_back (l := l) (D := D) (ss := ss) 1 la dr (-1) lo ma pa tu su mn a87 a93) (fun r u' h => ?_)
    unfold s_X12_back at h
    rw [if_neg two_1, cl1, h1, if_pos hA'] at h
    obtain ⟨rfl, rfl⟩ := pair_eq h
    exact ⟨rfl, hJ'⟩
  · have hA' : ¬ nI n1 = 0 := hA
    have hp : 0 < n1 := by
      rcases Nat.eq_zero_or_pos n1 with a | a
      · exact absurd (by rw [a]; rfl) hA'
      · exact a
    refine ⟨nI (n1 - 1), fun u => cSI ca ad n0 (n1 - 1) gS gP se u ∧ ∀ k, k = 0 ∨ 69 ≤ k → u k = f k, gMi_mono (c_back1 la n0 n1 gS gP se hc0 hI') (fun r u h => by rw [if_neg hA] at h; exact h), fun u hu => ?_⟩
    have hMu := JM_c hM (fun k h _ => hu.2 k (by omega))
    have hCu := JC_n hC' hu.1 hu.2
    obtain ⟨dr, lo, ma, pa, tu, su, vo, so, ro, us, pl, sur, far, mo, sta, spa, sf, b87, b88, b89, b90, b91, b92, b93, b94, b95, b96, b97, b98, b99, b100, b101, b102, b103, b104, b105, b106, b107⟩ := hMu
    refine gMm b87 (c_X12_back (l := l) (D := D) (ss := ss) 1 la dr (-1) lo ma pa tu su mn b87 b93) (fun r u' h => ?_)
    unfold s_X12_back at h
    rw [if_neg two_1, cl1, h1, if_neg hA', nI_pre hp, pk_us] at h
    obtain ⟨rfl, rfl⟩ := pair_eq h
    exact ⟨rfl, ⟨la, n0, n1 - 1, gS, gP, se, tS, tP, tZ, tG, fm, ln, sG, upd mn 1 (nI (n1 - 1)), tr, tm, ho, fo, sz, it, JC_c hCu (fun k hk => up_nx (by omega) (rfl)), ⟨dr, lo, ma, pa, tu, su, vo, so, ro, us, pl, sur, far, mo, sta, spa, sf, up_nx (by decide) (b87), up_nx (by decide) (b88), up_nx (by decide) (b89), up_nx (by decide) (b90), up_nx (by decide) (b91), up_nx (by decide) (b92), va_up_self _ _ _, up_nx (by decide) (b94), up_nx (by decide) (b95), up_nx (by decide) (b96), up_nx (by decide) (b97), up_nx (by decide) (b98), up_nx (by decide) (b99), up_nx (by decide) (b100), up_nx (by decide) (b101), up_nx (by decide) (b102), up_nx (by decide) (b103), up_nx (by decide) (b104), up_nx (by decide) (b105), up_nx (by decide) (b106), up_nx (by decide) (b107)⟩, ⟨by omega, by omega, wO.2.2⟩, mn_u1.trans h0, pk_us, nzS, fun i hi => nzP i (by omega), hTR, hTO, hHR, hSR⟩⟩

theorem p_back {l : Launch} {D : va_G} {ca ss ad : Nat → Nat} (k : Int32) : gPr l D ca ss ad yX11_back cX11_back 3 1 yX12_back cX12_back 2 2 [.int k] := by
  by_cases hk : s_X11_isKind k = 0
  · intro f hJ
    have hJ' := hJ
    obtain ⟨la, n0, n1, gS, gP, se, tS, tP, tZ, tG, fm, ln, sG, mn, tr, tm, ho, fo, sz, it, hC, hM, hR⟩ := hJ
    have hC' := hC
    obtain ⟨hc0, hI, hT, hS⟩ := hC
    have hR' := hR
    obtain ⟨wO, h0, h1, nzS, nzP, hTR, hTO, hHR, hSR⟩ := hR
    have hI' := hI
    obtain ⟨⟨hn0, hn1, d2, d3, d4, d5, d6⟩, hCel, lo', ma', bt, bc, sp, sc, fk, bk, sk, e1, -⟩ := hI
    refine ⟨-2, fun u => u = f, gMi_mono (c_backB k la hc0 hk) (fun r u h => h), fun u hu => ?_⟩
    subst hu
    obtain ⟨dr, lo, ma, pa, tu, su, vo, so, ro, us, pl, sur, far, mo, sta, spa, sf, a87, a88, a89, a90, a91, a92, a93, a94, a95, a96, a97, a98, a99, a100, a101, a102, a103, a104, a105, a106, a107⟩ := hM
    refine gMm a87 (c_X12_back (l := l) (D := D) (ss := ss) k la dr (-1) lo ma pa tu su mn a87 a93) (fun r u' h => ?_)
    unfold s_X12_back at h
    rw [if_pos (kind_two.mp hk)] at h
    obtain ⟨rfl, rfl⟩ := pair_eq h
    exact ⟨rfl, hJ'⟩
  · rcases kind_01 hk with rfl | rfl
    · exact p_back0
    · exact p_back1

theorem p_set0 {l : Launch} {D : va_G} {ca ss ad : Nat → Nat} (v : Int32) : gPr l D ca ss ad yX11_set cX11_set 4 1 yX12_set cX12_set 5 1 [.int 0, .int v] := by
  intro f hJ
  have hJ' := hJ
  obtain ⟨la, n0, n1, gS, gP, se, tS, tP, tZ, tG, fm, ln, sG, mn, tr, tm, ho, fo, sz, it, hC, hM, hR⟩ := hJ
  have hC' := hC
  obtain ⟨hc0, hI, hT, hS⟩ := hC
  have hR' := hR
  obtain ⟨wO, h0, h1, nzS, nzP, hTR, hTO, hHR, hSR⟩ := hR
  have hI' := hI
  obtain ⟨⟨hn0, hn1, d2, d3, d4, d5, d6⟩, hCel, lo', ma', bt, bc, sp, sc, fk, bk, sk, e1, -⟩ := hI
  have hw : ¬ s_X11_isWithin (0 : Int32) (0 : Int32) (3 : Int32) = 0 := by decide
  have ec : (0 : Int32).toNatClampNeg = 0 := rfl
  have el : gLow.getD 0 0 = 1 := rfl
  have eh : gHigh.getD 0 0 = 9999 := rfl
  have hi : s_X11_isWithin v (1 : Int32) (9999 : Int32) = 0 ↔ s_X12_in v.toInt64 (1 : Int64) (9999 : Int64) = 0 := in_min rfl rfl
  by_cases hA : s_X11_isWithin v (1 : Int32) (9999 : Int32) = 0
  · have hA' := hi.mp hA
    refine ⟨-2, fun u => u = f, gMi_mono (c_set (0 : Int32) v la n0 n1 gS gP se hc0 hI') (fun r u h => by rw [if_neg hw, ec, el, eh, if_pos hA] at h; exact h), fun u hu => ?_⟩
    subst hu
    obtain ⟨dr, lo, ma, pa, tu, su, vo, so, ro, us, pl, sur, far, mo, sta, spa, sf, a87, a88, a89, a90, a91, a92, a93, a94, a95, a96, a97, a98, a99, a100, a101, a102, a103, a104, a105, a106, a107⟩ := hM
    refine gMm a87 (c_X12_set (l := l) (D := D) (ss := ss) (0 : Int32) v la dr (-1) lo ma pa tu su se a87 a94) (fun r u' h => ?_)
    unfold s_X12_set at h
    rw [if_pos (show (0 : Int32) = 0 from rfl), if_pos hA'] at h
    obtain ⟨rfl, rfl⟩ := pair_eq h
    exact ⟨rfl, hJ'⟩
  · have hA' := fun q => hA (hi.mpr q)
    have hb := hA
    rw [in_yes, show (1 : Int32).toInt = 1 from rfl, show (9999 : Int32).toInt = 9999 from rfl] at hb
    refine ⟨se 0, fun u => cSI ca ad n0 n1 gS gP (upd se 0 v) u ∧ ∀ k, k = 0 ∨ 69 ≤ k → u k = f k, gMi_mono (c_set (0 : Int32) v la n0 n1 gS gP se hc0 hI') (fun r u h => by rw [if_neg hw, ec, el, eh, if_neg hA] at h; exact h), fun u hu => ?_⟩
    have hMu := JM_c hM (fun k h _ => hu.2 k (by omega))
    have hCu := JC_n hC' hu.1 hu.2
    obtain ⟨dr, lo, ma, pa, tu, su, vo, so, ro, us, pl, sur, far, mo, sta, spa, sf, b87, b88, b89, b90, b91, b92, b93, b94, b95, b96, b97, b98, b99, b100, b101, b102, b103, b104, b105, b106, b107⟩ := hMu
    refine gMm b87 (c_X12_set (l := l) (D := D) (ss := ss) (0 : Int32) v la dr (-1) lo ma pa tu su se b87 b94) (fun r u' h => ?_)
    unfold s_X12_set at h
    rw [if_pos (show (0 : Int32) = 0 from rfl), if_neg hA', ec] at h
    obtain ⟨rfl, rfl⟩ := pair_eq h
    exact ⟨rfl, ⟨la, n0, n1, gS, gP, upd se 0 v, tS, tP, tZ, tG, fm, ln, sG, mn, tr, tm, ho, fo, sz, it, JC_c hCu (fun k hk => up_nx (by omega) (rfl)), ⟨dr, lo, ma, pa, tu, su, vo, so, ro, us, pl, sur, far, mo, sta, spa, sf, up_nx (by decide) (b87), up_nx (by decide) (b88), up_nx (by decide) (b89), up_nx (by decide) (b90), up_nx (by decide) (b91), up_nx (by decide) (b92), up_nx (by decide) (b93), va_up_self _ _ _, up_nx (by decide) (b95), up_nx (by decide) (b96), up_nx (by decide) (b97), up_nx (by decide) (b98), up_nx (by decide) (b99), up_nx (by decide) (b100), up_nx (by decide) (b101), up_nx (by decide) (b102), up_nx (by decide) (b103), up_nx (by decide) (b104), up_nx (by decide) (b105), up_nx (by decide) (b106), up_nx (by decide) (b107)⟩, ⟨wO.1, wO.2.1, wO.2.2.1, by rw [pk_us]; omega, by rw [pk_un (by decide)]; exact wO.2.2.2.2.1, by rw [pk_un (by decide)]; exact wO.2.2.2.2.2.1, by rw [pk_un (by decide)]; exact wO.2.2.2.2.2.2⟩, h0, h1, nzS, nzP, hTR, hTO, hHR, hSR⟩⟩

theorem p_set1 {l : Launch} {D : va_G} {ca ss ad : Nat → Nat} (v : Int32) : gPr l D ca ss ad yX11_set cX11_set 4 1 yX12_set cX12_set 5 1 [.int 1, .int v] := by
  intro f hJ
  have hJ' := hJ
  obtain ⟨la, n0, n1, gS, gP, se, tS, tP, tZ, tG, fm, ln, sG, mn, tr, tm, ho, fo, sz, it, hC, hM, hR⟩ := hJ
  have hC' := hC
  obtain ⟨hc0, hI, hT, hS⟩ := hC
  have hR' := hR
  obtain ⟨wO, h0, h1, nzS, nzP, hTR, hTO, hHR, hSR⟩ := hR
  have hI' := hI
  obtain ⟨⟨hn0, hn1, d2, d3, d4, d5, d6⟩, hCel, lo', ma', bt, bc, sp, sc, fk, bk, sk, e1, -⟩ := hI
  have hw : ¬ s_X11_isWithin (1 : Int32) (0 : Int32) (3 : Int32) = 0 := by decide
  have ec : (1 : Int32).toNatClampNeg = 1 := rfl
  have el : gLow.getD 1 0 = 0 := rfl
  have eh : gHigh.getD 1 0 = 9999 := rfl
  have hi : s_X11_isWithin v (0 : Int32) (9999 : Int32) = 0 ↔ s_X12_in v.toInt64 (0 : Int64) (9999 : Int64) = 0 := in_min rfl rfl
  by_cases hA : s_X11_isWithin v (0 : Int32) (9999 : Int32) = 0
  · have hA' := hi.mp hA
    refine ⟨-2, fun u => u = f, gMi_mono (c_set (1 : Int32) v la n0 n1 gS gP se hc0 hI') (fun r u h => by rw [if_neg hw, ec, el, eh, if_pos hA] at h; exact h), fun u hu => ?_⟩
    subst hu
    obtain ⟨dr, lo, ma, pa, tu, su, vo, so, ro, us, pl, sur, far, mo, sta, spa, sf, a87, a88, a89, a90, a91, a92, a93, a94, a95, a96, a97, a98, a99, a100, a101, a102, a103, a104, a105, a106, a107⟩ := hM
    refine gMm a87 (c_X12_set (l := l) (D := D) (ss := ss) (1 : Int32) v la dr (-1) lo ma pa tu su se a87 a94) (fun r u' h => ?_)
    unfold s_X12_set at h
    rw [if_neg (show ¬ (1 : Int32) = 0 by decide), if_pos (show (1 : Int32) = 1 from rfl), if_pos hA'] at h
    obtain ⟨rfl, rfl⟩ := pair_eq h
    exact ⟨rfl, hJ'⟩
  · have hA' := fun q => hA (hi.mpr q)
    have hb := hA
    rw [in_yes, show (0 : Int32).toInt = 0 from rfl, show (9999 : Int32).toInt = 9999 from rfl] at hb
    refine ⟨se 1, fun u => cSI ca ad n0 n1 gS gP (upd se 1 v) u ∧ ∀ k, k = 0 ∨ 69 ≤ k → u k = f k, gMi_mono (c_set (1 : Int32) v la n0 n1 gS gP se hc0 hI') (fun r u h => by rw [if_neg hw, ec, el, eh, if_neg hA] at h; exact h), fun u hu => ?_⟩
    have hMu := JM_c hM (fun k h _ => hu.2 k (by omega))
    have hCu := JC_n hC' hu.1 hu.2
    obtain ⟨dr, lo, ma, pa, tu, su, vo, so, ro, us, pl, sur, far, mo, sta, spa, sf, b87, b88, b89, b90, b91, b92, b93, b94, b95, b96, b97, b98, b99, b100, b101, b102, b103, b104, b105, b106, b107⟩ := hMu
    refine gMm b87 (c_X12_set (l := l) (D := D) (ss := ss) (1 : Int32) v la dr (-1) lo ma pa tu su se b87 b94) (fun r u' h => ?_)
    unfold s_X12_set at h
    rw [if_neg (show ¬ (1 : Int32) = 0 by decide), if_pos (show (1 : Int32) = 1 from rfl), if_neg hA', ec] at h
    obtain ⟨rfl, rfl⟩ := pair_eq h
    exact ⟨rfl, ⟨la, n0, n1, gS, gP, upd se 1 v, tS, tP, tZ, tG, fm, ln, sG, mn, tr, tm, ho, fo, sz, it, JC_c hCu (fun k hk => up_nx (by omega) (rfl)), ⟨dr, lo, ma, pa, tu, su, vo, so, ro, us, pl, sur, far, mo, sta, spa, sf, up_nx (by decide) (b87), up_nx (by decide) (b88), up_nx (by decide) (b89), up_nx (by decide) (b90), up_nx (by decide) (b91), up_nx (by decide) (b92), up_nx (by decide) (b93), va_up_self _ _ _, up_nx (by decide) (b95), up_nx (by decide) (b96), up_nx (by decide) (b97), up_nx (by decide) (b98), up_nx (by decide) (b99), up_nx (by decide) (b100), up_nx (by decide) (b101), up_nx (by decide) (b102), up_nx (by decide) (b103), up_nx (by decide) (b104), up_nx (by decide) (b105), up_nx (by decide) (b106), up_nx (by decide) (b107)⟩, ⟨wO.1, wO.2.1, wO.2.2.1, by rw [pk_un (by decide)]; exact wO.2.2.2.1, by rw [pk_us]; omega, by rw [pk_un (by decide)]; exact wO.2.2.2.2.2.1, by rw [pk_un (by decide)]; exact wO.2.2.2.2.2.2⟩, h0, h1, nzS, nzP, hTR, hTO, hHR, hSR⟩⟩

theorem p_set2 {l : Launch} {D : va_G} {ca ss ad : Nat → Nat} (v : Int32) : gPr l D ca ss ad yX11_set cX11_set 4 1 yX12_set cX12_set 5 1 [.int 2, .int v] := by
  intro f hJ
  have hJ' := hJ
  obtain ⟨la, n0, n1, gS, gP, se, tS, tP, tZ, tG, fm, ln, sG, mn, tr, tm, ho, fo, sz, it, hC, hM, hR⟩ := hJ
  have hC' := hC
  obtain ⟨hc0, hI, hT, hS⟩ := hC
  have hR' := hR
  obtain ⟨wO, h0, h1, nzS, nzP, hTR, hTO, hHR, hSR⟩ := hR
  have hI' := hI
  obtain ⟨⟨hn0, hn1, d2, d3, d4, d5, d6⟩, hCel, lo', ma', bt, bc, sp, sc, fk, bk, sk, e1, -⟩ := hI
  have hw : ¬ s_X11_isWithin (2 : Int32) (0 : Int32) (3 : Int32) = 0 := by decide
  have ec : (2 : Int32).toNatClampNeg = 2 := rfl
  have el : gLow.getD 2 0 = 1 := rfl
  have eh : gHigh.getD 2 0 = 99 := rfl
  have hi : s_X11_isWithin v (1 : Int32) (99 : Int32) = 0 ↔ s_X12_in v.toInt64 (1 : Int64) (99 : Int64) = 0 := in_min rfl rfl
  by_cases hA : s_X11_isWithin v (1 : Int32) (99 : Int32) = 0
  · have hA' := hi.mp hA
    refine ⟨-2, fun u => u = f, gMi_mono (c_set (2 : Int32) v la n0 n1 gS gP se hc0 hI') (fun r u h => by rw [if_neg hw, ec, el, eh, if_pos hA] at h; exact h), fun u hu => ?_⟩
    subst hu
    obtain ⟨dr, lo, ma, pa, tu, su, vo, so, ro, us, pl, sur, far, mo, sta, spa, sf, a87, a88, a89, a90, a91, a92, a93, a94, a95, a96, a97, a98, a99, a100, a101, a102, a103, a104, a105, a106, a107⟩ := hM
    refine gMm a87 (c_X12_set (l := l) (D := D) (ss := ss) (2 : Int32) v la dr (-1) lo ma pa tu su se a87 a94) (fun r u' h => ?_)
    unfold s_X12_set at h
    rw [if_neg (show ¬ (2 : Int32) = 0 by decide), if_neg (show ¬ (2 : Int32) = 1 by decide), if_pos (show (2 : Int32) = 2 from rfl), if_pos hA'] at h
    obtain ⟨rfl, rfl⟩ := pair_eq h
    exact ⟨rfl, hJ'⟩
  · have hA' := fun q => hA (hi.mpr q)
    have hb := hA
    rw [in_yes, show (1 : Int32).toInt = 1 from rfl, show (99 : Int32).toInt = 99 from rfl] at hb
    refine ⟨se 2, fun u => cSI ca ad n0 n1 gS gP (upd se 2 v) u ∧ ∀ k, k = 0 ∨ 69 ≤ k → u k = f k, gMi_mono (c_set (2 : Int32) v la n0 n1 gS gP se hc0 hI') (fun r u h => by rw [if_neg hw, ec, el, eh, if_neg hA] at h; exact h), fun u hu => ?_⟩
    have hMu := JM_c hM (fun k h _ => hu.2 k (by omega))
    have hCu := JC_n hC' hu.1 hu.2
    obtain ⟨dr, lo, ma, pa, tu, su, vo, so, ro, us, pl, sur, far, mo, sta, spa, sf, b87, b88, b89, b90, b91, b92, b93, b94, b95, b96, b97, b98, b99, b100, b101, b102, b103, b104, b105, b106, b107⟩ := hMu
    refine gMm b87 (c_X12_set (l := l) (D := D) (ss := ss) (2 : Int32) v la dr (-1) lo ma pa tu su se b87 b94) (fun r u' h => ?_)
    unfold s_X12_set at h
    rw [if_neg (show ¬ (2 : Int32) = 0 by decide), if_neg (show ¬ (2 : Int32) = 1 by decide), if_pos (show (2 : Int32) = 2 from rfl), if_neg hA', ec] at h
    obtain ⟨rfl, rfl⟩ := pair_eq h
    exact ⟨rfl, ⟨la, n0, n1, gS, gP, upd se 2 v, tS, tP, tZ, tG, fm, ln, sG, mn, tr, tm, ho, fo, sz, it, JC_c hCu (fun k hk => up_nx (by omega) (rfl)), ⟨dr, lo, ma, pa, tu, su, vo, so, ro, us, pl, sur, far, mo, sta, spa, sf, up_nx (by decide) (b87), up_nx (by decide) (b88), up_nx (by decide) (b89), up_nx (by decide) (b90), up_nx (by decide) (b91), up_nx (by decide) (b92), up_nx (by decide) (b93), va_up_self _ _ _, up_nx (by decide) (b95), up_nx (by decide) (b96), up_nx (by decide) (b97), up_nx (by decide) (b98), up_nx (by decide) (b99), up_nx (by decide) (b100), up_nx (by decide) (b101), up_nx (by decide) (b102), up_nx (by decide) (b103), up_nx (by decide) (b104), up_nx (by decide) (b105), up_nx (by decide) (b106), up_nx (by decide) (b107)⟩, ⟨wO.1, wO.2.1, wO.2.2.1, by rw [pk_un (by decide)]; exact wO.2.2.2.1, by rw [pk_un (by decide)]; exact wO.2.2.2.2.1, by rw [pk_us]; omega, by rw [pk_un (by decide)]; exact wO.2.2.2.2.2.2⟩, h0, h1, nzS, nzP, hTR, hTO, hHR, hSR⟩⟩

theorem p_set3 {l : Launch} {D : va_G} {ca ss ad : Nat → Nat} (v : Int32) : gPr l D ca ss ad yX11_set cX11_set 4 1 yX12_set cX12_set 5 1 [.int 3, .int v] := by
  intro f hJ
  have hJ' := hJ
  obtain ⟨la, n0, n1, gS, gP, se, tS, tP, tZ, tG, fm, ln, sG, mn, tr, tm, ho, fo, sz, it, hC, hM, hR⟩ := hJ
  have hC' := hC
  obtain ⟨hc0, hI, hT, hS⟩ := hC
  have hR' := hR
  obtain ⟨wO, h0, h1, nzS, nzP, hTR, hTO, hHR, hSR⟩ := hR
  have hI' := hI
  obtain ⟨⟨hn0, hn1, d2, d3, d4, d5, d6⟩, hCel, lo', ma', bt, bc, sp, sc, fk, bk, sk, e1, -⟩ := hI
  have hw : ¬ s_X11_isWithin (3 : Int32) (0 : Int32) (3 : Int32) = 0 := by decide
  have ec : (3 : Int32).toNatClampNeg = 3 := rfl
  have el : gLow.getD 3 0 = 0 := rfl
  have eh : gHigh.getD 3 0 = 300 := rfl
  have hi : s_X11_isWithin v (0 : Int32) (300 : Int32) = 0 ↔ s_X12_in v.toInt64 (0 : Int64) (300 : Int64) = 0 := in_min rfl rfl
  by_cases hA : s_X11_isWithin v (0 : Int32) (300 : Int32) = 0
  · have hA' := hi.mp hA
    refine ⟨-2, fun u => u = f, gMi_mono (c_set (3 : Int32) v la n0 n1 gS gP se hc0 hI') (fun r u h => by rw [if_neg hw, ec, el, eh, if_pos hA] at h; exact h), fun u hu => ?_⟩
    subst hu
    obtain ⟨dr, lo, ma, pa, tu, su, vo, so, ro, us, pl, sur, far, mo, sta, spa, sf, a87, a88, a89, a90, a91, a92, a93, a94, a95, a96, a97, a98, a99, a100, a101, a102, a103, a104, a105, a106, a107⟩ := hM
    refine gMm a87 (c_X12_set (l := l) (D := D) (ss := ss) (3 : Int32) v la dr (-1) lo ma pa tu su se a87 a94) (fun r u' h => ?_)
    unfold s_X12_set at h
    rw [if_neg (show ¬ (3 : Int32) = 0 by decide), if_neg (show ¬ (3 : Int32) = 1 by decide), if_neg (show ¬ (3 : Int32) = 2 by decide), if_pos (show (3 : Int32) = 3 from rfl), if_pos hA'] at h
    obtain ⟨rfl, rfl⟩ := pair_eq h
    exact ⟨rfl, hJ'⟩
  · have hA' := fun q => hA (hi.mpr q)
    have hb := hA
    rw [in_yes, show (0 : Int32).toInt = 0 from rfl, show (300 : Int32).toInt = 300 from rfl] at hb
    refine ⟨se 3, fun u => cSI ca ad n0 n1 gS gP (upd se 3 v) u ∧ ∀ k, k = 0 ∨ 69 ≤ k → u k = f k, gMi_mono (c_set (3 : Int32) v la n0 n1 gS gP se hc0 hI') (fun r u h => by rw [if_neg hw, ec, el, eh, if_neg hA] at h; exact h), fun u hu => ?_⟩
    have hMu := JM_c hM (fun k h _ => hu.2 k (by omega))
    have hCu := JC_n hC' hu.1 hu.2
    obtain ⟨dr, lo, ma, pa, tu, su, vo, so, ro, us, pl, sur, far, mo, sta, spa, sf, b87, b88, b89, b90, b91, b92, b93, b94, b95, b96, b97, b98, b99, b100, b101, b102, b103, b104, b105, b106, b107⟩ := hMu
    refine gMm b87 (c_X12_set (l := l) (D := D) (ss := ss) (3 : Int32) v la dr (-1) lo ma pa tu su se b87 b94) (fun r u' h => ?_)
    unfold s_X12_set at h
    rw [if_neg (show ¬ (3 : Int32) = 0 by decide), if_neg (show ¬ (3 : Int32) = 1 by decide), if_neg (show ¬ (3 : Int32) = 2 by decide), if_pos (show (3 : Int32) = 3 from rfl), if_neg hA', ec] at h
    obtain ⟨rfl, rfl⟩ := pair_eq h
    exact ⟨rfl, ⟨la, n0, n1, gS, gP, upd se 3 v, tS, tP, tZ, tG, fm, ln, sG, mn, tr, tm, ho, fo, sz, it, JC_c hCu (fun k hk => up_nx (by omega) (rfl)), ⟨dr, lo, ma, pa, tu, su, vo, so, ro, us, pl, sur, far, mo, sta, spa, sf, up_nx (by decide) (b87), up_nx (by decide) (b88), up_nx (by decide) (b89), up_nx (by decide) (b90), up_nx (by decide) (b91), up_nx (by decide) (b92), up_nx (by decide) (b93), va_up_self _ _ _, up_nx (by decide) (b95), up_nx (by decide) (b96), up_nx (by decide) (b97), up_nx (by decide) (b98), up_nx (by decide) (b99), up_nx (by decide) (b100), up_nx (by decide) (b101), up_nx (by decide) (b102), up_nx (by decide) (b103), up_nx (by decide) (b104), up_nx (by decide) (b105), up_nx (by decide) (b106), up_nx (by decide) (b107)⟩, ⟨wO.1, wO.2.1, wO.2.2.1, by rw [pk_un (by decide)]; exact wO.2.2.2.1, by rw [pk_un (by decide)]; exact wO.2.2.2.2.1, by rw [pk_un (by decide)]; exact wO.2.2.2.2.2.1, by rw [pk_us]; omega⟩, h0, h1, nzS, nzP, hTR, hTO, hHR, hSR⟩⟩

theorem p_set {l : Launch} {D : va_G} {ca ss ad : Nat → Nat} (w v : Int32) : gPr l D ca ss ad yX11_set cX11_set 4 1 yX12_set cX12_set 5 1 [.int w, .int v] := by
  by_cases hk : s_X11_isWithin w (0 : Int32) (3 : Int32) = 0
  · intro f hJ
    have hJ' := hJ
    obtain ⟨la, n0, n1, gS, gP, se, tS, tP, tZ, tG, fm, ln, sG, mn, tr, tm, ho, fo, sz, it, hC, hM, hR⟩ := hJ
    have hC' := hC
    obtain ⟨hc0, hI, hT, hS⟩ := hC
    have hR' := hR
    obtain ⟨wO, h0, h1, nzS, nzP, hTR, hTO, hHR, hSR⟩ := hR
    have hI' := hI
    obtain ⟨⟨hn0, hn1, d2, d3, d4, d5, d6⟩, hCel, lo', ma', bt, bc, sp, sc, fk, bk, sk, e1, -⟩ := hI
    have hn : ∀ c : Nat, c ≤ 3 → ¬ w = nI c := by
      intro c hc q
      subst q
      rw [in_no, nI_toInt (by omega)] at hk
      have z0 : (0 : Int32).toInt = 0 := rfl
      have z3 : (3 : Int32).toInt = 3 := rfl
      omega
    have q0 : ¬ w = 0 := hn 0 (by omega)
    have q1 : ¬ w = 1 := hn 1 (by omega)
    have q2 : ¬ w = 2 := hn 2 (by omega)
    have q3 : ¬ w = 3 := hn 3 (by omega)
    refine ⟨-2, fun u => u = f, gMi_mono (c_set w v la n0 n1 gS gP se hc0 hI') (fun r u h => by rw [if_pos hk] at h; exact h), fun u hu => ?_⟩
    subst hu
    obtain ⟨dr, lo, ma, pa, tu, su, vo, so, ro, us, pl, sur, far, mo, sta, spa, sf, a87, a88, a89, a90, a91, a92, a93, a94, a95, a96, a97, a98, a99, a100, a101, a102, a103, a104, a105, a106, a107⟩ := hM
    refine gMm a87 (c_X12_set (l := l) (D := D) (ss := ss) w v la dr (-1) lo ma pa tu su se a87 a94) (fun r u' h => ?_)
    unfold s_X12_set at h
    rw [if_neg q0, if_neg q1, if_neg q2, if_neg q3] at h
    obtain ⟨rfl, rfl⟩ := pair_eq h
    exact ⟨rfl, hJ'⟩
  · obtain ⟨c, hc, rfl⟩ := wi_n (m := 3) (hi := 3) rfl hk
    have : c = 0 ∨ c = 1 ∨ c = 2 ∨ c = 3 := by omega
    rcases this with rfl | rfl | rfl | rfl
    · exact p_set0 v
    · exact p_set1 v
    · exact p_set2 v
    · exact p_set3 v

