/-! PAIRS: sheets -/
theorem sheet_iff {t : Int32} : s_X11_isSheet t = 0 ↔ s_X12_isSheet t = 0 := in_min rfl rfl
theorem sheet_nN {t : Int32} (h : ¬ s_X11_isSheet t = 0) : ∃ c, c < 4 ∧ t = nI c := by
  obtain ⟨c, hc, e⟩ := wi_n (m := 3) (hi := 3) rfl h
  exact ⟨c, by omega, e⟩
theorem form_iff {q : Int32} : s_X11_isForm q = 0 ↔ s_X12_in q.toInt64 (0 : Int64) (2 : Int64) = 0 := in_min rfl rfl
theorem form_b {q : Int32} (h : ¬ s_X11_isForm q = 0) : 0 ≤ q.toInt ∧ q.toInt ≤ 2 := by
  have := in_yes.mp h
  have z0 : (0 : Int32).toInt = 0 := rfl
  have z2 : (2 : Int32).toInt = 2 := rfl
  omega
theorem lost_no {x : Int32} : s_X5_isLost x = 0 ↔ ¬ x = -1 := by
  unfold s_X5_isLost
  by_cases h : x = -1
  · rw [if_pos h]; exact ⟨fun q => absurd q (by decide), fun q => absurd h q⟩
  · rw [if_neg h]; exact ⟨fun _ => h, fun _ => rfl⟩
theorem lost_ge {x : Int32} (hb : -1 ≤ x.toInt ∧ x.toInt ≤ 2) : ¬ x = -1 ↔ 0 ≤ x := by
  rw [i32_eq, i32_le]
  have z0 : (0 : Int32).toInt = 0 := rfl
  have z1 : (-1 : Int32).toInt = -1 := rfl
  omega
theorem flt_lost {q x fm ln : Int32} (h : fm = -1) : s_X5_faultOf q x fm ln = 1 := by
  unfold s_X5_faultOf
  rw [if_neg (fun z => lost_no.mp z h)]
theorem flt_cast {q x fm ln : Int32} (h : ¬ fm = -1) (hq : ¬ fm = q) : s_X5_faultOf q x fm ln = 3 := by
  unfold s_X5_faultOf
  rw [if_pos (lost_no.mpr h), if_neg hq]
theorem flt_ix {q x fm ln : Int32} (h : ¬ fm = -1) (hq : fm = q) (hi : ¬ (0 ≤ x.toInt ∧ x.toInt < ln.toInt)) : s_X5_faultOf q x fm ln = 2 := by
  have z0 : (0 : Int32).toInt = 0 := rfl
  unfold s_X5_faultOf
  rw [if_pos (lost_no.mpr h), if_pos hq]
  by_cases a : x < 0
  · rw [if_pos a]
  · rw [if_neg a, if_neg ?_]
    rw [i32_lt] at a ⊢
    omega
theorem flt_ok {q x fm ln : Int32} (h : ¬ fm = -1) (hq : fm = q) (hi : 0 ≤ x.toInt ∧ x.toInt < ln.toInt) : s_X5_faultOf q x fm ln = 0 := by
  have z0 : (0 : Int32).toInt = 0 := rfl
  unfold s_X5_faultOf
  rw [if_pos (lost_no.mpr h), if_pos hq, if_neg (by rw [i32_lt]; omega), if_pos (by rw [i32_lt]; omega)]
theorem in_ln {x z : Int32} (hz : 0 ≤ z.toInt ∧ z.toInt ≤ 60) : s_X12_in x.toInt64 (0 : Int64) ((z - 1).toInt64) = 0 ↔ ¬ (0 ≤ x.toInt ∧ x.toInt < z.toInt) := by
  obtain ⟨k, hk, rfl⟩ := ln_n hz
  rw [in_m1 hk, nI_toInt (by omega)]
theorem store_cut {x v fm : Int32} {g : Nat → Int32} : t_X5_store_j x v fm g = upd g x.toNatClampNeg (s_X12_cut fm v) := by
  unfold t_X5_store_j s_X12_cut
  by_cases a : fm = 0
  · rw [if_pos a, if_pos a]
  · rw [if_neg a, if_neg a]
    by_cases b : fm = 1
    · rw [if_pos b, if_pos b]
    · rw [if_neg b, if_neg b]
theorem ix_n {x z : Int32} (hz : z.toInt ≤ 60) (h : 0 ≤ x.toInt ∧ x.toInt < z.toInt) : ∃ j : Nat, j < 60 ∧ (j : Int) < z.toInt ∧ x = nI j := by
  have o : (0 : Int32).toInt = 0 := rfl
  obtain ⟨j, hj, e⟩ := nI_of (x := x) (by rw [i32_lt]; omega)
  subst e
  rw [nI_toInt hj] at h
  exact ⟨j, by omega, by omega, rfl⟩
theorem sh_ix {c j : Nat} (hc : c < 4) (hj : j < 60) : ((60 * nI c) + nI j).toNatClampNeg = 60 * c + j := by
  rw [show (60 : Int32) = nI 60 from rfl, pk_mul, nI_add, nI_clamp (by omega)]
theorem item_ok {j : Nat} {ln : Int32} {g : Nat → Int32} (hj : j < 60) (h : (j : Int) < ln.toInt) : s_X5_item (nI j) ln g = g j := by
  have o : (0 : Int32).toInt = 0 := rfl
  unfold s_X5_item
  rw [if_neg (by rw [i32_lt, nI_toInt (by omega)]; omega), if_neg (by rw [i32_le, nI_toInt (by omega)]; omega), nI_clamp (by omega)]
theorem sRel_s {fm ln fo sz it : Nat → Int32} {sG : Nat → Nat → Int32} (h : sRel fm ln sG fo sz it) {c n : Nat} (hn : n ≤ 60) {q : Int32} (hq : 0 ≤ q.toInt ∧ q.toInt ≤ 2) {g : Nat → Int32} : sRel (upd fm c q) (upd ln c (nI n)) (updT sG c g) (upd fo c q) (upd sz c (nI n)) (pF it (60 * c) n g) := by
  intro t ht
  obtain ⟨h1, h2, h3, h4⟩ := h t ht
  by_cases e : t = c
  · subst e
    rw [pk_us, pk_us, pk_us, pk_us, updT_s, nI_toInt (by omega)]
    exact ⟨rfl, by omega, by omega, fun _ => ⟨rfl, fun j hj => pF_i2 (by omega)⟩⟩
  · rw [pk_un e, pk_un e, pk_un e, pk_un e, updT_n _ _ e]
    refine ⟨h1, h2, h3, fun q => ⟨(h4 q).1, fun j hj => ?_⟩⟩
    have a := (h4 q).1
    rw [a] at h3
    rw [pF_o2 (by omega)]
    exact (h4 q).2 j hj
theorem sRel_x {fm ln fo sz it : Nat → Int32} {sG : Nat → Nat → Int32} (h : sRel fm ln sG fo sz it) {c : Nat} {z : Int32} {g : Nat → Int32} : sRel (upd fm c (-1)) (upd ln c z) (updT sG c g) (upd fo c (-1)) sz it := by
  intro t ht
  obtain ⟨h1, h2, h3, h4⟩ := h t ht
  by_cases e : t = c
  · subst e
    rw [pk_us, pk_us, pk_us, updT_s]
    exact ⟨rfl, by decide, h3, fun q => absurd rfl q⟩
  · rw [pk_un e, pk_un e, pk_un e, updT_n _ _ e]
    exact ⟨h1, h2, h3, h4⟩
theorem sRel_l {fm ln fo sz it : Nat → Int32} {sG : Nat → Nat → Int32} (h : sRel fm ln sG fo sz it) {c b n : Nat} (hb : b + n ≤ 60) (g : Nat → Int32) : sRel fm ln (updT sG c (pF (sG c) b n g)) fo sz (pF it (60 * c + b) n g) := by
  intro t ht
  obtain ⟨h1, h2, h3, h4⟩ := h t ht
  refine ⟨h1, h2, h3, fun q => ⟨(h4 q).1, fun j hj => ?_⟩⟩
  have a := (h4 q).1
  rw [a] at h3
  have h5 := (h4 q).2 j hj
  by_cases e : t = c
  · subst e
    rw [updT_s]
    by_cases i : b ≤ j ∧ j < b + n
    · unfold pF
      rw [if_pos (by omega), if_pos i, show 60 * t + j - (60 * t + b) = j - b by omega]
    · rw [pF_o2 (by omega), pF_o2 i]; exact h5
  · rw [updT_n _ _ e, pF_o2 (by omega)]
    exact h5
theorem pF_1 (it : Nat → Int32) (b : Nat) (v : Int32) : upd it b v = pF it b 1 (fun _ => v) := by
  funext j
  unfold upd pF
  exact ifc (by omega) (fun _ => rfl)
theorem cpy_pF (f g : Nat → Int32) (x y n : Nat) : va_cpy f g x y n = pF g y n (fun k => f (x + k)) := rfl
theorem pF_cong {it g g' : Nat → Int32} {b n : Nat} (h : ∀ j, j < n → g j = g' j) : pF it b n g = pF it b n g' := by
  funext j
  by_cases i : b ≤ j ∧ j < b + n
  · unfold pF; rw [if_pos i, if_pos i]; exact h _ (by omega)
  · rw [pF_o2 i, pF_o2 i]
theorem run_no {x n ln : Int32} (hl : 0 ≤ ln.toInt ∧ ln.toInt ≤ 60) : s_X5_hasRun x n ln = 0 ↔ ¬ (0 ≤ x.toInt ∧ 0 ≤ n.toInt ∧ x.toInt + n.toInt ≤ ln.toInt) := by
  have z0 : (0 : Int32).toInt = 0 := rfl
  have rx := i32_rng x
  unfold s_X5_hasRun
  by_cases a : x < 0
  · rw [if_pos a]; rw [i32_lt] at a; exact ⟨fun _ => by omega, fun _ => rfl⟩
  · rw [if_neg a]
    rw [i32_lt] at a
    by_cases b : n < 0
    · rw [if_pos b]; rw [i32_lt] at b; exact ⟨fun _ => by omega, fun _ => rfl⟩
    · rw [if_neg b]
      rw [i32_lt] at b
      by_cases c : ln < x
      · rw [if_pos c]; rw [i32_lt] at c; exact ⟨fun _ => by omega, fun _ => rfl⟩
      · rw [if_neg c]
        rw [i32_lt] at c
        have es : (ln - x).toInt = ln.toInt - x.toInt := i32_sub (by omega) (by omega)
        by_cases d : ln - x < n
        · rw [if_pos d]; rw [i32_lt, es] at d; exact ⟨fun _ => by omega, fun _ => rfl⟩
        · rw [if_neg d]; rw [i32_lt, es] at d; exact ⟨fun q => absurd q (by decide), fun q => absurd (by omega) q⟩
theorem lost_lt {x : Int32} (hb : -1 ≤ x.toInt ∧ x.toInt ≤ 2) (h : ¬ x = -1) : ¬ x < 0 := by
  have a := (lost_ge hb).mp h
  rw [i32_le] at a
  rw [i32_lt]
  omega
theorem sum64 (a b : Int32) : (a.toInt64 + b.toInt64).toInt = a.toInt + b.toInt := by
  have ra := i32_rng a
  have rb := i32_rng b
  rw [i64_add (by rw [i32_w, i32_w]; omega) (by rw [i32_w, i32_w]; omega), i32_w, i32_w]
theorem copy_b {α : Type} {i j n zs zt : Int32} {a b : α} (h1 : 0 ≤ i.toInt ∧ 0 ≤ n.toInt ∧ i.toInt + n.toInt ≤ zs.toInt) (h2 : 0 ≤ j.toInt ∧ 0 ≤ n.toInt ∧ j.toInt + n.toInt ≤ zt.toInt) : (if i < 0 then a else if j < 0 then a else if n < 0 then a else if 0 < lg_cmp (i.toInt64 + n.toInt64) zs.toInt64 then a else if lg_cmp (j.toInt64 + n.toInt64) zt.toInt64 ≤ 0 then b else a) = b := by
  have z0 : (0 : Int32).toInt = 0 := rfl
  rw [if_neg (by rw [i32_lt]; omega), if_neg (by rw [i32_lt]; omega), if_neg (by rw [i32_lt]; omega), if_neg (by rw [lg_cmp_gt, i64_lt, sum64, i32_w]; omega), if_pos (by rw [lg_cmp_le, i64_le, sum64, i32_w]; omega)]
theorem copy_a {α : Type} {i j n zs zt : Int32} {a b : α} (h : ¬ ((0 ≤ i.toInt ∧ 0 ≤ n.toInt ∧ i.toInt + n.toInt ≤ zs.toInt) ∧ 0 ≤ j.toInt ∧ 0 ≤ n.toInt ∧ j.toInt + n.toInt ≤ zt.toInt)) : (if i < 0 then a else if j < 0 then a else if n < 0 then a else if 0 < lg_cmp (i.toInt64 + n.toInt64) zs.toInt64 then a else if lg_cmp (j.toInt64 + n.toInt64) zt.toInt64 ≤ 0 then b else a) = a := by
  have z0 : (0 : Int32).toInt = 0 := rfl
  by_cases a1 : i < 0
  · rw [if_pos a1]
  · rw [if_neg a1]
    by_cases a2 : j < 0
    · rw [if_pos a2]
    · rw [if_neg a2]
      by_cases a3 : n < 0
      · rw [if_pos a3]
      · rw [if_neg a3]
        by_cases a4 : 0 < lg_cmp (i.toInt64 + n.toInt64) zs.toInt64
        · rw [if_pos a4]
        · rw [if_neg a4]
          refine if_neg (fun a5 => h ?_)
          rw [i32_lt] at a1 a2 a3
          rw [lg_cmp_gt, i64_lt, sum64, i32_w] at a4
          rw [lg_cmp_le, i64_le, sum64, i32_w] at a5
          omega
theorem run_b {α : Type} {x y n ls lt : Int32} (hs : 0 ≤ ls.toInt ∧ ls.toInt ≤ 60) (ht : 0 ≤ lt.toInt ∧ lt.toInt ≤ 60) {a b : α} (h1 : 0 ≤ x.toInt ∧ 0 ≤ n.toInt ∧ x.toInt + n.toInt ≤ ls.toInt) (h2 : 0 ≤ y.toInt ∧ 0 ≤ n.toInt ∧ y.toInt + n.toInt ≤ lt.toInt) : (if s_X5_hasRun x n ls = 0 then a else if s_X5_hasRun y n lt = 0 then a else b) = b := by
  rw [if_neg (fun q => (run_no hs).mp q h1), if_neg (fun q => (run_no ht).mp q h2)]
theorem run_a {α : Type} {x y n ls lt : Int32} (hs : 0 ≤ ls.toInt ∧ ls.toInt ≤ 60) (ht : 0 ≤ lt.toInt ∧ lt.toInt ≤ 60) {a b : α} (h : ¬ ((0 ≤ x.toInt ∧ 0 ≤ n.toInt ∧ x.toInt + n.toInt ≤ ls.toInt) ∧ 0 ≤ y.toInt ∧ 0 ≤ n.toInt ∧ y.toInt + n.toInt ≤ lt.toInt)) : (if s_X5_hasRun x n ls = 0 then a else if s_X5_hasRun y n lt = 0 then a else b) = a := by
  by_cases a1 : s_X5_hasRun x n ls = 0
  · rw [if_pos a1]
  · rw [if_neg a1]
    refine if_pos ((run_no ht).mpr (fun q => h ⟨?_, q⟩))
    exact Decidable.byContradiction (fun z => a1 ((run_no hs).mpr z))
theorem sheet_n : ∀ t, t < 4 → ¬ s_X12_isSheet (nI t) = 0 := by decide +kernel
theorem p_sheetN {l : Launch} {D : va_G} {ca ss ad : Nat → Nat} (c : Nat) (hc : c < 4) (q n : Int32) : gPr l D ca ss ad yX11_sheet cX11_sheet 4 2 yX12_sheet cX12_sheet 5 2 [.int (nI c), .int q, .int n] := by
  intro f hJ
  have hJ' := hJ
  obtain ⟨la, n0, n1, gS, gP, se, tS, tP, tZ, tG, fm, ln, sG, mn, tr, tm, ho, fo, sz, it, hC, hM, hR⟩ := hJ
  have hC' := hC
  obtain ⟨hc0, hI, hT, hS⟩ := hC
  have hR' := hR
  obtain ⟨wO, h0, h1, nzS, nzP, hTR, hTO, hHR, hSR⟩ := hR
  have hI' := hI
  obtain ⟨⟨hn0, hn1, d2, d3, d4, d5, d6⟩, hCel, lo', ma', bt, bc, sp, sc, fk, bk, sk, e1, -⟩ := hI
  obtain ⟨f1, f2, f3, f4⟩ := hSR c hc
  have ec : (nI c).toNatClampNeg = c := nI_clamp (by omega)
  have sc' : ¬ s_X12_isSheet (nI c) = 0 := sheet_n c hc
  have ln0 := (hS.2 c hc).1
  have z60 : (60 : Int32).toInt = 60 := rfl
  have z0 : (0 : Int32).toInt = 0 := rfl
  by_cases hA : s_X11_isForm q = 0
  · have hA' := form_iff.mp hA
    refine ⟨-2, fun u => u = f, gMi_mono (c_sheet c q n hc la fm ln sG hc0 hS) (fun r u h => by rw [if_pos hA] at h; exact h), fun u hu => ?_⟩
    subst hu
    obtain ⟨dr, lo, ma, pa, tu, su, vo, so, ro, us, pl, sur, far, mo, sta, spa, sf, a87, a88, a89, a90, a91, a92, a93, a94, a95, a96, a97, a98, a99, a100, a101, a102, a103, a104, a105, a106, a107⟩ := hM
    refine gMm a87 (c_X12_sheet (l := l) (D := D) (ss := ss) (nI c) q n la dr (-1) lo ma pa tu su fo sz it a87 a88 a89 a90) (fun r u' h => ?_)
    unfold s_X12_sheet at h
    rw [if_neg sc', if_pos hA'] at h
    obtain ⟨rfl, rfl⟩ := pair_eq h
    exact ⟨rfl, hJ'⟩
  · have hA' := fun z => hA (form_iff.mpr z)
    have hq := form_b hA
    by_cases hB : n ≤ 60
    · by_cases hD : 0 ≤ n
      · obtain ⟨N, hN, rfl⟩ := ln_n (x := n) (by rw [i32_le] at hB hD; omega)
        have en : (nI N).toNatClampNeg = N := nI_clamp (by omega)
        refine ⟨nI N, fun u => cSh ca ad (upd fm c q) (upd ln c (nI N)) (updT sG c (kI 0)) u ∧ ∀ k, ¬ (79 ≤ k ∧ k < 87) → u k = f k, gMi_mono (c_sheet c q (nI N) hc la fm ln sG hc0 hS) (fun r u h => by rw [if_neg hA, if_pos hB, if_pos hD] at h; exact h), fun u hu => ?_⟩
        have hMu := JM_c hM (fun k h _ => hu.2 k (by omega))
        have hCu := JC_s hC' hu.1 hu.2
        obtain ⟨dr, lo, ma, pa, tu, su, vo, so, ro, us, pl, sur, far, mo, sta, spa, sf, b87, b88, b89, b90, b91, b92, b93, b94, b95, b96, b97, b98, b99, b100, b101, b102, b103, b104, b105, b106, b107⟩ := hMu
        refine gMm b87 (c_X12_sheet (l := l) (D := D) (ss := ss) (nI c) q (nI N) la dr (-1) lo ma pa tu su fo sz it b87 b88 b89 b90) (fun r u' h => ?_)
        unfold s_X12_sheet at h
        rw [if_neg sc', if_neg hA', if_pos hB, if_pos hD, ec, en] at h
        obtain ⟨rfl, rfl⟩ := pair_eq h
        exact ⟨rfl, ⟨la, n0, n1, gS, gP, se, tS, tP, tZ, tG, upd fm c q, upd ln c (nI N), updT sG c (kI 0), mn, tr, tm, ho, upd fo c q, upd sz c (nI N), pF it (60 * c) N (kI 0), JC_c hCu (fun k hk => up_nx (by omega) (up_nx (by omega) (up_nx (by omega) (rfl)))), ⟨dr, lo, ma, pa, tu, su, vo, so, ro, us, pl, sur, far, mo, sta, spa, sf, up_nx (by decide) (up_nx (by decide) (up_nx (by decide) (b87))), up_nx (by decide) (up_nx (by decide) (va_up_self _ _ _)), up_nx (by decide) (va_up_self _ _ _), va_up_self _ _ _, up_nx (by decide) (up_nx (by decide) (up_nx (by decide) (b91))), up_nx (by decide) (up_nx (by decide) (up_nx (by decide) (b92))), up_nx (by decide) (up_nx (by decide) (up_nx (by decide) (b93))), up_nx (by decide) (up_nx (by decide) (up_nx (by decide) (b94))), up_nx (by decide) (up_nx (by decide) (up_nx (by decide) (b95))), up_nx (by decide) (up_nx (by decide) (up_nx (by decide) (b96))), up_nx (by decide) (up_nx (by decide) (up_nx (by decide) (b97))), up_nx (by decide) (up_nx (by decide) (up_nx (by decide) (b98))), up_nx (by decide) (up_nx (by decide) (up_nx (by decide) (b99))), up_nx (by decide) (up_nx (by decide) (up_nx (by decide) (b100))), up_nx (by decide) (up_nx (by decide) (up_nx (by decide) (b101))), up_nx (by decide) (up_nx (by decide) (up_nx (by decide) (b102))), up_nx (by decide) (up_nx (by decide) (up_nx (by decide) (b103))), up_nx (by decide) (up_nx (by decide) (up_nx (by decide) (b104))), up_nx (by decide) (up_nx (by decide) (up_nx (by decide) (b105))), up_nx (by decide) (up_nx (by decide) (up_nx (by decide) (b106))), up_nx (by decide) (up_nx (by decide) (up_nx (by decide) (b107)))⟩, wO, h0, h1, nzS, nzP, hTR, hTO, hHR, sRel_s hSR hN hq⟩⟩
      · skip
        refine ⟨-15, fun u => u = va_up f 0 (.inr (10, [.ref (ad 1), .ref (ad 69), .ref (ad 70), .int 5])), gMi_mono (c_sheet c q n hc la fm ln sG hc0 hS) (fun r u h => by rw [if_neg hA, if_pos hB, if_neg hD] at h; exact h), fun u hu => ?_⟩
        have hMu := JM_c (u := u) hM (fun k h _ => by rw [hu]; exact up_nx (by omega) rfl)
        have hCu := JC_la (la' := 5) hC'
        rw [← hu] at hCu
        obtain ⟨dr, lo, ma, pa, tu, su, vo, so, ro, us, pl, sur, far, mo, sta, spa, sf, b87, b88, b89, b90, b91, b92, b93, b94, b95, b96, b97, b98, b99, b100, b101, b102, b103, b104, b105, b106, b107⟩ := hMu
        refine gMm b87 (c_X12_sheet (l := l) (D := D) (ss := ss) (nI c) q n la dr (-1) lo ma pa tu su fo sz it b87 b88 b89 b90) (fun r u' h => ?_)
        unfold s_X12_sheet at h
        rw [if_neg sc', if_neg hA', if_pos hB, if_neg hD] at h
        obtain ⟨rfl, rfl⟩ := pair_eq h
        exact ⟨rfl, ⟨5, n0, n1, gS, gP, se, tS, tP, tZ, tG, fm, ln, sG, mn, tr, tm, ho, fo, sz, it, JC_c hCu (fun k hk => up_nx (by omega) (rfl)), ⟨dr, lo, ma, pa, tu, su, vo, so, ro, us, pl, sur, far, mo, sta, spa, sf, va_up_self _ _ _, up_nx (by decide) (b88), up_nx (by decide) (b89), up_nx (by decide) (b90), up_nx (by decide) (b91), up_nx (by decide) (b92), up_nx (by decide) (b93), up_nx (by decide) (b94), up_nx (by decide) (b95), up_nx (by decide) (b96), up_nx (by decide) (b97), up_nx (by decide) (b98), up_nx (by decide) (b99), up_nx (by decide) (b100), up_nx (by decide) (b101), up_nx (by decide) (b102), up_nx (by decide) (b103), up_nx (by decide) (b104), up_nx (by decide) (b105), up_nx (by decide) (b106), up_nx (by decide) (b107)⟩, hR'⟩⟩
    · skip
      refine ⟨-2, fun u => u = f, gMi_mono (c_sheet c q n hc la fm ln sG hc0 hS) (fun r u h => by rw [if_neg hA, if_neg hB] at h; exact h), fun u hu => ?_⟩
      subst hu
      obtain ⟨dr, lo, ma, pa, tu, su, vo, so, ro, us, pl, sur, far, mo, sta, spa, sf, a87, a88, a89, a90, a91, a92, a93, a94, a95, a96, a97, a98, a99, a100, a101, a102, a103, a104, a105, a106, a107⟩ := hM
      refine gMm a87 (c_X12_sheet (l := l) (D := D) (ss := ss) (nI c) q n la dr (-1) lo ma pa tu su fo sz it a87 a88 a89 a90) (fun r u' h => ?_)
      unfold s_X12_sheet at h
      rw [if_neg sc', if_neg hA', if_neg hB] at h
      obtain ⟨rfl, rfl⟩ := pair_eq h
      exact ⟨rfl, hJ'⟩

theorem p_sheet {l : Launch} {D : va_G} {ca ss ad : Nat → Nat} (s q n : Int32) : gPr l D ca ss ad yX11_sheet cX11_sheet 4 2 yX12_sheet cX12_sheet 5 2 [.int s, .int q, .int n] := by
  by_cases hk : s_X11_isSheet s = 0
  · intro f hJ
    have hJ' := hJ
    obtain ⟨la, n0, n1, gS, gP, se, tS, tP, tZ, tG, fm, ln, sG, mn, tr, tm, ho, fo, sz, it, hC, hM, hR⟩ := hJ
    have hC' := hC
    obtain ⟨hc0, hI, hT, hS⟩ := hC
    have hR' := hR
    obtain ⟨wO, h0, h1, nzS, nzP, hTR, hTO, hHR, hSR⟩ := hR
    have hI' := hI
    obtain ⟨⟨hn0, hn1, d2, d3, d4, d5, d6⟩, hCel, lo', ma', bt, bc, sp, sc, fk, bk, sk, e1, -⟩ := hI
    refine ⟨-2, fun u => u = f, gMi_mono (c_sheetB s q n hk) (fun r u h => h), fun u hu => ?_⟩
    subst hu
    obtain ⟨dr, lo, ma, pa, tu, su, vo, so, ro, us, pl, sur, far, mo, sta, spa, sf, a87, a88, a89, a90, a91, a92, a93, a94, a95, a96, a97, a98, a99, a100, a101, a102, a103, a104, a105, a106, a107⟩ := hM
    refine gMm a87 (c_X12_sheet (l := l) (D := D) (ss := ss) s q n la dr (-1) lo ma pa tu su fo sz it a87 a88 a89 a90) (fun r u' h => ?_)
    unfold s_X12_sheet at h
    rw [if_pos (sheet_iff.mp hk)] at h
    obtain ⟨rfl, rfl⟩ := pair_eq h
    exact ⟨rfl, hJ'⟩
  · obtain ⟨c, hc, rfl⟩ := sheet_nN hk
    exact p_sheetN c hc q n

theorem p_loseN {l : Launch} {D : va_G} {ca ss ad : Nat → Nat} (c : Nat) (hc : c < 4) : gPr l D ca ss ad yX11_lose cX11_lose 3 2 yX12_lose cX12_lose 2 2 [.int (nI c)] := by
  intro f hJ
  have hJ' := hJ
  obtain ⟨la, n0, n1, gS, gP, se, tS, tP, tZ, tG, fm, ln, sG, mn, tr, tm, ho, fo, sz, it, hC, hM, hR⟩ := hJ
  have hC' := hC
  obtain ⟨hc0, hI, hT, hS⟩ := hC
  have hR' := hR
  obtain ⟨wO, h0, h1, nzS, nzP, hTR, hTO, hHR, hSR⟩ := hR
  have hI' := hI
  obtain ⟨⟨hn0, hn1, d2, d3, d4, d5, d6⟩, hCel, lo', ma', bt, bc, sp, sc, fk, bk, sk, e1, -⟩ := hI
  obtain ⟨f1, f2, f3, f4⟩ := hSR c hc
  have ec : (nI c).toNatClampNeg = c := nI_clamp (by omega)
  have sc' : ¬ s_X12_isSheet (nI c) = 0 := sheet_n c hc
  have ln0 := (hS.2 c hc).1
  by_cases hL : fm c = -1
  · have hL' : ¬ 0 ≤ fo c := by rw [f1, hL]; decide
    refine ⟨-11, fun u => u = va_up f 0 (.inr (10, [.ref (ad 1), .ref (ad 69), .ref (ad 70), .int 1])), gMi_mono (c_lose c hc la fm ln sG hc0 hS) (fun r u h => by rw [if_neg (fun z => lost_no.mp z hL)] at h; exact h), fun u hu => ?_⟩
    have hMu := JM_c (u := u) hM (fun k h _ => by rw [hu]; exact up_nx (by omega) rfl)
    have hCu := JC_la (la' := 1) hC'
    rw [← hu] at hCu
    obtain ⟨dr, lo, ma, pa, tu, su, vo, so, ro, us, pl, sur, far, mo, sta, spa, sf, b87, b88, b89, b90, b91, b92, b93, b94, b95, b96, b97, b98, b99, b100, b101, b102, b103, b104, b105, b106, b107⟩ := hMu
    refine gMm b87 (c_X12_lose (l := l) (D := D) (ss := ss) (nI c) la dr (-1) lo ma pa tu su fo sz b87 b88 b89) (fun r u' h => ?_)
    unfold s_X12_lose at h
    rw [if_neg sc', ec, if_neg hL'] at h
    obtain ⟨rfl, rfl⟩ := pair_eq h
    exact ⟨rfl, ⟨1, n0, n1, gS, gP, se, tS, tP, tZ, tG, fm, ln, sG, mn, tr, tm, ho, fo, sz, it, JC_c hCu (fun k hk => up_nx (by omega) (rfl)), ⟨dr, lo, ma, pa, tu, su, vo, so, ro, us, pl, sur, far, mo, sta, spa, sf, va_up_self _ _ _, up_nx (by decide) (b88), up_nx (by decide) (b89), up_nx (by decide) (b90), up_nx (by decide) (b91), up_nx (by decide) (b92), up_nx (by decide) (b93), up_nx (by decide) (b94), up_nx (by decide) (b95), up_nx (by decide) (b96), up_nx (by decide) (b97), up_nx (by decide) (b98), up_nx (by decide) (b99), up_nx (by decide) (b100), up_nx (by decide) (b101), up_nx (by decide) (b102), up_nx (by decide) (b103), up_nx (by decide) (b104), up_nx (by decide) (b105), up_nx (by decide) (b106), up_nx (by decide) (b107)⟩, hR'⟩⟩
  · have hL' : 0 ≤ fo c := by rw [f1]; exact (lost_ge f2).mp hL
    refine ⟨ln c, fun u => cSh ca ad (upd fm c (-1)) (upd ln c 0) (updT sG c (kI 0)) u ∧ ∀ k, ¬ (79 ≤ k ∧ k < 87) → u k = f k, gMi_mono (c_lose c hc la fm ln sG hc0 hS) (fun r u h => by rw [if_pos (lost_no.mpr hL)] at h; exact h), fun u hu => ?_⟩
    have hMu := JM_c hM (fun k h _ => hu.2 k (by omega))
    have hCu := JC_s hC' hu.1 hu.2
    obtain ⟨dr, lo, ma, pa, tu, su, vo, so, ro, us, pl, sur, far, mo, sta, spa, sf, b87, b88, b89, b90, b91, b92, b93, b94, b95, b96, b97, b98, b99, b100, b101, b102, b103, b104, b105, b106, b107⟩ := hMu
    refine gMm b87 (c_X12_lose (l := l) (D := D) (ss := ss) (nI c) la dr (-1) lo ma pa tu su fo sz b87 b88 b89) (fun r u' h => ?_)
    unfold s_X12_lose at h
    rw [if_neg sc', ec, if_pos hL'] at h
    obtain ⟨rfl, rfl⟩ := pair_eq h
    exact ⟨(f4 hL).1, ⟨la, n0, n1, gS, gP, se, tS, tP, tZ, tG, upd fm c (-1), upd ln c 0, updT sG c (kI 0), mn, tr, tm, ho, upd fo c (-1), sz, it, JC_c hCu (fun k hk => up_nx (by omega) (rfl)), ⟨dr, lo, ma, pa, tu, su, vo, so, ro, us, pl, sur, far, mo, sta, spa, sf, up_nx (by decide) (b87), va_up_self _ _ _, up_nx (by decide) (b89), up_nx (by decide) (b90), up_nx (by decide) (b91), up_nx (by decide) (b92), up_nx (by decide) (b93), up_nx (by decide) (b94), up_nx (by decide) (b95), up_nx (by decide) (b96), up_nx (by decide) (b97), up_nx (by decide) (b98), up_nx (by decide) (b99), up_nx (by decide) (b100), up_nx (by decide) (b101), up_nx (by decide) (b102), up_nx (by decide) (b103), up_nx (by decide) (b104), up_nx (by decide) (b105), up_nx (by decide) (b106), up_nx (by decide) (b107)⟩, wO, h0, h1, nzS, nzP, hTR, hTO, hHR, sRel_x hSR⟩⟩

theorem p_lose {l : Launch} {D : va_G} {ca ss ad : Nat → Nat} (s : Int32) : gPr l D ca ss ad yX11_lose cX11_lose 3 2 yX12_lose cX12_lose 2 2 [.int s] := by
  by_cases hk : s_X11_isSheet s = 0
  · intro f hJ
    have hJ' := hJ
    obtain ⟨la, n0, n1, gS, gP, se, tS, tP, tZ, tG, fm, ln, sG, mn, tr, tm, ho, fo, sz, it, hC, hM, hR⟩ := hJ
    have hC' := hC
    obtain ⟨hc0, hI, hT, hS⟩ := hC
    have hR' := hR
    obtain ⟨wO, h0, h1, nzS, nzP, hTR, hTO, hHR, hSR⟩ := hR
    have hI' := hI
    obtain ⟨⟨hn0, hn1, d2, d3, d4, d5, d6⟩, hCel, lo', ma', bt, bc, sp, sc, fk, bk, sk, e1, -⟩ := hI
    refine ⟨-2, fun u => u = f, gMi_mono (c_loseB s hk) (fun r u h => h), fun u hu => ?_⟩
    subst hu
    obtain ⟨dr, lo, ma, pa, tu, su, vo, so, ro, us, pl, sur, far, mo, sta, spa, sf, a87, a88, a89, a90, a91, a92, a93, a94, a95, a96, a97, a98, a99, a100, a101, a102, a103, a104, a105, a106, a107⟩ := hM
    refine gMm a87 (c_X12_lose (l := l) (D := D) (ss := ss) s la dr (-1) lo ma pa tu su fo sz a87 a88 a89) (fun r u' h => ?_)
    unfold s_X12_lose at h
    rw [if_pos (sheet_iff.mp hk)] at h
    obtain ⟨rfl, rfl⟩ := pair_eq h
    exact ⟨rfl, hJ'⟩
  · obtain ⟨c, hc, rfl⟩ := sheet_nN hk
    exact p_loseN c hc 

theorem p_layN {l : Launch} {D : va_G} {ca ss ad : Nat → Nat} (c : Nat) (hc : c < 4) (q i v : Int32) : gPr l D ca ss ad yX11_lay cX11_lay 6 2 yX12_lay cX12_lay 6 2 [.int (nI c), .int q, .int i, .int v] := by
  intro f hJ
  have hJ' := hJ
  obtain ⟨la, n0, n1, gS, gP, se, tS, tP, tZ, tG, fm, ln, sG, mn, tr, tm, ho, fo, sz, it, hC, hM, hR⟩ := hJ
  have hC' := hC
  obtain ⟨hc0, hI, hT, hS⟩ := hC
  have hR' := hR
  obtain ⟨wO, h0, h1, nzS, nzP, hTR, hTO, hHR, hSR⟩ := hR
  have hI' := hI
  obtain ⟨⟨hn0, hn1, d2, d3, d4, d5, d6⟩, hCel, lo', ma', bt, bc, sp, sc, fk, bk, sk, e1, -⟩ := hI
  obtain ⟨f1, f2, f3, f4⟩ := hSR c hc
  have ec : (nI c).toNatClampNeg = c := nI_clamp (by omega)
  have sc' : ¬ s_X12_isSheet (nI c) = 0 := sheet_n c hc
  have ln0 := (hS.2 c hc).1
  by_cases hA : s_X11_isForm q = 0
  · have hA' := form_iff.mp hA
    refine ⟨-2, fun u => u = f, gMi_mono (c_lay c q i v hc la fm ln sG hc0 hS) (fun r u h => by rw [if_pos hA] at h; exact h), fun u hu => ?_⟩
    subst hu
    obtain ⟨dr, lo, ma, pa, tu, su, vo, so, ro, us, pl, sur, far, mo, sta, spa, sf, a87, a88, a89, a90, a91, a92, a93, a94, a95, a96, a97, a98, a99, a100, a101, a102, a103, a104, a105, a106, a107⟩ := hM
    refine gMm a87 (c_X12_lay (l := l) (D := D) (ss := ss) (nI c) q i v la dr (-1) lo ma pa tu su fo sz it a87 a88 a89 a90 (fun j hj => (hSR j hj).2.2.1)) (fun r u' h => ?_)
    unfold s_X12_lay at h
    rw [if_neg sc', if_pos hA'] at h
    obtain ⟨rfl, rfl⟩ := pair_eq h
    exact ⟨rfl, hJ'⟩
  · have hA' := fun z => hA (form_iff.mpr z)
    by_cases hL : fm c = -1
    · have hL' : ¬ 0 ≤ fo c := by rw [f1, hL]; decide
      have e0 := flt_lost (q := q) (x := i) (ln := ln c) hL
      refine ⟨-11, fun u => u = va_up f 0 (.inr (10, [.ref (ad 1), .ref (ad 69), .ref (ad 70), .int 1])), gMi_mono (c_lay c q i v hc la fm ln sG hc0 hS) (fun r u h => by rw [if_neg hA, e0, if_neg (show ¬ (1 : Int32) = 0 by decide)] at h; exact h), fun u hu => ?_⟩
      have hMu := JM_c (u := u) hM (fun k h _ => by rw [hu]; exact up_nx (by omega) rfl)
      have hCu := JC_la (la' := 1) hC'
      rw [← hu] at hCu
      obtain ⟨dr, lo, ma, pa, tu, su, vo, so, ro, us, pl, sur, far, mo, sta, spa, sf, b87, b88, b89, b90, b91, b92, b93, b94, b95, b96, b97, b98, b99, b100, b101, b102, b103, b104, b105, b106, b107⟩ := hMu
      refine gMm b87 (c_X12_lay (l := l) (D := D) (ss := ss) (nI c) q i v la dr (-1) lo ma pa tu su fo sz it b87 b88 b89 b90 (fun j hj => (hSR j hj).2.2.1)) (fun r u' h => ?_)
      unfold s_X12_lay at h
      rw [if_neg sc', if_neg hA', ec, if_neg hL'] at h
      obtain ⟨rfl, rfl⟩ := pair_eq h
      exact ⟨rfl, ⟨1, n0, n1, gS, gP, se, tS, tP, tZ, tG, fm, ln, sG, mn, tr, tm, ho, fo, sz, it, JC_c hCu (fun k hk => up_nx (by omega) (rfl)), ⟨dr, lo, ma, pa, tu, su, vo, so, ro, us, pl, sur, far, mo, sta, spa, sf, va_up_self _ _ _, up_nx (by decide) (b88), up_nx (by decide) (b89), up_nx (by decide) (b90), up_nx (by decide) (b91), up_nx (by decide) (b92), up_nx (by decide) (b93), up_nx (by decide) (b94), up_nx (by decide) (b95), up_nx (by decide) (b96), up_nx (by decide) (b97), up_nx (by decide) (b98), up_nx (by decide) (b99), up_nx (by decide) (b100), up_nx (by decide) (b101), up_nx (by decide) (b102), up_nx (by decide) (b103), up_nx (by decide) (b104), up_nx (by decide) (b105), up_nx (by decide) (b106), up_nx (by decide) (b107)⟩, hR'⟩⟩
    · have hL' : 0 ≤ fo c := by rw [f1]; exact (lost_ge f2).mp hL
      obtain ⟨g1, g2⟩ := f4 hL
      by_cases hF : fm c = q
      · have hF' : fo c = q := f1.trans hF
        by_cases hX : 0 ≤ i.toInt ∧ i.toInt < (ln c).toInt
        · have e0 := flt_ok hL hF hX
          have hX' : ¬ s_X12_in i.toInt64 (0 : Int64) (((sz c) - 1).toInt64) = 0 := by
            rw [in_ln f3, g1]; exact fun z => z hX
          obtain ⟨j, hj, hj2, rfl⟩ := ix_n ln0.2 hX
          have er : t_X5_store_j (nI j) v (fm c) (sG c) = pF (sG c) j 1 (fun _ => s_X12_cut q v) := by
            rw [store_cut, nI_clamp (by omega), pF_1, hF]
          refine ⟨1, fun u => cSh ca ad fm ln (updT sG c (pF (sG c) j 1 (fun _ => s_X12_cut q v))) u ∧ ∀ k, ¬ (79 ≤ k ∧ k < 87) → u k = f k, gMi_mono (c_lay c q (nI j) v hc la fm ln sG hc0 hS) (fun r u h => by rw [if_neg hA, if_pos e0, er] at h; exact h), fun u hu => ?_⟩
          have hMu := JM_c hM (fun k h _ => hu.2 k (by omega))
          have hCu := JC_s hC' hu.1 hu.2
          obtain ⟨dr, lo, ma, pa, tu, su, vo, so, ro, us, pl, sur, far, mo, sta, spa, sf, b87, b88, b89, b90, b91, b92, b93, b94, b95, b96, b97, b98, b99, b100, b101, b102, b103, b104, b105, b106, b107⟩ := hMu
          refine gMm b87 (c_X12_lay (l := l) (D := D) (ss := ss) (nI c) q (nI j) v la dr (-1) lo ma pa tu su fo sz it b87 b88 b89 b90 (fun j hj => (hSR j hj).2.2.1)) (fun r u' h => ?_)
          unfold s_X12_lay at h
          rw [if_neg sc', if_neg hA', ec, if_pos hL', if_pos hF', if_neg hX', sh_ix hc hj, pF_1] at h
          obtain ⟨rfl, rfl⟩ := pair_eq h
          exact ⟨rfl, ⟨la, n0, n1, gS, gP, se, tS, tP, tZ, tG, fm, ln, updT sG c (pF (sG c) j 1 (fun _ => s_X12_cut q v)), mn, tr, tm, ho, fo, sz, pF it (60 * c + j) 1 (fun _ => s_X12_cut q v), JC_c hCu (fun k hk => up_nx (by omega) (rfl)), ⟨dr, lo, ma, pa, tu, su, vo, so, ro, us, pl, sur, far, mo, sta, spa, sf, up_nx (by decide) (b87), up_nx (by decide) (b88), up_nx (by decide) (b89), va_up_self _ _ _, up_nx (by decide) (b91), up_nx (by decide) (b92), up_nx (by decide) (b93), up_nx (by decide) (b94), up_nx (by decide) (b95), up_nx (by decide) (b96), up_nx (by decide) (b97), up_nx (by decide) (b98), up_nx (by decide) (b99), up_nx (by decide) (b100), up_nx (by decide) (b101), up_nx (by decide) (b102), up_nx (by decide) (b103), up_nx (by decide) (b104), up_nx (by decide) (b105), up_nx (by decide) (b106), up_nx (by decide) (b107)⟩, wO, h0, h1, nzS, nzP, hTR, hTO, hHR, sRel_l hSR (by omega) _⟩⟩
        · have e0 := flt_ix hL hF hX
          have hX' : s_X12_in i.toInt64 (0 : Int64) (((sz c) - 1).toInt64) = 0 := by
            rw [in_ln f3, g1]; exact hX
          refine ⟨-12, fun u => u = va_up f 0 (.inr (10, [.ref (ad 1), .ref (ad 69), .ref (ad 70), .int 2])), gMi_mono (c_lay c q i v hc la fm ln sG hc0 hS) (fun r u h => by rw [if_neg hA, e0, if_neg (show ¬ (2 : Int32) = 0 by decide)] at h; exact h), fun u hu => ?_⟩
          have hMu := JM_c (u := u) hM (fun k h _ => by rw [hu]; exact up_nx (by omega) rfl)
          have hCu := JC_la (la' := 2) hC'
          rw [← hu] at hCu
          obtain ⟨dr, lo, ma, pa, tu, su, vo, so, ro, us, pl, sur, far, mo, sta, spa, sf, b87, b88, b89, b90, b91, b92, b93, b94, b95, b96, b97, b98, b99, b100, b101, b102, b103, b104, b105, b106, b107⟩ := hMu
          refine gMm b87 (c_X12_lay (l := l) (D := D) (ss := ss) (nI c) q i v la dr (-1) lo ma pa tu su fo sz it b87 b88 b89 b90 (fun j hj => (hSR j hj).2.2.1)) (fun r u' h => ?_)
          unfold s_X12_lay at h
          rw [if_neg sc', if_neg hA', ec, if_pos hL', if_pos hF', if_pos hX'] at h
          obtain ⟨rfl, rfl⟩ := pair_eq h
          exact ⟨rfl, ⟨2, n0, n1, gS, gP, se, tS, tP, tZ, tG, fm, ln, sG, mn, tr, tm, ho, fo, sz, it, JC_c hCu (fun k hk => up_nx (by omega) (rfl)), ⟨dr, lo, ma, pa, tu, su, vo, so, ro, us, pl, sur, far, mo, sta, spa, sf, va_up_self _ _ _, up_nx (by decide) (b88), up_nx (by decide) (b89), up_nx (by decide) (b90), up_nx (by decide) (b91), up_nx (by decide) (b92), up_nx (by decide) (b93), up_nx (by decide) (b94), up_nx (by decide) (b95), up_nx (by decide) (b96), up_nx (by decide) (b97), up_nx (by decide) (b98), up_nx (by decide) (b99), up_nx (by decide) (b100), up_nx (by decide) (b101), up_nx (by decide) (b102), up_nx (by decide) (b103), up_nx (by decide) (b104), up_nx (by decide) (b105), up_nx (by decide) (b106), up_nx (by decide) (b107)⟩, hR'⟩⟩
      · have hF' : ¬ fo c = q := fun z => hF (f1.symm.trans z)
        have e0 := flt_cast (x := i) (ln := ln c) hL hF
        refine ⟨-13, fun u => u = va_up f 0 (.inr (10, [.ref (ad 1), .ref (ad 69), .ref (ad 70), .int 3])), gMi_mono (c_lay c q i v hc la fm ln sG hc0 hS) (fun r u h => by rw [if_neg hA, e0, if_neg (show ¬ (3 : Int32) = 0 by decide)] at h; exact h), fun u hu => ?_⟩
        have hMu := JM_c (u := u) hM (fun k h _ => by rw [hu]; exact up_nx (by omega) rfl)
        have hCu := JC_la (la' := 3) hC'
        rw [← hu] at hCu
        obtain ⟨dr, lo, ma, pa, tu, su, vo, so, ro, us, pl, sur, far, mo, sta, spa, sf, b87, b88, b89, b90, b91, b92, b93, b94, b95, b96, b97, b98, b99, b100, b101, b102, b103, b104, b105, b106, b107⟩ := hMu
        refine gMm b87 (c_X12_lay (l := l) (D := D) (ss := ss) (nI c) q i v la dr (-1) lo ma pa tu su fo sz it b87 b88 b89 b90 (fun j hj => (hSR j hj).2.2.1)) (fun r u' h => ?_)
        unfold s_X12_lay at h
        rw [if_neg sc', if_neg hA', ec, if_pos hL', if_neg hF'] at h
        obtain ⟨rfl, rfl⟩ := pair_eq h
        exact ⟨rfl, ⟨3, n0, n1, gS, gP, se, tS, tP, tZ, tG, fm, ln, sG, mn, tr, tm, ho, fo, sz, it, JC_c hCu (fun k hk => up_nx (by omega) (rfl)), ⟨dr, lo, ma, pa, tu, su, vo, so, ro, us, pl, sur, far, mo, sta, spa, sf, va_up_self _ _ _, up_nx (by decide) (b88), up_nx (by decide) (b89), up_nx (by decide) (b90), up_nx (by decide) (b91), up_nx (by decide) (b92), up_nx (by decide) (b93), up_nx (by decide) (b94), up_nx (by decide) (b95), up_nx (by decide) (b96), up_nx (by decide) (b97), up_nx (by decide) (b98), up_nx (by decide) (b99), up_nx (by decide) (b100), up_nx (by decide) (b101), up_nx (by decide) (b102), up_nx (by decide) (b103), up_nx (by decide) (b104), up_nx (by decide) (b105), up_nx (by decide) (b106), up_nx (by decide) (b107)⟩, hR'⟩⟩

theorem p_lay {l : Launch} {D : va_G} {ca ss ad : Nat → Nat} (s q i v : Int32) : gPr l D ca ss ad yX11_lay cX11_lay 6 2 yX12_lay cX12_lay 6 2 [.int s, .int q, .int i, .int v] := by
  by_cases hk : s_X11_isSheet s = 0
  · intro f hJ
    have hJ' := hJ
    obtain ⟨la, n0, n1, gS, gP, se, tS, tP, tZ, tG, fm, ln, sG, mn, tr, tm, ho, fo, sz, it, hC, hM, hR⟩ := hJ
    have hC' := hC
    obtain ⟨hc0, hI, hT, hS⟩ := hC
    have hR' := hR
    obtain ⟨wO, h0, h1, nzS, nzP, hTR, hTO, hHR, hSR⟩ := hR
    have hI' := hI
    obtain ⟨⟨hn0, hn1, d2, d3, d4, d5, d6⟩, hCel, lo', ma', bt, bc, sp, sc, fk, bk, sk, e1, -⟩ := hI
    refine ⟨-2, fun u => u = f, gMi_mono (c_layB s q i v hk) (fun r u h => h), fun u hu => ?_⟩
    subst hu
    obtain ⟨dr, lo, ma, pa, tu, su, vo, so, ro, us, pl, sur, far, mo, sta, spa, sf, a87, a88, a89, a90, a91, a92, a93, a94, a95, a96, a97, a98, a99, a100, a101, a102, a103, a104, a105, a106, a107⟩ := hM
    refine gMm a87 (c_X12_lay (l := l) (D := D) (ss := ss) s q i v la dr (-1) lo ma pa tu su fo sz it a87 a88 a89 a90 (fun j hj => (hSR j hj).2.2.1)) (fun r u' h => ?_)
    unfold s_X12_lay at h
    rw [if_pos (sheet_iff.mp hk)] at h
    obtain ⟨rfl, rfl⟩ := pair_eq h
    exact ⟨rfl, hJ'⟩
  · obtain ⟨c, hc, rfl⟩ := sheet_nN hk
    exact p_layN c hc q i v

theorem p_getN {l : Launch} {D : va_G} {ca ss ad : Nat → Nat} (c : Nat) (hc : c < 4) (q i : Int32) : gPr l D ca ss ad yX11_get cX11_get 5 2 yX12_get cX12_get 4 2 [.int (nI c), .int q, .int i] := by
  intro f hJ
  have hJ' := hJ
  obtain ⟨la, n0, n1, gS, gP, se, tS, tP, tZ, tG, fm, ln, sG, mn, tr, tm, ho, fo, sz, it, hC, hM, hR⟩ := hJ
  have hC' := hC
  obtain ⟨hc0, hI, hT, hS⟩ := hC
  have hR' := hR
  obtain ⟨wO, h0, h1, nzS, nzP, hTR, hTO, hHR, hSR⟩ := hR
  have hI' := hI
  obtain ⟨⟨hn0, hn1, d2, d3, d4, d5, d6⟩, hCel, lo', ma', bt, bc, sp, sc, fk, bk, sk, e1, -⟩ := hI
  obtain ⟨f1, f2, f3, f4⟩ := hSR c hc
  have ec : (nI c).toNatClampNeg = c := nI_clamp (by omega)
  have sc' : ¬ s_X12_isSheet (nI c) = 0 := sheet_n c hc
  have ln0 := (hS.2 c hc).1
  by_cases hA : s_X11_isForm q = 0
  · have hA' := form_iff.mp hA
    refine ⟨-2147483648, fun u => u = f, gMi_mono (c_get c q i hc la fm ln sG hc0 hS) (fun r u h => by rw [if_pos hA] at h; exact h), fun u hu => ?_⟩
    subst hu
    obtain ⟨dr, lo, ma, pa, tu, su, vo, so, ro, us, pl, sur, far, mo, sta, spa, sf, a87, a88, a89, a90, a91, a92, a93, a94, a95, a96, a97, a98, a99, a100, a101, a102, a103, a104, a105, a106, a107⟩ := hM
    refine gMm a87 (c_X12_get (l := l) (D := D) (ss := ss) (nI c) q i la dr (-1) lo ma pa tu su fo sz it a87 a88 a89 a90 (fun j hj => (hSR j hj).2.2.1)) (fun r u' h => ?_)
    unfold s_X12_get at h
    rw [if_neg sc', if_pos hA'] at h
    obtain ⟨rfl, rfl⟩ := pair_eq h
    exact ⟨rfl, hJ'⟩
  · have hA' := fun z => hA (form_iff.mpr z)
    by_cases hL : fm c = -1
    · have hL' : ¬ 0 ≤ fo c := by rw [f1, hL]; decide
      have e0 := flt_lost (q := q) (x := i) (ln := ln c) hL
      refine ⟨-2147483648, fun u => u = va_up f 0 (.inr (10, [.ref (ad 1), .ref (ad 69), .ref (ad 70), .int 1])), gMi_mono (c_get c q i hc la fm ln sG hc0 hS) (fun r u h => by rw [if_neg hA, e0, if_neg (show ¬ (1 : Int32) = 0 by decide)] at h; exact h), fun u hu => ?_⟩
      have hMu := JM_c (u := u) hM (fun k h _ => by rw [hu]; exact up_nx (by omega) rfl)
      have hCu := JC_la (la' := 1) hC'
      rw [← hu] at hCu
      obtain ⟨dr, lo, ma, pa, tu, su, vo, so, ro, us, pl, sur, far, mo, sta, spa, sf, b87, b88, b89, b90, b91, b92, b93, b94, b95, b96, b97, b98, b99, b100, b101, b102, b103, b104, b105, b106, b107⟩ := hMu
      refine gMm b87 (c_X12_get (l := l) (D := D) (ss := ss) (nI c) q i la dr (-1) lo ma pa tu su fo sz it b87 b88 b89 b90 (fun j hj => (hSR j hj).2.2.1)) (fun r u' h => ?_)
      unfold s_X12_get at h
      rw [if_neg sc', if_neg hA', ec, if_neg hL'] at h
      obtain ⟨rfl, rfl⟩ := pair_eq h
      exact ⟨rfl, ⟨1, n0, n1, gS, gP, se, tS, tP, tZ, tG, fm, ln, sG, mn, tr, tm, ho, fo, sz, it, JC_c hCu (fun k hk => up_nx (by omega) (rfl)), ⟨dr, lo, ma, pa, tu, su, vo, so, ro, us, pl, sur, far, mo, sta, spa, sf, va_up_self _ _ _, up_nx (by decide) (b88), up_nx (by decide) (b89), up_nx (by decide) (b90), up_nx (by decide) (b91), up_nx (by decide) (b92), up_nx (by decide) (b93), up_nx (by decide) (b94), up_nx (by decide) (b95), up_nx (by decide) (b96), up_nx (by decide) (b97), up_nx (by decide) (b98), up_nx (by decide) (b99), up_nx (by decide) (b100), up_nx (by decide) (b101), up_nx (by decide) (b102), up_nx (by decide) (b103), up_nx (by decide) (b104), up_nx (by decide) (b105), up_nx (by decide) (b106), up_nx (by decide) (b107)⟩, hR'⟩⟩
    · have hL' : 0 ≤ fo c := by rw [f1]; exact (lost_ge f2).mp hL
      obtain ⟨g1, g2⟩ := f4 hL
      by_cases hF : fm c = q
      · have hF' : fo c = q := f1.trans hF
        by_cases hX : 0 ≤ i.toInt ∧ i.toInt < (ln c).toInt
        · have e0 := flt_ok hL hF hX
          have hX' : ¬ s_X12_in i.toInt64 (0 : Int64) (((sz c) - 1).toInt64) = 0 := by
            rw [in_ln f3, g1]; exact fun z => z hX
          obtain ⟨j, hj, hj2, rfl⟩ := ix_n ln0.2 hX
          refine ⟨sG c j, fun u => u = f, gMi_mono (c_get c q (nI j) hc la fm ln sG hc0 hS) (fun r u h => by rw [if_neg hA, if_pos e0, item_ok hj hj2] at h; exact h), fun u hu => ?_⟩
          subst hu
          obtain ⟨dr, lo, ma, pa, tu, su, vo, so, ro, us, pl, sur, far, mo, sta, spa, sf, a87, a88, a89, a90, a91, a92, a93, a94, a95, a96, a97, a98, a99, a100, a101, a102, a103, a104, a105, a106, a107⟩ := hM
          refine gMm a87 (c_X12_get (l := l) (D := D) (ss := ss) (nI c) q (nI j) la dr (-1) lo ma pa tu su fo sz it a87 a88 a89 a90 (fun j hj => (hSR j hj).2.2.1)) (fun r u' h => ?_)
          unfold s_X12_get at h
          rw [if_neg sc', if_neg hA', ec, if_pos hL', if_pos hF', if_neg hX', sh_ix hc hj, g2 j hj2] at h
          obtain ⟨rfl, rfl⟩ := pair_eq h
          exact ⟨rfl, hJ'⟩
        · have e0 := flt_ix hL hF hX
          have hX' : s_X12_in i.toInt64 (0 : Int64) (((sz c) - 1).toInt64) = 0 := by
            rw [in_ln f3, g1]; exact hX
          refine ⟨-2147483648, fun u => u = va_up f 0 (.inr (10, [.ref (ad 1), .ref (ad 69), .ref (ad 70), .int 2])), gMi_mono (c_get c q i hc la fm ln sG hc0 hS) (fun r u h => by rw [if_neg hA, e0, if_neg (show ¬ (2 : Int32) = 0 by decide)] at h; exact h), fun u hu => ?_⟩
          have hMu := JM_c (u := u) hM (fun k h _ => by rw [hu]; exact up_nx (by omega) rfl)
          have hCu := JC_la (la' := 2) hC'
          rw [← hu] at hCu
          obtain ⟨dr, lo, ma, pa, tu, su, vo, so, ro, us, pl, sur, far, mo, sta, spa, sf, b87, b88, b89, b90, b91, b92, b93, b94, b95, b96, b97, b98, b99, b100, b101, b102, b103, b104, b105, b106, b107⟩ := hMu
          refine gMm b87 (c_X12_get (l := l) (D := D) (ss := ss) (nI c) q i la dr (-1) lo ma pa tu su fo sz it b87 b88 b89 b90 (fun j hj => (hSR j hj).2.2.1)) (fun r u' h => ?_)
          unfold s_X12_get at h
          rw [if_neg sc', if_neg hA', ec, if_pos hL', if_pos hF', if_pos hX'] at h
          obtain ⟨rfl, rfl⟩ := pair_eq h
          exact ⟨rfl, ⟨2, n0, n1, gS, gP, se, tS, tP, tZ, tG, fm, ln, sG, mn, tr, tm, ho, fo, sz, it, JC_c hCu (fun k hk => up_nx (by omega) (rfl)), ⟨dr, lo, ma, pa, tu, su, vo, so, ro, us, pl, sur, far, mo, sta, spa, sf, va_up_self _ _ _, up_nx (by decide) (b88), up_nx (by decide) (b89), up_nx (by decide) (b90), up_nx (by decide) (b91), up_nx (by decide) (b92), up_nx (by decide) (b93), up_nx (by decide) (b94), up_nx (by decide) (b95), up_nx (by decide) (b96), up_nx (by decide) (b97), up_nx (by decide) (b98), up_nx (by decide) (b99), up_nx (by decide) (b100), up_nx (by decide) (b101), up_nx (by decide) (b102), up_nx (by decide) (b103), up_nx (by decide) (b104), up_nx (by decide) (b105), up_nx (by decide) (b106), up_nx (by decide) (b107)⟩, hR'⟩⟩
      · have hF' : ¬ fo c = q := fun z => hF (f1.symm.trans z)
        have e0 := flt_cast (x := i) (ln := ln c) hL hF
        refine ⟨-2147483648, fun u => u = va_up f 0 (.inr (10, [.ref (ad 1), .ref (ad 69), .ref (ad 70), .int 3])), gMi_mono (c_get c q i hc la fm ln sG hc0 hS) (fun r u h => by rw [if_neg hA, e0, if_neg (show ¬ (3 : Int32) = 0 by decide)] at h; exact h), fun u hu => ?_⟩
        have hMu := JM_c (u := u) hM (fun k h _ => by rw [hu]; exact up_nx (by omega) rfl)
        have hCu := JC_la (la' := 3) hC'
        rw [← hu] at hCu
        obtain ⟨dr, lo, ma, pa, tu, su, vo, so, ro, us, pl, sur, far, mo, sta, spa, sf, b87, b88, b89, b90, b91, b92, b93, b94, b95, b96, b97, b98, b99, b100, b101, b102, b103, b104, b105, b106, b107⟩ := hMu
        refine gMm b87 (c_X12_get (l := l) (D := D) (ss := ss) (nI c) q i la dr (-1) lo ma pa tu su fo sz it b87 b88 b89 b90 (fun j hj => (hSR j hj).2.2.1)) (fun r u' h => ?_)
        unfold s_X12_get at h
        rw [if_neg sc', if_neg hA', ec, if_pos hL', if_neg hF'] at h
        obtain ⟨rfl, rfl⟩ := pair_eq h
        exact ⟨rfl, ⟨3, n0, n1, gS, gP, se, tS, tP, tZ, tG, fm, ln, sG, mn, tr, tm, ho, fo, sz, it, JC_c hCu (fun k hk => up_nx (by omega) (rfl)), ⟨dr, lo, ma, pa, tu, su, vo, so, ro, us, pl, sur, far, mo, sta, spa, sf, va_up_self _ _ _, up_nx (by decide) (b88), up_nx (by decide) (b89), up_nx (by decide) (b90), up_nx (by decide) (b91), up_nx (by decide) (b92), up_nx (by decide) (b93), up_nx (by decide) (b94), up_nx (by decide) (b95), up_nx (by decide) (b96), up_nx (by decide) (b97), up_nx (by decide) (b98), up_nx (by decide) (b99), up_nx (by decide) (b100), up_nx (by decide) (b101), up_nx (by decide) (b102), up_nx (by decide) (b103), up_nx (by decide) (b104), up_nx (by decide) (b105), up_nx (by decide) (b106), up_nx (by decide) (b107)⟩, hR'⟩⟩

theorem p_get {l : Launch} {D : va_G} {ca ss ad : Nat → Nat} (s q i : Int32) : gPr l D ca ss ad yX11_get cX11_get 5 2 yX12_get cX12_get 4 2 [.int s, .int q, .int i] := by
  by_cases hk : s_X11_isSheet s = 0
  · intro f hJ
    have hJ' := hJ
    obtain ⟨la, n0, n1, gS, gP, se, tS, tP, tZ, tG, fm, ln, sG, mn, tr, tm, ho, fo, sz, it, hC, hM, hR⟩ := hJ
    have hC' := hC
    obtain ⟨hc0, hI, hT, hS⟩ := hC
    have hR' := hR
    obtain ⟨wO, h0, h1, nzS, nzP, hTR, hTO, hHR, hSR⟩ := hR
    have hI' := hI
    obtain ⟨⟨hn0, hn1, d2, d3, d4, d5, d6⟩, hCel, lo', ma', bt, bc, sp, sc, fk, bk, sk, e1, -⟩ := hI
    refine ⟨-2147483648, fun u => u = f, gMi_mono (c_getB s q i hk) (fun r u h => h), fun u hu => ?_⟩
    subst hu
    obtain ⟨dr, lo, ma, pa, tu, su, vo, so, ro, us, pl, sur, far, mo, sta, spa, sf, a87, a88, a89, a90, a91, a92, a93, a94, a95, a96, a97, a98, a99, a100, a101, a102, a103, a104, a105, a106, a107⟩ := hM
    refine gMm a87 (c_X12_get (l := l) (D := D) (ss := ss) s q i la dr (-1) lo ma pa tu su fo sz it a87 a88 a89 a90 (fun j hj => (hSR j hj).2.2.1)) (fun r u' h => ?_)
    unfold s_X12_get at h
    rw [if_pos (sheet_iff.mp hk)] at h
    obtain ⟨rfl, rfl⟩ := pair_eq h
    exact ⟨rfl, hJ'⟩
  · obtain ⟨c, hc, rfl⟩ := sheet_nN hk
    exact p_getN c hc q i

