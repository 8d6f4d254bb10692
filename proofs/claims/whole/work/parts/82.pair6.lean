/-! PAIRS: put -/
theorem put_ix {c z : Nat} (hc : c < 4) (hz : z < 8) : ((32 * nI c) + (4 * nI z)).toNatClampNeg = 32 * c + 4 * z := by
  rw [show (32 : Int32) = nI 32 from rfl, show (4 : Int32) = nI 4 from rfl, pk_mul, pk_mul, nI_add, nI_clamp (by omega)]
theorem put_ix1 {c z w : Nat} (hc : c < 4) (hz : z < 8) (hw : w < 3) : ((((32 * nI c) + (4 * nI z)) + 1) + nI w).toNatClampNeg = 32 * c + 4 * z + (w + 1) := by
  rw [show (32 : Int32) = nI 32 from rfl, show (4 : Int32) = nI 4 from rfl, show (1 : Int32) = nI 1 from rfl, pk_mul, pk_mul, nI_add, nI_add, nI_add, nI_clamp (by omega)]
  omega
def put4 (g : Nat → Int32) (b : Nat) (k x y w : Int32) : Nat → Int32 := upd (upd (upd (upd g b k) (b + 1) x) (b + 2) y) (b + 3) w
theorem put_ixm {c z : Nat} (hc : c < 4) (hz : z < 8) (tr : Nat → Int32) (k x y w : Int32) : upd (upd (upd (upd tr ((32 * nI c) + (4 * nI z)).toNatClampNeg k) ((((32 * nI c) + (4 * nI z)) + 1) + 0).toNatClampNeg x) ((((32 * nI c) + (4 * nI z)) + 1) + 1).toNatClampNeg y) ((((32 * nI c) + (4 * nI z)) + 1) + 2).toNatClampNeg w = put4 tr (32 * c + 4 * z) k x y w := by
  have e0 : ((((32 * nI c) + (4 * nI z)) + 1) + 0).toNatClampNeg = 32 * c + 4 * z + 1 := put_ix1 (w := 0) hc hz (by omega)
  have e1 : ((((32 * nI c) + (4 * nI z)) + 1) + 1).toNatClampNeg = 32 * c + 4 * z + 2 := put_ix1 (w := 1) hc hz (by omega)
  have e2 : ((((32 * nI c) + (4 * nI z)) + 1) + 2).toNatClampNeg = 32 * c + 4 * z + 3 := put_ix1 (w := 2) hc hz (by omega)
  rw [put_ix hc hz, e0, e1, e2]
  rfl
theorem put_row {z : Nat} (hz : z < 8) (g : Nat → Int32) (k x y w : Int32) : putRow g (nI z) k x y w = put4 g (4 * z) k x y w := by
  have e0 : (4 * nI z).toNatClampNeg = 4 * z := by
    rw [show (4 : Int32) = nI 4 from rfl, pk_mul, nI_clamp (by omega)]
  have e : ∀ q, q < 4 → ((4 * nI z) + nI q).toNatClampNeg = 4 * z + q := by
    intro q hq
    rw [show (4 : Int32) = nI 4 from rfl, pk_mul, nI_add, nI_clamp (by omega)]
  have e1 : ((4 * nI z) + 1).toNatClampNeg = 4 * z + 1 := e 1 (by omega)
  have e2 : ((4 * nI z) + 2).toNatClampNeg = 4 * z + 2 := e 2 (by omega)
  have e3 : ((4 * nI z) + 3).toNatClampNeg = 4 * z + 3 := e 3 (by omega)
  unfold putRow
  rw [e0, e1, e2, e3]
  rfl
theorem put4_n {g : Nat → Int32} {b j : Nat} {k x y w : Int32} (h : ¬ (b ≤ j ∧ j < b + 4)) : put4 g b k x y w j = g j := by
  unfold put4
  rw [pk_un (by omega), pk_un (by omega), pk_un (by omega), pk_un (by omega)]
theorem put4_1 {g : Nat → Int32} {b : Nat} {k x y w : Int32} : put4 g b k x y w (b + 1) = x := by
  unfold put4
  rw [pk_un (by omega), pk_un (by omega), pk_us]
theorem put4_2 {g : Nat → Int32} {b : Nat} {k x y w : Int32} : put4 g b k x y w (b + 2) = y := by
  unfold put4
  rw [pk_un (by omega), pk_us]
theorem put4_3 {g : Nat → Int32} {b : Nat} {k x y w : Int32} : put4 g b k x y w (b + 3) = w := by
  unfold put4
  rw [pk_us]
theorem put4_sh {g h : Nat → Int32} {b c j : Nat} {k x y w : Int32} (e : g (c + j) = h j) : put4 g (c + b) k x y w (c + j) = put4 h b k x y w j := by
  unfold put4 upd
  exact ifc (by omega) (fun _ => ifc (by omega) (fun _ => ifc (by omega) (fun _ => ifc (by omega) (fun _ => e))))
theorem tRel_p {tr tm tZ : Nat → Int32} {tG : Nat → Nat → Int32} (h : tRel tr tm tZ tG) {c z : Nat} (hz : z < 8) (k x y w : Int32) : tRel (put4 tr (32 * c + 4 * z) k x y w) (upd tm c (nI z + 1)) (upd tZ c (nI z + 1)) (updT tG c (put4 (tG c) (4 * z) k x y w)) := by
  intro t ht
  obtain ⟨h1, h2, h3⟩ := h t ht
  by_cases e : t = c
  · subst e
    rw [pk_us, pk_us, updT_s]
    refine ⟨rfl, ?_, fun j hj => put4_sh (h3 j hj)⟩
    rw [show nI z + 1 = nI (z + 1) from nI_add z 1, nI_toInt (by omega)]
    omega
  · rw [pk_un e, pk_un e, updT_n _ _ e]
    exact ⟨h1, h2, fun j hj => by rw [put4_n (by omega)]; exact h3 j hj⟩
theorem trOk_p {tr tm : Nat → Int32} (h : trOk tr tm) (hm : tmOk tm) {c z : Nat} (hz : z < 8) (ez : tm c = nI z) {k x y w : Int32} (hx : -100 ≤ x.toInt ∧ x.toInt ≤ 100) (hy : -100 ≤ y.toInt ∧ y.toInt ≤ 100) (hw : -100 ≤ w.toInt ∧ w.toInt ≤ 100) (nz : ¬ (x.toInt = 0 ∧ y.toInt = 0 ∧ w.toInt = 0)) : trOk (put4 tr (32 * c + 4 * z) k x y w) (upd tm c (nI z + 1)) := by
  intro a m ha hma
  by_cases e : a = c ∧ m = z
  · obtain ⟨rfl, rfl⟩ := e
    refine ⟨fun q h1 h2 => ?_, ?_⟩
    · have : q = 1 ∨ q = 2 ∨ q = 3 := by omega
      rcases this with rfl | rfl | rfl
      · rw [put4_1]; exact hx
      · rw [put4_2]; exact hy
      · rw [put4_3]; exact hw
    · rw [put4_1, put4_2, put4_3]; exact nz
  · have hk : (m : Int) < (tm a).toInt := by
      by_cases e2 : a = c
      · subst e2
        rw [pk_us, show nI z + 1 = nI (z + 1) from nI_add z 1, nI_toInt (by omega)] at hma
        rw [ez, nI_toInt (by omega)]
        omega
      · rw [pk_un e2] at hma; exact hma
    have q := hm a ha
    have p : ∀ q, q ≤ 3 → put4 tr (32 * c + 4 * z) k x y w (32 * a + 4 * m + q) = tr (32 * a + 4 * m + q) := fun q hq => put4_n (by omega)
    have := h a m ha hk
    refine ⟨fun q h1 h2 => ?_, ?_⟩
    · rw [p q h2]; exact this.1 q h1 h2
    · rw [p 1 (by omega), p 2 (by omega), p 3 (by omega)]; exact this.2
theorem put_if0 {α : Type} {h : Int32} {a b : α} (h0 : 0 ≤ h.toInt) (h1 : ¬ h = 1) : (if 2 ≤ h then a else if h = 0 then a else b) = a := by
  by_cases q : 2 ≤ h
  · rw [if_pos q]
  · rw [if_neg q]
    refine if_pos ?_
    rw [i32_le] at q
    rw [i32_eq] at h1 ⊢
    have z0 : (0 : Int32).toInt = 0 := rfl
    have z1 : (1 : Int32).toInt = 1 := rfl
    have z2 : (2 : Int32).toInt = 2 := rfl
    omega
theorem put_no0 {α : Type} {h : Int32} {a b : α} (h1 : h = 1) : (if 2 ≤ h then a else if h = 0 then a else b) = b := by
  subst h1
  rw [if_neg (by decide), if_neg (by decide)]
theorem put_if1 {α : Type} {h : Int32} {a b : α} (h0 : 0 ≤ h.toInt) (h1 : ¬ h = 0) : (if 2 ≤ h then a else if h = 1 then a else b) = a := by
  by_cases q : 2 ≤ h
  · rw [if_pos q]
  · rw [if_neg q]
    refine if_pos ?_
    rw [i32_le] at q
    rw [i32_eq] at h1 ⊢
    have z0 : (0 : Int32).toInt = 0 := rfl
    have z1 : (1 : Int32).toInt = 1 := rfl
    have z2 : (2 : Int32).toInt = 2 := rfl
    omega
theorem put_no1 {α : Type} {h : Int32} {a b : α} (h1 : h = 0) : (if 2 ≤ h then a else if h = 1 then a else b) = b := by
  subst h1
  rw [if_neg (by decide), if_neg (by decide)]
theorem of_okS {gS gP : Nat → Int32} {n0 j : Nat} (hd : dOk (dj gS gP)) (hn : n0 ≤ 12) (nz : nzD gS n0) (hj : j < n0) : (∀ w, w < 3 → -100 ≤ (s_X12_of (0 : Int32) (nI j) (nI w) (dj gS gP)).toInt ∧ (s_X12_of (0 : Int32) (nI j) (nI w) (dj gS gP)).toInt ≤ 100) ∧ ¬ ((s_X12_of (0 : Int32) (nI j) (nI 0) (dj gS gP)).toInt = 0 ∧ (s_X12_of (0 : Int32) (nI j) (nI 1) (dj gS gP)).toInt = 0 ∧ (s_X12_of (0 : Int32) (nI j) (nI 2) (dj gS gP)).toInt = 0) := by
  refine ⟨fun w hw => ?_, ?_⟩
  · rw [ofS (by omega) hw]
    have := hd (3 * j + w) (by omega)
    unfold dj at this
    rw [if_pos (by omega)] at this
    exact this
  · rw [ofS (by omega) (by omega), ofS (by omega) (by omega), ofS (by omega) (by omega)]
    have := nz j hj
    rw [i32_eq, i32_eq, i32_eq] at this
    exact this
theorem of_okP {gS gP : Nat → Int32} {n1 j : Nat} (hd : dOk (dj gS gP)) (hn : n1 ≤ 8) (nz : nzD gP n1) (hj : j < n1) : (∀ w, w < 3 → -100 ≤ (s_X12_of (1 : Int32) (nI j) (nI w) (dj gS gP)).toInt ∧ (s_X12_of (1 : Int32) (nI j) (nI w) (dj gS gP)).toInt ≤ 100) ∧ ¬ ((s_X12_of (1 : Int32) (nI j) (nI 0) (dj gS gP)).toInt = 0 ∧ (s_X12_of (1 : Int32) (nI j) (nI 1) (dj gS gP)).toInt = 0 ∧ (s_X12_of (1 : Int32) (nI j) (nI 2) (dj gS gP)).toInt = 0) := by
  refine ⟨fun w hw => ?_, ?_⟩
  · rw [ofP (by omega) hw]
    have := hd (36 + (3 * j + w)) (by omega)
    unfold dj at this
    rw [if_neg (by omega), Nat.add_sub_cancel_left] at this
    exact this
  · rw [ofP (by omega) (by omega), ofP (by omega) (by omega), ofP (by omega) (by omega)]
    have := nz j hj
    rw [i32_eq, i32_eq, i32_eq] at this
    exact this
theorem p_put0 {l : Launch} {D : va_G} {ca ss ad : Nat → Nat} (c : Nat) (hc : c < 4) (i : Int32) : gPr l D ca ss ad yX11_put cX11_put 6 2 yX12_put cX12_put 6 3 [.int (nI c), .int 0, .int i] := by
  intro f hJ
  have hJ' := hJ
  obtain ⟨la, n0, n1, gS, gP, se, tS, tP, tZ, tG, fm, ln, sG, mn, tr, tm, ho, fo, sz, it, hC, hM, hR⟩ := hJ
  have hC' := hC
  obtain ⟨hc0, hI, hT, hS⟩ := hC
  have hR' := hR
  obtain ⟨wO, h0, h1, nzS, nzP, hTR, hTO, hHR, hSR⟩ := hR
  have hI' := hI
  obtain ⟨⟨hn0, hn1, d2, d3, d4, d5, d6⟩, hCel, lo', ma', bt, bc, sp, sc, fk, bk, sk, e1, -⟩ := hI
  have hk' := tray_n c hc
  obtain ⟨t1, t2, t3⟩ := hTR c hc
  have q := hHR c hc
  have ec : (nI c).toNatClampNeg = c := nI_clamp (by omega)
  have tcc := hT.2 c hc
  by_cases hA : s_isOne0 i n0 = 0
  · skip
    refine ⟨-2, fun u => u = f, gMi_mono (c_put0 c i hc la n0 n1 gS gP se tS tP tZ tG hc0 hI' hT) (fun r u h => by rw [if_pos hA] at h; exact h), fun u hu => ?_⟩
    subst hu
    obtain ⟨dr, lo, ma, pa, tu, su, vo, so, ro, us, pl, sur, far, mo, sta, spa, sf, a87, a88, a89, a90, a91, a92, a93, a94, a95, a96, a97, a98, a99, a100, a101, a102, a103, a104, a105, a106, a107⟩ := hM
    refine gMm a87 (c_X12_put (l := l) (D := D) (ss := ss) (nI c) 0 i la dr (-1) lo ma pa tu su (dj gS gP) mn tr tm ho a87 a92 a93 a105 a106 a107 (mn_ok h0 h1 hn0 hn1) (tm_ok hTR)) (fun r u' h => ?_)
    unfold s_X12_put at h
    rw [if_neg hk', if_pos ((oneth_0 h0 hn0).mp hA)] at h
    obtain ⟨rfl, rfl⟩ := pair_eq h
    exact ⟨rfl, hJ'⟩
  · have hA' := fun z => hA ((oneth_0 h0 hn0).mpr z)
    by_cases hB : tZ c = 8
    · skip
      refine ⟨-4, fun u => u = f, gMi_mono (c_put0 c i hc la n0 n1 gS gP se tS tP tZ tG hc0 hI' hT) (fun r u h => by rw [if_neg hA, if_pos hB] at h; exact h), fun u hu => ?_⟩
      subst hu
      obtain ⟨dr, lo, ma, pa, tu, su, vo, so, ro, us, pl, sur, far, mo, sta, spa, sf, a87, a88, a89, a90, a91, a92, a93, a94, a95, a96, a97, a98, a99, a100, a101, a102, a103, a104, a105, a106, a107⟩ := hM
      refine gMm a87 (c_X12_put (l := l) (D := D) (ss := ss) (nI c) 0 i la dr (-1) lo ma pa tu su (dj gS gP) mn tr tm ho a87 a92 a93 a105 a106 a107 (mn_ok h0 h1 hn0 hn1) (tm_ok hTR)) (fun r u' h => ?_)
      unfold s_X12_put at h
      rw [if_neg hk', if_neg hA', ec, t1, if_pos hB] at h
      obtain ⟨rfl, rfl⟩ := pair_eq h
      exact ⟨rfl, hJ'⟩
    · by_cases hH : s_X10_holds (0 : Int32) (tS c) (tP c) = 0
      · have hz : tS c = 0 := hH
        have hh : ho c = 1 := Decidable.byContradiction (fun z => absurd (hz.symm.trans (q.2.1.mpr z)) (by decide))
        refine ⟨-14, fun u => u = va_up f 0 (.inr (10, [.ref (ad 1), .ref (ad 69), .ref (ad 70), .int 4])), gMi_mono (c_put0 c i hc la n0 n1 gS gP se tS tP tZ tG hc0 hI' hT) (fun r u h => by rw [if_neg hA, if_neg hB, if_pos hH] at h; exact h), fun u hu => ?_⟩
        have hMu := JM_c (u := u) hM (fun k h _ => by rw [hu]; exact up_nx (by omega) rfl)
        have hCu := JC_la (la' := 4) hC'
        rw [← hu] at hCu
        obtain ⟨dr, lo, ma, pa, tu, su, vo, so, ro, us, pl, sur, far, mo, sta, spa, sf, b87, b88, b89, b90, b91, b92, b93, b94, b95, b96, b97, b98, b99, b100, b101, b102, b103, b104, b105, b106, b107⟩ := hMu
        refine gMm b87 (c_X12_put (l := l) (D := D) (ss := ss) (nI c) 0 i la dr (-1) lo ma pa tu su (dj gS gP) mn tr tm ho b87 b92 b93 b105 b106 b107 (mn_ok h0 h1 hn0 hn1) (tm_ok hTR)) (fun r u' h => ?_)
        unfold s_X12_put at h
        rw [if_neg hk', if_neg hA', ec, t1, if_neg hB, put_no0 hh] at h
        obtain ⟨rfl, rfl⟩ := pair_eq h
        exact ⟨rfl, ⟨4, n0, n1, gS, gP, se, tS, tP, tZ, tG, fm, ln, sG, mn, tr, tm, ho, fo, sz, it, JC_c hCu (fun k hk => up_nx (by omega) (rfl)), ⟨dr, lo, ma, pa, tu, su, vo, so, ro, us, pl, sur, far, mo, sta, spa, sf, va_up_self _ _ _, up_nx (by decide) (b88), up_nx (by decide) (b89), up_nx (by decide) (b90), up_nx (by decide) (b91), up_nx (by decide) (b92), up_nx (by decide) (b93), up_nx (by decide) (b94), up_nx (by decide) (b95), up_nx (by decide) (b96), up_nx (by decide) (b97), up_nx (by decide) (b98), up_nx (by decide) (b99), up_nx (by decide) (b100), up_nx (by decide) (b101), up_nx (by decide) (b102), up_nx (by decide) (b103), up_nx (by decide) (b104), up_nx (by decide) (b105), up_nx (by decide) (b106), up_nx (by decide) (b107)⟩, hR'⟩⟩
      · have hz : ¬ tS c = 0 := hH
        have hh : ¬ ho c = 1 := q.2.1.mp (tcc.1.resolve_left hz)
        obtain ⟨z, hz8, ez⟩ := tz_n t2
        have hz7 : z < 8 := by
          rcases Nat.lt_or_ge z 8 with a | a
          · exact a
          · exact absurd (ez.trans (by rw [show z = 8 by omega]; rfl)) hB
        obtain ⟨j, hj, rfl⟩ := one_n0 hn0 hA
        have ok := of_okS wO.2.2.1 hn0 nzS hj
        have x0 : s_X1_part (nI j) (0 : Int32) (nI n0) gS = (s_X12_of (0 : Int32) (nI j) (0 : Int32) (dj gS gP)) := partS (w := 0) hj hn0 (by omega)
        have x1 : s_X1_part (nI j) (1 : Int32) (nI n0) gS = (s_X12_of (0 : Int32) (nI j) (1 : Int32) (dj gS gP)) := partS (w := 1) hj hn0 (by omega)
        have x2 : s_X1_part (nI j) (2 : Int32) (nI n0) gS = (s_X12_of (0 : Int32) (nI j) (2 : Int32) (dj gS gP)) := partS (w := 2) hj hn0 (by omega)
        have okx : ∀ w, w < 3 → -100 ≤ (s_X12_of (0 : Int32) (nI j) (nI w) (dj gS gP)).toInt ∧ (s_X12_of (0 : Int32) (nI j) (nI w) (dj gS gP)).toInt ≤ 100 := ok.1
        refine ⟨nI z + 1, fun u => cTr ca ad tS tP (upd tZ c (nI z + 1)) (updT tG c (put4 (tG c) (4 * z) 0 (s_X12_of (0 : Int32) (nI j) (0 : Int32) (dj gS gP)) (s_X12_of (0 : Int32) (nI j) (1 : Int32) (dj gS gP)) (s_X12_of (0 : Int32) (nI j) (2 : Int32) (dj gS gP)))) u ∧ ∀ k, ¬ (71 ≤ k ∧ k < 79) → u k = f k, gMi_mono (c_put0 c (nI j) hc la n0 n1 gS gP se tS tP tZ tG hc0 hI' hT) (fun r u h => by rw [if_neg hA, if_neg hB, if_neg hH, ez, x0, x1, x2, put_row hz7] at h; exact h), fun u hu => ?_⟩
        have hMu := JM_c hM (fun k h _ => hu.2 k (by omega))
        have hCu := JC_t hC' hu.1 hu.2
        obtain ⟨dr, lo, ma, pa, tu, su, vo, so, ro, us, pl, sur, far, mo, sta, spa, sf, b87, b88, b89, b90, b91, b92, b93, b94, b95, b96, b97, b98, b99, b100, b101, b102, b103, b104, b105, b106, b107⟩ := hMu
        refine gMm b87 (c_X12_put (l := l) (D := D) (ss := ss) (nI c) 0 (nI j) la dr (-1) lo ma pa tu su (dj gS gP) mn tr tm ho b87 b92 b93 b105 b106 b107 (mn_ok h0 h1 hn0 hn1) (tm_ok hTR)) (fun r u' h => ?_)
        unfold s_X12_put at h
        rw [if_neg hk', if_neg hA', ec, t1, if_neg hB, put_if0 q.1 hh, ez, put_ixm hc hz7, pk_us] at h
        obtain ⟨rfl, rfl⟩ := pair_eq h
        exact ⟨rfl, ⟨la, n0, n1, gS, gP, se, tS, tP, upd tZ c (nI z + 1), updT tG c (put4 (tG c) (4 * z) 0 (s_X12_of (0 : Int32) (nI j) (0 : Int32) (dj gS gP)) (s_X12_of (0 : Int32) (nI j) (1 : Int32) (dj gS gP)) (s_X12_of (0 : Int32) (nI j) (2 : Int32) (dj gS gP))), fm, ln, sG, mn, (put4 tr (32 * c + 4 * z) 0 (s_X12_of (0 : Int32) (nI j) (0 : Int32) (dj gS gP)) (s_X12_of (0 : Int32) (nI j) (1 : Int32) (dj gS gP)) (s_X12_of (0 : Int32) (nI j) (2 : Int32) (dj gS gP))), upd tm c (nI z + 1), ho, fo, sz, it, JC_c hCu (fun k hk => up_nx (by omega) (up_nx (by omega) (rfl))), ⟨dr, lo, ma, pa, tu, su, vo, so, ro, us, pl, sur, far, mo, sta, spa, sf, up_nx (by decide) (up_nx (by decide) (b87)), up_nx (by decide) (up_nx (by decide) (b88)), up_nx (by decide) (up_nx (by decide) (b89)), up_nx (by decide) (up_nx (by decide) (b90)), up_nx (by decide) (up_nx (by decide) (b91)), up_nx (by decide) (up_nx (by decide) (b92)), up_nx (by decide) (up_nx (by decide) (b93)), up_nx (by decide) (up_nx (by decide) (b94)), up_nx (by decide) (up_nx (by decide) (b95)), up_nx (by decide) (up_nx (by decide) (b96)), up_nx (by decide) (up_nx (by decide) (b97)), up_nx (by decide) (up_nx (by decide) (b98)), up_nx (by decide) (up_nx (by decide) (b99)), up_nx (by decide) (up_nx (by decide) (b100)), up_nx (by decide) (up_nx (by decide) (b101)), up_nx (by decide) (up_nx (by decide) (b102)), up_nx (by decide) (up_nx (by decide) (b103)), up_nx (by decide) (up_nx (by decide) (b104)), up_nx (by decide) (va_up_self _ _ _), va_up_self _ _ _, up_nx (by decide) (up_nx (by decide) (b107))⟩, wO, h0, h1, nzS, nzP, tRel_p hTR hz7 _ _ _ _, trOk_p hTO (tm_ok hTR) hz7 (t1.trans ez) (okx 0 (by omega)) (okx 1 (by omega)) (okx 2 (by omega)) ok.2, hHR, hSR⟩⟩

theorem p_put1 {l : Launch} {D : va_G} {ca ss ad : Nat → Nat} (c : Nat) (hc : c < 4) (i : Int32) : gPr l D ca ss ad yX11_put cX11_put 6 2 yX12_put cX12_put 6 3 [.int (nI c), .int 1, .int i] := by
  intro f hJ
  have hJ' := hJ
  obtain ⟨la, n0, n1, gS, gP, se, tS, tP, tZ, tG, fm, ln, sG, mn, tr, tm, ho, fo, sz, it, hC, hM, hR⟩ := hJ
  have hC' := hC
  obtain ⟨hc0, hI, hT, hS⟩ := hC
  have hR' := hR
  obtain ⟨wO, h0, h1, nzS, nzP, hTR, hTO, hHR, hSR⟩ := hR
  have hI' := hI
  obtain ⟨⟨hn0, hn1, d2, d3, d4, d5, d6⟩, hCel, lo', ma', bt, bc, sp, sc, fk, bk, sk, e1, -⟩ := hI
  have hk' := tray_n c hc
  obtain ⟨t1, t2, t3⟩ := hTR c hc
  have q := hHR c hc
  have ec : (nI c).toNatClampNeg = c := nI_clamp (by omega)
  have tcc := hT.2 c hc
  by_cases hA : s_isOne1 i n1 = 0
  · skip
    refine ⟨-2, fun u => u = f, gMi_mono (c_put1 c i hc la n0 n1 gS gP se tS tP tZ tG hc0 hI' hT) (fun r u h => by rw [if_pos hA] at h; exact h), fun u hu => ?_⟩
    subst hu
    obtain ⟨dr, lo, ma, pa, tu, su, vo, so, ro, us, pl, sur, far, mo, sta, spa, sf, a87, a88, a89, a90, a91, a92, a93, a94, a95, a96, a97, a98, a99, a100, a101, a102, a103, a104, a105, a106, a107⟩ := hM
    refine gMm a87 (c_X12_put (l := l) (D := D) (ss := ss) (nI c) 1 i la dr (-1) lo ma pa tu su (dj gS gP) mn tr tm ho a87 a92 a93 a105 a106 a107 (mn_ok h0 h1 hn0 hn1) (tm_ok hTR)) (fun r u' h => ?_)
    unfold s_X12_put at h
    rw [if_neg hk', if_pos ((oneth_1 h1 hn1).mp hA)] at h
    obtain ⟨rfl, rfl⟩ := pair_eq h
    exact ⟨rfl, hJ'⟩
  · have hA' := fun z => hA ((oneth_1 h1 hn1).mpr z)
    by_cases hB : tZ c = 8
    · skip
      refine ⟨-4, fun u => u = f, gMi_mono (c_put1 c i hc la n0 n1 gS gP se tS tP tZ tG hc0 hI' hT) (fun r u h => by rw [if_neg hA, if_pos hB] at h; exact h), fun u hu => ?_⟩
      subst hu
      obtain ⟨dr, lo, ma, pa, tu, su, vo, so, ro, us, pl, sur, far, mo, sta, spa, sf, a87, a88, a89, a90, a91, a92, a93, a94, a95, a96, a97, a98, a99, a100, a101, a102, a103, a104, a105, a106, a107⟩ := hM
      refine gMm a87 (c_X12_put (l := l) (D := D) (ss := ss) (nI c) 1 i la dr (-1) lo ma pa tu su (dj gS gP) mn tr tm ho a87 a92 a93 a105 a106 a107 (mn_ok h0 h1 hn0 hn1) (tm_ok hTR)) (fun r u' h => ?_)
      unfold s_X12_put at h
      rw [if_neg hk', if_neg hA', ec, t1, if_pos hB] at h
      obtain ⟨rfl, rfl⟩ := pair_eq h
      exact ⟨rfl, hJ'⟩
    · by_cases hH : s_X10_holds (1 : Int32) (tS c) (tP c) = 0
      · have hz : tP c = 0 := hH
        have hh : ho c = 0 := Decidable.byContradiction (fun z => absurd (hz.symm.trans (q.2.2.mpr z)) (by decide))
        refine ⟨-14, fun u => u = va_up f 0 (.inr (10, [.ref (ad 1), .ref (ad 69), .ref (ad 70), .int 4])), gMi_mono (c_put1 c i hc la n0 n1 gS gP se tS tP tZ tG hc0 hI' hT) (fun r u h => by rw [if_neg hA, if_neg hB, if_pos hH] at h; exact h), fun u hu => ?_⟩
        have hMu := JM_c (u := u) hM (fun k h _ => by rw [hu]; exact up_nx (by omega) rfl)
        have hCu := JC_la (la' := 4) hC'
        rw [← hu] at hCu
        obtain ⟨dr, lo, ma, pa, tu, su, vo, so, ro, us, pl, sur, far, mo, sta, spa, sf, b87, b88, b89, b90, b91, b92, b93, b94, b95, b96, b97, b98, b99, b100, b101, b102, b103, b104, b105, b106, b107⟩ := hMu
        refine gMm b87 (c_X12_put (l := l) (D := D) (ss := ss) (nI c) 1 i la dr (-1) lo ma pa tu su (dj gS gP) mn tr tm ho b87 b92 b93 b105 b106 b107 (mn_ok h0 h1 hn0 hn1) (tm_ok hTR)) (fun r u' h => ?_)
        unfold s_X12_put at h
        rw [if_neg hk', if_neg hA', ec, t1, if_neg hB, put_no1 hh] at h
        obtain ⟨rfl, rfl⟩ := pair_eq h
        exact ⟨rfl, ⟨4, n0, n1, gS, gP, se, tS, tP, tZ, tG, fm, ln, sG, mn, tr, tm, ho, fo, sz, it, JC_c hCu (fun k hk => up_nx (by omega) (rfl)), ⟨dr, lo, ma, pa, tu, su, vo, so, ro, us, pl, sur, far, mo, sta, spa, sf, va_up_self _ _ _, up_nx (by decide) (b88), up_nx (by decide) (b89), up_nx (by decide) (b90), up_nx (by decide) (b91), up_nx (by decide) (b92), up_nx (by decide) (b93), up_nx (by decide) (b94), up_nx (by decide) (b95), up_nx (by decide) (b96), up_nx (by decide) (b97), up_nx (by decide) (b98), up_nx (by decide) (b99), up_nx (by decide) (b100), up_nx (by decide) (b101), up_nx (by decide) (b102), up_nx (by decide) (b103), up_nx (by decide) (b104), up_nx (by decide) (b105), up_nx (by decide) (b106), up_nx (by decide) (b107)⟩, hR'⟩⟩
      · have hz : ¬ tP c = 0 := hH
        have hh : ¬ ho c = 0 := q.2.2.mp (tcc.2.1.resolve_left hz)
        obtain ⟨z, hz8, ez⟩ := tz_n t2
        have hz7 : z < 8 := by
          rcases Nat.lt_or_ge z 8 with a | a
          · exact a
          · exact absurd (ez.trans (by rw [show z = 8 by omega]; rfl)) hB
        obtain ⟨j, hj, rfl⟩ := one_n1 hn1 hA
        have ok := of_okP wO.2.2.1 hn1 nzP hj
        have x0 : s_X1_part (nI j) (0 : Int32) (nI n1) gP = (s_X12_of (1 : Int32) (nI j) (0 : Int32) (dj gS gP)) := partP (w := 0) hj hn1 (by omega)
        have x1 : s_X1_part (nI j) (1 : Int32) (nI n1) gP = (s_X12_of (1 : Int32) (nI j) (1 : Int32) (dj gS gP)) := partP (w := 1) hj hn1 (by omega)
        have x2 : s_X1_part (nI j) (2 : Int32) (nI n1) gP = (s_X12_of (1 : Int32) (nI j) (2 : Int32) (dj gS gP)) := partP (w := 2) hj hn1 (by omega)
        have okx : ∀ w, w < 3 → -100 ≤ (s_X12_of (1 : Int32) (nI j) (nI w) (dj gS gP)).toInt ∧ (s_X12_of (1 : Int32) (nI j) (nI w) (dj gS gP)).toInt ≤ 100 := ok.1
        refine ⟨nI z + 1, fun u => cTr ca ad tS tP (upd tZ c (nI z + 1)) (updT tG c (put4 (tG c) (4 * z) 1 (s_X12_of (1 : Int32) (nI j) (0 : Int32) (dj gS gP)) (s_X12_of (1 : Int32) (nI j) (1 : Int32) (dj gS gP)) (s_X12_of (1 : Int32) (nI j) (2 : Int32) (dj gS gP)))) u ∧ ∀ k, ¬ (71 ≤ k ∧ k < 79) → u k = f k, gMi_mono (c_put1 c (nI j) hc la n0 n1 gS gP se tS tP tZ tG hc0 hI' hT) (fun r u h => by rw [if_neg hA, if_neg hB, if_neg hH, ez, x0, x1, x2, put_row hz7] at h; exact h), fun u hu => ?_⟩
        have hMu := JM_c hM (fun k h _ => hu.2 k (by omega))
        have hCu := JC_t hC' hu.1 hu.2
        obtain ⟨dr, lo, ma, pa, tu, su, vo, so, ro, us, pl, sur, far, mo, sta, spa, sf, b87, b88, b89, b90, b91, b92, b93, b94, b95, b96, b97, b98, b99, b100, b101, b102, b103, b104, b105, b106, b107⟩ := hMu
        refine gMm b87 (c_X12_put (l := l) (D := D) (ss := ss) (nI c) 1 (nI j) la dr (-1) lo ma pa tu su (dj gS gP) mn tr tm ho b87 b92 b93 b105 b106 b107 (mn_ok h0 h1 hn0 hn1) (tm_ok hTR)) (fun r u' h => ?_)
        unfold s_X12_put at h
        rw [if_neg hk', if_neg hA', ec, t1, if_neg hB, put_if1 q.1 hh, ez, put_ixm hc hz7, pk_us] at h
        obtain ⟨rfl, rfl⟩ := pair_eq h
        exact ⟨rfl, ⟨la, n0, n1, gS, gP, se, tS, tP, upd tZ c (nI z + 1), updT tG c (put4 (tG c) (4 * z) 1 (s_X12_of (1 : Int32) (nI j) (0 : Int32) (dj gS gP)) (s_X12_of (1 : Int32) (nI j) (1 : Int32) (dj gS gP)) (s_X12_of (1 : Int32) (nI j) (2 : Int32) (dj gS gP))), fm, ln, sG, mn, (put4 tr (32 * c + 4 * z) 1 (s_X12_of (1 : Int32) (nI j) (0 : Int32) (dj gS gP)) (s_X12_of (1 : Int32) (nI j) (1 : Int32) (dj gS gP)) (s_X12_of (1 : Int32) (nI j) (2 : Int32) (dj gS gP))), upd tm c (nI z + 1), ho, fo, sz, it, JC_c hCu (fun k hk => up_nx (by omega) (up_nx (by omega) (rfl))), ⟨dr, lo, ma, pa, tu, su, vo, so, ro, us, pl, sur, far, mo, sta, spa, sf, up_nx (by decide) (up_nx (by decide) (b87)), up_nx (by decide) (up_nx (by decide) (b88)), up_nx (by decide) (up_nx (by decide) (b89)), up_nx (by decide) (up_nx (by decide) (b90)), up_nx (by decide) (up_nx (by decide) (b91)), up_nx (by decide) (up_nx (by decide) (b92)), up_nx (by decide) (up_nx (by decide) (b93)), up_nx (by decide) (up_nx (by decide) (b94)), up_nx (by decide) (up_nx (by decide) (b95)), up_nx (by decide) (up_nx (by decide) (b96)), up_nx (by decide) (up_nx (by decide) (b97)), up_nx (by decide) (up_nx (by decide) (b98)), up_nx (by decide) (up_nx (by decide) (b99)), up_nx (by decide) (up_nx (by decide) (b100)), up_nx (by decide) (up_nx (by decide) (b101)), up_nx (by decide) (up_nx (by decide) (b102)), up_nx (by decide) (up_nx (by decide) (b103)), up_nx (by decide) (up_nx (by decide) (b104)), up_nx (by decide) (va_up_self _ _ _), va_up_self _ _ _, up_nx (by decide) (up_nx (by decide) (b107))⟩, wO, h0, h1, nzS, nzP, tRel_p hTR hz7 _ _ _ _, trOk_p hTO (tm_ok hTR) hz7 (t1.trans ez) (okx 0 (by omega)) (okx 1 (by omega)) (okx 2 (by omega)) ok.2, hHR, hSR⟩⟩

theorem p_put {l : Launch} {D : va_G} {ca ss ad : Nat → Nat} (t k i : Int32) : gPr l D ca ss ad yX11_put cX11_put 6 2 yX12_put cX12_put 6 3 [.int t, .int k, .int i] := by
  by_cases hk : s_X11_isTray t = 0
  · intro f hJ
    have hJ' := hJ
    obtain ⟨la, n0, n1, gS, gP, se, tS, tP, tZ, tG, fm, ln, sG, mn, tr, tm, ho, fo, sz, it, hC, hM, hR⟩ := hJ
    have hC' := hC
    obtain ⟨hc0, hI, hT, hS⟩ := hC
    have hR' := hR
    obtain ⟨wO, h0, h1, nzS, nzP, hTR, hTO, hHR, hSR⟩ := hR
    have hI' := hI
    obtain ⟨⟨hn0, hn1, d2, d3, d4, d5, d6⟩, hCel, lo', ma', bt, bc, sp, sc, fk, bk, sk, e1, -⟩ := hI
    refine ⟨-2, fun u => u = f, gMi_mono (c_putB t k i hk) (fun r u h => h), fun u hu => ?_⟩
    subst hu
    obtain ⟨dr, lo, ma, pa, tu, su, vo, so, ro, us, pl, sur, far, mo, sta, spa, sf, a87, a88, a89, a90, a91, a92, a93, a94, a95, a96, a97, a98, a99, a100, a101, a102, a103, a104, a105, a106, a107⟩ := hM
    refine gMm a87 (c_X12_put (l := l) (D := D) (ss := ss) t k i la dr (-1) lo ma pa tu su (dj gS gP) mn tr tm ho a87 a92 a93 a105 a106 a107 (mn_ok h0 h1 hn0 hn1) (tm_ok hTR)) (fun r u' h => ?_)
    unfold s_X12_put at h
    rw [if_pos (tray_iff.mp hk)] at h
    obtain ⟨rfl, rfl⟩ := pair_eq h
    exact ⟨rfl, hJ'⟩
  · obtain ⟨c, hc, rfl⟩ := tray_nN hk
    by_cases hq : s_X11_isKind k = 0
    · intro f hJ
      have hJ' := hJ
      obtain ⟨la, n0, n1, gS, gP, se, tS, tP, tZ, tG, fm, ln, sG, mn, tr, tm, ho, fo, sz, it, hC, hM, hR⟩ := hJ
      have hC' := hC
      obtain ⟨hc0, hI, hT, hS⟩ := hC
      have hR' := hR
      obtain ⟨wO, h0, h1, nzS, nzP, hTR, hTO, hHR, hSR⟩ := hR
      have hI' := hI
      obtain ⟨⟨hn0, hn1, d2, d3, d4, d5, d6⟩, hCel, lo', ma', bt, bc, sp, sc, fk, bk, sk, e1, -⟩ := hI
      refine ⟨-2, fun u => u = f, gMi_mono (c_putK c k i hc la hc0 hq) (fun r u h => h), fun u hu => ?_⟩
      subst hu
      obtain ⟨dr, lo, ma, pa, tu, su, vo, so, ro, us, pl, sur, far, mo, sta, spa, sf, a87, a88, a89, a90, a91, a92, a93, a94, a95, a96, a97, a98, a99, a100, a101, a102, a103, a104, a105, a106, a107⟩ := hM
      refine gMm a87 (c_X12_put (l := l) (D := D) (ss := ss) (nI c) k i la dr (-1) lo ma pa tu su (dj gS gP) mn tr tm ho a87 a92 a93 a105 a106 a107 (mn_ok h0 h1 hn0 hn1) (tm_ok hTR)) (fun r u' h => ?_)
      unfold s_X12_put at h
      rw [if_neg (tray_n c hc), if_pos (th_bad hq)] at h
      obtain ⟨rfl, rfl⟩ := pair_eq h
      exact ⟨rfl, hJ'⟩
    · rcases kind_01 hq with rfl | rfl
      · exact p_put0 c hc i
      · exact p_put1 c hc i

