/-! PAIRS: what only answers -/
theorem p_at {l : Launch} {D : va_G} {ca ss ad : Nat → Nat} (k i w : Int32) : gPr l D ca ss ad yX11_at cX11_at 4 2 yX12_at cX12_at 4 3 [.int k, .int i, .int w] := by
  intro f hJ
  have hJ' := hJ
  obtain ⟨la, n0, n1, gS, gP, se, tS, tP, tZ, tG, fm, ln, sG, mn, tr, tm, ho, fo, sz, it, hC, hM, hR⟩ := hJ
  have hC' := hC
  obtain ⟨hc0, hI, hT, hS⟩ := hC
  have hR' := hR
  obtain ⟨wO, h0, h1, nzS, nzP, hTR, hTO, hHR, hSR⟩ := hR
  have hI' := hI
  obtain ⟨⟨hn0, hn1, d2, d3, d4, d5, d6⟩, hCel, lo', ma', bt, bc, sp, sc, fk, bk, sk, e1, -⟩ := hI
  obtain ⟨dr, lo, ma, pa, tu, su, vo, so, ro, us, pl, sur, far, mo, sta, spa, sf, a87, a88, a89, a90, a91, a92, a93, a94, a95, a96, a97, a98, a99, a100, a101, a102, a103, a104, a105, a106, a107⟩ := hM
  have cm := c_X12_at (l := l) (D := D) (ss := ss) k i w la dr (-1) lo ma pa tu su (dj gS gP) mn a87 a92 a93 (mn_ok h0 h1 hn0 hn1)
  refine ⟨s_X12_at k i w (dj gS gP) mn, fun u => u = f, ?_, fun u hu => by subst hu; exact gMm a87 cm (fun r u h => ⟨h.1, h.2 ▸ hJ'⟩)⟩
  by_cases hk : s_X11_isKind k = 0
  · exact gMi_mono (c_atB k i w la hc0 hk) (fun r u h => ⟨h.1.trans (at_B hk i w), h.2⟩)
  · rcases kind_01 hk with rfl | rfl
    · exact gMi_mono (c_at0 i w la lo' ma' bt bc sp sc fk bk sk n0 n1 gS gP se hc0 e1 d2 d3 d4 d5 d6 hn0 hn1) (fun r u h => ⟨h.1.trans (at_0 h0 hn0 i w), h.2⟩)
    · exact gMi_mono (c_at1 i w la lo' ma' bt bc sp sc fk bk sk n0 n1 gS gP se hc0 e1 d2 d3 d4 d5 d6 hn0 hn1) (fun r u h => ⟨h.1.trans (at_1 h1 hn1 i w), h.2⟩)

theorem p_side {l : Launch} {D : va_G} {ca ss ad : Nat → Nat} (k i j : Int32) : gPr l D ca ss ad yX11_side cX11_side 4 3 yX12_side cX12_side 4 3 [.int k, .int i, .int j] := by
  intro f hJ
  have hJ' := hJ
  obtain ⟨la, n0, n1, gS, gP, se, tS, tP, tZ, tG, fm, ln, sG, mn, tr, tm, ho, fo, sz, it, hC, hM, hR⟩ := hJ
  have hC' := hC
  obtain ⟨hc0, hI, hT, hS⟩ := hC
  have hR' := hR
  obtain ⟨wO, h0, h1, nzS, nzP, hTR, hTO, hHR, hSR⟩ := hR
  have hI' := hI
  obtain ⟨⟨hn0, hn1, d2, d3, d4, d5, d6⟩, hCel, lo', ma', bt, bc, sp, sc, fk, bk, sk, e1, -⟩ := hI
  obtain ⟨dr, lo, ma, pa, tu, su, vo, so, ro, us, pl, sur, far, mo, sta, spa, sf, a87, a88, a89, a90, a91, a92, a93, a94, a95, a96, a97, a98, a99, a100, a101, a102, a103, a104, a105, a106, a107⟩ := hM
  have cm := c_X12_side (l := l) (D := D) (ss := ss) k i j la dr (-1) lo ma pa tu su (dj gS gP) mn a87 a92 a93 (mn_ok h0 h1 hn0 hn1)
  refine ⟨s_X12_side k i j (dj gS gP) mn, fun u => u = f, ?_, fun u hu => by subst hu; exact gMm a87 cm (fun r u h => ⟨h.1, h.2 ▸ hJ'⟩)⟩
  by_cases hk : s_X11_isKind k = 0
  · exact gMi_mono (c_sideB k i j la hc0 hk) (fun r u h => ⟨h.1.trans (side_B hk i j), h.2⟩)
  · rcases kind_01 hk with rfl | rfl
    · exact gMi_mono (c_side0 i j la lo' ma' bt bc sp sc fk bk sk n0 n1 gS gP se hc0 e1 d2 d3 d4 d5 d6 hn0 hn1) (fun r u h => ⟨h.1.trans (side_0 h0 hn0 i j), h.2⟩)
    · exact gMi_mono (c_side1 i j la lo' ma' bt bc sp sc fk bk sk n0 n1 gS gP se hc0 e1 d2 d3 d4 d5 d6 hn0 hn1) (fun r u h => ⟨h.1.trans (side_1 h1 hn1 i j), h.2⟩)

theorem p_key {l : Launch} {D : va_G} {ca ss ad : Nat → Nat} (k a b c w : Int32) : gPr l D ca ss ad yX11_key cX11_key 7 3 yX12_key cX12_key 6 4 [.int k, .int a, .int b, .int c, .int w] := by
  intro f hJ
  have hJ' := hJ
  obtain ⟨la, n0, n1, gS, gP, se, tS, tP, tZ, tG, fm, ln, sG, mn, tr, tm, ho, fo, sz, it, hC, hM, hR⟩ := hJ
  have hC' := hC
  obtain ⟨hc0, hI, hT, hS⟩ := hC
  have hR' := hR
  obtain ⟨wO, h0, h1, nzS, nzP, hTR, hTO, hHR, hSR⟩ := hR
  have hI' := hI
  obtain ⟨⟨hn0, hn1, d2, d3, d4, d5, d6⟩, hCel, lo', ma', bt, bc, sp, sc, fk, bk, sk, e1, -⟩ := hI
  obtain ⟨dr, lo, ma, pa, tu, su, vo, so, ro, us, pl, sur, far, mo, sta, spa, sf, a87, a88, a89, a90, a91, a92, a93, a94, a95, a96, a97, a98, a99, a100, a101, a102, a103, a104, a105, a106, a107⟩ := hM
  have cm := c_X12_key (l := l) (D := D) (ss := ss) k a b c w la dr (-1) lo ma pa tu su (dj gS gP) mn se a87 a92 a93 a94 (mn_ok h0 h1 hn0 hn1) (se_nz wO.2.2.2.1)
  refine ⟨s_X12_key k a b c w (dj gS gP) mn se, fun u => u = f, ?_, fun u hu => by subst hu; exact gMm a87 cm (fun r u h => ⟨h.1, h.2 ▸ hJ'⟩)⟩
  by_cases hk : s_X11_isKind k = 0
  · exact gMi_mono (c_keyB k a b c w la hc0 hk) (fun r u h => ⟨h.1.trans (key_B hk a b c w), h.2⟩)
  · rcases kind_01 hk with rfl | rfl
    · exact gMi_mono (c_key0 a b c w la lo' ma' bt bc sp sc fk bk sk n0 n1 gS gP se hc0 e1 d2 d3 d4 d5 d6 hn0 hn1) (fun r u h => ⟨h.1.trans (key_0 h0 hn0 wO.2.2.2.1 a b c w), h.2⟩)
    · exact gMi_mono (c_key1 a b c w la lo' ma' bt bc sp sc fk bk sk n0 n1 gS gP se hc0 e1 d2 d3 d4 d5 d6 hn0 hn1) (fun r u h => ⟨h.1.trans (key_1 h1 hn1 wO.2.2.2.1 a b c w), h.2⟩)

