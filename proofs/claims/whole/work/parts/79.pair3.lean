/-! PAIRS: trays that are looked at, and the digest -/
theorem tray_iff {t : Int32} : s_X11_isTray t = 0 ↔ s_X12_isTray t = 0 := in_min rfl rfl
theorem tray_nN {t : Int32} (h : ¬ s_X11_isTray t = 0) : ∃ c, c < 4 ∧ t = nI c := by
  obtain ⟨c, hc, e⟩ := wi_n (m := 3) (hi := 3) rfl h
  exact ⟨c, by omega, e⟩
theorem isThing_B {t i : Int32} {tm : Nat → Int32} (h : s_X11_isTray t = 0) : s_X12_isThing t i tm = 0 := by
  unfold s_X12_isThing
  exact if_pos (tray_iff.mp h)
theorem thing_B {t i w : Int32} {tr tm : Nat → Int32} (h : s_X11_isTray t = 0) : (-2147483648) = s_X12_thing t i w tr tm := by
  unfold s_X12_thing
  rw [if_pos (isThing_B h)]
theorem share_B {t i j : Int32} {tr tm : Nat → Int32} (h : s_X11_isTray t = 0) : (-2147483648) = s_X12_share t i j tr tm := by
  unfold s_X12_share s_X12_shareBy
  rw [if_pos (isThing_B h)]
theorem p_thing {l : Launch} {D : va_G} {ca ss ad : Nat → Nat} (t i w : Int32) : gPr l D ca ss ad yX11_thing cX11_thing 4 2 yX12_thing cX12_thing 4 3 [.int t, .int i, .int w] := by
  intro f hJ
  have hJ' := hJ
  obtain ⟨la, n0, n1, gS, gP, se, tS, tP, tZ, tG, fm, ln, sG, mn, tr, tm, ho, fo, sz, it, hC, hM, hR⟩ := hJ
  have hC' := hC
  obtain ⟨hc0, hI, hT, hS⟩ := hC
  have hR' := hR
  obtain ⟨wO, h0, h1, nzS, nzP, hTR, hTO, hHR, hSR⟩ := hR
  have hI' := hI
  obtain ⟨⟨hn0, hn1, d2, d3, d4, d5, d6⟩, hCel, lo', ma', bt, bc, sp, sc, fk, bk, sk, e1, -⟩ := hI
  obtain ⟨dr, lo, ma, pa, tu, su, vo, so, ro, us, pl, sur, far, mo, sta, spa, sf, a87, a88, a89, a90, a91, a92, a93, a94, a95, a96, a97, a98, a99, a100, a101, a102, a103, a104, a105, a106, a107⟩ := hM
  have cm := c_X12_thing (l := l) (D := D) (ss := ss) t i w la dr (-1) lo ma pa tu su tr tm a87 a105 a106 (tm_ok hTR)
  refine ⟨s_X12_thing t i w tr tm, fun u => u = f, ?_, fun u hu => by subst hu; exact gMm a87 cm (fun r u h => ⟨h.1, h.2 ▸ hJ'⟩)⟩
  by_cases hk : s_X11_isTray t = 0
  · exact gMi_mono (c_thingB t i w hk) (fun r u h => ⟨h.1.trans (thing_B hk), h.2⟩)
  · obtain ⟨c, hc, rfl⟩ := tray_nN hk
    exact gMi_mono (c_thing c i w hc la tS tP tZ tG hc0 hT) (fun r u h => ⟨h.1.trans (thing_ans hTR hc i w), h.2⟩)

theorem p_share {l : Launch} {D : va_G} {ca ss ad : Nat → Nat} (t i j : Int32) : gPr l D ca ss ad yX11_share cX11_share 4 3 yX12_share cX12_share 4 4 [.int t, .int i, .int j] := by
  intro f hJ
  have hJ' := hJ
  obtain ⟨la, n0, n1, gS, gP, se, tS, tP, tZ, tG, fm, ln, sG, mn, tr, tm, ho, fo, sz, it, hC, hM, hR⟩ := hJ
  have hC' := hC
  obtain ⟨hc0, hI, hT, hS⟩ := hC
  have hR' := hR
  obtain ⟨wO, h0, h1, nzS, nzP, hTR, hTO, hHR, hSR⟩ := hR
  have hI' := hI
  obtain ⟨⟨hn0, hn1, d2, d3, d4, d5, d6⟩, hCel, lo', ma', bt, bc, sp, sc, fk, bk, sk, e1, -⟩ := hI
  obtain ⟨dr, lo, ma, pa, tu, su, vo, so, ro, us, pl, sur, far, mo, sta, spa, sf, a87, a88, a89, a90, a91, a92, a93, a94, a95, a96, a97, a98, a99, a100, a101, a102, a103, a104, a105, a106, a107⟩ := hM
  have cm := c_X12_share (l := l) (D := D) (ss := ss) t i j la dr (-1) lo ma pa tu su tr tm a87 a105 a106 (tm_ok hTR) hTO
  refine ⟨s_X12_share t i j tr tm, fun u => u = f, ?_, fun u hu => by subst hu; exact gMm a87 cm (fun r u h => ⟨h.1, h.2 ▸ hJ'⟩)⟩
  by_cases hk : s_X11_isTray t = 0
  · exact gMi_mono (c_shareB t i j hk) (fun r u h => ⟨h.1.trans (share_B hk), h.2⟩)
  · obtain ⟨c, hc, rfl⟩ := tray_nN hk
    exact gMi_mono (c_share c i j hc la tS tP tZ tG hc0 hT (trc_of hTR hTO hc)) (fun r u h => ⟨h.1.trans (share_ans hTR hc i j), h.2⟩)

theorem p_digest {l : Launch} {D : va_G} {ca ss ad : Nat → Nat} : gPl l D ca ss ad yX11_digest cX11_digest 6 7 yX12_digest cX12_digest 6 9 [] := by
  intro f hJ
  have hJ' := hJ
  obtain ⟨la, n0, n1, gS, gP, se, tS, tP, tZ, tG, fm, ln, sG, mn, tr, tm, ho, fo, sz, it, hC, hM, hR⟩ := hJ
  have hC' := hC
  obtain ⟨hc0, hI, hT, hS⟩ := hC
  have hR' := hR
  obtain ⟨wO, h0, h1, nzS, nzP, hTR, hTO, hHR, hSR⟩ := hR
  have hI' := hI
  obtain ⟨⟨hn0, hn1, d2, d3, d4, d5, d6⟩, hCel, lo', ma', bt, bc, sp, sc, fk, bk, sk, e1, -⟩ := hI
  refine ⟨s_X12_digest la (dj gS gP) mn se tr tm n0 n1, fun u => cSI ca ad n0 n1 gS gP se u ∧ ∀ k, k = 0 ∨ 69 ≤ k → u k = f k, ?_, fun u hu => ?_⟩
  · exact gMl_mono (c_digest la n0 n1 gS gP se tS tP tZ tG hc0 hI' hT (hk_of wO) (hb_of wO) (hb0_of n0 n1 gS gP se) (hs_of wO) (fun t ht => trc_of hTR hTO ht)) (fun r u h => ⟨h.1.trans (digest_ans h0 h1 hn0 hn1 wO.2.2.2.1 hTR la), h.2⟩)
  · have hMu := JM_c hM (fun k h _ => hu.2 k (Or.inr (by omega)))
    have hCu := JC_f hC' hu.1 hu.2
    obtain ⟨dr, lo, ma, pa, tu, su, vo, so, ro, us, pl, sur, far, mo, sta, spa, sf, b87, b88, b89, b90, b91, b92, b93, b94, b95, b96, b97, b98, b99, b100, b101, b102, b103, b104, b105, b106, b107⟩ := hMu
    refine gMlm b87 (c_X12_digest (l := l) (D := D) (ss := ss) la dr (-1) lo ma pa tu su (dj gS gP) mn se vo so ro us sta spa sf pl sur far tm tr n0 n1 b87 b92 b93 b94 b95 b96 b97 b98 b99 b100 b101 b102 b103 b104 b106 b105 h0 h1 hn0 hn1 (se_nz wO.2.2.2.1) wO.2.2.1 rfl (tm_ok hTR) hTO) (fun r u' h => ?_)
    obtain ⟨hr, jlo, jma, jpa, jtu, jsu, jvo, jso, jro, jus, jspa, jsta, jsf, jpl, jsure, jfar, rfl⟩ := h
    exact ⟨hr, ⟨la, n0, n1, gS, gP, se, tS, tP, tZ, tG, fm, ln, sG, mn, tr, tm, ho, fo, sz, it, JC_c hCu (fun k hk => up_nx (by omega) (up_nx (by omega) (up_nx (by omega) (up_nx (by omega) (up_nx (by omega) (up_nx (by omega) (up_nx (by omega) (up_nx (by omega) (up_nx (by omega) (up_nx (by omega) (up_nx (by omega) (rfl)))))))))))), ⟨dr, jlo, jma, jpa, jtu, jsu, jvo, jso, jro, jus, jpl, jsure, jfar, mo, jsta, jspa, jsf, up_nx (by decide) (up_nx (by decide) (up_nx (by decide) (up_nx (by decide) (up_nx (by decide) (up_nx (by decide) (up_nx (by decide) (up_nx (by decide) (up_nx (by decide) (up_nx (by decide) (va_up_self _ _ _)))))))))), up_nx (by decide) (up_nx (by decide) (up_nx (by decide) (up_nx (by decide) (up_nx (by decide) (up_nx (by decide) (up_nx (by decide) (up_nx (by decide) (up_nx (by decide) (up_nx (by decide) (up_nx (by decide) (b88))))))))))), up_nx (by decide) (up_nx (by decide) (up_nx (by decide) (up_nx (by decide) (up_nx (by decide) (up_nx (by decide) (up_nx (by decide) (up_nx (by decide) (up_nx (by decide) (up_nx (by decide) (up_nx (by decide) (b89))))))))))), up_nx (by decide) (up_nx (by decide) (up_nx (by decide) (up_nx (by decide) (up_nx (by decide) (up_nx (by decide) (up_nx (by decide) (up_nx (by decide) (up_nx (by decide) (up_nx (by decide) (up_nx (by decide) (b90))))))))))), up_nx (by decide) (up_nx (by decide) (up_nx (by decide) (up_nx (by decide) (up_nx (by decide) (up_nx (by decide) (up_nx (by decide) (up_nx (by decide) (up_nx (by decide) (up_nx (by decide) (up_nx (by decide) (b91))))))))))), up_nx (by decide) (up_nx (by decide) (up_nx (by decide) (up_nx (by decide) (up_nx (by decide) (up_nx (by decide) (up_nx (by decide) (up_nx (by decide) (up_nx (by decide) (up_nx (by decide) (up_nx (by decide) (b92))))))))))), up_nx (by decide) (up_nx (by decide) (up_nx (by decide) (up_nx (by decide) (up_nx (by decide) (up_nx (by decide) (up_nx (by decide) (up_nx (by decide) (up_nx (by decide) (up_nx (by decide) (up_nx (by decide) (b93))))))))))), up_nx (by decide) (up_nx (by decide) (up_nx (by decide) (up_nx (by decide) (up_nx (by decide) (up_nx (by decide) (up_nx (by decide) (up_nx (by decide) (up_nx (by decide) (up_nx (by decide) (up_nx (by decide) (b94))))))))))), up_nx (by decide) (up_nx (by decide) (up_nx (by decide) (up_nx (by decide) (up_nx (by decide) (up_nx (by decide) (up_nx (by decide) (up_nx (by decide) (up_nx (by decide) (va_up_self _ _ _))))))))), up_nx (by decide) (up_nx (by decide) (up_nx (by decide) (up_nx (by decide) (up_nx (by decide) (up_nx (by decide) (up_nx (by decide) (up_nx (by decide) (va_up_self _ _ _)))))))), up_nx (by decide) (up_nx (by decide) (up_nx (by decide) (up_nx (by decide) (up_nx (by decide) (up_nx (by decide) (up_nx (by decide) (va_up_self _ _ _))))))), up_nx (by decide) (up_nx (by decide) (up_nx (by decide) (up_nx (by decide) (up_nx (by decide) (up_nx (by decide) (va_up_self _ _ _)))))), up_nx (by decide) (up_nx (by decide) (up_nx (by decide) (up_nx (by decide) (va_up_self _ _ _)))), up_nx (by decide) (up_nx (by decide) (up_nx (by decide) (up_nx (by decide) (up_nx (by decide) (va_up_self _ _ _))))), up_nx (by decide) (up_nx (by decide) (up_nx (by decide) (va_up_self _ _ _))), up_nx (by decide) (up_nx (by decide) (va_up_self _ _ _)), up_nx (by decide) (va_up_self _ _ _), va_up_self _ _ _, up_nx (by decide) (up_nx (by decide) (up_nx (by decide) (up_nx (by decide) (up_nx (by decide) (up_nx (by decide) (up_nx (by decide) (up_nx (by decide) (up_nx (by decide) (up_nx (by decide) (up_nx (by decide) (b105))))))))))), up_nx (by decide) (up_nx (by decide) (up_nx (by decide) (up_nx (by decide) (up_nx (by decide) (up_nx (by decide) (up_nx (by decide) (up_nx (by decide) (up_nx (by decide) (up_nx (by decide) (up_nx (by decide) (b106))))))))))), up_nx (by decide) (up_nx (by decide) (up_nx (by decide) (up_nx (by decide) (up_nx (by decide) (up_nx (by decide) (up_nx (by decide) (up_nx (by decide) (up_nx (by decide) (up_nx (by decide) (up_nx (by decide) (b107)))))))))))⟩, hR'⟩⟩

