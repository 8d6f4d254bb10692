/-! PAIRS: trays that change -/
theorem JC_t {ca ad : Nat → Nat} {la : Int32} {n0 n1 : Nat} {gS gP se tS tP tZ tS' tP' tZ' : Nat → Int32} {tG tG' : Nat → Nat → Int32} {fm ln : Nat → Int32} {sG : Nat → Nat → Int32} {f u : Nat → va_E} (h : JC ca ad la n0 n1 gS gP se tS tP tZ tG fm ln sG f) (hT : cTr ca ad tS' tP' tZ' tG' u) (e : ∀ k, ¬ (71 ≤ k ∧ k < 79) → u k = f k) : JC ca ad la n0 n1 gS gP se tS' tP' tZ' tG' fm ln sG u :=
  ⟨(e 0 (by omega)).trans h.1, cSI_c h.2.1 (fun k _ h2 => e k (by omega)), hT, cSh_c h.2.2.2 (fun k h2 => e k (by omega))⟩
theorem JC_s {ca ad : Nat → Nat} {la : Int32} {n0 n1 : Nat} {gS gP se tS tP tZ : Nat → Int32} {tG : Nat → Nat → Int32} {fm ln fm' ln' : Nat → Int32} {sG sG' : Nat → Nat → Int32} {f u : Nat → va_E} (h : JC ca ad la n0 n1 gS gP se tS tP tZ tG fm ln sG f) (hS : cSh ca ad fm' ln' sG' u) (e : ∀ k, ¬ (79 ≤ k ∧ k < 87) → u k = f k) : JC ca ad la n0 n1 gS gP se tS tP tZ tG fm' ln' sG' u :=
  ⟨(e 0 (by omega)).trans h.1, cSI_c h.2.1 (fun k _ h2 => e k (by omega)), cTr_c h.2.2.1 (fun k _ h2 => e k (by omega)), hS⟩
theorem JC_la {ca ad : Nat → Nat} {la la' : Int32} {n0 n1 : Nat} {gS gP se tS tP tZ : Nat → Int32} {tG : Nat → Nat → Int32} {fm ln : Nat → Int32} {sG : Nat → Nat → Int32} {f : Nat → va_E} (h : JC ca ad la n0 n1 gS gP se tS tP tZ tG fm ln sG f) : JC ca ad la' n0 n1 gS gP se tS tP tZ tG fm ln sG (va_up f 0 (.inr (10, [.ref (ad 1), .ref (ad 69), .ref (ad 70), .int la']))) :=
  ⟨va_up_self _ _ _, cSI_c h.2.1 (fun k h1 h2 => up_nx (by omega) rfl), cTr_c h.2.2.1 (fun k h1 _ => up_nx (by omega) rfl), cSh_c h.2.2.2 (fun k h2 => up_nx (by omega) rfl)⟩
theorem tRel_z {tr tm tZ : Nat → Int32} {tG : Nat → Nat → Int32} (h : tRel tr tm tZ tG) {c : Nat} {z : Int32} (hz : 0 ≤ z.toInt ∧ z.toInt ≤ 8) : tRel tr (upd tm c z) (upd tZ c z) tG := by
  intro t ht
  obtain ⟨h1, h2, h3⟩ := h t ht
  by_cases e : t = c
  · subst e; rw [pk_us, pk_us]; exact ⟨rfl, hz, h3⟩
  · rw [pk_un e, pk_un e]; exact ⟨h1, h2, h3⟩
theorem trOk_less {tr tm : Nat → Int32} (h : trOk tr tm) {c : Nat} {z : Int32} (hz : z.toInt ≤ (tm c).toInt) : trOk tr (upd tm c z) := by
  intro a m ha hm
  refine h a m ha ?_
  by_cases e : a = c
  · subst e; rw [pk_us] at hm; omega
  · rw [pk_un e] at hm; exact hm
theorem pair_eq {α β : Type} {a c : α} {b d : β} (h : (a, b) = (c, d)) : a = c ∧ b = d := by
  cases h; exact ⟨rfl, rfl⟩
theorem p_take {l : Launch} {D : va_G} {ca ss ad : Nat → Nat} (t : Int32) : gPr l D ca ss ad yX11_take cX11_take 2 2 yX12_take cX12_take 2 2 [.int t] := by
  intro f hJ
  have hJ' := hJ
  obtain ⟨la, n0, n1, gS, gP, se, tS, tP, tZ, tG, fm, ln, sG, mn, tr, tm, ho, fo, sz, it, hC, hM, hR⟩ := hJ
  have hC' := hC
  obtain ⟨hc0, hI, hT, hS⟩ := hC
  have hR' := hR
  obtain ⟨wO, h0, h1, nzS, nzP, hTR, hTO, hHR, hSR⟩ := hR
  have hI' := hI
  obtain ⟨⟨hn0, hn1, d2, d3, d4, d5, d6⟩, hCel, lo', ma', bt, bc, sp, sc, fk, bk, sk, e1, -⟩ := hI
  by_cases hk : s_X11_isTray t = 0
  · refine ⟨-2, fun u => u = f, gMi_mono (c_takeB t hk) (fun r u h => h), fun u hu => ?_⟩
    subst hu
    obtain ⟨dr, lo, ma, pa, tu, su, vo, so, ro, us, pl, sur, far, mo, sta, spa, sf, a87, a88, a89, a90, a91, a92, a93, a94, a95, a96, a97, a98, a99, a100, a101, a102, a103, a104, a105, a106, a107⟩ := hM
    refine gMm a87 (c_X12_take (l := l) (D := D) (ss := ss) t la dr (-1) lo ma pa tu su tm a87 a106) (fun r u' h => ?_)
    unfold s_X12_take at h
    rw [if_pos (tray_iff.mp hk)] at h
    obtain ⟨rfl, rfl⟩ := pair_eq h
    exact ⟨rfl, hJ'⟩
  · obtain ⟨c, hc, rfl⟩ := tray_nN hk
    obtain ⟨t1, t2, t3⟩ := hTR c hc
    have hk' : ¬ s_X12_isTray (nI c) = 0 := fun q => hk (tray_iff.mpr q)
    by_cases hz : tZ c = 0
    · refine ⟨-3, fun u => u = f, gMi_mono (c_take c hc la tS tP tZ tG hc0 hT) (fun r u h => by rw [if_pos hz] at h; exact h), fun u hu => ?_⟩
      subst hu
      obtain ⟨dr, lo, ma, pa, tu, su, vo, so, ro, us, pl, sur, far, mo, sta, spa, sf, a87, a88, a89, a90, a91, a92, a93, a94, a95, a96, a97, a98, a99, a100, a101, a102, a103, a104, a105, a106, a107⟩ := hM
      refine gMm a87 (c_X12_take (l := l) (D := D) (ss := ss) (nI c) la dr (-1) lo ma pa tu su tm a87 a106) (fun r u' h => ?_)
      unfold s_X12_take at h
      rw [if_neg hk', nI_clamp (by omega), t1, if_pos hz] at h
      obtain ⟨rfl, rfl⟩ := pair_eq h
      exact ⟨rfl, hJ'⟩
    · refine ⟨tZ c - 1, fun u => cTr ca ad tS tP (upd tZ c (tZ c - 1)) tG u ∧ ∀ k, ¬ (71 ≤ k ∧ k < 79) → u k = f k, gMi_mono (c_take c hc la tS tP tZ tG hc0 hT) (fun r u h => by rw [if_neg hz] at h; exact h), fun u hu => ?_⟩
      have hMu := JM_c hM (fun k h _ => hu.2 k (by omega))
      have hCu := JC_t hC' hu.1 hu.2
      obtain ⟨dr, lo, ma, pa, tu, su, vo, so, ro, us, pl, sur, far, mo, sta, spa, sf, b87, b88, b89, b90, b91, b92, b93, b94, b95, b96, b97, b98, b99, b100, b101, b102, b103, b104, b105, b106, b107⟩ := hMu
      refine gMm b87 (c_X12_take (l := l) (D := D) (ss := ss) (nI c) la dr (-1) lo ma pa tu su tm b87 b106) (fun r u' h => ?_)
      unfold s_X12_take at h
      rw [if_neg hk', nI_clamp (by omega), t1, if_neg hz, pk_us] at h
      obtain ⟨rfl, rfl⟩ := pair_eq h
      have z0 : (0 : Int32).toInt = 0 := rfl
      have o1 : (1 : Int32).toInt = 1 := rfl
      have hz' : ¬ (tZ c).toInt = 0 := fun q => hz ((i32_eq _ _).mpr (q.trans z0.symm))
      have es : (tZ c - 1).toInt = (tZ c).toInt - 1 := by rw [i32_sub (by omega) (by omega), o1]
      exact ⟨rfl, ⟨la, n0, n1, gS, gP, se, tS, tP, upd tZ c (tZ c - 1), tG, fm, ln, sG, mn, tr, upd tm c (tZ c - 1), ho, fo, sz, it, JC_c hCu (fun k hk => up_nx (by omega) (rfl)), ⟨dr, lo, ma, pa, tu, su, vo, so, ro, us, pl, sur, far, mo, sta, spa, sf, up_nx (by decide) (b87), up_nx (by decide) (b88), up_nx (by decide) (b89), up_nx (by decide) (b90), up_nx (by decide) (b91), up_nx (by decide) (b92), up_nx (by decide) (b93), up_nx (by decide) (b94), up_nx (by decide) (b95), up_nx (by decide) (b96), up_nx (by decide) (b97), up_nx (by decide) (b98), up_nx (by decide) (b99), up_nx (by decide) (b100), up_nx (by decide) (b101), up_nx (by decide) (b102), up_nx (by decide) (b103), up_nx (by decide) (b104), up_nx (by decide) (b105), va_up_self _ _ _, up_nx (by decide) (b107)⟩, wO, h0, h1, nzS, nzP, tRel_z hTR (by omega), trOk_less hTO (by rw [t1]; omega), hHR, hSR⟩⟩

