/-! PAIRS: fork -/
theorem pF_i2 {it g : Nat → Int32} {b n j : Nat} (h : j < n) : pF it b n g (b + j) = g j := by
  unfold pF; rw [if_pos (by omega), Nat.add_sub_cancel_left]
theorem pF_o2 {it g : Nat → Int32} {b n j : Nat} (h : ¬ (b ≤ j ∧ j < b + n)) : pF it b n g j = it j := if_neg h
theorem pF_id (it : Nat → Int32) (b n : Nat) : pF it b n (fun j => it (b + j)) = it := by
  funext j
  by_cases h : b ≤ j ∧ j < b + n
  · unfold pF; rw [if_pos h]; show it (b + (j - b)) = it j; rw [show b + (j - b) = j by omega]
  · exact pF_o2 h
theorem tRel_f {tr tm tZ : Nat → Int32} {tG : Nat → Nat → Int32} (h : tRel tr tm tZ tG) {a b : Nat} (ha : a < 4) : tRel (pF tr (32 * b) 32 (fun j => tr (32 * a + j))) (upd tm b (tm a)) (upd tZ b (tZ a)) (updT tG b (tG a)) := by
  intro t ht
  by_cases e : t = b
  · subst e
    rw [pk_us, pk_us, updT_s]
    obtain ⟨h1, h2, h3⟩ := h a ha
    exact ⟨h1, h2, fun j hj => by rw [pF_i2 hj]; exact h3 j hj⟩
  · rw [pk_un e, pk_un e, updT_n _ _ e]
    obtain ⟨h1, h2, h3⟩ := h t ht
    exact ⟨h1, h2, fun j hj => by rw [pF_o2 (by omega)]; exact h3 j hj⟩
theorem trOk_f {tr tm : Nat → Int32} (h : trOk tr tm) (hm : tmOk tm) {a b : Nat} (ha : a < 4) : trOk (pF tr (32 * b) 32 (fun j => tr (32 * a + j))) (upd tm b (tm a)) := by
  intro x m hx hmx
  by_cases e : x = b
  · subst e
    rw [pk_us] at hmx
    have q := hm a ha
    have := h a m ha hmx
    have p : ∀ c, c ≤ 3 → pF tr (32 * x) 32 (fun j => tr (32 * a + j)) (32 * x + 4 * m + c) = tr (32 * a + 4 * m + c) := by
      intro c hc
      rw [show 32 * x + 4 * m + c = 32 * x + (4 * m + c) by omega, pF_i2 (by omega), show 32 * a + (4 * m + c) = 32 * a + 4 * m + c by omega]
    refine ⟨fun c h1 h2 => ?_, ?_⟩
    · rw [p c h2]; exact this.1 c h1 h2
    · rw [p 1 (by omega), p 2 (by omega), p 3 (by omega)]; exact this.2
  · rw [pk_un e] at hmx
    have q := hm x hx
    have := h x m hx hmx
    have p : ∀ c, c ≤ 3 → pF tr (32 * b) 32 (fun j => tr (32 * a + j)) (32 * x + 4 * m + c) = tr (32 * x + 4 * m + c) := by
      intro c hc
      exact pF_o2 (by omega)
    refine ⟨fun c h1 h2 => ?_, ?_⟩
    · rw [p c h2]; exact this.1 c h1 h2
    · rw [p 1 (by omega), p 2 (by omega), p 3 (by omega)]; exact this.2
theorem hRel_f {tS tP ho : Nat → Int32} (h : hRel tS tP ho) {a b : Nat} (ha : a < 4) : hRel (upd tS b (tS a)) (upd tP b (tP a)) (upd ho b (ho a)) := by
  intro t ht
  by_cases e : t = b
  · subst e; rw [pk_us, pk_us, pk_us]; exact h a ha
  · rw [pk_un e, pk_un e, pk_un e]; exact h t ht
theorem p_fork {l : Launch} {D : va_G} {ca ss ad : Nat → Nat} (a b : Int32) : gPr l D ca ss ad yX11_fork cX11_fork 3 2 yX12_fork cX12_fork 4 2 [.int a, .int b] := by
  intro f hJ
  have hJ' := hJ
  obtain ⟨la, n0, n1, gS, gP, se, tS, tP, tZ, tG, fm, ln, sG, mn, tr, tm, ho, fo, sz, it, hC, hM, hR⟩ := hJ
  have hC' := hC
  obtain ⟨hc0, hI, hT, hS⟩ := hC
  have hR' := hR
  obtain ⟨wO, h0, h1, nzS, nzP, hTR, hTO, hHR, hSR⟩ := hR
  have hI' := hI
  obtain ⟨⟨hn0, hn1, d2, d3, d4, d5, d6⟩, hCel, lo', ma', bt, bc, sp, sc, fk, bk, sk, e1, -⟩ := hI
  by_cases hk : s_X11_isTray a = 0
  · refine ⟨-2, fun u => u = f, gMi_mono (c_forkB1 a b hk) (fun r u h => h), fun u hu => ?_⟩
    subst hu
    obtain ⟨dr, lo, ma, pa, tu, su, vo, so, ro, us, pl, sur, far, mo, sta, spa, sf, a87, a88, a89, a90, a91, a92, a93, a94, a95, a96, a97, a98, a99, a100, a101, a102, a103, a104, a105, a106, a107⟩ := hM
    refine gMm a87 (c_X12_fork (l := l) (D := D) (ss := ss) a b la dr (-1) lo ma pa tu su tr tm ho a87 a105 a106 a107) (fun r u' h => ?_)
    unfold s_X12_fork at h
    rw [if_pos (tray_iff.mp hk)] at h
    obtain ⟨rfl, rfl⟩ := pair_eq h
    exact ⟨rfl, hJ'⟩
  · by_cases hb : s_X11_isTray b = 0
    · refine ⟨-2, fun u => u = f, gMi_mono (c_forkB2 a b hk hb) (fun r u h => h), fun u hu => ?_⟩
      subst hu
      obtain ⟨dr, lo, ma, pa, tu, su, vo, so, ro, us, pl, sur, far, mo, sta, spa, sf, a87, a88, a89, a90, a91, a92, a93, a94, a95, a96, a97, a98, a99, a100, a101, a102, a103, a104, a105, a106, a107⟩ := hM
      refine gMm a87 (c_X12_fork (l := l) (D := D) (ss := ss) a b la dr (-1) lo ma pa tu su tr tm ho a87 a105 a106 a107) (fun r u' h => ?_)
      unfold s_X12_fork at h
      rw [if_neg (fun q => hk (tray_iff.mpr q)), if_pos (tray_iff.mp hb)] at h
      obtain ⟨rfl, rfl⟩ := pair_eq h
      exact ⟨rfl, hJ'⟩
    · have hk' : ¬ s_X12_isTray a = 0 := fun q => hk (tray_iff.mpr q)
      have hb' : ¬ s_X12_isTray b = 0 := fun q => hb (tray_iff.mpr q)
      obtain ⟨x, hx, rfl⟩ := tray_nN hk
      obtain ⟨y, hy, rfl⟩ := tray_nN hb
      by_cases e : x = y
      · subst e
        refine ⟨tZ x, fun u => u = f, gMi_mono (c_forkS x hx la tS tP tZ tG hc0 hT) (fun r u h => h), fun u hu => ?_⟩
        subst hu
        obtain ⟨dr, lo, ma, pa, tu, su, vo, so, ro, us, pl, sur, far, mo, sta, spa, sf, a87, a88, a89, a90, a91, a92, a93, a94, a95, a96, a97, a98, a99, a100, a101, a102, a103, a104, a105, a106, a107⟩ := hM
        refine gMm a87 (c_X12_fork (l := l) (D := D) (ss := ss) (nI x) (nI x) la dr (-1) lo ma pa tu su tr tm ho a87 a105 a106 a107) (fun r u' h => ?_)
        unfold s_X12_fork at h
        rw [if_neg hk', if_neg hb', nI_clamp (by omega), pF_id, upd_same, upd_same, (hTR x hx).1] at h
        obtain ⟨rfl, rfl⟩ := pair_eq h
        exact ⟨rfl, ⟨la, n0, n1, gS, gP, se, tS, tP, tZ, tG, fm, ln, sG, mn, tr, tm, ho, fo, sz, it, JC_c hC' (fun k hk => up_nx (by omega) (up_nx (by omega) (up_nx (by omega) (rfl)))), ⟨dr, lo, ma, pa, tu, su, vo, so, ro, us, pl, sur, far, mo, sta, spa, sf, up_nx (by decide) (up_nx (by decide) (up_nx (by decide) (a87))), up_nx (by decide) (up_nx (by decide) (up_nx (by decide) (a88))), up_nx (by decide) (up_nx (by decide) (up_nx (by decide) (a89))), up_nx (by decide) (up_nx (by decide) (up_nx (by decide) (a90))), up_nx (by decide) (up_nx (by decide) (up_nx (by decide) (a91))), up_nx (by decide) (up_nx (by decide) (up_nx (by decide) (a92))), up_nx (by decide) (up_nx (by decide) (up_nx (by decide) (a93))), up_nx (by decide) (up_nx (by decide) (up_nx (by decide) (a94))), up_nx (by decide) (up_nx (by decide) (up_nx (by decide) (a95))), up_nx (by decide) (up_nx (by decide) (up_nx (by decide) (a96))), up_nx (by decide) (up_nx (by decide) (up_nx (by decide) (a97))), up_nx (by decide) (up_nx (by decide) (up_nx (by decide) (a98))), up_nx (by decide) (up_nx (by decide) (up_nx (by decide) (a99))), up_nx (by decide) (up_nx (by decide) (up_nx (by decide) (a100))), up_nx (by decide) (up_nx (by decide) (up_nx (by decide) (a101))), up_nx (by decide) (up_nx (by decide) (up_nx (by decide) (a102))), up_nx (by decide) (up_nx (by decide) (up_nx (by decide) (a103))), up_nx (by decide) (up_nx (by decide) (up_nx (by decide) (a104))), up_nx (by decide) (up_nx (by decide) (va_up_self _ _ _)), up_nx (by decide) (va_up_self _ _ _), va_up_self _ _ _⟩, hR'⟩⟩
      · refine ⟨tZ x, fun u => cTr ca ad (upd tS y (tS x)) (upd tP y (tP x)) (upd tZ y (tZ x)) (updT tG y (tG x)) u ∧ ∀ k, ¬ (71 ≤ k ∧ k < 79) → u k = f k, gMi_mono (c_fork x y hx hy e la tS tP tZ tG hc0 hT) (fun r u h => h), fun u hu => ?_⟩
        have hMu := JM_c hM (fun k h _ => hu.2 k (by omega))
        have hCu := JC_t hC' hu.1 hu.2
        obtain ⟨dr, lo, ma, pa, tu, su, vo, so, ro, us, pl, sur, far, mo, sta, spa, sf, b87, b88, b89, b90, b91, b92, b93, b94, b95, b96, b97, b98, b99, b100, b101, b102, b103, b104, b105, b106, b107⟩ := hMu
        refine gMm b87 (c_X12_fork (l := l) (D := D) (ss := ss) (nI x) (nI y) la dr (-1) lo ma pa tu su tr tm ho b87 b105 b106 b107) (fun r u' h => ?_)
        unfold s_X12_fork at h
        rw [if_neg hk', if_neg hb', nI_clamp (show x < 2 ^ 31 by omega), nI_clamp (show y < 2 ^ 31 by omega), pk_us] at h
        obtain ⟨rfl, rfl⟩ := pair_eq h
        exact ⟨(hTR x hx).1, ⟨la, n0, n1, gS, gP, se, upd tS y (tS x), upd tP y (tP x), upd tZ y (tZ x), updT tG y (tG x), fm, ln, sG, mn, pF tr (32 * y) 32 (fun j => tr (32 * x + j)), upd tm y (tm x), upd ho y (ho x), fo, sz, it, JC_c hCu (fun k hk => up_nx (by omega) (up_nx (by omega) (up_nx (by omega) (rfl)))), ⟨dr, lo, ma, pa, tu, su, vo, so, ro, us, pl, sur, far, mo, sta, spa, sf, up_nx (by decide) (up_nx (by decide) (up_nx (by decide) (b87))), up_nx (by decide) (up_nx (by decide) (up_nx (by decide) (b88))), up_nx (by decide) (up_nx (by decide) (up_nx (by decide) (b89))), up_nx (by decide) (up_nx (by decide) (up_nx (by decide) (b90))), up_nx (by decide) (up_nx (by decide) (up_nx (by decide) (b91))), up_nx (by decide) (up_nx (by decide) (up_nx (by decide) (b92))), up_nx (by decide) (up_nx (by decide) (up_nx (by decide) (b93))), up_nx (by decide) (up_nx (by decide) (up_nx (by decide) (b94))), up_nx (by decide) (up_nx (by decide) (up_nx (by decide) (b95))), up_nx (by decide) (up_nx (by decide) (up_nx (by decide) (b96))), up_nx (by decide) (up_nx (by decide) (up_nx (by decide) (b97))), up_nx (by decide) (up_nx (by decide) (up_nx (by decide) (b98))), up_nx (by decide) (up_nx (by decide) (up_nx (by decide) (b99))), up_nx (by decide) (up_nx (by decide) (up_nx (by decide) (b100))), up_nx (by decide) (up_nx (by decide) (up_nx (by decide) (b101))), up_nx (by decide) (up_nx (by decide) (up_nx (by decide) (b102))), up_nx (by decide) (up_nx (by decide) (up_nx (by decide) (b103))), up_nx (by decide) (up_nx (by decide) (up_nx (by decide) (b104))), up_nx (by decide) (up_nx (by decide) (va_up_self _ _ _)), up_nx (by decide) (va_up_self _ _ _), va_up_self _ _ _⟩, wO, h0, h1, nzS, nzP, tRel_f hTR hx, trOk_f hTO (tm_ok hTR) hx, hRel_f hHR hx, hSR⟩⟩

