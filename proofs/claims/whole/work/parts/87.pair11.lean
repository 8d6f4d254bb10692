/-! PAIRS: read, write -/
theorem upd_upd (g : Nat → Int32) (k : Nat) (x y : Int32) : upd (upd g k x) k y = upd g k y := by
  funext j
  by_cases e : j = k
  · subst e; rw [pk_us, pk_us]
  · rw [pk_un e, pk_un e, pk_un e]
theorem rd_item {LN t w : Nat} {g : Nat → Int32} (hL : LN ≤ 60) (h : 3 * t + w < LN) : rdX (nI LN) g t w = g (3 * t + w) := item_ok (by omega) (by rw [nI_toInt (by omega)]; omega)
theorem rd_K {LN rm n K : Nat} {ln : Int32} {g : Nat → Int32} (hL : LN ≤ 60) (h : ∀ t, t < K → rdGo LN rm n ln g t) : K ≤ 20 := by
  apply Decidable.byContradiction
  intro q
  have := (h 20 (by omega)).1
  omega
theorem rd_room {LN rm n K : Nat} {ln : Int32} {g : Nat → Int32} (hn : n ≤ rm) (h : ∀ t, t < K → rdGo LN rm n ln g t) : n + K ≤ rm := by
  by_cases e : K = 0
  · omega
  · have := (h (K - 1) (by omega)).2.1
    omega
theorem rd_one {LN rm n K K' : Nat} {ln : Int32} {g : Nat → Int32} (h : ¬ rdGo LN rm n ln g K ∧ ∀ t, t < K → rdGo LN rm n ln g t) (h' : ¬ rdGo LN rm n ln g K' ∧ ∀ t, t < K' → rdGo LN rm n ln g t) : K' = K := by
  rcases Nat.lt_trichotomy K K' with a | a | a
  · exact absurd (h'.2 K a) h.1
  · exact a.symm
  · exact absurd (h.2 K' a) h'.1
theorem rd_ex (LN rm n : Nat) (ln : Int32) (g : Nat → Int32) (hL : LN ≤ 60) : ∃ K, ¬ rdGo LN rm n ln g K ∧ ∀ t, t < K → rdGo LN rm n ln g t := by
  obtain ⟨K, -, h1, h2⟩ := rd_end (rdGo LN rm n ln g) 21 ⟨20, by omega, fun q => by have := q.1; omega⟩
  exact ⟨K, h1, h2⟩
theorem rd_sub (n K : Nat) : nI (n + K) - nI n = nI K := by
  rw [Nat.add_comm, ← nI_add]
  exact Int32.add_sub_cancel _ _
theorem rd_m0 {gS gP mn g it : Nat → Int32} {n0 LN b : Nat} (hL : LN ≤ 60) (hn : n0 ≤ 12) (hi : ∀ j, j < LN → it (b + j) = g j) {K : Nat} (hK : ¬ rdGo LN 12 n0 (nI LN) g K ∧ ∀ t, t < K → rdGo LN 12 n0 (nI LN) g t) : ∀ F t, F + t = 20 → t ≤ K → rdS (0 : Int32) it b LN F t (dj (cRd (nI LN) g gS n0 t) gP, upd mn 0 (nI (n0 + t))) = (K, dj (cRd (nI LN) g gS n0 K) gP, upd mn 0 (nI (n0 + K)))
  | 0, t, h1, h2 => by
    have := rd_K hL hK.2
    have e : t = K := by omega
    subst e
    rfl
  | F + 1, t, h1, h2 => by
    have it0 : ∀ w, w < 3 → 3 * t + w < LN → it (b + 3 * t + w) = rdX (nI LN) g t w := by
      intro w hw h
      rw [rd_item hL h, Nat.add_assoc]
      exact hi _ h
    show (if 3 * t + 3 ≤ LN then (if s_X12_isDirection (it (b + 3 * t)) (it (b + 3 * t + 1)) (it (b + 3 * t + 2)) = 0 then (t, (dj (cRd (nI LN) g gS n0 t) gP, upd mn 0 (nI (n0 + t)))) else if upd mn 0 (nI (n0 + t)) (0 : Int32).toNatClampNeg = s_X12_most 0 then (t, (dj (cRd (nI LN) g gS n0 t) gP, upd mn 0 (nI (n0 + t)))) else rdS (0 : Int32) it b LN F (t + 1) (rdL (0 : Int32) (it (b + 3 * t)) (it (b + 3 * t + 1)) (it (b + 3 * t + 2)) (dj (cRd (nI LN) g gS n0 t) gP, upd mn 0 (nI (n0 + t))))) else (t, (dj (cRd (nI LN) g gS n0 t) gP, upd mn 0 (nI (n0 + t))))) = _
    by_cases c1 : 3 * t + 3 ≤ LN
    · have i0 : it (b + 3 * t) = rdX (nI LN) g t 0 := it0 0 (by omega) (by omega)
      have i1 : it (b + 3 * t + 1) = rdX (nI LN) g t 1 := it0 1 (by omega) (by omega)
      have i2 : it (b + 3 * t + 2) = rdX (nI LN) g t 2 := it0 2 (by omega) (by omega)
      rw [if_pos c1, i0, i1, i2, ← dir_eq, cl0, pk_us]
      by_cases c2 : s_X11_mayBeDirection (rdX (nI LN) g t 0) (rdX (nI LN) g t 1) (rdX (nI LN) g t 2) = 0
      · rw [if_pos c2]
        have e : t = K := by
          rcases Nat.lt_or_ge t K with a | a
          · exact absurd c2 (hK.2 t a).2.2
          · omega
        subst e
        rfl
      · rw [if_neg c2]
        by_cases c3 : n0 + t < 12
        · have hne : ¬ nI (n0 + t) = s_X12_most 0 := fun q => by
            have := nI_inj (m := n0 + t) (n := 12) (by omega) (by omega) (q.trans most_0)
            omega
          rw [if_neg hne]
          have lt : t < K := by
            rcases Nat.lt_or_ge t K with a | a
            · exact a
            · have e : t = K := by omega
              subst e
              exact absurd ⟨by omega, c3, c2⟩ hK.1
          have st : rdL (0 : Int32) (rdX (nI LN) g t 0) (rdX (nI LN) g t 1) (rdX (nI LN) g t 2) (dj (cRd (nI LN) g gS n0 t) gP, upd mn 0 (nI (n0 + t))) = (dj (cRd (nI LN) g gS n0 (t + 1)) gP, upd mn 0 (nI (n0 + (t + 1)))) := by
            show (upd (upd (upd (dj (cRd (nI LN) g gS n0 t) gP) (36 * (0 : Int32) + 3 * upd mn 0 (nI (n0 + t)) (0 : Int32).toNatClampNeg).toNatClampNeg (rdX (nI LN) g t 0)) (36 * (0 : Int32) + 3 * upd mn 0 (nI (n0 + t)) (0 : Int32).toNatClampNeg + 1).toNatClampNeg (rdX (nI LN) g t 1)) (36 * (0 : Int32) + 3 * upd mn 0 (nI (n0 + t)) (0 : Int32).toNatClampNeg + 2).toNatClampNeg (rdX (nI LN) g t 2), upd (upd mn 0 (nI (n0 + t))) (0 : Int32).toNatClampNeg (upd mn 0 (nI (n0 + t)) (0 : Int32).toNatClampNeg + 1)) = _
            rw [cl0, pk_us, upd_upd, add_m0 (by omega), dj_w0 (by omega), show nI (n0 + t) + 1 = nI (n0 + (t + 1)) from nI_add (n0 + t) 1]
            rfl
          rw [st]
          exact rd_m0 hL hn hi hK F (t + 1) (by omega) (by omega)
        · rw [if_pos (show nI (n0 + t) = s_X12_most 0 by rw [most_0, show n0 + t = 12 by
              have := rd_room hn hK.2
              omega])]
          have e : t = K := by
            rcases Nat.lt_or_ge t K with a | a
            · exact absurd (hK.2 t a).2.1 c3
            · omega
          subst e
          rfl
    · rw [if_neg c1]
      have e : t = K := by
        rcases Nat.lt_or_ge t K with a | a
        · have := (hK.2 t a).1
          omega
        · omega
      subst e
      rfl
theorem rd_ok0 {gS gP g : Nat → Int32} {n0 LN : Nat} {K : Nat} (hd : dOk (dj gS gP)) (nz : nzD gS n0) (hK : ∀ t, t < K → rdGo LN 12 n0 (nI LN) g t) : ∀ t, t ≤ K → dOk (dj (cRd (nI LN) g gS n0 t) gP) ∧ nzD (cRd (nI LN) g gS n0 t) (n0 + t)
  | 0, _ => ⟨hd, nz⟩
  | t + 1, h => by
    obtain ⟨h1, h2⟩ := rd_ok0 hd nz hK t (by omega)
    obtain ⟨bx, bY, bz, hz⟩ := dir_ok (hK t (by omega)).2.2
    exact ⟨dOk_w0 h1 bx bY bz, nzD_w h2 hz⟩
theorem rd_m1 {gS gP mn g it : Nat → Int32} {n1 LN b : Nat} (hL : LN ≤ 60) (hn : n1 ≤ 8) (hi : ∀ j, j < LN → it (b + j) = g j) {K : Nat} (hK : ¬ rdGo LN 8 n1 (nI LN) g K ∧ ∀ t, t < K → rdGo LN 8 n1 (nI LN) g t) : ∀ F t, F + t = 20 → t ≤ K → rdS (1 : Int32) it b LN F t (dj gS (cRd (nI LN) g gP n1 t), upd mn 1 (nI (n1 + t))) = (K, dj gS (cRd (nI LN) g gP n1 K), upd mn 1 (nI (n1 + K)))
  | 0, t, h1, h2 => by
    have := rd_K hL hK.2
    have e : t = K := by omega
    subst e
    rfl
  | F + 1, t, h1, h2 => by
    have it0 : ∀ w, w < 3 → 3 * t + w < LN → it (b + 3 * t + w) = rdX (nI LN) g t w := by
      intro w hw h
      rw [rd_item hL h, Nat.add_assoc]
      exact hi _ h
    show (if 3 * t + 3 ≤ LN then (if s_X12_isDirection (it (b + 3 * t)) (it (b + 3 * t + 1)) (it (b + 3 * t + 2)) = 0 then (t, (dj gS (cRd (nI LN) g gP n1 t), upd mn 1 (nI (n1 + t)))) else if upd mn 1 (nI (n1 + t)) (1 : Int32).toNatClampNeg = s_X12_most 1 then (t, (dj gS (cRd (nI LN) g gP n1 t), upd mn 1 (nI (n1 + t)))) else rdS (1 : Int32) it b LN F (t + 1) (rdL (1 : Int32) (it (b + 3 * t)) (it (b + 3 * t + 1)) (it (b + 3 * t + 2)) (dj gS (cRd (nI LN) g gP n1 t), upd mn 1 (nI (n1 + t))))) else (t, (dj gS (cRd (nI LN) g gP n1 t), upd mn 1 (nI (n1 + t))))) = _
    by_cases c1 : 3 * t + 3 ≤ LN
    · have i0 : it (b + 3 * t) = rdX (nI LN) g t 0 := it0 0 (by omega) (by omega)
      have i1 : it (b + 3 * t + 1) = rdX (nI LN) g t 1 := it0 1 (by omega) (by omega)
      have i2 : it (b + 3 * t + 2) = rdX (nI LN) g t 2 := it0 2 (by omega) (by omega)
      rw [if_pos c1, i0, i1, i2, ← dir_eq, cl1, pk_us]
      by_cases c2 : s_X11_mayBeDirection (rdX (nI LN) g t 0) (rdX (nI LN) g t 1) (rdX (nI LN) g t 2) = 0
      · rw [if_pos c2]
        have e : t = K := by
          rcases Nat.lt_or_ge t K with a | a
          · exact absurd c2 (hK.2 t a).2.2
          · omega
        subst e
        rfl
      · rw [if_neg c2]
        by_cases c3 : n1 + t < 8
        · have hne : ¬ nI (n1 + t) = s_X12_most 1 := fun q => by
            have := nI_inj (m := n1 + t) (n := 8) (by omega) (by omega) (q.trans most_1)
            omega
          rw [if_neg hne]
          have lt : t < K := by
            rcases Nat.lt_or_ge t K with a | a
            · exact a
            · have e : t = K := by omega
              subst e
              exact absurd ⟨by omega, c3, c2⟩ hK.1
          have st : rdL (1 : Int32) (rdX (nI LN) g t 0) (rdX (nI LN) g t 1) (rdX (nI LN) g t 2) (dj gS (cRd (nI LN) g gP n1 t), upd mn 1 (nI (n1 + t))) = (dj gS (cRd (nI LN) g gP n1 (t + 1)), upd mn 1 (nI (n1 + (t + 1)))) := by
            show (upd (upd (upd (dj gS (cRd (nI LN) g gP n1 t)) (36 * (1 : Int32) + 3 * upd mn 1 (nI (n1 + t)) (1 : Int32).toNatClampNeg).toNatClampNeg (rdX (nI LN) g t 0)) (36 * (1 : Int32) + 3 * upd mn 1 (nI (n1 + t)) (1 : Int32).toNatClampNeg + 1).toNatClampNeg (rdX (nI LN) g t 1)) (36 * (1 : Int32) + 3 * upd mn 1 (nI (n1 + t)) (1 : Int32).toNatClampNeg + 2).toNatClampNeg (rdX (nI LN) g t 2), upd (upd mn 1 (nI (n1 + t))) (1 : Int32).toNatClampNeg (upd mn 1 (nI (n1 + t)) (1 : Int32).toNatClampNeg + 1)) = _
            rw [cl1, pk_us, upd_upd, add_m1 (by omega), dj_w1, show nI (n1 + t) + 1 = nI (n1 + (t + 1)) from nI_add (n1 + t) 1]
            rfl
          rw [st]
          exact rd_m1 hL hn hi hK F (t + 1) (by omega) (by omega)
        · rw [if_pos (show nI (n1 + t) = s_X12_most 1 by rw [most_1, show n1 + t = 8 by
              have := rd_room hn hK.2
              omega])]
          have e : t = K := by
            rcases Nat.lt_or_ge t K with a | a
            · exact absurd (hK.2 t a).2.1 c3
            · omega
          subst e
          rfl
    · rw [if_neg c1]
      have e : t = K := by
        rcases Nat.lt_or_ge t K with a | a
        · have := (hK.2 t a).1
          omega
        · omega
      subst e
      rfl
theorem rd_ok1 {gS gP g : Nat → Int32} {n1 LN : Nat} {K : Nat} (hd : dOk (dj gS gP)) (nz : nzD gP n1) (hK : ∀ t, t < K → rdGo LN 8 n1 (nI LN) g t) : ∀ t, t ≤ K → dOk (dj gS (cRd (nI LN) g gP n1 t)) ∧ nzD (cRd (nI LN) g gP n1 t) (n1 + t)
  | 0, _ => ⟨hd, nz⟩
  | t + 1, h => by
    obtain ⟨h1, h2⟩ := rd_ok1 hd nz hK t (by omega)
    obtain ⟨bx, bY, bz, hz⟩ := dir_ok (hK t (by omega)).2.2
    exact ⟨dOk_w1 h1 bx bY bz, nzD_w h2 hz⟩
theorem p_read0 {l : Launch} {D : va_G} {ca ss ad : Nat → Nat} (c : Nat) (hc : c < 4) : gPr l D ca ss ad yX11_read cX11_read 10 2 yX12_read cX12_read 6 3 [.int 0, .int (nI c)] := by
  intro f hJ
  have hJ' := hJ
  obtain ⟨la, n0, n1, gS, gP, se, tS, tP, tZ, tG, fm, ln, sG, mn, tr, tm, ho, fo, sz, it, hC, hM, hR⟩ := hJ
  have hC' := hC
  obtain ⟨hc0, hI, hT, hS⟩ := hC
  have hR' := hR
  obtain ⟨wO, h0, h1, nzS, nzP, hTR, hTO, hHR, hSR⟩ := hR
  have hI' := hI
  obtain ⟨⟨hn0, hn1, d2, d3, d4, d5, d6⟩, hCel, lo', ma', bt, bc, sp, sc, fk, bk, sk, e1, -⟩ := hI
  obtain ⟨f1, f2, f3, f4⟩ := hSR c hc
  have ec : (nI c).toNatClampNeg = c := nI_clamp (by omega)
  have sc' : ¬ s_X12_isSheet (nI c) = 0 := sheet_n c hc
  have ln0 := (hS.2 c hc).1
  by_cases hL : fm c = -1
  · have hL' : ¬ 0 ≤ fo c := by rw [f1, hL]; decide
    refine ⟨-11, fun u => u = va_up f 0 (.inr (10, [.ref (ad 1), .ref (ad 69), .ref (ad 70), .int 1])), gMi_mono (c_read0 c hc la n0 n1 gS gP se fm ln sG hc0 hI' hS) (fun r u h => by rw [if_neg (fun z => lost_no.mp z hL)] at h; exact h), fun u hu => ?_⟩
    have hMu := JM_c (u := u) hM (fun k h _ => by rw [hu]; exact up_nx (by omega) rfl)
    have hCu := JC_la (la' := 1) hC'
    rw [← hu] at hCu
    obtain ⟨dr, lo, ma, pa, tu, su, vo, so, ro, us, pl, sur, far, mo, sta, spa, sf, b87, b88, b89, b90, b91, b92, b93, b94, b95, b96, b97, b98, b99, b100, b101, b102, b103, b104, b105, b106, b107⟩ := hMu
    refine gMm b87 (c_X12_read (l := l) (D := D) (ss := ss) 0 (nI c) la dr (-1) lo ma pa tu su (dj gS gP) mn fo sz it b87 b92 b93 b88 b89 b90 (fun j hj => (hSR j hj).2.2.1) (mn_ok h0 h1 hn0 hn1)) (fun r u' h => ?_)
    unfold s_X12_read at h
    rw [if_neg two_0, if_neg sc', ec, if_neg hL'] at h
    obtain ⟨rfl, rfl⟩ := pair_eq h
    exact ⟨rfl, ⟨1, n0, n1, gS, gP, se, tS, tP, tZ, tG, fm, ln, sG, mn, tr, tm, ho, fo, sz, it, JC_c hCu (fun k hk => up_nx (by omega) (rfl)), ⟨dr, lo, ma, pa, tu, su, vo, so, ro, us, pl, sur, far, mo, sta, spa, sf, va_up_self _ _ _, up_nx (by decide) (b88), up_nx (by decide) (b89), up_nx (by decide) (b90), up_nx (by decide) (b91), up_nx (by decide) (b92), up_nx (by decide) (b93), up_nx (by decide) (b94), up_nx (by decide) (b95), up_nx (by decide) (b96), up_nx (by decide) (b97), up_nx (by decide) (b98), up_nx (by decide) (b99), up_nx (by decide) (b100), up_nx (by decide) (b101), up_nx (by decide) (b102), up_nx (by decide) (b103), up_nx (by decide) (b104), up_nx (by decide) (b105), up_nx (by decide) (b106), up_nx (by decide) (b107)⟩, hR'⟩⟩
  · have hL' : 0 ≤ fo c := by rw [f1]; exact (lost_ge f2).mp hL
    obtain ⟨g1, g2⟩ := f4 hL
    obtain ⟨LN, hLN, eLN⟩ := ln_n ln0
    have eC : (ln c).toNatClampNeg = LN := by rw [eLN, nI_clamp (by omega)]
    obtain ⟨KK, hK⟩ := rd_ex LN 12 n0 (nI LN) (sG c) hLN
    have hi : ∀ j, j < LN → it (60 * c + j) = sG c j := fun j hj => g2 j (by rw [eLN, nI_toInt (by omega)]; omega)
    have rm := rd_room hn0 hK.2
    have rs := rd_m0 (gS := gS) (gP := gP) (mn := mn) hLN hn0 hi hK 20 0 (by omega) (by omega)
    obtain ⟨ro1, ro2⟩ := rd_ok0 wO.2.2.1 nzS hK.2 KK (Nat.le_refl _)
    have em : upd mn 0 (nI (n0 + 0)) = mn := by rw [Nat.add_zero, ← h0, upd_same]
    rw [em] at rs
    have rs : rdS (0 : Int32) it (60 * c) LN 20 0 (dj gS gP, mn) = (KK, dj (cRd (nI LN) (sG c) gS n0 KK) gP, upd mn 0 (nI (n0 + KK))) := rs
    refine ⟨nI KK, fun u => cSI ca ad (n0 + KK) n1 (cRd (nI LN) (sG c) gS n0 KK) gP se u ∧ ∀ k, k = 0 ∨ 69 ≤ k → u k = f k, gMi_mono (c_read0 c hc la n0 n1 gS gP se fm ln sG hc0 hI' hS) (fun r u h => by
      rw [if_pos (lost_no.mpr hL), eC, eLN] at h
      obtain ⟨K', hK', q1, q2⟩ := h
      rw [rd_one hK hK'] at q1 q2
      exact ⟨q1.trans (rd_sub _ _), q2⟩), fun u hu => ?_⟩
    have hMu := JM_c hM (fun k h _ => hu.2 k (by omega))
    have hCu := JC_n hC' hu.1 hu.2
    obtain ⟨dr, lo, ma, pa, tu, su, vo, so, ro, us, pl, sur, far, mo, sta, spa, sf, b87, b88, b89, b90, b91, b92, b93, b94, b95, b96, b97, b98, b99, b100, b101, b102, b103, b104, b105, b106, b107⟩ := hMu
    refine gMm b87 (c_X12_read (l := l) (D := D) (ss := ss) 0 (nI c) la dr (-1) lo ma pa tu su (dj gS gP) mn fo sz it b87 b92 b93 b88 b89 b90 (fun j hj => (hSR j hj).2.2.1) (mn_ok h0 h1 hn0 hn1)) (fun r u' h => ?_)
    unfold s_X12_read at h
    rw [if_neg two_0, if_neg sc', ec, if_pos hL', g1, eC, rs] at h
    obtain ⟨rfl, rfl⟩ := pair_eq h
    exact ⟨rfl, ⟨la, n0 + KK, n1, cRd (nI LN) (sG c) gS n0 KK, gP, se, tS, tP, tZ, tG, fm, ln, sG, upd mn 0 (nI (n0 + KK)), tr, tm, ho, fo, sz, it, JC_c hCu (fun k hk => up_nx (by omega) (up_nx (by omega) (rfl))), ⟨dr, lo, ma, pa, tu, su, vo, so, ro, us, pl, sur, far, mo, sta, spa, sf, up_nx (by decide) (up_nx (by decide) (b87)), up_nx (by decide) (up_nx (by decide) (b88)), up_nx (by decide) (up_nx (by decide) (b89)), up_nx (by decide) (up_nx (by decide) (b90)), up_nx (by decide) (up_nx (by decide) (b91)), up_nx (by decide) (va_up_self _ _ _), va_up_self _ _ _, up_nx (by decide) (up_nx (by decide) (b94)), up_nx (by decide) (up_nx (by decide) (b95)), up_nx (by decide) (up_nx (by decide) (b96)), up_nx (by decide) (up_nx (by decide) (b97)), up_nx (by decide) (up_nx (by decide) (b98)), up_nx (by decide) (up_nx (by decide) (b99)), up_nx (by decide) (up_nx (by decide) (b100)), up_nx (by decide) (up_nx (by decide) (b101)), up_nx (by decide) (up_nx (by decide) (b102)), up_nx (by decide) (up_nx (by decide) (b103)), up_nx (by decide) (up_nx (by decide) (b104)), up_nx (by decide) (up_nx (by decide) (b105)), up_nx (by decide) (up_nx (by decide) (b106)), up_nx (by decide) (up_nx (by decide) (b107))⟩, ⟨rm, hn1, ro1, wO.2.2.2⟩, pk_us, mn_u0.trans h1, ro2, nzP, hTR, hTO, hHR, hSR⟩⟩

theorem p_read1 {l : Launch} {D : va_G} {ca ss ad : Nat → Nat} (c : Nat) (hc : c < 4) : gPr l D ca ss ad yX11_read cX11_read 10 2 yX12_read cX12_read 6 3 [.int 1, .int (nI c)] := by
  intro f hJ
  have hJ' := hJ
  obtain ⟨la, n0, n1, gS, gP, se, tS, tP, tZ, tG, fm, ln, sG, mn, tr, tm, ho, fo, sz, it, hC, hM, hR⟩ := hJ
  have hC' := hC
  obtain ⟨hc0, hI, hT, hS⟩ := hC
  have hR' := hR
  obtain ⟨wO, h0, h1, nzS, nzP, hTR, hTO, hHR, hSR⟩ := hR
  have hI' := hI
  obtain ⟨⟨hn0, hn1, d2, d3, d4, d5, d6⟩, hCel, lo', ma', bt, bc, sp, sc, fk, bk, sk, e1, -⟩ := hI
  obtain ⟨f1, f2, f3, f4⟩ := hSR c hc
  have ec : (nI c).toNatClampNeg = c := nI_clamp (by omega)
  have sc' : ¬ s_X12_isSheet (nI c) = 0 := sheet_n c hc
  have ln0 := (hS.2 c hc).1
  by_cases hL : fm c = -1
  · have hL' : ¬ 0 ≤ fo c := by rw [f1, hL]; decide
    refine ⟨-11, fun u => u = va_up f 0 (.inr (10, [.ref (ad 1), .ref (ad 69), .ref (ad 70), .int 1])), gMi_mono (c_read1 c hc la n0 n1 gS gP se fm ln sG hc0 hI' hS) (fun r u h => by rw [if_neg (fun z => lost_no.mp z hL)] at h; exact h), fun u hu => ?_⟩
    have hMu := JM_c (u := u) hM (fun k h _ => by rw [hu]; exact up_nx (by omega) rfl)
    have hCu := JC_la (la' := 1) hC'
    rw [← hu] at hCu
    obtain ⟨dr, lo, ma, pa, tu, su, vo, so, ro, us, pl, sur, far, mo, sta, spa, sf, b87, b88, b89, b90, b91, b92, b93, b94, b95, b96, b97, b98, b99, b100, b101, b102, b103, b104, b105, b106, b107⟩ := hMu
    refine gMm b87 (c_X12_read (l := l) (D := D) (ss := ss) 1 (nI c) la dr (-1) lo ma pa tu su (dj gS gP) mn fo sz it b87 b92 b93 b88 b89 b90 (fun j hj => (hSR j hj).2.2.1) (mn_ok h0 h1 hn0 hn1)) (fun r u' h => ?_)
    unfold s_X12_read at h
    rw [if_neg two_1, if_neg sc', ec, if_neg hL'] at h
    obtain ⟨rfl, rfl⟩ := pair_eq h
    exact ⟨rfl, ⟨1, n0, n1, gS, gP, se, tS, tP, tZ, tG, fm, ln, sG, mn, tr, tm, ho, fo, sz, it, JC_c hCu (fun k hk => up_nx (by omega) (rfl)), ⟨dr, lo, ma, pa, tu, su, vo, so, ro, us, pl, sur, far, mo, sta, spa, sf, va_up_self _ _ _, up_nx (by decide) (b88), up_nx (by decide) (b89), up_nx (by decide) (b90), up_nx (by decide) (b91), up_nx (by decide) (b92), up_nx (by decide) (b93), up_nx (by decide) (b94), up_nx (by decide) (b95), up_nx (by decide) (b96), up_nx (by decide) (b97), up_nx (by decide) (b98), up_nx (by decide) (b99), up_nx (by decide) (b100), up_nx (by decide) (b101), up_nx (by decide) (b102), up_nx (by decide) (b103), up_nx (by decide) (b104), up_nx (by decide) (b105), up_nx (by decide) (b106), up_nx (by decide) (b107)⟩, hR'⟩⟩
  · have hL' : 0 ≤ fo c := by rw [f1]; exact (lost_ge f2).mp hL
    obtain ⟨g1, g2⟩ := f4 hL
    obtain ⟨LN, hLN, eLN⟩ := ln_n ln0
    have eC : (ln c).toNatClampNeg = LN := by rw [eLN, nI_clamp (by omega)]
    obtain ⟨KK, hK⟩ := rd_ex LN 8 n1 (nI LN) (sG c) hLN
    have hi : ∀ j, j < LN → it (60 * c + j) = sG c j := fun j hj => g2 j (by rw [eLN, nI_toInt (by omega)]; omega)
    have rm := rd_room hn1 hK.2
    have rs := rd_m1 (gS := gS) (gP := gP) (mn := mn) hLN hn1 hi hK 20 0 (by omega) (by omega)
    obtain ⟨ro1, ro2⟩ := rd_ok1 wO.2.2.1 nzP hK.2 KK (Nat.le_refl _)
    have em : upd mn 1 (nI (n1 + 0)) = mn := by rw [Nat.add_zero, ← h1, upd_same]
    rw [em] at rs
    have rs : rdS (1 : Int32) it (60 * c) LN 20 0 (dj gS gP, mn) = (KK, dj gS (cRd (nI LN) (sG c) gP n1 KK), upd mn 1 (nI (n1 + KK))) := rs
    refine ⟨nI KK, fun u => cSI ca ad n0 (n1 + KK) gS (cRd (nI LN) (sG c) gP n1 KK) se u ∧ ∀ k, k = 0 ∨ 69 ≤ k → u k = f k, gMi_mono (c_read1 c hc la n0 n1 gS gP se fm ln sG hc0 hI' hS) (fun r u h => by
      rw [if_pos (lost_no.mpr hL), eC, eLN] at h
      obtain ⟨K', hK', q1, q2⟩ := h
      rw [rd_one hK hK'] at q1 q2
      exact ⟨q1.trans (rd_sub _ _), q2⟩), fun u hu => ?_⟩
    have hMu := JM_c hM (fun k h _ => hu.2 k (by omega))
    have hCu := JC_n hC' hu.1 hu.2
    obtain ⟨dr, lo, ma, pa, tu, su, vo, so, ro, us, pl, sur, far, mo, sta, spa, sf, b87, b88, b89, b90, b91, b92, b93, b94, b95, b96, b97, b98, b99, b100, b101, b102, b103, b104, b105, b106, b107⟩ := hMu
    refine gMm b87 (c_X12_read (l := l) (D := D) (ss := ss) 1 (nI c) la dr (-1) lo ma pa tu su (dj gS gP) mn fo sz it b87 b92 b93 b88 b89 b90 (fun j hj => (hSR j hj).2.2.1) (mn_ok h0 h1 hn0 hn1)) (fun r u' h => ?_)
    unfold s_X12_read at h
    rw [if_neg two_1, if_neg sc', ec, if_pos hL', g1, eC, rs] at h
    obtain ⟨rfl, rfl⟩ := pair_eq h
    exact ⟨rfl, ⟨la, n0, n1 + KK, gS, cRd (nI LN) (sG c) gP n1 KK, se, tS, tP, tZ, tG, fm, ln, sG, upd mn 1 (nI (n1 + KK)), tr, tm, ho, fo, sz, it, JC_c hCu (fun k hk => up_nx (by omega) (up_nx (by omega) (rfl))), ⟨dr, lo, ma, pa, tu, su, vo, so, ro, us, pl, sur, far, mo, sta, spa, sf, up_nx (by decide) (up_nx (by decide) (b87)), up_nx (by decide) (up_nx (by decide) (b88)), up_nx (by decide) (up_nx (by decide) (b89)), up_nx (by decide) (up_nx (by decide) (b90)), up_nx (by decide) (up_nx (by decide) (b91)), up_nx (by decide) (va_up_self _ _ _), va_up_self _ _ _, up_nx (by decide) (up_nx (by decide) (b94)), up_nx (by decide) (up_nx (by decide) (b95)), up_nx (by decide) (up_nx (by decide) (b96)), up_nx (by decide) (up_nx (by decide) (b97)), up_nx (by decide) (up_nx (by decide) (b98)), up_nx (by decide) (up_nx (by decide) (b99)), up_nx (by decide) (up_nx (by decide) (b100)), up_nx (by decide) (up_nx (by decide) (b101)), up_nx (by decide) (up_nx (by decide) (b102)), up_nx (by decide) (up_nx (by decide) (b103)), up_nx (by decide) (up_nx (by decide) (b104)), up_nx (by decide) (up_nx (by decide) (b105)), up_nx (by decide) (up_nx (by decide) (b106)), up_nx (by decide) (up_nx (by decide) (b107))⟩, ⟨hn0, rm, ro1, wO.2.2.2⟩, mn_u1.trans h0, pk_us, nzS, ro2, hTR, hTO, hHR, hSR⟩⟩

theorem p_read {l : Launch} {D : va_G} {ca ss ad : Nat → Nat} (k s : Int32) : gPr l D ca ss ad yX11_read cX11_read 10 2 yX12_read cX12_read 6 3 [.int k, .int s] := by
  by_cases hq : s_X11_isKind k = 0
  · intro f hJ
    have hJ' := hJ
    obtain ⟨la, n0, n1, gS, gP, se, tS, tP, tZ, tG, fm, ln, sG, mn, tr, tm, ho, fo, sz, it, hC, hM, hR⟩ := hJ
    have hC' := hC
    obtain ⟨hc0, hI, hT, hS⟩ := hC
    have hR' := hR
    obtain ⟨wO, h0, h1, nzS, nzP, hTR, hTO, hHR, hSR⟩ := hR
    have hI' := hI
    obtain ⟨⟨hn0, hn1, d2, d3, d4, d5, d6⟩, hCel, lo', ma', bt, bc, sp, sc, fk, bk, sk, e1, -⟩ := hI
    refine ⟨-2, fun u => u = f, gMi_mono (c_readK k s hq) (fun r u h => h), fun u hu => ?_⟩
    subst hu
    obtain ⟨dr, lo, ma, pa, tu, su, vo, so, ro, us, pl, sur, far, mo, sta, spa, sf, a87, a88, a89, a90, a91, a92, a93, a94, a95, a96, a97, a98, a99, a100, a101, a102, a103, a104, a105, a106, a107⟩ := hM
    refine gMm a87 (c_X12_read (l := l) (D := D) (ss := ss) k s la dr (-1) lo ma pa tu su (dj gS gP) mn fo sz it a87 a92 a93 a88 a89 a90 (fun j hj => (hSR j hj).2.2.1) (mn_ok h0 h1 hn0 hn1)) (fun r u' h => ?_)
    unfold s_X12_read at h
    rw [if_pos (kind_two.mp hq)] at h
    obtain ⟨rfl, rfl⟩ := pair_eq h
    exact ⟨rfl, hJ'⟩
  · by_cases hk : s_X11_isSheet s = 0
    · intro f hJ
      have hJ' := hJ
      obtain ⟨la, n0, n1, gS, gP, se, tS, tP, tZ, tG, fm, ln, sG, mn, tr, tm, ho, fo, sz, it, hC, hM, hR⟩ := hJ
      have hC' := hC
      obtain ⟨hc0, hI, hT, hS⟩ := hC
      have hR' := hR
      obtain ⟨wO, h0, h1, nzS, nzP, hTR, hTO, hHR, hSR⟩ := hR
      have hI' := hI
      obtain ⟨⟨hn0, hn1, d2, d3, d4, d5, d6⟩, hCel, lo', ma', bt, bc, sp, sc, fk, bk, sk, e1, -⟩ := hI
      refine ⟨-2, fun u => u = f, gMi_mono (c_readB k s hq hk) (fun r u h => h), fun u hu => ?_⟩
      subst hu
      obtain ⟨dr, lo, ma, pa, tu, su, vo, so, ro, us, pl, sur, far, mo, sta, spa, sf, a87, a88, a89, a90, a91, a92, a93, a94, a95, a96, a97, a98, a99, a100, a101, a102, a103, a104, a105, a106, a107⟩ := hM
      refine gMm a87 (c_X12_read (l := l) (D := D) (ss := ss) k s la dr (-1) lo ma pa tu su (dj gS gP) mn fo sz it a87 a92 a93 a88 a89 a90 (fun j hj => (hSR j hj).2.2.1) (mn_ok h0 h1 hn0 hn1)) (fun r u' h => ?_)
      unfold s_X12_read at h
      rw [if_neg (fun z => hq (kind_two.mpr z)), if_pos (sheet_iff.mp hk)] at h
      obtain ⟨rfl, rfl⟩ := pair_eq h
      exact ⟨rfl, hJ'⟩
    · obtain ⟨c, hc, rfl⟩ := sheet_nN hk
      rcases kind_01 hq with rfl | rfl
      · exact p_read0 c hc
      · exact p_read1 c hc

theorem cWrt_pF (fm : Int32) (sv g : Nat → Int32) : ∀ t, t ≤ 60 → cWrt fm sv g t = pF g 0 t (fun p => s_X12_cut fm (sv p))
  | 0, _ => (pF_0 g 0 _).symm
  | t + 1, h => by
    show t_X5_store_j (nI t) (sv t) fm (cWrt fm sv g t) = _
    rw [cWrt_pF fm sv g t (by omega), store_cut, nI_clamp (by omega)]
    have := pF_s g 0 t (fun p => s_X12_cut fm (sv p))
    rw [Nat.zero_add] at this
    exact this
theorem JC_w {ca ad : Nat → Nat} {la : Int32} {n0 n1 : Nat} {gS gP se tS tP tZ : Nat → Int32} {tG : Nat → Nat → Int32} {fm ln fm' ln' : Nat → Int32} {sG sG' : Nat → Nat → Int32} {f u : Nat → va_E} (h : JC ca ad la n0 n1 gS gP se tS tP tZ tG fm ln sG f) (hI : cSI ca ad n0 n1 gS gP se u) (hS : cSh ca ad fm' ln' sG' u) (e : ∀ k, k = 0 ∨ (69 ≤ k ∧ ¬ (79 ≤ k ∧ k < 87)) → u k = f k) : JC ca ad la n0 n1 gS gP se tS tP tZ tG fm' ln' sG' u :=
  ⟨(e 0 (Or.inl rfl)).trans h.1, hI, cTr_c h.2.2.1 (fun k h1 h2 => e k (Or.inr (by omega))), hS⟩
theorem mWr_ok {c m : Nat} (hc : c < 4) {it fo sz mn SV : Nat → Int32} {q : Int32} (hL : 0 ≤ fo c) (el : s_X12_lesser (sz c) (mn 1) = nI m) (hm : m ≤ 60) (hq : fo c = q) : mWr (nI c) it fo sz mn SV = pF it (60 * c) m (fun p => s_X12_cut q (SV p)) := by
  unfold mWr
  rw [if_neg (sheet_n c hc), nI_clamp (show c < 2 ^ 31 by omega), if_pos hL, el, nI_clamp (show m < 2 ^ 31 by omega), hq]
theorem sRel_w {fm ln fo sz it : Nat → Int32} {sG : Nat → Nat → Int32} (h : sRel fm ln sG fo sz it) {c n : Nat} (hn : n ≤ 60) (g : Nat → Int32) : sRel fm ln (updT sG c (pF (sG c) 0 n g)) fo sz (pF it (60 * c) n g) := sRel_l (b := 0) h (by omega) g
theorem less_min {a b : Nat} (ha : a ≤ 60) (hb : b ≤ 60) : s_X12_lesser (nI a) (nI b) = nI (Nat.min a b) := by
  unfold s_X12_lesser
  have e : Nat.min a b = min a b := rfl
  by_cases h : nI b ≤ nI a
  · rw [if_pos h]
    rw [i32_le, nI_toInt (by omega), nI_toInt (by omega)] at h
    rw [show Nat.min a b = b by omega]
  · rw [if_neg h]
    rw [i32_le, nI_toInt (by omega), nI_toInt (by omega)] at h
    rw [show Nat.min a b = a by omega]
theorem p_writeN {l : Launch} {D : va_G} {ca ss ad : Nat → Nat} (c : Nat) (hc : c < 4) : gPr l D ca ss ad yX11_write cX11_write 6 6 yX12_write cX12_write 4 8 [.int (nI c)] := by
  intro f hJ
  have hJ' := hJ
  obtain ⟨la, n0, n1, gS, gP, se, tS, tP, tZ, tG, fm, ln, sG, mn, tr, tm, ho, fo, sz, it, hC, hM, hR⟩ := hJ
  have hC' := hC
  obtain ⟨hc0, hI, hT, hS⟩ := hC
  have hR' := hR
  obtain ⟨wO, h0, h1, nzS, nzP, hTR, hTO, hHR, hSR⟩ := hR
  have hI' := hI
  obtain ⟨⟨hn0, hn1, d2, d3, d4, d5, d6⟩, hCel, lo', ma', bt, bc, sp, sc, fk, bk, sk, e1, -⟩ := hI
  obtain ⟨f1, f2, f3, f4⟩ := hSR c hc
  have ec : (nI c).toNatClampNeg = c := nI_clamp (by omega)
  have sc' : ¬ s_X12_isSheet (nI c) = 0 := sheet_n c hc
  have ln0 := (hS.2 c hc).1
  by_cases hL : fm c = -1
  · have hL' : ¬ 0 ≤ fo c := by rw [f1, hL]; decide
    refine ⟨-11, fun u => u = va_up f 0 (.inr (10, [.ref (ad 1), .ref (ad 69), .ref (ad 70), .int 1])), gMi_mono (c_write c hc la n0 n1 gS gP se fm ln sG hc0 hI' hS (hk_of wO)) (fun r u h => by rw [if_neg (fun z => lost_no.mp z hL)] at h; exact h), fun u hu => ?_⟩
    have hMu := JM_c (u := u) hM (fun k h _ => by rw [hu]; exact up_nx (by omega) rfl)
    have hCu := JC_la (la' := 1) hC'
    rw [← hu] at hCu
    obtain ⟨dr, lo, ma, pa, tu, su, vo, so, ro, us, pl, sur, far, mo, sta, spa, sf, b87, b88, b89, b90, b91, b92, b93, b94, b95, b96, b97, b98, b99, b100, b101, b102, b103, b104, b105, b106, b107⟩ := hMu
    refine gMm b87 (c_X12_write (l := l) (D := D) (ss := ss) (nI c) la dr (-1) lo ma pa tu su (dj gS gP) mn se vo so ro us sta spa sf pl sur far fo sz it n0 n1 b87 b92 b93 b94 b95 b96 b97 b98 b99 b100 b101 b102 b103 b104 b88 b89 b90 h0 h1 hn0 hn1 (se_nz wO.2.2.2.1) wO.2.2.1 rfl (fun j hj => (hSR j hj).2.2.1)) (fun r u' h => ?_)
    have w1 : s_X12_write (nI c) fo sz mn = -11 := by unfold s_X12_write; rw [if_neg sc', ec, if_neg hL']
    have w2 : mWr (nI c) it fo sz mn (rC (dj gS gP) se n0 n1 (-1)).2.1 = it := by unfold mWr; rw [if_neg sc', ec, if_neg hL']
    have w3' : lWr (nI c) la fo = 1 := by unfold lWr; rw [if_neg sc', ec, if_neg hL']
    rw [w1, w2, w3'] at h
    obtain ⟨hr, jlo, jma, jpa, jtu, jsu, jvo, jso, jro, jus, jspa, jsta, jsf, jpl, jsure, jfar, rfl⟩ := h
    exact ⟨hr, ⟨1, n0, n1, gS, gP, se, tS, tP, tZ, tG, fm, ln, sG, mn, tr, tm, ho, fo, sz, it, JC_c hCu (fun k hk => up_nx (by omega) (up_nx (by omega) (up_nx (by omega) (up_nx (by omega) (up_nx (by omega) (up_nx (by omega) (up_nx (by omega) (up_nx (by omega) (up_nx (by omega) (up_nx (by omega) (up_nx (by omega) (up_nx (by omega) (rfl))))))))))))), ⟨dr, jlo, jma, jpa, jtu, jsu, jvo, jso, jro, jus, jpl, jsure, jfar, mo, jsta, jspa, jsf, up_nx (by decide) (up_nx (by decide) (up_nx (by decide) (up_nx (by decide) (up_nx (by decide) (up_nx (by decide) (up_nx (by decide) (up_nx (by decide) (up_nx (by decide) (up_nx (by decide) (up_nx (by decide) (va_up_self _ _ _))))))))))), up_nx (by decide) (up_nx (by decide) (up_nx (by decide) (up_nx (by decide) (up_nx (by decide) (up_nx (by decide) (up_nx (by decide) (up_nx (by decide) (up_nx (by decide) (up_nx (by decide) (up_nx (by decide) (up_nx (by decide) (b88)))))))))))), up_nx (by decide) (up_nx (by decide) (up_nx (by decide) (up_nx (by decide) (up_nx (by decide) (up_nx (by decide) (up_nx (by decide) (up_nx (by decide) (up_nx (by decide) (up_nx (by decide) (up_nx (by decide) (up_nx (by decide) (b89)))))))))))), va_up_self _ _ _, up_nx (by decide) (up_nx (by decide) (up_nx (by decide) (up_nx (by decide) (up_nx (by decide) (up_nx (by decide) (up_nx (by decide) (up_nx (by decide) (up_nx (by decide) (up_nx (by decide) (up_nx (by decide) (up_nx (by decide) (b91)))))))))))), up_nx (by decide) (up_nx (by decide) (up_nx (by decide) (up_nx (by decide) (up_nx (by decide) (up_nx (by decide) (up_nx (by decide) (up_nx (by decide) (up_nx (by decide) (up_nx (by decide) (up_nx (by decide) (up_nx (by decide) (b92)))))))))))), up_nx (by decide) (up_nx (by decide) (up_nx (by decide) (up_nx (by decide) (up_nx (by decide) (up_nx (by decide) (up_nx (by decide) (up_nx (by decide) (up_nx (by decide) (up_nx (by decide) (up_nx (by decide) (up_nx (by decide) (b93)))))))))))), up_nx (by decide) (up_nx (by decide) (up_nx (by decide) (up_nx (by decide) (up_nx (by decide) (up_nx (by decide) (up_nx (by decide) (up_nx (by decide) (up_nx (by decide) (up_nx (by decide) (up_nx (by decide) (up_nx (by decide) (b94)))))))))))), up_nx (by decide) (up_nx (by decide) (up_nx (by decide) (up_nx (by decide) (up_nx (by decide) (up_nx (by decide) (up_nx (by decide) (up_nx (by decide) (up_nx (by decide) (up_nx (by decide) (va_up_self _ _ _)))))))))), up_nx (by decide) (up_nx (by decide) (up_nx (by decide) (up_nx (by decide) (up_nx (by decide) (up_nx (by decide) (up_nx (by decide) (up_nx (by decide) (up_nx (by decide) (va_up_self _ _ _))))))))), up_nx (by decide) (up_nx (by decide) (up_nx (by decide) (up_nx (by decide) (up_nx (by decide) (up_nx (by decide) (up_nx (by decide) (up_nx (by decide) (va_up_self _ _ _)))))))), up_nx (by decide) (up_nx (by decide) (up_nx (by decide) (up_nx (by decide) (up_nx (by decide) (up_nx (by decide) (up_nx (by decide) (va_up_self _ _ _))))))), up_nx (by decide) (up_nx (by decide) (up_nx (by decide) (up_nx (by decide) (up_nx (by decide) (va_up_self _ _ _))))), up_nx (by decide) (up_nx (by decide) (up_nx (by decide) (up_nx (by decide) (up_nx (by decide) (up_nx (by decide) (va_up_self _ _ _)))))), up_nx (by decide) (up_nx (by decide) (up_nx (by decide) (up_nx (by decide) (va_up_self _ _ _)))), up_nx (by decide) (up_nx (by decide) (up_nx (by decide) (va_up_self _ _ _))), up_nx (by decide) (up_nx (by decide) (va_up_self _ _ _)), up_nx (by decide) (va_up_self _ _ _), up_nx (by decide) (up_nx (by decide) (up_nx (by decide) (up_nx (by decide) (up_nx (by decide) (up_nx (by decide) (up_nx (by decide) (up_nx (by decide) (up_nx (by decide) (up_nx (by decide) (up_nx (by decide) (up_nx (by decide) (b105)))))))))))), up_nx (by decide) (up_nx (by decide) (up_nx (by decide) (up_nx (by decide) (up_nx (by decide) (up_nx (by decide) (up_nx (by decide) (up_nx (by decide) (up_nx (by decide) (up_nx (by decide) (up_nx (by decide) (up_nx (by decide) (b106)))))))))))), up_nx (by decide) (up_nx (by decide) (up_nx (by decide) (up_nx (by decide) (up_nx (by decide) (up_nx (by decide) (up_nx (by decide) (up_nx (by decide) (up_nx (by decide) (up_nx (by decide) (up_nx (by decide) (up_nx (by decide) (b107))))))))))))⟩, hR'⟩⟩
  · have hL' : 0 ≤ fo c := by rw [f1]; exact (lost_ge f2).mp hL
    obtain ⟨g1, g2⟩ := f4 hL
    obtain ⟨LN, hLN, eLN⟩ := ln_n ln0
    have cw := c_write (l := l) (D := D) (ss := ss) c hc la n0 n1 gS gP se fm ln sG hc0 hI' hS (hk_of wO)
    unfold kC at cw
    generalize hSV : (rC (dj gS gP) se n0 n1 (-1)).2.1 = SV at cw
    have hm60 : Nat.min LN n1 ≤ 60 := Nat.le_trans (Nat.min_le_left LN n1) hLN
    refine ⟨nI (Nat.min LN n1), fun u => cSI ca ad n0 n1 gS gP se u ∧ cSh ca ad fm ln (updT sG c (pF (sG c) 0 (Nat.min LN n1) (fun p => s_X12_cut (fm c) (SV p)))) u ∧ ∀ k, k = 0 ∨ (69 ≤ k ∧ ¬ (79 ≤ k ∧ k < 87)) → u k = f k, gMi_mono cw (fun r u h => by
      rw [if_pos (lost_no.mpr hL)] at h
      obtain ⟨L', hL2, e2, q1, q2, q3, q4⟩ := h
      have e3 : L' = LN := nI_inj (by omega) (by omega) (e2.symm.trans eLN)
      subst e3
      rw [cWrt_pF _ _ _ _ hm60] at q3
      exact ⟨q1, q2, q3, q4⟩), fun u hu => ?_⟩
    have hMu := JM_c hM (fun k h _ => hu.2.2 k (by omega))
    have hCu := JC_w hC' hu.1 hu.2.1 hu.2.2
    obtain ⟨dr, lo, ma, pa, tu, su, vo, so, ro, us, pl, sur, far, mo, sta, spa, sf, b87, b88, b89, b90, b91, b92, b93, b94, b95, b96, b97, b98, b99, b100, b101, b102, b103, b104, b105, b106, b107⟩ := hMu
    have el : s_X12_lesser (sz c) (mn 1) = nI (Nat.min LN n1) := by rw [g1, eLN, h1, less_min hLN (by omega)]
    refine gMm b87 (c_X12_write (l := l) (D := D) (ss := ss) (nI c) la dr (-1) lo ma pa tu su (dj gS gP) mn se vo so ro us sta spa sf pl sur far fo sz it n0 n1 b87 b92 b93 b94 b95 b96 b97 b98 b99 b100 b101 b102 b103 b104 b88 b89 b90 h0 h1 hn0 hn1 (se_nz wO.2.2.2.1) wO.2.2.1 rfl (fun j hj => (hSR j hj).2.2.1)) (fun r u' h => ?_)
    have w1 : s_X12_write (nI c) fo sz mn = nI (Nat.min LN n1) := by unfold s_X12_write; rw [if_neg sc', ec, if_pos hL', el]
    have w2 : mWr (nI c) it fo sz mn SV = pF it (60 * c) (Nat.min LN n1) (fun p => s_X12_cut (fm c) (SV p)) := mWr_ok hc hL' el hm60 f1
    have w3' : lWr (nI c) la fo = la := by unfold lWr; rw [if_neg sc', ec, if_pos hL']
    rw [hSV, w1, w2, w3'] at h
    obtain ⟨hr, jlo, jma, jpa, jtu, jsu, jvo, jso, jro, jus, jspa, jsta, jsf, jpl, jsure, jfar, rfl⟩ := h
    exact ⟨hr, ⟨la, n0, n1, gS, gP, se, tS, tP, tZ, tG, fm, ln, updT sG c (pF (sG c) 0 (Nat.min LN n1) (fun p => s_X12_cut (fm c) (SV p))), mn, tr, tm, ho, fo, sz, pF it (60 * c) (Nat.min LN n1) (fun p => s_X12_cut (fm c) (SV p)), JC_c hCu (fun k hk => up_nx (by omega) (up_nx (by omega) (up_nx (by omega) (up_nx (by omega) (up_nx (by omega) (up_nx (by omega) (up_nx (by omega) (up_nx (by omega) (up_nx (by omega) (up_nx (by omega) (up_nx (by omega) (up_nx (by omega) (rfl))))))))))))), ⟨dr, jlo, jma, jpa, jtu, jsu, jvo, jso, jro, jus, jpl, jsure, jfar, mo, jsta, jspa, jsf, up_nx (by decide) (up_nx (by decide) (up_nx (by decide) (up_nx (by decide) (up_nx (by decide) (up_nx (by decide) (up_nx (by decide) (up_nx (by decide) (up_nx (by decide) (up_nx (by decide) (up_nx (by decide) (va_up_self _ _ _))))))))))), up_nx (by decide) (up_nx (by decide) (up_nx (by decide) (up_nx (by decide) (up_nx (by decide) (up_nx (by decide) (up_nx (by decide) (up_nx (by decide) (up_nx (by decide) (up_nx (by decide) (up_nx (by decide) (up_nx (by decide) (b88)))))))))))), up_nx (by decide) (up_nx (by decide) (up_nx (by decide) (up_nx (by decide) (up_nx (by decide) (up_nx (by decide) (up_nx (by decide) (up_nx (by decide) (up_nx (by decide) (up_nx (by decide) (up_nx (by decide) (up_nx (by decide) (b89)))))))))))), va_up_self _ _ _, up_nx (by decide) (up_nx (by decide) (up_nx (by decide) (up_nx (by decide) (up_nx (by decide) (up_nx (by decide) (up_nx (by decide) (up_nx (by decide) (up_nx (by decide) (up_nx (by decide) (up_nx (by decide) (up_nx (by decide) (b91)))))))))))), up_nx (by decide) (up_nx (by decide) (up_nx (by decide) (up_nx (by decide) (up_nx (by decide) (up_nx (by decide) (up_nx (by decide) (up_nx (by decide) (up_nx (by decide) (up_nx (by decide) (up_nx (by decide) (up_nx (by decide) (b92)))))))))))), up_nx (by decide) (up_nx (by decide) (up_nx (by decide) (up_nx (by decide) (up_nx (by decide) (up_nx (by decide) (up_nx (by decide) (up_nx (by decide) (up_nx (by decide) (up_nx (by decide) (up_nx (by decide) (up_nx (by decide) (b93)))))))))))), up_nx (by decide) (up_nx (by decide) (up_nx (by decide) (up_nx (by decide) (up_nx (by decide) (up_nx (by decide) (up_nx (by decide) (up_nx (by decide) (up_nx (by decide) (up_nx (by decide) (up_nx (by decide) (up_nx (by decide) (b94)))))))))))), up_nx (by decide) (up_nx (by decide) (up_nx (by decide) (up_nx (by decide) (up_nx (by decide) (up_nx (by decide) (up_nx (by decide) (up_nx (by decide) (up_nx (by decide) (up_nx (by decide) (va_up_self _ _ _)))))))))), up_nx (by decide) (up_nx (by decide) (up_nx (by decide) (up_nx (by decide) (up_nx (by decide) (up_nx (by decide) (up_nx (by decide) (up_nx (by decide) (up_nx (by decide) (va_up_self _ _ _))))))))), up_nx (by decide) (up_nx (by decide) (up_nx (by decide) (up_nx (by decide) (up_nx (by decide) (up_nx (by decide) (up_nx (by decide) (up_nx (by decide) (va_up_self _ _ _)))))))), up_nx (by decide) (up_nx (by decide) (up_nx (by decide) (up_nx (by decide) (up_nx (by decide) (up_nx (by decide) (up_nx (by decide) (va_up_self _ _ _))))))), up_nx (by decide) (up_nx (by decide) (up_nx (by decide) (up_nx (by decide) (up_nx (by decide) (va_up_self _ _ _))))), up_nx (by decide) (up_nx (by decide) (up_nx (by decide) (up_nx (by decide) (up_nx (by decide) (up_nx (by decide) (va_up_self _ _ _)))))), up_nx (by decide) (up_nx (by decide) (up_nx (by decide) (up_nx (by decide) (va_up_self _ _ _)))), up_nx (by decide) (up_nx (by decide) (up_nx (by decide) (va_up_self _ _ _))), up_nx (by decide) (up_nx (by decide) (va_up_self _ _ _)), up_nx (by decide) (va_up_self _ _ _), up_nx (by decide) (up_nx (by decide) (up_nx (by decide) (up_nx (by decide) (up_nx (by decide) (up_nx (by decide) (up_nx (by decide) (up_nx (by decide) (up_nx (by decide) (up_nx (by decide) (up_nx (by decide) (up_nx (by decide) (b105)))))))))))), up_nx (by decide) (up_nx (by decide) (up_nx (by decide) (up_nx (by decide) (up_nx (by decide) (up_nx (by decide) (up_nx (by decide) (up_nx (by decide) (up_nx (by decide) (up_nx (by decide) (up_nx (by decide) (up_nx (by decide) (b106)))))))))))), up_nx (by decide) (up_nx (by decide) (up_nx (by decide) (up_nx (by decide) (up_nx (by decide) (up_nx (by decide) (up_nx (by decide) (up_nx (by decide) (up_nx (by decide) (up_nx (by decide) (up_nx (by decide) (up_nx (by decide) (b107))))))))))))⟩, wO, h0, h1, nzS, nzP, hTR, hTO, hHR, sRel_w hSR hm60 _⟩⟩

theorem p_write {l : Launch} {D : va_G} {ca ss ad : Nat → Nat} (s : Int32) : gPr l D ca ss ad yX11_write cX11_write 6 6 yX12_write cX12_write 4 8 [.int s] := by
  by_cases hk : s_X11_isSheet s = 0
  · intro f hJ
    have hJ' := hJ
    obtain ⟨la, n0, n1, gS, gP, se, tS, tP, tZ, tG, fm, ln, sG, mn, tr, tm, ho, fo, sz, it, hC, hM, hR⟩ := hJ
    have hC' := hC
    obtain ⟨hc0, hI, hT, hS⟩ := hC
    have hR' := hR
    obtain ⟨wO, h0, h1, nzS, nzP, hTR, hTO, hHR, hSR⟩ := hR
    have hI' := hI
    obtain ⟨⟨hn0, hn1, d2, d3, d4, d5, d6⟩, hCel, lo', ma', bt, bc, sp, sc, fk, bk, sk, e1, -⟩ := hI
    refine ⟨-2, fun u => u = f, gMi_mono (c_writeB s hk) (fun r u h => h), fun u hu => ?_⟩
    subst hu
    obtain ⟨dr, lo, ma, pa, tu, su, vo, so, ro, us, pl, sur, far, mo, sta, spa, sf, b87, b88, b89, b90, b91, b92, b93, b94, b95, b96, b97, b98, b99, b100, b101, b102, b103, b104, b105, b106, b107⟩ := hM
    have hk' := sheet_iff.mp hk
    refine gMm b87 (c_X12_write (l := l) (D := D) (ss := ss) s la dr (-1) lo ma pa tu su (dj gS gP) mn se vo so ro us sta spa sf pl sur far fo sz it n0 n1 b87 b92 b93 b94 b95 b96 b97 b98 b99 b100 b101 b102 b103 b104 b88 b89 b90 h0 h1 hn0 hn1 (se_nz wO.2.2.2.1) wO.2.2.1 rfl (fun j hj => (hSR j hj).2.2.1)) (fun r u' h => ?_)
    have w1 : s_X12_write s fo sz mn = -2 := by unfold s_X12_write; rw [if_pos hk']
    have w2 : mWr s it fo sz mn (rC (dj gS gP) se n0 n1 (-1)).2.1 = it := by unfold mWr; rw [if_pos hk']
    have w3' : lWr s la fo = la := by unfold lWr; rw [if_pos hk']
    rw [w1, w2, w3'] at h
    obtain ⟨hr, jlo, jma, jpa, jtu, jsu, jvo, jso, jro, jus, jspa, jsta, jsf, jpl, jsure, jfar, rfl⟩ := h
    exact ⟨hr, ⟨la, n0, n1, gS, gP, se, tS, tP, tZ, tG, fm, ln, sG, mn, tr, tm, ho, fo, sz, it, JC_c hC' (fun k hk => up_nx (by omega) (up_nx (by omega) (up_nx (by omega) (up_nx (by omega) (up_nx (by omega) (up_nx (by omega) (up_nx (by omega) (up_nx (by omega) (up_nx (by omega) (up_nx (by omega) (up_nx (by omega) (up_nx (by omega) (rfl))))))))))))), ⟨dr, jlo, jma, jpa, jtu, jsu, jvo, jso, jro, jus, jpl, jsure, jfar, mo, jsta, jspa, jsf, up_nx (by decide) (up_nx (by decide) (up_nx (by decide) (up_nx (by decide) (up_nx (by decide) (up_nx (by decide) (up_nx (by decide) (up_nx (by decide) (up_nx (by decide) (up_nx (by decide) (up_nx (by decide) (va_up_self _ _ _))))))))))), up_nx (by decide) (up_nx (by decide) (up_nx (by decide) (up_nx (by decide) (up_nx (by decide) (up_nx (by decide) (up_nx (by decide) (up_nx (by decide) (up_nx (by decide) (up_nx (by decide) (up_nx (by decide) (up_nx (by decide) (b88)))))))))))), up_nx (by decide) (up_nx (by decide) (up_nx (by decide) (up_nx (by decide) (up_nx (by decide) (up_nx (by decide) (up_nx (by decide) (up_nx (by decide) (up_nx (by decide) (up_nx (by decide) (up_nx (by decide) (up_nx (by decide) (b89)))))))))))), va_up_self _ _ _, up_nx (by decide) (up_nx (by decide) (up_nx (by decide) (up_nx (by decide) (up_nx (by decide) (up_nx (by decide) (up_nx (by decide) (up_nx (by decide) (up_nx (by decide) (up_nx (by decide) (up_nx (by decide) (up_nx (by decide) (b91)))))))))))), up_nx (by decide) (up_nx (by decide) (up_nx (by decide) (up_nx (by decide) (up_nx (by decide) (up_nx (by decide) (up_nx (by decide) (up_nx (by decide) (up_nx (by decide) (up_nx (by decide) (up_nx (by decide) (up_nx (by decide) (b92)))))))))))), up_nx (by decide) (up_nx (by decide) (up_nx (by decide) (up_nx (by decide) (up_nx (by decide) (up_nx (by decide) (up_nx (by decide) (up_nx (by decide) (up_nx (by decide) (up_nx (by decide) (up_nx (by decide) (up_nx (by decide) (b93)))))))))))), up_nx (by decide) (up_nx (by decide) (up_nx (by decide) (up_nx (by decide) (up_nx (by decide) (up_nx (by decide) (up_nx (by decide) (up_nx (by decide) (up_nx (by decide) (up_nx (by decide) (up_nx (by decide) (up_nx (by decide) (b94)))))))))))), up_nx (by decide) (up_nx (by decide) (up_nx (by decide) (up_nx (by decide) (up_nx (by decide) (up_nx (by decide) (up_nx (by decide) (up_nx (by decide) (up_nx (by decide) (up_nx (by decide) (va_up_self _ _ _)))))))))), up_nx (by decide) (up_nx (by decide) (up_nx (by decide) (up_nx (by decide) (up_nx (by decide) (up_nx (by decide) (up_nx (by decide) (up_nx (by decide) (up_nx (by decide) (va_up_self _ _ _))))))))), up_nx (by decide) (up_nx (by decide) (up_nx (by decide) (up_nx (by decide) (up_nx (by decide) (up_nx (by decide) (up_nx (by decide) (up_nx (by decide) (va_up_self _ _ _)))))))), up_nx (by decide) (up_nx (by decide) (up_nx (by decide) (up_nx (by decide) (up_nx (by decide) (up_nx (by decide) (up_nx (by decide) (va_up_self _ _ _))))))), up_nx (by decide) (up_nx (by decide) (up_nx (by decide) (up_nx (by decide) (up_nx (by decide) (va_up_self _ _ _))))), up_nx (by decide) (up_nx (by decide) (up_nx (by decide) (up_nx (by decide) (up_nx (by decide) (up_nx (by decide) (va_up_self _ _ _)))))), up_nx (by decide) (up_nx (by decide) (up_nx (by decide) (up_nx (by decide) (va_up_self _ _ _)))), up_nx (by decide) (up_nx (by decide) (up_nx (by decide) (va_up_self _ _ _))), up_nx (by decide) (up_nx (by decide) (va_up_self _ _ _)), up_nx (by decide) (va_up_self _ _ _), up_nx (by decide) (up_nx (by decide) (up_nx (by decide) (up_nx (by decide) (up_nx (by decide) (up_nx (by decide) (up_nx (by decide) (up_nx (by decide) (up_nx (by decide) (up_nx (by decide) (up_nx (by decide) (up_nx (by decide) (b105)))))))))))), up_nx (by decide) (up_nx (by decide) (up_nx (by decide) (up_nx (by decide) (up_nx (by decide) (up_nx (by decide) (up_nx (by decide) (up_nx (by decide) (up_nx (by decide) (up_nx (by decide) (up_nx (by decide) (up_nx (by decide) (b106)))))))))))), up_nx (by decide) (up_nx (by decide) (up_nx (by decide) (up_nx (by decide) (up_nx (by decide) (up_nx (by decide) (up_nx (by decide) (up_nx (by decide) (up_nx (by decide) (up_nx (by decide) (up_nx (by decide) (up_nx (by decide) (b107))))))))))))⟩, hR'⟩⟩
  · obtain ⟨c, hc, rfl⟩ := sheet_nN hk
    exact p_writeN c hc

