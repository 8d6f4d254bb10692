/-! PAIRS: copy -/
theorem p_copyS {l : Launch} {D : va_G} {ca ss ad : Nat → Nat} (c : Nat) (hc : c < 4) (x y n : Int32) : gPr l D ca ss ad yX11_copy cX11_copy 8 2 yX12_copy cX12_copy 7 2 [.int (nI c), .int x, .int (nI c), .int y, .int n] := by
  intro f hJ
  have hJ' := hJ
  obtain ⟨la, n0, n1, gS, gP, se, tS, tP, tZ, tG, fm, ln, sG, mn, tr, tm, ho, fo, sz, it, hC, hM, hR⟩ := hJ
  have hC' := hC
  obtain ⟨hc0, hI, hT, hS⟩ := hC
  have hR' := hR
  obtain ⟨wO, h0, h1, nzS, nzP, hTR, hTO, hHR, hSR⟩ := hR
  have hI' := hI
  obtain ⟨⟨hn0, hn1, d2, d3, d4, d5, d6⟩, hCel, lo', ma', bt, bc, sp, sc, fk, bk, sk, e1, -⟩ := hI
  obtain ⟨f1, f2, f3, f4⟩ := hSR c hc
  have ec : (nI c).toNatClampNeg = c := nI_clamp (by omega)
  have sc' : ¬ s_X12_isSheet (nI c) = 0 := sheet_n c hc
  have ln0 := (hS.2 c hc).1
  by_cases hL : fm c = -1
  · have hL' : fo c < 0 := by rw [f1, hL]; decide
    refine ⟨-11, fun u => u = va_up f 0 (.inr (10, [.ref (ad 1), .ref (ad 69), .ref (ad 70), .int 1])), gMi_mono (c_copyS c x y n hc la fm ln sG hc0 hS) (fun r u h => by rw [if_neg (fun z => lost_no.mp z hL)] at h; exact h), fun u hu => ?_⟩
    have hMu := JM_c (u := u) hM (fun k h _ => by rw [hu]; exact up_nx (by omega) rfl)
    have hCu := JC_la (la' := 1) hC'
    rw [← hu] at hCu
    obtain ⟨dr, lo, ma, pa, tu, su, vo, so, ro, us, pl, sur, far, mo, sta, spa, sf, b87, b88, b89, b90, b91, b92, b93, b94, b95, b96, b97, b98, b99, b100, b101, b102, b103, b104, b105, b106, b107⟩ := hMu
    refine gMm b87 (c_X12_copy (l := l) (D := D) (ss := ss) (nI c) x (nI c) y n la dr (-1) lo ma pa tu su fo sz it mo b87 b88 b89 b90 b91 (fun j hj => (hSR j hj).2.2.1)) (fun r u' h => ?_)
    unfold s_X12_copy at h
    rw [if_neg sc', if_neg sc', ec, if_pos hL'] at h
    obtain ⟨rfl, rfl⟩ := pair_eq h
    exact ⟨rfl, ⟨1, n0, n1, gS, gP, se, tS, tP, tZ, tG, fm, ln, sG, mn, tr, tm, ho, fo, sz, it, JC_c hCu (fun k hk => up_nx (by omega) (rfl)), ⟨dr, lo, ma, pa, tu, su, vo, so, ro, us, pl, sur, far, mo, sta, spa, sf, va_up_self _ _ _, up_nx (by decide) (b88), up_nx (by decide) (b89), up_nx (by decide) (b90), up_nx (by decide) (b91), up_nx (by decide) (b92), up_nx (by decide) (b93), up_nx (by decide) (b94), up_nx (by decide) (b95), up_nx (by decide) (b96), up_nx (by decide) (b97), up_nx (by decide) (b98), up_nx (by decide) (b99), up_nx (by decide) (b100), up_nx (by decide) (b101), up_nx (by decide) (b102), up_nx (by decide) (b103), up_nx (by decide) (b104), up_nx (by decide) (b105), up_nx (by decide) (b106), up_nx (by decide) (b107)⟩, hR'⟩⟩
  · have hL' : ¬ fo c < 0 := by rw [f1]; exact lost_lt f2 hL
    have hM' : 0 ≤ fo c := by rw [f1]; exact (lost_ge f2).mp hL
    have k4 := f4
    have hM := hM
    by_cases hX : (0 ≤ x.toInt ∧ 0 ≤ n.toInt ∧ x.toInt + n.toInt ≤ (ln c).toInt) ∧ 0 ≤ y.toInt ∧ 0 ≤ n.toInt ∧ y.toInt + n.toInt ≤ (ln c).toInt
    · obtain ⟨X, hX0, rfl⟩ := ln_n (x := x) (by omega)
      obtain ⟨Y, hY0, rfl⟩ := ln_n (x := y) (by omega)
      obtain ⟨N, hN0, rfl⟩ := ln_n (x := n) (by omega)
      have eX : (nI X).toNatClampNeg = X := nI_clamp (by omega)
      have eY : (nI Y).toNatClampNeg = Y := nI_clamp (by omega)
      have eN : (nI N).toNatClampNeg = N := nI_clamp (by omega)
      have hZ := hX
      rw [nI_toInt (by omega), nI_toInt (by omega), nI_toInt (by omega)] at hZ
      have ms : (0 ≤ (nI X).toInt ∧ 0 ≤ (nI N).toInt ∧ (nI X).toInt + (nI N).toInt ≤ (sz c).toInt) := by rw [(f4 hL).1]; exact hX.1
      have mt : (0 ≤ (nI Y).toInt ∧ 0 ≤ (nI N).toInt ∧ (nI Y).toInt + (nI N).toInt ≤ (sz c).toInt) := by rw [(k4 hL).1]; exact hX.2
      have hP : pF it (60 * c + Y) N (fun k => it (60 * c + X + k)) = pF it (60 * c + Y) N (fun k => sG c (X + k)) := pF_cong (fun j hj => by
        show it (60 * c + X + j) = sG c (X + j)
        rw [Nat.add_assoc]
        exact (f4 hL).2 (X + j) (by omega))
      refine ⟨1, fun u => cSh ca ad fm ln (updT sG c (va_cpy (sG c) (sG c) X Y N)) u ∧ ∀ k, ¬ (79 ≤ k ∧ k < 87) → u k = f k, gMi_mono (c_copyS c (nI X) (nI Y) (nI N) hc la fm ln sG hc0 hS) (fun r u h => by rw [if_pos (lost_no.mpr hL), if_pos (lost_no.mpr hL), if_pos (show fm c = fm c from rfl), run_b ln0 ln0 hX.1 hX.2, eX, eY, eN] at h; exact h), fun u hu => ?_⟩
      have hMu := JM_c hM (fun k h _ => hu.2 k (by omega))
      have hCu := JC_s hC' hu.1 hu.2
      obtain ⟨dr, lo, ma, pa, tu, su, vo, so, ro, us, pl, sur, far, mo, sta, spa, sf, b87, b88, b89, b90, b91, b92, b93, b94, b95, b96, b97, b98, b99, b100, b101, b102, b103, b104, b105, b106, b107⟩ := hMu
      refine gMm b87 (c_X12_copy (l := l) (D := D) (ss := ss) (nI c) (nI X) (nI c) (nI Y) (nI N) la dr (-1) lo ma pa tu su fo sz it mo b87 b88 b89 b90 b91 (fun j hj => (hSR j hj).2.2.1)) (fun r u' h => ?_)
      unfold s_X12_copy at h
      rw [if_neg sc', if_neg sc', ec, if_neg hL', if_pos hM', if_pos (show fo c = fo c from rfl), copy_b ms mt, eX, eY, eN, hP] at h
      obtain ⟨rfl, rfl⟩ := pair_eq h
      exact ⟨rfl, ⟨la, n0, n1, gS, gP, se, tS, tP, tZ, tG, fm, ln, updT sG c (va_cpy (sG c) (sG c) X Y N), mn, tr, tm, ho, fo, sz, pF it (60 * c + Y) N (fun k => sG c (X + k)), JC_c hCu (fun k hk => up_nx (by omega) (up_nx (by omega) (rfl))), ⟨dr, lo, ma, pa, tu, su, vo, so, ro, us, pl, sur, far, pF mo 0 N (fun k => it (60 * c + X + k)), sta, spa, sf, up_nx (by decide) (up_nx (by decide) (b87)), up_nx (by decide) (up_nx (by decide) (b88)), up_nx (by decide) (up_nx (by decide) (b89)), va_up_self _ _ _, up_nx (by decide) (va_up_self _ _ _), up_nx (by decide) (up_nx (by decide) (b92)), up_nx (by decide) (up_nx (by decide) (b93)), up_nx (by decide) (up_nx (by decide) (b94)), up_nx (by decide) (up_nx (by decide) (b95)), up_nx (by decide) (up_nx (by decide) (b96)), up_nx (by decide) (up_nx (by decide) (b97)), up_nx (by decide) (up_nx (by decide) (b98)), up_nx (by decide) (up_nx (by decide) (b99)), up_nx (by decide) (up_nx (by decide) (b100)), up_nx (by decide) (up_nx (by decide) (b101)), up_nx (by decide) (up_nx (by decide) (b102)), up_nx (by decide) (up_nx (by decide) (b103)), up_nx (by decide) (up_nx (by decide) (b104)), up_nx (by decide) (up_nx (by decide) (b105)), up_nx (by decide) (up_nx (by decide) (b106)), up_nx (by decide) (up_nx (by decide) (b107))⟩, wO, h0, h1, nzS, nzP, hTR, hTO, hHR, sRel_l (b := Y) (n := N) hSR (by omega) (fun k => sG c (X + k))⟩⟩
    · have hX' : ¬ ((0 ≤ x.toInt ∧ 0 ≤ n.toInt ∧ x.toInt + n.toInt ≤ (sz c).toInt) ∧ 0 ≤ y.toInt ∧ 0 ≤ n.toInt ∧ y.toInt + n.toInt ≤ (sz c).toInt) := by rw [(f4 hL).1]; exact hX
      refine ⟨-12, fun u => u = va_up f 0 (.inr (10, [.ref (ad 1), .ref (ad 69), .ref (ad 70), .int 2])), gMi_mono (c_copyS c x y n hc la fm ln sG hc0 hS) (fun r u h => by rw [if_pos (lost_no.mpr hL), if_pos (lost_no.mpr hL), if_pos (show fm c = fm c from rfl), run_a ln0 ln0 hX] at h; exact h), fun u hu => ?_⟩
      have hMu := JM_c (u := u) hM (fun k h _ => by rw [hu]; exact up_nx (by omega) rfl)
      have hCu := JC_la (la' := 2) hC'
      rw [← hu] at hCu
      obtain ⟨dr, lo, ma, pa, tu, su, vo, so, ro, us, pl, sur, far, mo, sta, spa, sf, b87, b88, b89, b90, b91, b92, b93, b94, b95, b96, b97, b98, b99, b100, b101, b102, b103, b104, b105, b106, b107⟩ := hMu
      refine gMm b87 (c_X12_copy (l := l) (D := D) (ss := ss) (nI c) x (nI c) y n la dr (-1) lo ma pa tu su fo sz it mo b87 b88 b89 b90 b91 (fun j hj => (hSR j hj).2.2.1)) (fun r u' h => ?_)
      unfold s_X12_copy at h
      rw [if_neg sc', if_neg sc', ec, if_neg hL', if_pos hM', if_pos (show fo c = fo c from rfl), copy_a hX'] at h
      obtain ⟨rfl, rfl⟩ := pair_eq h
      exact ⟨rfl, ⟨2, n0, n1, gS, gP, se, tS, tP, tZ, tG, fm, ln, sG, mn, tr, tm, ho, fo, sz, it, JC_c hCu (fun k hk => up_nx (by omega) (rfl)), ⟨dr, lo, ma, pa, tu, su, vo, so, ro, us, pl, sur, far, mo, sta, spa, sf, va_up_self _ _ _, up_nx (by decide) (b88), up_nx (by decide) (b89), up_nx (by decide) (b90), up_nx (by decide) (b91), up_nx (by decide) (b92), up_nx (by decide) (b93), up_nx (by decide) (b94), up_nx (by decide) (b95), up_nx (by decide) (b96), up_nx (by decide) (b97), up_nx (by decide) (b98), up_nx (by decide) (b99), up_nx (by decide) (b100), up_nx (by decide) (b101), up_nx (by decide) (b102), up_nx (by decide) (b103), up_nx (by decide) (b104), up_nx (by decide) (b105), up_nx (by decide) (b106), up_nx (by decide) (b107)⟩, hR'⟩⟩

theorem p_copyD {l : Launch} {D : va_G} {ca ss ad : Nat → Nat} (c d : Nat) (hc : c < 4) (hd : d < 4) (hcd : ¬ c = d) (x y n : Int32) : gPr l D ca ss ad yX11_copy cX11_copy 8 2 yX12_copy cX12_copy 7 2 [.int (nI c), .int x, .int (nI d), .int y, .int n] := by
  intro f hJ
  have hJ' := hJ
  obtain ⟨la, n0, n1, gS, gP, se, tS, tP, tZ, tG, fm, ln, sG, mn, tr, tm, ho, fo, sz, it, hC, hM, hR⟩ := hJ
  have hC' := hC
  obtain ⟨hc0, hI, hT, hS⟩ := hC
  have hR' := hR
  obtain ⟨wO, h0, h1, nzS, nzP, hTR, hTO, hHR, hSR⟩ := hR
  have hI' := hI
  obtain ⟨⟨hn0, hn1, d2, d3, d4, d5, d6⟩, hCel, lo', ma', bt, bc, sp, sc, fk, bk, sk, e1, -⟩ := hI
  obtain ⟨f1, f2, f3, f4⟩ := hSR c hc
  have ec : (nI c).toNatClampNeg = c := nI_clamp (by omega)
  have sc' : ¬ s_X12_isSheet (nI c) = 0 := sheet_n c hc
  have ln0 := (hS.2 c hc).1
  obtain ⟨k1, k2, k3, k4⟩ := hSR d hd
  have ed : (nI d).toNatClampNeg = d := nI_clamp (by omega)
  have sd' : ¬ s_X12_isSheet (nI d) = 0 := sheet_n d hd
  have ln1 := (hS.2 d hd).1
  by_cases hL : fm c = -1
  · have hL' : fo c < 0 := by rw [f1, hL]; decide
    refine ⟨-11, fun u => u = va_up f 0 (.inr (10, [.ref (ad 1), .ref (ad 69), .ref (ad 70), .int 1])), gMi_mono (c_copy c d x y n hc hd hcd la fm ln sG hc0 hS) (fun r u h => by rw [if_neg (fun z => lost_no.mp z hL)] at h; exact h), fun u hu => ?_⟩
    have hMu := JM_c (u := u) hM (fun k h _ => by rw [hu]; exact up_nx (by omega) rfl)
    have hCu := JC_la (la' := 1) hC'
    rw [← hu] at hCu
    obtain ⟨dr, lo, ma, pa, tu, su, vo, so, ro, us, pl, sur, far, mo, sta, spa, sf, b87, b88, b89, b90, b91, b92, b93, b94, b95, b96, b97, b98, b99, b100, b101, b102, b103, b104, b105, b106, b107⟩ := hMu
    refine gMm b87 (c_X12_copy (l := l) (D := D) (ss := ss) (nI c) x (nI d) y n la dr (-1) lo ma pa tu su fo sz it mo b87 b88 b89 b90 b91 (fun j hj => (hSR j hj).2.2.1)) (fun r u' h => ?_)
    unfold s_X12_copy at h
    rw [if_neg sc', if_neg sd', ec, ed, if_pos hL'] at h
    obtain ⟨rfl, rfl⟩ := pair_eq h
    exact ⟨rfl, ⟨1, n0, n1, gS, gP, se, tS, tP, tZ, tG, fm, ln, sG, mn, tr, tm, ho, fo, sz, it, JC_c hCu (fun k hk => up_nx (by omega) (rfl)), ⟨dr, lo, ma, pa, tu, su, vo, so, ro, us, pl, sur, far, mo, sta, spa, sf, va_up_self _ _ _, up_nx (by decide) (b88), up_nx (by decide) (b89), up_nx (by decide) (b90), up_nx (by decide) (b91), up_nx (by decide) (b92), up_nx (by decide) (b93), up_nx (by decide) (b94), up_nx (by decide) (b95), up_nx (by decide) (b96), up_nx (by decide) (b97), up_nx (by decide) (b98), up_nx (by decide) (b99), up_nx (by decide) (b100), up_nx (by decide) (b101), up_nx (by decide) (b102), up_nx (by decide) (b103), up_nx (by decide) (b104), up_nx (by decide) (b105), up_nx (by decide) (b106), up_nx (by decide) (b107)⟩, hR'⟩⟩
  · have hL' : ¬ fo c < 0 := by rw [f1]; exact lost_lt f2 hL
    by_cases hK : fm d = -1
    · have hK' : ¬ 0 ≤ fo d := by rw [k1, hK]; decide
      refine ⟨-11, fun u => u = va_up f 0 (.inr (10, [.ref (ad 1), .ref (ad 69), .ref (ad 70), .int 1])), gMi_mono (c_copy c d x y n hc hd hcd la fm ln sG hc0 hS) (fun r u h => by rw [if_pos (lost_no.mpr hL), if_neg (fun z => lost_no.mp z hK)] at h; exact h), fun u hu => ?_⟩
      have hMu := JM_c (u := u) hM (fun k h _ => by rw [hu]; exact up_nx (by omega) rfl)
      have hCu := JC_la (la' := 1) hC'
      rw [← hu] at hCu
      obtain ⟨dr, lo, ma, pa, tu, su, vo, so, ro, us, pl, sur, far, mo, sta, spa, sf, b87, b88, b89, b90, b91, b92, b93, b94, b95, b96, b97, b98, b99, b100, b101, b102, b103, b104, b105, b106, b107⟩ := hMu
      refine gMm b87 (c_X12_copy (l := l) (D := D) (ss := ss) (nI c) x (nI d) y n la dr (-1) lo ma pa tu su fo sz it mo b87 b88 b89 b90 b91 (fun j hj => (hSR j hj).2.2.1)) (fun r u' h => ?_)
      unfold s_X12_copy at h
      rw [if_neg sc', if_neg sd', ec, ed, if_neg hL', if_neg hK'] at h
      obtain ⟨rfl, rfl⟩ := pair_eq h
      exact ⟨rfl, ⟨1, n0, n1, gS, gP, se, tS, tP, tZ, tG, fm, ln, sG, mn, tr, tm, ho, fo, sz, it, JC_c hCu (fun k hk => up_nx (by omega) (rfl)), ⟨dr, lo, ma, pa, tu, su, vo, so, ro, us, pl, sur, far, mo, sta, spa, sf, va_up_self _ _ _, up_nx (by decide) (b88), up_nx (by decide) (b89), up_nx (by decide) (b90), up_nx (by decide) (b91), up_nx (by decide) (b92), up_nx (by decide) (b93), up_nx (by decide) (b94), up_nx (by decide) (b95), up_nx (by decide) (b96), up_nx (by decide) (b97), up_nx (by decide) (b98), up_nx (by decide) (b99), up_nx (by decide) (b100), up_nx (by decide) (b101), up_nx (by decide) (b102), up_nx (by decide) (b103), up_nx (by decide) (b104), up_nx (by decide) (b105), up_nx (by decide) (b106), up_nx (by decide) (b107)⟩, hR'⟩⟩
    · have hK' : 0 ≤ fo d := by rw [k1]; exact (lost_ge k2).mp hK
      by_cases hF : fm c = fm d
      · have hF' : fo c = fo d := by rw [f1, k1]; exact hF
        by_cases hX : (0 ≤ x.toInt ∧ 0 ≤ n.toInt ∧ x.toInt + n.toInt ≤ (ln c).toInt) ∧ 0 ≤ y.toInt ∧ 0 ≤ n.toInt ∧ y.toInt + n.toInt ≤ (ln d).toInt
        · obtain ⟨X, hX0, rfl⟩ := ln_n (x := x) (by omega)
          obtain ⟨Y, hY0, rfl⟩ := ln_n (x := y) (by omega)
          obtain ⟨N, hN0, rfl⟩ := ln_n (x := n) (by omega)
          have eX : (nI X).toNatClampNeg = X := nI_clamp (by omega)
          have eY : (nI Y).toNatClampNeg = Y := nI_clamp (by omega)
          have eN : (nI N).toNatClampNeg = N := nI_clamp (by omega)
          have hZ := hX
          rw [nI_toInt (by omega), nI_toInt (by omega), nI_toInt (by omega)] at hZ
          have ms : (0 ≤ (nI X).toInt ∧ 0 ≤ (nI N).toInt ∧ (nI X).toInt + (nI N).toInt ≤ (sz c).toInt) := by rw [(f4 hL).1]; exact hX.1
          have mt : (0 ≤ (nI Y).toInt ∧ 0 ≤ (nI N).toInt ∧ (nI Y).toInt + (nI N).toInt ≤ (sz d).toInt) := by rw [(k4 hK).1]; exact hX.2
          have hP : pF it (60 * d + Y) N (fun k => it (60 * c + X + k)) = pF it (60 * d + Y) N (fun k => sG c (X + k)) := pF_cong (fun j hj => by
            show it (60 * c + X + j) = sG c (X + j)
            rw [Nat.add_assoc]
            exact (f4 hL).2 (X + j) (by omega))
          refine ⟨1, fun u => cSh ca ad fm ln (updT sG d (va_cpy (sG c) (sG d) X Y N)) u ∧ ∀ k, ¬ (79 ≤ k ∧ k < 87) → u k = f k, gMi_mono (c_copy c d (nI X) (nI Y) (nI N) hc hd hcd la fm ln sG hc0 hS) (fun r u h => by rw [if_pos (lost_no.mpr hL), if_pos (lost_no.mpr hK), if_pos hF, run_b ln0 ln1 hX.1 hX.2, eX, eY, eN] at h; exact h), fun u hu => ?_⟩
          have hMu := JM_c hM (fun k h _ => hu.2 k (by omega))
          have hCu := JC_s hC' hu.1 hu.2
          obtain ⟨dr, lo, ma, pa, tu, su, vo, so, ro, us, pl, sur, far, mo, sta, spa, sf, b87, b88, b89, b90, b91, b92, b93, b94, b95, b96, b97, b98, b99, b100, b101, b102, b103, b104, b105, b106, b107⟩ := hMu
          refine gMm b87 (c_X12_copy (l := l) (D := D) (ss := ss) (nI c) (nI X) (nI d) (nI Y) (nI N) la dr (-1) lo ma pa tu su fo sz it mo b87 b88 b89 b90 b91 (fun j hj => (hSR j hj).2.2.1)) (fun r u' h => ?_)
          unfold s_X12_copy at h
          rw [if_neg sc', if_neg sd', ec, ed, if_neg hL', if_pos hK', if_pos hF', copy_b ms mt, eX, eY, eN, hP] at h
          obtain ⟨rfl, rfl⟩ := pair_eq h
          exact ⟨rfl, ⟨la, n0, n1, gS, gP, se, tS, tP, tZ, tG, fm, ln, updT sG d (va_cpy (sG c) (sG d) X Y N), mn, tr, tm, ho, fo, sz, pF it (60 * d + Y) N (fun k => sG c (X + k)), JC_c hCu (fun k hk => up_nx (by omega) (up_nx (by omega) (rfl))), ⟨dr, lo, ma, pa, tu, su, vo, so, ro, us, pl, sur, far, pF mo 0 N (fun k => it (60 * c + X + k)), sta, spa, sf, up_nx (by decide) (up_nx (by decide) (b87)), up_nx (by decide) (up_nx (by decide) (b88)), up_nx (by decide) (up_nx (by decide) (b89)), va_up_self _ _ _, up_nx (by decide) (va_up_self _ _ _), up_nx (by decide) (up_nx (by decide) (b92)), up_nx (by decide) (up_nx (by decide) (b93)), up_nx (by decide) (up_nx (by decide) (b94)), up_nx (by decide) (up_nx (by decide) (b95)), up_nx (by decide) (up_nx (by decide) (b96)), up_nx (by decide) (up_nx (by decide) (b97)), up_nx (by decide) (up_nx (by decide) (b98)), up_nx (by decide) (up_nx (by decide) (b99)), up_nx (by decide) (up_nx (by decide) (b100)), up_nx (by decide) (up_nx (by decide) (b101)), up_nx (by decide) (up_nx (by decide) (b102)), up_nx (by decide) (up_nx (by decide) (b103)), up_nx (by decide) (up_nx (by decide) (b104)), up_nx (by decide) (up_nx (by decide) (b105)), up_nx (by decide) (up_nx (by decide) (b106)), up_nx (by decide) (up_nx (by decide) (b107))⟩, wO, h0, h1, nzS, nzP, hTR, hTO, hHR, sRel_l (b := Y) (n := N) hSR (by omega) (fun k => sG c (X + k))⟩⟩
        · have hX' : ¬ ((0 ≤ x.toInt ∧ 0 ≤ n.toInt ∧ x.toInt + n.toInt ≤ (sz c).toInt) ∧ 0 ≤ y.toInt ∧ 0 ≤ n.toInt ∧ y.toInt + n.toInt ≤ (sz d).toInt) := by rw [(f4 hL).1, (k4 hK).1]; exact hX
          refine ⟨-12, fun u => u = va_up f 0 (.inr (10, [.ref (ad 1), .ref (ad 69), .ref (ad 70), .int 2])), gMi_mono (c_copy c d x y n hc hd hcd la fm ln sG hc0 hS) (fun r u h => by rw [if_pos (lost_no.mpr hL), if_pos (lost_no.mpr hK), if_pos hF, run_a ln0 ln1 hX] at h; exact h), fun u hu => ?_⟩
          have hMu := JM_c (u := u) hM (fun k h _ => by rw [hu]; exact up_nx (by omega) rfl)
          have hCu := JC_la (la' := 2) hC'
          rw [← hu] at hCu
          obtain ⟨dr, lo, ma, pa, tu, su, vo, so, ro, us, pl, sur, far, mo, sta, spa, sf, b87, b88, b89, b90, b91, b92, b93, b94, b95, b96, b97, b98, b99, b100, b101, b102, b103, b104, b105, b106, b107⟩ := hMu
          refine gMm b87 (c_X12_copy (l := l) (D := D) (ss := ss) (nI c) x (nI d) y n la dr (-1) lo ma pa tu su fo sz it mo b87 b88 b89 b90 b91 (fun j hj => (hSR j hj).2.2.1)) (fun r u' h => ?_)
          unfold s_X12_copy at h
          rw [if_neg sc', if_neg sd', ec, ed, if_neg hL', if_pos hK', if_pos hF', copy_a hX'] at h
          obtain ⟨rfl, rfl⟩ := pair_eq h
          exact ⟨rfl, ⟨2, n0, n1, gS, gP, se, tS, tP, tZ, tG, fm, ln, sG, mn, tr, tm, ho, fo, sz, it, JC_c hCu (fun k hk => up_nx (by omega) (rfl)), ⟨dr, lo, ma, pa, tu, su, vo, so, ro, us, pl, sur, far, mo, sta, spa, sf, va_up_self _ _ _, up_nx (by decide) (b88), up_nx (by decide) (b89), up_nx (by decide) (b90), up_nx (by decide) (b91), up_nx (by decide) (b92), up_nx (by decide) (b93), up_nx (by decide) (b94), up_nx (by decide) (b95), up_nx (by decide) (b96), up_nx (by decide) (b97), up_nx (by decide) (b98), up_nx (by decide) (b99), up_nx (by decide) (b100), up_nx (by decide) (b101), up_nx (by decide) (b102), up_nx (by decide) (b103), up_nx (by decide) (b104), up_nx (by decide) (b105), up_nx (by decide) (b106), up_nx (by decide) (b107)⟩, hR'⟩⟩
      · have hF' : ¬ fo c = fo d := by rw [f1, k1]; exact hF
        refine ⟨-14, fun u => u = va_up f 0 (.inr (10, [.ref (ad 1), .ref (ad 69), .ref (ad 70), .int 4])), gMi_mono (c_copy c d x y n hc hd hcd la fm ln sG hc0 hS) (fun r u h => by rw [if_pos (lost_no.mpr hL), if_pos (lost_no.mpr hK), if_neg hF] at h; exact h), fun u hu => ?_⟩
        have hMu := JM_c (u := u) hM (fun k h _ => by rw [hu]; exact up_nx (by omega) rfl)
        have hCu := JC_la (la' := 4) hC'
        rw [← hu] at hCu
        obtain ⟨dr, lo, ma, pa, tu, su, vo, so, ro, us, pl, sur, far, mo, sta, spa, sf, b87, b88, b89, b90, b91, b92, b93, b94, b95, b96, b97, b98, b99, b100, b101, b102, b103, b104, b105, b106, b107⟩ := hMu
        refine gMm b87 (c_X12_copy (l := l) (D := D) (ss := ss) (nI c) x (nI d) y n la dr (-1) lo ma pa tu su fo sz it mo b87 b88 b89 b90 b91 (fun j hj => (hSR j hj).2.2.1)) (fun r u' h => ?_)
        unfold s_X12_copy at h
        rw [if_neg sc', if_neg sd', ec, ed, if_neg hL', if_pos hK', if_neg hF'] at h
        obtain ⟨rfl, rfl⟩ := pair_eq h
        exact ⟨rfl, ⟨4, n0, n1, gS, gP, se, tS, tP, tZ, tG, fm, ln, sG, mn, tr, tm, ho, fo, sz, it, JC_c hCu (fun k hk => up_nx (by omega) (rfl)), ⟨dr, lo, ma, pa, tu, su, vo, so, ro, us, pl, sur, far, mo, sta, spa, sf, va_up_self _ _ _, up_nx (by decide) (b88), up_nx (by decide) (b89), up_nx (by decide) (b90), up_nx (by decide) (b91), up_nx (by decide) (b92), up_nx (by decide) (b93), up_nx (by decide) (b94), up_nx (by decide) (b95), up_nx (by decide) (b96), up_nx (by decide) (b97), up_nx (by decide) (b98), up_nx (by decide) (b99), up_nx (by decide) (b100), up_nx (by decide) (b101), up_nx (by decide) (b102), up_nx (by decide) (b103), up_nx (by decide) (b104), up_nx (by decide) (b105), up_nx (by decide) (b106), up_nx (by decide) (b107)⟩, hR'⟩⟩

theorem p_copy {l : Launch} {D : va_G} {ca ss ad : Nat → Nat} (s x t y n : Int32) : gPr l D ca ss ad yX11_copy cX11_copy 8 2 yX12_copy cX12_copy 7 2 [.int s, .int x, .int t, .int y, .int n] := by
  by_cases hk : s_X11_isSheet s = 0
  · intro f hJ
    have hJ' := hJ
    obtain ⟨la, n0, n1, gS, gP, se, tS, tP, tZ, tG, fm, ln, sG, mn, tr, tm, ho, fo, sz, it, hC, hM, hR⟩ := hJ
    have hC' := hC
    obtain ⟨hc0, hI, hT, hS⟩ := hC
    have hR' := hR
    obtain ⟨wO, h0, h1, nzS, nzP, hTR, hTO, hHR, hSR⟩ := hR
    have hI' := hI
    obtain ⟨⟨hn0, hn1, d2, d3, d4, d5, d6⟩, hCel, lo', ma', bt, bc, sp, sc, fk, bk, sk, e1, -⟩ := hI
    refine ⟨-2, fun u => u = f, gMi_mono (c_copyB1 s x t y n hk) (fun r u h => h), fun u hu => ?_⟩
    subst hu
    obtain ⟨dr, lo, ma, pa, tu, su, vo, so, ro, us, pl, sur, far, mo, sta, spa, sf, a87, a88, a89, a90, a91, a92, a93, a94, a95, a96, a97, a98, a99, a100, a101, a102, a103, a104, a105, a106, a107⟩ := hM
    refine gMm a87 (c_X12_copy (l := l) (D := D) (ss := ss) s x t y n la dr (-1) lo ma pa tu su fo sz it mo a87 a88 a89 a90 a91 (fun j hj => (hSR j hj).2.2.1)) (fun r u' h => ?_)
    unfold s_X12_copy at h
    rw [if_pos (sheet_iff.mp hk)] at h
    obtain ⟨rfl, rfl⟩ := pair_eq h
    exact ⟨rfl, hJ'⟩
  · by_cases hk2 : s_X11_isSheet t = 0
    · intro f hJ
      have hJ' := hJ
      obtain ⟨la, n0, n1, gS, gP, se, tS, tP, tZ, tG, fm, ln, sG, mn, tr, tm, ho, fo, sz, it, hC, hM, hR⟩ := hJ
      have hC' := hC
      obtain ⟨hc0, hI, hT, hS⟩ := hC
      have hR' := hR
      obtain ⟨wO, h0, h1, nzS, nzP, hTR, hTO, hHR, hSR⟩ := hR
      have hI' := hI
      obtain ⟨⟨hn0, hn1, d2, d3, d4, d5, d6⟩, hCel, lo', ma', bt, bc, sp, sc, fk, bk, sk, e1, -⟩ := hI
      refine ⟨-2, fun u => u = f, gMi_mono (c_copyB2 s x t y n hk hk2) (fun r u h => h), fun u hu => ?_⟩
      subst hu
      obtain ⟨dr, lo, ma, pa, tu, su, vo, so, ro, us, pl, sur, far, mo, sta, spa, sf, a87, a88, a89, a90, a91, a92, a93, a94, a95, a96, a97, a98, a99, a100, a101, a102, a103, a104, a105, a106, a107⟩ := hM
      refine gMm a87 (c_X12_copy (l := l) (D := D) (ss := ss) s x t y n la dr (-1) lo ma pa tu su fo sz it mo a87 a88 a89 a90 a91 (fun j hj => (hSR j hj).2.2.1)) (fun r u' h => ?_)
      unfold s_X12_copy at h
      rw [if_neg (fun z => hk (sheet_iff.mpr z)), if_pos (sheet_iff.mp hk2)] at h
      obtain ⟨rfl, rfl⟩ := pair_eq h
      exact ⟨rfl, hJ'⟩
    · obtain ⟨c, hc, rfl⟩ := sheet_nN hk
      obtain ⟨d, hd, rfl⟩ := sheet_nN hk2
      by_cases e : c = d
      · subst e; exact p_copyS c hc x y n
      · exact p_copyD c d hc hd e x y n

