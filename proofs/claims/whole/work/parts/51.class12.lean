/-! BETTER AND SPARE OF THE CLASS -/
theorem cMat_c {ca ad : Nat → Nat} {f u : Nat → va_E} (h : ∀ k, 7 ≤ k → k < 12 → u k = f k) (hM : cMat ca ad f) : cMat ca ad u := by
  obtain ⟨a, b, c, d, e, g, h1, h2, h3, h4, h5⟩ := hM
  exact ⟨a, b, c, d, e, g, (h 7 (by decide) (by decide)).trans h1, (h 8 (by decide) (by decide)).trans h2, (h 9 (by decide) (by decide)).trans h3, (h 10 (by decide) (by decide)).trans h4, (h 11 (by decide) (by decide)).trans h5⟩
theorem cPln_c {ca ad : Nat → Nat} {f u : Nat → va_E} (h : ∀ k, 12 ≤ k → k < 14 → u k = f k) (hM : cPln ca ad f) : cPln ca ad u := by
  obtain ⟨a, b, c, h1, h2⟩ := hM
  exact ⟨a, b, c, (h 12 (by decide) (by decide)).trans h1, (h 13 (by decide) (by decide)).trans h2⟩
theorem cStp_c {ca ad : Nat → Nat} {f u : Nat → va_E} (h : ∀ k, 14 ≤ k → k < 37 → u k = f k) (hM : cStp ca ad f) : cStp ca ad u := by
  obtain ⟨h1, h2, T, h3⟩ := hM
  exact ⟨(h 14 (by decide) (by decide)).trans h1, (h 15 (by decide) (by decide)).trans h2, T, fun s hs => (h (16 + s) (by omega) (by omega)).trans (h3 s hs)⟩
theorem cSpr_c {ca ad : Nat → Nat} {f u : Nat → va_E} (h : ∀ k, 37 ≤ k → k < 47 → u k = f k) (hM : cSpr ca ad f) : cSpr ca ad u := by
  obtain ⟨⟨t, h1⟩, h2, T, h3⟩ := hM
  exact ⟨⟨t, (h 37 (by decide) (by decide)).trans h1⟩, (h 38 (by decide) (by decide)).trans h2, T, fun s hs => (h (39 + s) (by omega) (by omega)).trans (h3 s hs)⟩
/-- the tables of the first k steps summed up -/
def sumN (T : Nat → Nat → Int32) : Nat → Nat → Nat → Int32
  | 0 => T
  | k + 1 => sumT (sumN T k) k
theorem sumT_n (T : Nat → Nat → Int32) {s k : Nat} (h : k ≠ s) : sumT T s k = T k := by
  unfold sumT
  by_cases q : s = 0
  · rw [if_pos q]
  · rw [if_neg q, updT_n _ _ h]
theorem sumT_u (T : Nat → Nat → Int32) (s : Nat) : updT T s (sumT T s s) = sumT T s := by
  funext k
  by_cases h : k = s
  · subst h; rw [updT_s]
  · rw [updT_n _ _ h, sumT_n T h]
theorem rows_up {ca : Nat → Nat} {g : Nat → va_E} {X : Nat → Nat → Int32} {b n t : Nat} (h : ∀ s, s < n → g (b + s) = .inl (ca 0, 96, .inl (X s))) : ∀ s, s < n → va_up g (b + t) (.inl (ca 0, 96, .inl (sumT X t t))) (b + s) = .inl (ca 0, 96, .inl (sumT X t s)) := by
  intro s hs
  by_cases q : s = t
  · subst q; exact va_up_self _ _ _
  · rw [sumT_n X q]
    exact up_nx (by omega) (h s hs)
theorem c_sumAny {l : Launch} {D : va_G} {ca ss ad : Nat → Nat} {f : Nat → va_E} (sN : Nat) (T : Nat → Nat → Int32) (h14 : f 14 = .inr (8, [.ref (ad 15)])) (h15 : f 15 = .inl (ca 5, 21, .inr (.inr (.inr (.inr (qR ad 16)))))) (hT : ∀ s, s < 21 → f (16 + s) = .inl (ca 0, 96, .inl (T s))) (hs : sN < 21) : gMr l D ca ss ad 108 yX8_sumUpTo cX8_sumUpTo 3 (some (.array .int)) 0 f [.ref (ad 14), .int (nI sN)] (fun r u => r = ad (16 + sN) ∧ u = va_up f (16 + sN) (.inl (ca 0, 96, .inl (sumT T sN sN)))) := by
  have e0 : twS ca ad T f = f := (twS_of h14 h15).trans (upB_id ca f T hT)
  have e1 : twS ca ad (sumT T sN) f = va_up f (16 + sN) (.inl (ca 0, 96, .inl (sumT T sN sN))) := by
    have q := upB_up ca f (b := 16) T (sumT T sN sN) hs
    rw [upB_id ca f T hT, sumT_u] at q
    rw [twS_of h14 h15]
    exact q.symm
  have q : gMr l D ca ss ad 108 yX8_sumUpTo cX8_sumUpTo 3 (some (.array .int)) 0 (twS ca ad T f) [.ref (ad 14), .int (nI sN)] (fun r u => r = ad (16 + sN) ∧ u = twS ca ad (sumT T sN) f) := by
    by_cases h : sN = 0
    · exact c_sum0 sN T hs h
    · exact c_sum1 sN T hs (by omega)
  rw [e0, e1] at q
  exact q
/-- by which step most are confirmed, and how many -/
def cBet (cnt : Nat → Int32) (bt : Int32) : Nat → Int32 × Int32
  | 0 => (bt, -1)
  | k + 1 => if cnt k ≤ (cBet cnt bt k).2 then cBet cnt bt k else (nI k * 50, cnt k)
/-- without which spot most are confirmed, and how many -/
def cSpa (cnt : Nat → Int32) : Nat → Int32 × Int32
  | 0 => (-1, -1)
  | k + 1 => if cnt k ≤ (cSpa cnt k).2 then cSpa cnt k else (nI k, cnt k)
abbrev cWs (n0 n1 : Nat) (gS gP se : Nat → Int32) : Int32 × (Nat → Nat → Int32) := cWalk thS (cSD gP n1) (cSD gS n0) (se 0) n0 n1 (fun _ => kI (0 : Int32))
abbrev cWr (n0 n1 : Nat) (gS gP se : Nat → Int32) : Int32 × (Nat → Nat → Int32) := cWalk (thP (se 1)) (cSD gP n1) (cSD gS n0) (se 0) n0 n1 (fun _ => kI (0 : Int32))
theorem twP_of2 {ca ad : Nat → Nat} {tl : Int32} {T : Nat → Nat → Int32} {f : Nat → va_E} (h2 : f 38 = .inl (ca 5, 8, .inr (.inr (.inr (.inr (qR ad 39)))))) : twP ca ad tl T f = va_up (upB ca f 39 8 T) 37 (.inr (7, [.ref (ad 38), .int tl])) := by
  unfold twP
  rw [up_id (up_nx (by decide) h2), upB_comm ca f T _ (Or.inl (by decide))]

set_option maxHeartbeats 400000 in
set_option maxRecDepth 100000 in
theorem c_findBetter0 {l : Launch} {D : va_G} {ca ss ad : Nat → Nat} {f : Nat → va_E} (n0 n1 : Nat) (gS gP se : Nat → Int32) (lo ma bt bc sp sc fk bk sk : Int32) (kc : Nat → Int32) (hcnt : ∀ k, k < 21 → ∀ (tp : Nat → Int32) (sta spa : Nat → Int64) (pl : Nat → Int32), (cSolC n0 n1 gP se (-1) (cSolU n0 n1 gS gP (cTake (sumT (sumN (cWs n0 n1 gS gP se).2 k) k k) (se 2) n0 n1 tp) sta spa pl)).2.2.2 = kc k) (hc1 : f 1 = .inr (6, sgF ad lo ma bt bc sp sc fk bk sk)) (hc2 : f 2 = .inr (1, [.ref (ad 3), .int 12, .int (nI n0)])) (hc3 : f 3 = .inl (ca 0, 36, .inl gS)) (hc4 : f 4 = .inr (1, [.ref (ad 5), .int 8, .int (nI n1)])) (hc5 : f 5 = .inl (ca 0, 24, .inl gP)) (hc6 : f 6 = .inl (ca 0, 4, .inl se)) (hM : cMat ca ad f) (hT : cStp ca ad f) (hF : cFx58 ca ad f) (hn0 : n0 ≤ 12) (hn1 : n1 ≤ 8) (hbk : bk = 0) : gMv l D ca ss ad 108 yX6_findBetter cX6_findBetter 2 none 5 f [.ref (ad 1)] (fun u => u 1 = .inr (6, sgF ad lo ma ((cBet kc bt 21).1) ((cBet kc bt 21).2) sp sc fk 1 sk) ∧ cMat ca ad u ∧ cStp ca ad u ∧ cFx58 ca ad u ∧ ∀ j, j ≠ 1 → ¬ (7 ≤ j ∧ j < 12) → ¬ (16 ≤ j ∧ j < 37) → ¬ (58 ≤ j ∧ j < 69) → u j = f j) := by
  refine gMv_ofK (by decide +kernel) (Nat.le_of_ble_eq_true rfl) (lv0 := [(0, .ref (ad 1))]) rfl (fun pT eT sT mT aT below meth cT AT QT C RT => ?_)
  have C : gX pT sT mT aT meth cT AT D ca ss 2 RX6 cX6_findBetter none := C
  obtain ⟨cnt, lk, sg, pg, tg, kg, hc7, hc8, hc9, hc10, hc11⟩ := hM
  obtain ⟨hc14, hc15, TT, hcT⟩ := hT
  obtain ⟨us, tc, cc, tu, ts, tr, tp, cs, cf, pl, sta, spa, hc58, hc59, hc60, hc61, hc62, hc63, hc64, hc66, hc68, hc65, hc67⟩ := hF
  refine gj_aload_n C 0 dX6_findBetter_0 rfl 0 rfl ?_
  refine gj_get C 1 (by decide) hc1 inX6 rfl 16 (by decide) w_279 (v := .int bk) rfl dX6_findBetter_1 ?_
  refine gj_if_eq C 8 dX6_findBetter_4 (by decide) (fun c_1 => ?_) (fun c_1 => absurd hbk c_1)
  refine gj_aload_n C 0 dX6_findBetter_8 rfl 0 rfl ?_
  refine gj_get C 1 (by decide) hc1 inX6 rfl 5 (by decide) w_261 (v := .ref (ad 14)) rfl dX6_findBetter_9 ?_
  refine gj_callVv C mi_X8_begin w_679 14 (by decide) hc14 rfl (c_X8_begin TT hc14 hc15 hcT) mc_X8_begin ⟨Nat.le_of_ble_eq_true rfl, Nat.le_of_ble_eq_true rfl⟩ (rest := []) rfl (Nat.le_of_ble_eq_true rfl) dX6_findBetter_12 (fun u h => ?_)
  rw [h]
  refine gj_aload_n C 0 dX6_findBetter_15 rfl 0 rfl ?_
  refine gj_get C 1 (by decide) ((upB_out ca f _ (by decide)).trans hc1) inX6 rfl 3 (by decide) w_258 (v := .ref (ad 7)) rfl dX6_findBetter_16 ?_
  refine gj_aload_n C 0 dX6_findBetter_19 rfl 0 rfl ?_
  refine gj_get C 1 (by decide) ((upB_out ca f _ (by decide)).trans hc1) inX6 rfl 0 (by decide) w_252 (v := .ref (ad 2)) rfl dX6_findBetter_20 ?_
  refine gj_aload_n C 0 dX6_findBetter_23 rfl 0 rfl ?_
  refine gj_get C 1 (by decide) ((upB_out ca f _ (by decide)).trans hc1) inX6 rfl 1 (by decide) w_254 (v := .ref (ad 4)) rfl dX6_findBetter_24 ?_
  refine gj_aload_n C 0 dX6_findBetter_27 rfl 0 rfl ?_
  refine gj_get C 1 (by decide) ((upB_out ca f _ (by decide)).trans hc1) inX6 rfl 2 (by decide) w_256 (v := .ref (ad 6)) rfl dX6_findBetter_28 ?_
  refine gj_iconst C (v := 0) (by decide) dX6_findBetter_31 ?_
  refine gj_iald C 6 (by decide) ((upB_out ca f _ (by decide)).trans hc6) (by unfold vp_in; decide) dX6_findBetter_32 ?_
  refine gj_seti (y := se 0) rfl ?_
  refine gj_aload_n C 0 dX6_findBetter_33 rfl 0 rfl ?_
  refine gj_get C 1 (by decide) ((upB_out ca f _ (by decide)).trans hc1) inX6 rfl 5 (by decide) w_261 (v := .ref (ad 14)) rfl dX6_findBetter_34 ?_
  refine gj_setf (g := twS ca ad (fun _ => kI (0 : Int32)) f) (by rw [twS_of hc14 hc15]) ?_
  refine gj_callVv C mi_X3_walk w_518 7 (by decide) (twk (tal_S l D ca ss ad) (by decide) hc7) rfl (c_X3_walk (f := f) (tal_S l D ca ss ad) (fun _ => kI (0 : Int32)) n0 n1 (se 0) cnt lk gS gP sg pg tg kg hc2 hc3 hc4 hc5 hc7 hc8 hc9 hc10 hc11 hn0 hn1) mc_X3_walk ⟨Nat.le_of_ble_eq_true rfl, Nat.le_of_ble_eq_true rfl⟩ (rest := []) rfl (Nat.le_of_ble_eq_true rfl) dX6_findBetter_37 (fun u h => ?_)
  obtain ⟨cntX, sgX, pgX, tgX, kgX, rfl⟩ := h
  refine gj_setf (g := va_up (va_up (va_up (va_up (va_up (upB ca f 16 21 (cWs n0 n1 gS gP se).2) 7 (.inr (3, [.ref (ad 8), .ref (ad 9), .ref (ad 10), .ref (ad 11), .int cntX, .int ((cWs n0 n1 gS gP se).1)]))) 8 (.inl (ca 0, 144, .inl sgX))) 9 (.inl (ca 0, 64, .inl pgX))) 10 (.inl (ca 0, 660, .inl tgX))) 11 (.inl (ca 0, 660, .inl kgX))) (by rw [twS_of hc14 hc15]) ?_
  refine gj_aload_n C 0 dX6_findBetter_40 rfl 0 rfl ?_
  refine gj_iconst C (v := (-1)) (by decide) dX6_findBetter_41 ?_
  refine gj_putS C 1 (by decide) (up_nx (by decide) (up_nx (by decide) (up_nx (by decide) (up_nx (by decide) (up_nx (by decide) (((upB_out ca f _ (by decide)).trans hc1))))))) inX6 rfl 12 (by decide) tyX6 tyX6_ok nmX6 w_272 rfl (v := .int (-1)) (fs' := [.ref (ad 2), .ref (ad 4), .ref (ad 6), .ref (ad 7), .ref (ad 12), .ref (ad 14), .ref (ad 37), .ref (ad 47), .ref (ad 58), .int lo, .int ma, .int bt, .int (-1), .int sp, .int sc, .int fk, .int bk, .int sk]) rfl rfl (Nat.le_of_ble_eq_true rfl) rfl dX6_findBetter_42 ?_
  refine gj_iconst C (v := 0) (by decide) dX6_findBetter_45 ?_
  refine gj_seti (y := nI 0) rfl ?_
  refine gj_istore_n C (lv' := [(1, .int (nI 0)), (0, .ref (ad 1))]) 1 dX6_findBetter_46 rfl (by decide) rfl ?_
  have loop_2 : ∀ (m0 t0 : Nat), t0 + m0 = 21 → ∀ gH : Nat → va_E, (gH 1 = .inr (6, sgF ad lo ma ((cBet kc bt t0).1) ((cBet kc bt t0).2) sp sc fk bk sk) ∧ cMat ca ad gH ∧ (∀ s, s < 21 → gH (16 + s) = .inl (ca 0, 96, .inl (sumN (cWs n0 n1 gS gP se).2 t0 s))) ∧ cFx58 ca ad gH ∧ (∀ j, j ≠ 1 → ¬ (7 ≤ j ∧ j < 12) → ¬ (16 ≤ j ∧ j < 37) → ¬ (58 ≤ j ∧ j < 69) → gH j = f j)) → gJ pT l eT (Rm 5) sT mT aT below meth cT AT QT D ad 108 2 (gH) [(1, .int (nI t0)), (0, .ref (ad 1))] 47 [] := by
    intro m0
    induction m0 with
    | zero =>
      intro t0 hk_t0 gH hg
      obtain ⟨hg1, hgM, hgT, hgF, hgS⟩ := hg
      obtain ⟨us, tc, cc, tu, ts, tr, tp, cs, cf, pl, sta, spa, hc58, hc59, hc60, hc61, hc62, hc63, hc64, hc66, hc68, hc65, hc67⟩ := hgF
      have hg2 := (hgS 2 (by decide) (by decide) (by decide) (by decide)).trans hc2
      have hg3 := (hgS 3 (by decide) (by decide) (by decide) (by decide)).trans hc3
      have hg4 := (hgS 4 (by decide) (by decide) (by decide) (by decide)).trans hc4
      have hg5 := (hgS 5 (by decide) (by decide) (by decide) (by decide)).trans hc5
      have hg6 := (hgS 6 (by decide) (by decide) (by decide) (by decide)).trans hc6
      have hg14 := (hgS 14 (by decide) (by decide) (by decide) (by decide)).trans hc14
      have hg15 := (hgS 15 (by decide) (by decide) (by decide) (by decide)).trans hc15
      refine gj_iload_n C 1 dX6_findBetter_47 rfl 0 rfl ?_
      refine gj_bipush C (v := 21) (by decide) dX6_findBetter_48 ?_
      refine gj_icmp_ge C 120 dX6_findBetter_50 (by decide) (fun c_4 => ?_) (fun c_4 => absurd (show (21 : Int32) ≤ nI t0 from nI_le (a := 21) (by omega) (by omega)) c_4)
      refine gj_aload_n C 0 dX6_findBetter_120 rfl 1 rfl ?_
      refine gj_iconst C (v := 1) (by decide) dX6_findBetter_121 ?_
      refine gj_putS C 1 (by decide) hg1 inX6 rfl 16 (by decide) tyX6 tyX6_ok nmX6 w_279 rfl (v := .int 1) (fs' := [.ref (ad 2), .ref (ad 4), .ref (ad 6), .ref (ad 7), .ref (ad 12), .ref (ad 14), .ref (ad 37), .ref (ad 47), .ref (ad 58), .int lo, .int ma, .int ((cBet kc bt t0).1), .int ((cBet kc bt t0).2), .int sp, .int sc, .int fk, .int 1, .int sk]) rfl rfl (Nat.le_of_ble_eq_true rfl) rfl dX6_findBetter_122 ?_
      obtain rfl : t0 = 21 := (by omega)
      exact RT _ _ _ ⟨(va_up_self _ _ _), cMat_c (fun k h1 h2 => up_nx (by omega) (rfl)) hgM, ⟨(up_nx (by decide) (hg14)), (up_nx (by decide) (hg15)), _, fun s hs => up_nx (by omega) (hgT s hs)⟩, ⟨_, _, _, _, _, _, _, _, _, _, _, _, (up_nx (by decide) (hc58)), (up_nx (by decide) (hc59)), (up_nx (by decide) (hc60)), (up_nx (by decide) (hc61)), (up_nx (by decide) (hc62)), (up_nx (by decide) (hc63)), (up_nx (by decide) (hc64)), (up_nx (by decide) (hc66)), (up_nx (by decide) (hc68)), (up_nx (by decide) (hc65)), (up_nx (by decide) (hc67))⟩, fun j h1 h2 h3 h4 => up_nx (by omega) (hgS j h1 h2 h3 h4)⟩ dX6_findBetter_125
    | succ m0 ih_3 =>
      intro t0 hk_t0 gH hg
      obtain ⟨hg1, hgM, hgT, hgF, hgS⟩ := hg
      obtain ⟨us, tc, cc, tu, ts, tr, tp, cs, cf, pl, sta, spa, hc58, hc59, hc60, hc61, hc62, hc63, hc64, hc66, hc68, hc65, hc67⟩ := hgF
      have hg2 := (hgS 2 (by decide) (by decide) (by decide) (by decide)).trans hc2
      have hg3 := (hgS 3 (by decide) (by decide) (by decide) (by decide)).trans hc3
      have hg4 := (hgS 4 (by decide) (by decide) (by decide) (by decide)).trans hc4
      have hg5 := (hgS 5 (by decide) (by decide) (by decide) (by decide)).trans hc5
      have hg6 := (hgS 6 (by decide) (by decide) (by decide) (by decide)).trans hc6
      have hg14 := (hgS 14 (by decide) (by decide) (by decide) (by decide)).trans hc14
      have hg15 := (hgS 15 (by decide) (by decide) (by decide) (by decide)).trans hc15
      refine gj_iload_n C 1 dX6_findBetter_47 rfl 0 rfl ?_
      refine gj_bipush C (v := 21) (by decide) dX6_findBetter_48 ?_
      refine gj_icmp_ge C 120 dX6_findBetter_50 (by decide) (fun c_5 => absurd c_5 (show ¬ (21 : Int32) ≤ nI t0 from nI_ge (b := 21) (by omega) (by omega))) (fun c_5 => ?_)
      refine gj_aload_n C 0 dX6_findBetter_53 rfl 1 rfl ?_
      refine gj_get C 1 (by decide) hg1 inX6 rfl 8 (by decide) w_265 (v := .ref (ad 58)) rfl dX6_findBetter_54 ?_
      refine gj_aload_n C 0 dX6_findBetter_57 rfl 1 rfl ?_
      refine gj_get C 1 (by decide) hg1 inX6 rfl 0 (by decide) w_252 (v := .ref (ad 2)) rfl dX6_findBetter_58 ?_
      refine gj_aload_n C 0 dX6_findBetter_61 rfl 1 rfl ?_
      refine gj_get C 1 (by decide) hg1 inX6 rfl 1 (by decide) w_254 (v := .ref (ad 4)) rfl dX6_findBetter_62 ?_
      refine gj_aload_n C 0 dX6_findBetter_65 rfl 1 rfl ?_
      refine gj_get C 1 (by decide) hg1 inX6 rfl 5 (by decide) w_261 (v := .ref (ad 14)) rfl dX6_findBetter_66 ?_
      refine gj_iload_n C 1 dX6_findBetter_69 rfl 0 rfl ?_
      refine gj_callVr C mi_X8_sumUpTo w_684 14 (by decide) hg14 rfl (c_sumAny t0 (sumN (cWs n0 n1 gS gP se).2 t0) hg14 hg15 hgT (by omega)) mc_X8_sumUpTo ⟨Nat.le_of_ble_eq_true rfl, Nat.le_of_ble_eq_true rfl⟩ (rest := [.ref (ad 4), .ref (ad 2), .ref (ad 58)]) rfl (Nat.le_of_ble_eq_true rfl) dX6_findBetter_70 (fun r u h => ?_)
      obtain ⟨hr_, hu_⟩ := h; rw [hr_]; subst hu_
      refine gj_aload_n C 0 dX6_findBetter_73 rfl 1 rfl ?_
      refine gj_get C 1 (by decide) (up_nx (by omega) (hg1)) inX6 rfl 2 (by decide) w_256 (v := .ref (ad 6)) rfl dX6_findBetter_74 ?_
      refine gj_iconst C (v := (-1)) (by decide) dX6_findBetter_77 ?_
      refine gj_callVv C mi_X2_solve w_574 58 (by decide) (up_nx (by omega) (hc58)) rfl (c_solve_58 n0 n1 (16 + t0) (-1 : Int32) us tc cc tu ts tr tp cs cf pl sta spa gS gP (sumT (sumN (cWs n0 n1 gS gP se).2 t0) t0 t0) se (up_nx (by omega) (hc58)) (up_nx (by omega) (hc59)) (up_nx (by omega) (hc60)) (up_nx (by omega) (hc61)) (up_nx (by omega) (hc62)) (up_nx (by omega) (hc63)) (up_nx (by omega) (hc64)) (up_nx (by omega) (hc66)) (up_nx (by omega) (hc68)) (up_nx (by omega) (hc65)) (up_nx (by omega) (hc67)) (up_nx (by omega) (hg2)) (up_nx (by omega) (hg3)) (up_nx (by omega) (hg4)) (up_nx (by omega) (hg5)) (va_up_self _ _ _) (up_nx (by omega) (hg6)) hn0 hn1 (by omega)) mc_X2_solve ⟨Nat.le_of_ble_eq_true rfl, Nat.le_of_ble_eq_true rfl⟩ (rest := []) rfl (Nat.le_of_ble_eq_true rfl) dX6_findBetter_78 (fun u h => ?_)
      subst h
      refine gj_aload_n C 0 dX6_findBetter_81 rfl 1 rfl ?_
      refine gj_get C 1 (by decide) (up_nx (by decide) (up_nx (by decide) (up_nx (by decide) (up_nx (by decide) (up_nx (by decide) (up_nx (by decide) (up_nx (by decide) (up_nx (by decide) (up_nx (by decide) (up_nx (by omega) (hg1))))))))))) inX6 rfl 8 (by decide) w_265 (v := .ref (ad 58)) rfl dX6_findBetter_82 ?_
      refine gj_getN C 58 (by decide) (up_nx (by decide) (up_nx (by decide) (up_nx (by decide) (up_nx (by decide) (up_nx (by decide) (up_nx (by decide) (up_nx (by decide) (up_nx (by decide) (va_up_self _ _ _))))))))) inX2 rfl 10 (by decide) w_222 (v := .int ((cConf gP n0 n1 (cTurn gS gP n0 n1 (cTake (sumT (sumN (cWs n0 n1 gS gP se).2 t0) t0 t0) (se 2) n0 n1 tp).1 (cTake (sumT (sumN (cWs n0 n1 gS gP se).2 t0) t0 t0) (se 2) n0 n1 tp).2.2.1 (cTake (sumT (sumN (cWs n0 n1 gS gP se).2 t0) t0 t0) (se 2) n0 n1 tp).2.2.2.2 sta spa pl).2.2.2 (se 3) (-1 : Int32) (cTurn gS gP n0 n1 (cTake (sumT (sumN (cWs n0 n1 gS gP se).2 t0) t0 t0) (se 2) n0 n1 tp).1 (cTake (sumT (sumN (cWs n0 n1 gS gP se).2 t0) t0 t0) (se 2) n0 n1 tp).2.2.1 (cTake (sumT (sumN (cWs n0 n1 gS gP se).2 t0) t0 t0) (se 2) n0 n1 tp).2.2.2.2 sta spa pl).1).2.2.2)) rfl dX6_findBetter_85 ?_
      refine gj_seti (y := kc t0) (hcnt t0 (by omega) _ _ _ _) ?_
      refine gj_aload_n C 0 dX6_findBetter_88 rfl 1 rfl ?_
      refine gj_get C 1 (by decide) (up_nx (by decide) (up_nx (by decide) (up_nx (by decide) (up_nx (by decide) (up_nx (by decide) (up_nx (by decide) (up_nx (by decide) (up_nx (by decide) (up_nx (by decide) (up_nx (by omega) (hg1))))))))))) inX6 rfl 12 (by decide) w_272 (v := .int ((cBet kc bt t0).2)) rfl dX6_findBetter_89 ?_
      refine gj_icmp_le C 114 dX6_findBetter_92 (by decide) (fun c_6 => ?_) (fun c_6 => ?_)
      · refine gj_iinc C (v := nI (t0 + 1)) (lv' := [(1, .int (nI (t0 + 1))), (0, .ref (ad 1))]) dX6_findBetter_114 0 rfl (nI_1 _) (by decide) rfl ?_
        refine gj_goto C 47 dX6_findBetter_117 (by decide) ?_
        refine gj_lv [0, 1] rfl ?_
        exact ih_3 (t0 + 1) (by omega) _ ⟨((up_nx (by decide) (up_nx (by decide) (up_nx (by decide) (up_nx (by decide) (up_nx (by decide) (up_nx (by decide) (up_nx (by decide) (up_nx (by decide) (up_nx (by decide) (up_nx (by omega) (hg1))))))))))).trans (by rw [show (cBet kc bt (t0 + 1)) = _ from (if_pos c_6).trans (rfl)])), cMat_c (fun k h1 h2 => up_nx (by omega) (up_nx (by omega) (up_nx (by omega) (up_nx (by omega) (up_nx (by omega) (up_nx (by omega) (up_nx (by omega) (up_nx (by omega) (up_nx (by omega) (up_nx (by omega) (rfl))))))))))) hgM, (fun s hs => up_nx (by omega) (up_nx (by omega) (up_nx (by omega) (up_nx (by omega) (up_nx (by omega) (up_nx (by omega) (up_nx (by omega) (up_nx (by omega) (up_nx (by omega) (rows_up hgT s hs)))))))))), ⟨_, _, _, _, _, _, _, _, _, _, _, _, (up_nx (by decide) (up_nx (by decide) (up_nx (by decide) (up_nx (by decide) (up_nx (by decide) (up_nx (by decide) (up_nx (by decide) (up_nx (by decide) (va_up_self _ _ _))))))))), (up_nx (by decide) (up_nx (by decide) (up_nx (by decide) (up_nx (by decide) (up_nx (by decide) (up_nx (by decide) (up_nx (by decide) (va_up_self _ _ _)))))))), (up_nx (by decide) (up_nx (by decide) (up_nx (by decide) (up_nx (by decide) (up_nx (by decide) (up_nx (by decide) (va_up_self _ _ _))))))), (up_nx (by decide) (up_nx (by decide) (up_nx (by decide) (up_nx (by decide) (up_nx (by decide) (va_up_self _ _ _)))))), (up_nx (by decide) (up_nx (by decide) (up_nx (by decide) (up_nx (by decide) (va_up_self _ _ _))))), (up_nx (by decide) (up_nx (by decide) (up_nx (by decide) (va_up_self _ _ _)))), (up_nx (by decide) (up_nx (by decide) (va_up_self _ _ _))), (up_nx (by decide) (va_up_self _ _ _)), (va_up_self _ _ _), (up_nx (by decide) (up_nx (by decide) (up_nx (by decide) (up_nx (by decide) (up_nx (by decide) (up_nx (by decide) (up_nx (by decide) (up_nx (by decide) (up_nx (by decide) (up_nx (by omega) (hc65))))))))))), (up_nx (by decide) (up_nx (by decide) (up_nx (by decide) (up_nx (by decide) (up_nx (by decide) (up_nx (by decide) (up_nx (by decide) (up_nx (by decide) (up_nx (by decide) (up_nx (by omega) (hc67)))))))))))⟩, fun j h1 h2 h3 h4 => up_nx (by omega) (up_nx (by omega) (up_nx (by omega) (up_nx (by omega) (up_nx (by omega) (up_nx (by omega) (up_nx (by omega) (up_nx (by omega) (up_nx (by omega) (up_nx (by omega) (hgS j h1 h2 h3 h4))))))))))⟩
      · refine gj_aload_n C 0 dX6_findBetter_95 rfl 1 rfl ?_
        refine gj_aload_n C 0 dX6_findBetter_96 rfl 1 rfl ?_
        refine gj_get C 1 (by decide) (up_nx (by decide) (up_nx (by decide) (up_nx (by decide) (up_nx (by decide) (up_nx (by decide) (up_nx (by decide) (up_nx (by decide) (up_nx (by decide) (up_nx (by decide) (up_nx (by omega) (hg1))))))))))) inX6 rfl 8 (by decide) w_265 (v := .ref (ad 58)) rfl dX6_findBetter_97 ?_
        refine gj_getN C 58 (by decide) (up_nx (by decide) (up_nx (by decide) (up_nx (by decide) (up_nx (by decide) (up_nx (by decide) (up_nx (by decide) (up_nx (by decide) (up_nx (by decide) (va_up_self _ _ _))))))))) inX2 rfl 10 (by decide) w_222 (v := .int ((cConf gP n0 n1 (cTurn gS gP n0 n1 (cTake (sumT (sumN (cWs n0 n1 gS gP se).2 t0) t0 t0) (se 2) n0 n1 tp).1 (cTake (sumT (sumN (cWs n0 n1 gS gP se).2 t0) t0 t0) (se 2) n0 n1 tp).2.2.1 (cTake (sumT (sumN (cWs n0 n1 gS gP se).2 t0) t0 t0) (se 2) n0 n1 tp).2.2.2.2 sta spa pl).2.2.2 (se 3) (-1 : Int32) (cTurn gS gP n0 n1 (cTake (sumT (sumN (cWs n0 n1 gS gP se).2 t0) t0 t0) (se 2) n0 n1 tp).1 (cTake (sumT (sumN (cWs n0 n1 gS gP se).2 t0) t0 t0) (se 2) n0 n1 tp).2.2.1 (cTake (sumT (sumN (cWs n0 n1 gS gP se).2 t0) t0 t0) (se 2) n0 n1 tp).2.2.2.2 sta spa pl).1).2.2.2)) rfl dX6_findBetter_100 ?_
        refine gj_seti (y := kc t0) (hcnt t0 (by omega) _ _ _ _) ?_
        refine gj_putS C 1 (by decide) (up_nx (by decide) (up_nx (by decide) (up_nx (by decide) (up_nx (by decide) (up_nx (by decide) (up_nx (by decide) (up_nx (by decide) (up_nx (by decide) (up_nx (by decide) (up_nx (by omega) (hg1))))))))))) inX6 rfl 12 (by decide) tyX6 tyX6_ok nmX6 w_272 rfl (v := .int (kc t0)) (fs' := [.ref (ad 2), .ref (ad 4), .ref (ad 6), .ref (ad 7), .ref (ad 12), .ref (ad 14), .ref (ad 37), .ref (ad 47), .ref (ad 58), .int lo, .int ma, .int ((cBet kc bt t0).1), .int (kc t0), .int sp, .int sc, .int fk, .int bk, .int sk]) rfl rfl (Nat.le_of_ble_eq_true rfl) rfl dX6_findBetter_103 ?_
        refine gj_aload_n C 0 dX6_findBetter_106 rfl 1 rfl ?_
        refine gj_iload_n C 1 dX6_findBetter_107 rfl 0 rfl ?_
        refine gj_bipush C (v := 50) (by decide) dX6_findBetter_108 ?_
        refine gj_imul C dX6_findBetter_110 ?_
        refine gj_putS C 1 (by decide) (va_up_self _ _ _) inX6 rfl 11 (by decide) tyX6 tyX6_ok nmX6 w_270 rfl (v := .int ((nI t0) * 50)) (fs' := [.ref (ad 2), .ref (ad 4), .ref (ad 6), .ref (ad 7), .ref (ad 12), .ref (ad 14), .ref (ad 37), .ref (ad 47), .ref (ad 58), .int lo, .int ma, .int ((nI t0) * 50), .int (kc t0), .int sp, .int sc, .int fk, .int bk, .int sk]) rfl rfl (Nat.le_of_ble_eq_true rfl) rfl dX6_findBetter_111 ?_
        refine gj_setf (bx_uu _ _ _ _) ?_
        refine gj_iinc C (v := nI (t0 + 1)) (lv' := [(1, .int (nI (t0 + 1))), (0, .ref (ad 1))]) dX6_findBetter_114 0 rfl (nI_1 _) (by decide) rfl ?_
        refine gj_goto C 47 dX6_findBetter_117 (by decide) ?_
        refine gj_lv [0, 1] rfl ?_
        exact ih_3 (t0 + 1) (by omega) _ ⟨((va_up_self _ _ _).trans (by rw [show (cBet kc bt (t0 + 1)) = _ from (if_neg c_6).trans (rfl)])), cMat_c (fun k h1 h2 => up_nx (by omega) (up_nx (by omega) (up_nx (by omega) (up_nx (by omega) (up_nx (by omega) (up_nx (by omega) (up_nx (by omega) (up_nx (by omega) (up_nx (by omega) (up_nx (by omega) (up_nx (by omega) (rfl)))))))))))) hgM, (fun s hs => up_nx (by omega) (up_nx (by omega) (up_nx (by omega) (up_nx (by omega) (up_nx (by omega) (up_nx (by omega) (up_nx (by omega) (up_nx (by omega) (up_nx (by omega) (up_nx (by omega) (rows_up hgT s hs))))))))))), ⟨_, _, _, _, _, _, _, _, _, _, _, _, (up_nx (by decide) (up_nx (by decide) (up_nx (by decide) (up_nx (by decide) (up_nx (by decide) (up_nx (by decide) (up_nx (by decide) (up_nx (by decide) (up_nx (by decide) (va_up_self _ _ _)))))))))), (up_nx (by decide) (up_nx (by decide) (up_nx (by decide) (up_nx (by decide) (up_nx (by decide) (up_nx (by decide) (up_nx (by decide) (up_nx (by decide) (va_up_self _ _ _))))))))), (up_nx (by decide) (up_nx (by decide) (up_nx (by decide) (up_nx (by decide) (up_nx (by decide) (up_nx (by decide) (up_nx (by decide) (va_up_self _ _ _)))))))), (up_nx (by decide) (up_nx (by decide) (up_nx (by decide) (up_nx (by decide) (up_nx (by decide) (up_nx (by decide) (va_up_self _ _ _))))))), (up_nx (by decide) (up_nx (by decide) (up_nx (by decide) (up_nx (by decide) (up_nx (by decide) (va_up_self _ _ _)))))), (up_nx (by decide) (up_nx (by decide) (up_nx (by decide) (up_nx (by decide) (va_up_self _ _ _))))), (up_nx (by decide) (up_nx (by decide) (up_nx (by decide) (va_up_self _ _ _)))), (up_nx (by decide) (up_nx (by decide) (va_up_self _ _ _))), (up_nx (by decide) (va_up_self _ _ _)), (up_nx (by decide) (up_nx (by decide) (up_nx (by decide) (up_nx (by decide) (up_nx (by decide) (up_nx (by decide) (up_nx (by decide) (up_nx (by decide) (up_nx (by decide) (up_nx (by decide) (up_nx (by omega) (hc65)))))))))))), (up_nx (by decide) (up_nx (by decide) (up_nx (by decide) (up_nx (by decide) (up_nx (by decide) (up_nx (by decide) (up_nx (by decide) (up_nx (by decide) (up_nx (by decide) (up_nx (by decide) (up_nx (by omega) (hc67))))))))))))⟩, fun j h1 h2 h3 h4 => up_nx (by omega) (up_nx (by omega) (up_nx (by omega) (up_nx (by omega) (up_nx (by omega) (up_nx (by omega) (up_nx (by omega) (up_nx (by omega) (up_nx (by omega) (up_nx (by omega) (up_nx (by omega) (hgS j h1 h2 h3 h4)))))))))))⟩
  refine gj_lv [0, 1] rfl ?_
  exact loop_2 21 0 (by omega) _ ⟨(va_up_self _ _ _), ⟨_, _, _, _, _, _, (up_nx (by decide) (up_nx (by decide) (up_nx (by decide) (up_nx (by decide) (up_nx (by decide) (va_up_self _ _ _)))))), (up_nx (by decide) (up_nx (by decide) (up_nx (by decide) (up_nx (by decide) (va_up_self _ _ _))))), (up_nx (by decide) (up_nx (by decide) (up_nx (by decide) (va_up_self _ _ _)))), (up_nx (by decide) (up_nx (by decide) (va_up_self _ _ _))), (up_nx (by decide) (va_up_self _ _ _))⟩, (fun s hs => up_nx (by omega) (up_nx (by omega) (up_nx (by omega) (up_nx (by omega) (up_nx (by omega) (up_nx (by omega) (upB_in ca f _ hs))))))), ⟨_, _, _, _, _, _, _, _, _, _, _, _, (up_nx (by decide) (up_nx (by decide) (up_nx (by decide) (up_nx (by decide) (up_nx (by decide) (up_nx (by decide) (((upB_out ca f _ (by decide)).trans hc58)))))))), (up_nx (by decide) (up_nx (by decide) (up_nx (by decide) (up_nx (by decide) (up_nx (by decide) (up_nx (by decide) (((upB_out ca f _ (by decide)).trans hc59)))))))), (up_nx (by decide) (up_nx (by decide) (up_nx (by decide) (up_nx (by decide) (up_nx (by decide) (up_nx (by decide) (((upB_out ca f _ (by decide)).trans hc60)))))))), (up_nx (by decide) (up_nx (by decide) (up_nx (by decide) (up_nx (by decide) (up_nx (by decide) (up_nx (by decide) (((upB_out ca f _ (by decide)).trans hc61)))))))), (up_nx (by decide) (up_nx (by decide) (up_nx (by decide) (up_nx (by decide) (up_nx (by decide) (up_nx (by decide) (((upB_out ca f _ (by decide)).trans hc62)))))))), (up_nx (by decide) (up_nx (by decide) (up_nx (by decide) (up_nx (by decide) (up_nx (by decide) (up_nx (by decide) (((upB_out ca f _ (by decide)).trans hc63)))))))), (up_nx (by decide) (up_nx (by decide) (up_nx (by decide) (up_nx (by decide) (up_nx (by decide) (up_nx (by decide) (((upB_out ca f _ (by decide)).trans hc64)))))))), (up_nx (by decide) (up_nx (by decide) (up_nx (by decide) (up_nx (by decide) (up_nx (by decide) (up_nx (by decide) (((upB_out ca f _ (by decide)).trans hc66)))))))), (up_nx (by decide) (up_nx (by decide) (up_nx (by decide) (up_nx (by decide) (up_nx (by decide) (up_nx (by decide) (((upB_out ca f _ (by decide)).trans hc68)))))))), (up_nx (by decide) (up_nx (by decide) (up_nx (by decide) (up_nx (by decide) (up_nx (by decide) (up_nx (by decide) (((upB_out ca f _ (by decide)).trans hc65)))))))), (up_nx (by decide) (up_nx (by decide) (up_nx (by decide) (up_nx (by decide) (up_nx (by decide) (up_nx (by decide) (((upB_out ca f _ (by decide)).trans hc67))))))))⟩, fun j h1 h2 h3 h4 => up_nx (by omega) (up_nx (by omega) (up_nx (by omega) (up_nx (by omega) (up_nx (by omega) (up_nx (by omega) (upB_out ca f _ (by omega)))))))⟩
set_option maxHeartbeats 400000 in
set_option maxRecDepth 100000 in
theorem c_findBetter1 {l : Launch} {D : va_G} {ca ss ad : Nat → Nat} {f : Nat → va_E} (lo ma bt bc sp sc fk bk sk : Int32) (hc1 : f 1 = .inr (6, sgF ad lo ma bt bc sp sc fk bk sk)) (hbk : ¬ bk = 0) : gMv l D ca ss ad 108 yX6_findBetter cX6_findBetter 2 none 5 f [.ref (ad 1)] (fun u => u = f) := by
  refine gMv_ofK (by decide +kernel) (Nat.le_of_ble_eq_true rfl) (lv0 := [(0, .ref (ad 1))]) rfl (fun pT eT sT mT aT below meth cT AT QT C RT => ?_)
  have C : gX pT sT mT aT meth cT AT D ca ss 2 RX6 cX6_findBetter none := C
  refine gj_aload_n C 0 dX6_findBetter_0 rfl 0 rfl ?_
  refine gj_get C 1 (by decide) hc1 inX6 rfl 16 (by decide) w_279 (v := .int bk) rfl dX6_findBetter_1 ?_
  refine gj_if_eq C 8 dX6_findBetter_4 (by decide) (fun c_1 => absurd c_1 hbk) (fun c_1 => ?_)
  exact RT _ _ _ rfl dX6_findBetter_7
set_option maxHeartbeats 400000 in
set_option maxRecDepth 100000 in
theorem c_findSpare0 {l : Launch} {D : va_G} {ca ss ad : Nat → Nat} {f : Nat → va_E} (n0 n1 : Nat) (gS gP se : Nat → Int32) (lo ma bt bc sp sc fk bk sk : Int32) (kc : Nat → Int32) (hcnt : ∀ k, k < n1 → ∀ (tp : Nat → Int32) (sta spa : Nat → Int64) (pl : Nat → Int32), (cSolC n0 n1 gP se (nI k) (cSolU n0 n1 gS gP (cTake ((cWr n0 n1 gS gP se).2 k) (se 2) n0 n1 tp) sta spa pl)).2.2.2 = kc k) (hc1 : f 1 = .inr (6, sgF ad lo ma bt bc sp sc fk bk sk)) (hc2 : f 2 = .inr (1, [.ref (ad 3), .int 12, .int (nI n0)])) (hc3 : f 3 = .inl (ca 0, 36, .inl gS)) (hc4 : f 4 = .inr (1, [.ref (ad 5), .int 8, .int (nI n1)])) (hc5 : f 5 = .inl (ca 0, 24, .inl gP)) (hc6 : f 6 = .inl (ca 0, 4, .inl se)) (hM : cMat ca ad f) (hT : cSpr ca ad f) (hF : cFx58 ca ad f) (hn0 : n0 ≤ 12) (hn1 : n1 ≤ 8) (hbk : sk = 0) : gMv l D ca ss ad 108 yX6_findSpare cX6_findSpare 2 none 5 f [.ref (ad 1)] (fun u => u 1 = .inr (6, sgF ad lo ma bt bc ((cSpa kc n1).1) ((cSpa kc n1).2) fk bk 1) ∧ cMat ca ad u ∧ cSpr ca ad u ∧ cFx58 ca ad u ∧ ∀ j, j ≠ 1 → ¬ (7 ≤ j ∧ j < 12) → j ≠ 37 → ¬ (39 ≤ j ∧ j < 47) → ¬ (58 ≤ j ∧ j < 69) → u j = f j) := by
  refine gMv_ofK (by decide +kernel) (Nat.le_of_ble_eq_true rfl) (lv0 := [(0, .ref (ad 1))]) rfl (fun pT eT sT mT aT below meth cT AT QT C RT => ?_)
  have C : gX pT sT mT aT meth cT AT D ca ss 2 RX6 cX6_findSpare none := C
  obtain ⟨cnt, lk, sg, pg, tg, kg, hc7, hc8, hc9, hc10, hc11⟩ := hM
  obtain ⟨⟨tlS, hc37⟩, hc38, TT, hcT⟩ := hT
  obtain ⟨us, tc, cc, tu, ts, tr, tp, cs, cf, pl, sta, spa, hc58, hc59, hc60, hc61, hc62, hc63, hc64, hc66, hc68, hc65, hc67⟩ := hF
  refine gj_aload_n C 0 dX6_findSpare_0 rfl 0 rfl ?_
  refine gj_get C 1 (by decide) hc1 inX6 rfl 17 (by decide) w_280 (v := .int sk) rfl dX6_findSpare_1 ?_
  refine gj_if_eq C 8 dX6_findSpare_4 (by decide) (fun c_1 => ?_) (fun c_1 => absurd hbk c_1)
  refine gj_aload_n C 0 dX6_findSpare_8 rfl 0 rfl ?_
  refine gj_get C 1 (by decide) hc1 inX6 rfl 6 (by decide) w_262 (v := .ref (ad 37)) rfl dX6_findSpare_9 ?_
  refine gj_aload_n C 0 dX6_findSpare_12 rfl 0 rfl ?_
  refine gj_get C 1 (by decide) hc1 inX6 rfl 2 (by decide) w_256 (v := .ref (ad 6)) rfl dX6_findSpare_13 ?_
  refine gj_iconst C (v := 1) (by decide) dX6_findSpare_16 ?_
  refine gj_iald C 6 (by decide) hc6 (by unfold vp_in; decide) dX6_findSpare_17 ?_
  refine gj_seti (y := se 1) rfl ?_
  refine gj_callVv C mi_X7_begin w_696 37 (by decide) hc37 rfl (c_X7_begin tlS (se 1) TT hc37 hc38 hcT) mc_X7_begin ⟨Nat.le_of_ble_eq_true rfl, Nat.le_of_ble_eq_true rfl⟩ (rest := []) rfl (Nat.le_of_ble_eq_true rfl) dX6_findSpare_18 (fun u h => ?_)
  rw [h]
  refine gj_aload_n C 0 dX6_findSpare_21 rfl 0 rfl ?_
  refine gj_get C 1 (by decide) (up_nx (by decide) (((upB_out ca f _ (by decide)).trans hc1))) inX6 rfl 3 (by decide) w_258 (v := .ref (ad 7)) rfl dX6_findSpare_22 ?_
  refine gj_aload_n C 0 dX6_findSpare_25 rfl 0 rfl ?_
  refine gj_get C 1 (by decide) (up_nx (by decide) (((upB_out ca f _ (by decide)).trans hc1))) inX6 rfl 0 (by decide) w_252 (v := .ref (ad 2)) rfl dX6_findSpare_26 ?_
  refine gj_aload_n C 0 dX6_findSpare_29 rfl 0 rfl ?_
  refine gj_get C 1 (by decide) (up_nx (by decide) (((upB_out ca f _ (by decide)).trans hc1))) inX6 rfl 1 (by decide) w_254 (v := .ref (ad 4)) rfl dX6_findSpare_30 ?_
  refine gj_aload_n C 0 dX6_findSpare_33 rfl 0 rfl ?_
  refine gj_get C 1 (by decide) (up_nx (by decide) (((upB_out ca f _ (by decide)).trans hc1))) inX6 rfl 2 (by decide) w_256 (v := .ref (ad 6)) rfl dX6_findSpare_34 ?_
  refine gj_iconst C (v := 0) (by decide) dX6_findSpare_37 ?_
  refine gj_iald C 6 (by decide) (up_nx (by decide) (((upB_out ca f _ (by decide)).trans hc6))) (by unfold vp_in; decide) dX6_findSpare_38 ?_
  refine gj_seti (y := se 0) rfl ?_
  refine gj_aload_n C 0 dX6_findSpare_39 rfl 0 rfl ?_
  refine gj_get C 1 (by decide) (up_nx (by decide) (((upB_out ca f _ (by decide)).trans hc1))) inX6 rfl 6 (by decide) w_262 (v := .ref (ad 37)) rfl dX6_findSpare_40 ?_
  refine gj_setf (g := twP ca ad (se 1) (fun _ => kI (0 : Int32)) f) (by rw [twP_of2 hc38]) ?_
  refine gj_callVv C mi_X3_walk w_518 7 (by decide) (twk (tal_P l D ca ss ad (se 1)) (by decide) hc7) rfl (c_X3_walk (f := f) (tal_P l D ca ss ad (se 1)) (fun _ => kI (0 : Int32)) n0 n1 (se 0) cnt lk gS gP sg pg tg kg hc2 hc3 hc4 hc5 hc7 hc8 hc9 hc10 hc11 hn0 hn1) mc_X3_walk ⟨Nat.le_of_ble_eq_true rfl, Nat.le_of_ble_eq_true rfl⟩ (rest := []) rfl (Nat.le_of_ble_eq_true rfl) dX6_findSpare_43 (fun u h => ?_)
  obtain ⟨cntX, sgX, pgX, tgX, kgX, rfl⟩ := h
  refine gj_setf (g := va_up (va_up (va_up (va_up (va_up (va_up (upB ca f 39 8 (cWr n0 n1 gS gP se).2) 37 (.inr (7, [.ref (ad 38), .int (se 1)]))) 7 (.inr (3, [.ref (ad 8), .ref (ad 9), .ref (ad 10), .ref (ad 11), .int cntX, .int ((cWr n0 n1 gS gP se).1)]))) 8 (.inl (ca 0, 144, .inl sgX))) 9 (.inl (ca 0, 64, .inl pgX))) 10 (.inl (ca 0, 660, .inl tgX))) 11 (.inl (ca 0, 660, .inl kgX))) (by rw [twP_of2 hc38]) ?_
  refine gj_aload_n C 0 dX6_findSpare_46 rfl 0 rfl ?_
  refine gj_iconst C (v := (-1)) (by decide) dX6_findSpare_47 ?_
  refine gj_putS C 1 (by decide) (up_nx (by decide) (up_nx (by decide) (up_nx (by decide) (up_nx (by decide) (up_nx (by decide) (up_nx (by decide) (((upB_out ca f _ (by decide)).trans hc1)))))))) inX6 rfl 13 (by decide) tyX6 tyX6_ok nmX6 w_274 rfl (v := .int (-1)) (fs' := [.ref (ad 2), .ref (ad 4), .ref (ad 6), .ref (ad 7), .ref (ad 12), .ref (ad 14), .ref (ad 37), .ref (ad 47), .ref (ad 58), .int lo, .int ma, .int bt, .int bc, .int (-1), .int sc, .int fk, .int bk, .int sk]) rfl rfl (Nat.le_of_ble_eq_true rfl) rfl dX6_findSpare_48 ?_
  refine gj_aload_n C 0 dX6_findSpare_51 rfl 0 rfl ?_
  refine gj_iconst C (v := (-1)) (by decide) dX6_findSpare_52 ?_
  refine gj_putS C 1 (by decide) (va_up_self _ _ _) inX6 rfl 14 (by decide) tyX6 tyX6_ok nmX6 w_276 rfl (v := .int (-1)) (fs' := [.ref (ad 2), .ref (ad 4), .ref (ad 6), .ref (ad 7), .ref (ad 12), .ref (ad 14), .ref (ad 37), .ref (ad 47), .ref (ad 58), .int lo, .int ma, .int bt, .int bc, .int (-1), .int (-1), .int fk, .int bk, .int sk]) rfl rfl (Nat.le_of_ble_eq_true rfl) rfl dX6_findSpare_53 ?_
  refine gj_setf (bx_uu _ _ _ _) ?_
  refine gj_iconst C (v := 0) (by decide) dX6_findSpare_56 ?_
  refine gj_seti (y := nI 0) rfl ?_
  refine gj_istore_n C (lv' := [(1, .int (nI 0)), (0, .ref (ad 1))]) 1 dX6_findSpare_57 rfl (by decide) rfl ?_
  have loop_2 : ∀ (m0 t0 : Nat), t0 + m0 = n1 → ∀ gH : Nat → va_E, (gH 1 = .inr (6, sgF ad lo ma bt bc ((cSpa kc t0).1) ((cSpa kc t0).2) fk bk sk) ∧ cMat ca ad gH ∧ gH 37 = .inr (7, [.ref (ad 38), .int (se 1)]) ∧ (∀ s, s < 8 → gH (39 + s) = .inl (ca 0, 96, .inl ((cWr n0 n1 gS gP se).2 s))) ∧ cFx58 ca ad gH ∧ (∀ j, j ≠ 1 → ¬ (7 ≤ j ∧ j < 12) → j ≠ 37 → ¬ (39 ≤ j ∧ j < 47) → ¬ (58 ≤ j ∧ j < 69) → gH j = f j)) → gJ pT l eT (Rm 5) sT mT aT below meth cT AT QT D ad 108 2 (gH) [(1, .int (nI t0)), (0, .ref (ad 1))] 58 [] := by
    intro m0
    induction m0 with
    | zero =>
      intro t0 hk_t0 gH hg
      obtain ⟨hg1, hgM, hg37, hgT, hgF, hgS⟩ := hg
      obtain ⟨us, tc, cc, tu, ts, tr, tp, cs, cf, pl, sta, spa, hc58, hc59, hc60, hc61, hc62, hc63, hc64, hc66, hc68, hc65, hc67⟩ := hgF
      have hg2 := (hgS 2 (by decide) (by decide) (by decide) (by decide) (by decide)).trans hc2
      have hg3 := (hgS 3 (by decide) (by decide) (by decide) (by decide) (by decide)).trans hc3
      have hg4 := (hgS 4 (by decide) (by decide) (by decide) (by decide) (by decide)).trans hc4
      have hg5 := (hgS 5 (by decide) (by decide) (by decide) (by decide) (by decide)).trans hc5
      have hg6 := (hgS 6 (by decide) (by decide) (by decide) (by decide) (by decide)).trans hc6
      have hg38 := (hgS 38 (by decide) (by decide) (by decide) (by decide) (by decide)).trans hc38
      refine gj_iload_n C 1 dX6_findSpare_58 rfl 0 rfl ?_
      refine gj_aload_n C 0 dX6_findSpare_59 rfl 1 rfl ?_
      refine gj_get C 1 (by decide) hg1 inX6 rfl 1 (by decide) w_254 (v := .ref (ad 4)) rfl dX6_findSpare_60 ?_
      refine gj_callVi C mi_X1_size w_701 4 (by decide) hg4 rfl (c_X1_size 4 5 (8 : Int32) (nI n1) 24 gP hg4 hg5 (by decide) (by decide) (by decide)) mc_X1_size ⟨Nat.le_of_ble_eq_true rfl, Nat.le_of_ble_eq_true rfl⟩ (rest := [.int (nI t0)]) rfl (Nat.le_of_ble_eq_true rfl) dX6_findSpare_63 (fun r u h => ?_)
      obtain ⟨hr_, h⟩ := h; rw [hr_]
      rw [h]
      refine gj_icmp_ge C 134 dX6_findSpare_66 (by decide) (fun c_4 => ?_) (fun c_4 => absurd (nI_le (by omega) (by omega)) c_4)
      refine gj_aload_n C 0 dX6_findSpare_134 rfl 1 rfl ?_
      refine gj_iconst C (v := 1) (by decide) dX6_findSpare_135 ?_
      refine gj_putS C 1 (by decide) hg1 inX6 rfl 17 (by decide) tyX6 tyX6_ok nmX6 w_280 rfl (v := .int 1) (fs' := [.ref (ad 2), .ref (ad 4), .ref (ad 6), .ref (ad 7), .ref (ad 12), .ref (ad 14), .ref (ad 37), .ref (ad 47), .ref (ad 58), .int lo, .int ma, .int bt, .int bc, .int ((cSpa kc t0).1), .int ((cSpa kc t0).2), .int fk, .int bk, .int 1]) rfl rfl (Nat.le_of_ble_eq_true rfl) rfl dX6_findSpare_136 ?_
      obtain rfl : t0 = n1 := (by omega)
      exact RT _ _ _ ⟨(va_up_self _ _ _), cMat_c (fun k h1 h2 => up_nx (by omega) (rfl)) hgM, ⟨⟨_, (up_nx (by decide) (hg37))⟩, (up_nx (by decide) (hg38)), _, fun s hs => up_nx (by omega) (hgT s hs)⟩, ⟨_, _, _, _, _, _, _, _, _, _, _, _, (up_nx (by decide) (hc58)), (up_nx (by decide) (hc59)), (up_nx (by decide) (hc60)), (up_nx (by decide) (hc61)), (up_nx (by decide) (hc62)), (up_nx (by decide) (hc63)), (up_nx (by decide) (hc64)), (up_nx (by decide) (hc66)), (up_nx (by decide) (hc68)), (up_nx (by decide) (hc65)), (up_nx (by decide) (hc67))⟩, fun j h1 h2 h3 h4 h5 => up_nx (by omega) (hgS j h1 h2 h3 h4 h5)⟩ dX6_findSpare_139
    | succ m0 ih_3 =>
      intro t0 hk_t0 gH hg
      obtain ⟨hg1, hgM, hg37, hgT, hgF, hgS⟩ := hg
      obtain ⟨us, tc, cc, tu, ts, tr, tp, cs, cf, pl, sta, spa, hc58, hc59, hc60, hc61, hc62, hc63, hc64, hc66, hc68, hc65, hc67⟩ := hgF
      have hg2 := (hgS 2 (by decide) (by decide) (by decide) (by decide) (by decide)).trans hc2
      have hg3 := (hgS 3 (by decide) (by decide) (by decide) (by decide) (by decide)).trans hc3
      have hg4 := (hgS 4 (by decide) (by decide) (by decide) (by decide) (by decide)).trans hc4
      have hg5 := (hgS 5 (by decide) (by decide) (by decide) (by decide) (by decide)).trans hc5
      have hg6 := (hgS 6 (by decide) (by decide) (by decide) (by decide) (by decide)).trans hc6
      have hg38 := (hgS 38 (by decide) (by decide) (by decide) (by decide) (by decide)).trans hc38
      refine gj_iload_n C 1 dX6_findSpare_58 rfl 0 rfl ?_
      refine gj_aload_n C 0 dX6_findSpare_59 rfl 1 rfl ?_
      refine gj_get C 1 (by decide) hg1 inX6 rfl 1 (by decide) w_254 (v := .ref (ad 4)) rfl dX6_findSpare_60 ?_
      refine gj_callVi C mi_X1_size w_701 4 (by decide) hg4 rfl (c_X1_size 4 5 (8 : Int32) (nI n1) 24 gP hg4 hg5 (by decide) (by decide) (by decide)) mc_X1_size ⟨Nat.le_of_ble_eq_true rfl, Nat.le_of_ble_eq_true rfl⟩ (rest := [.int (nI t0)]) rfl (Nat.le_of_ble_eq_true rfl) dX6_findSpare_63 (fun r u h => ?_)
      obtain ⟨hr_, h⟩ := h; rw [hr_]
      rw [h]
      refine gj_icmp_ge C 134 dX6_findSpare_66 (by decide) (fun c_5 => absurd c_5 (nI_ge (by omega) (by omega))) (fun c_5 => ?_)
      refine gj_aload_n C 0 dX6_findSpare_69 rfl 1 rfl ?_
      refine gj_get C 1 (by decide) hg1 inX6 rfl 8 (by decide) w_265 (v := .ref (ad 58)) rfl dX6_findSpare_70 ?_
      refine gj_aload_n C 0 dX6_findSpare_73 rfl 1 rfl ?_
      refine gj_get C 1 (by decide) hg1 inX6 rfl 0 (by decide) w_252 (v := .ref (ad 2)) rfl dX6_findSpare_74 ?_
      refine gj_aload_n C 0 dX6_findSpare_77 rfl 1 rfl ?_
      refine gj_get C 1 (by decide) hg1 inX6 rfl 1 (by decide) w_254 (v := .ref (ad 4)) rfl dX6_findSpare_78 ?_
      refine gj_aload_n C 0 dX6_findSpare_81 rfl 1 rfl ?_
      refine gj_get C 1 (by decide) hg1 inX6 rfl 6 (by decide) w_262 (v := .ref (ad 37)) rfl dX6_findSpare_82 ?_
      refine gj_getN C 37 (by decide) hg37 inX7 rfl 0 (by decide) w_182 (v := .ref (ad 38)) rfl dX6_findSpare_85 ?_
      refine gj_iload_n C 1 dX6_findSpare_88 rfl 0 rfl ?_
      refine gj_alda C 5 38 (by decide) hg38 rfl (vp_in_nI (by omega) (by omega)) (a := ad (39 + t0)) (qR_n ad 39 (by omega)) dX6_findSpare_89 ?_
      refine gj_aload_n C 0 dX6_findSpare_90 rfl 1 rfl ?_
      refine gj_get C 1 (by decide) hg1 inX6 rfl 2 (by decide) w_256 (v := .ref (ad 6)) rfl dX6_findSpare_91 ?_
      refine gj_iload_n C 1 dX6_findSpare_94 rfl 0 rfl ?_
      refine gj_callVv C mi_X2_solve w_574 58 (by decide) hc58 rfl (c_solve_58 n0 n1 (39 + t0) (nI t0) us tc cc tu ts tr tp cs cf pl sta spa gS gP ((cWr n0 n1 gS gP se).2 t0) se hc58 hc59 hc60 hc61 hc62 hc63 hc64 hc66 hc68 hc65 hc67 hg2 hg3 hg4 hg5 (hgT t0 (by omega)) hg6 hn0 hn1 (by omega)) mc_X2_solve ⟨Nat.le_of_ble_eq_true rfl, Nat.le_of_ble_eq_true rfl⟩ (rest := []) rfl (Nat.le_of_ble_eq_true rfl) dX6_findSpare_95 (fun u h => ?_)
      subst h
      refine gj_aload_n C 0 dX6_findSpare_98 rfl 1 rfl ?_
      refine gj_get C 1 (by decide) (up_nx (by decide) (up_nx (by decide) (up_nx (by decide) (up_nx (by decide) (up_nx (by decide) (up_nx (by decide) (up_nx (by decide) (up_nx (by decide) (up_nx (by decide) (hg1)))))))))) inX6 rfl 8 (by decide) w_265 (v := .ref (ad 58)) rfl dX6_findSpare_99 ?_
      refine gj_getN C 58 (by decide) (up_nx (by decide) (up_nx (by decide) (up_nx (by decide) (up_nx (by decide) (up_nx (by decide) (up_nx (by decide) (up_nx (by decide) (up_nx (by decide) (va_up_self _ _ _))))))))) inX2 rfl 10 (by decide) w_222 (v := .int ((cConf gP n0 n1 (cTurn gS gP n0 n1 (cTake ((cWr n0 n1 gS gP se).2 t0) (se 2) n0 n1 tp).1 (cTake ((cWr n0 n1 gS gP se).2 t0) (se 2) n0 n1 tp).2.2.1 (cTake ((cWr n0 n1 gS gP se).2 t0) (se 2) n0 n1 tp).2.2.2.2 sta spa pl).2.2.2 (se 3) (nI t0) (cTurn gS gP n0 n1 (cTake ((cWr n0 n1 gS gP se).2 t0) (se 2) n0 n1 tp).1 (cTake ((cWr n0 n1 gS gP se).2 t0) (se 2) n0 n1 tp).2.2.1 (cTake ((cWr n0 n1 gS gP se).2 t0) (se 2) n0 n1 tp).2.2.2.2 sta spa pl).1).2.2.2)) rfl dX6_findSpare_102 ?_
      refine gj_seti (y := kc t0) (hcnt t0 (by omega) _ _ _ _) ?_
      refine gj_aload_n C 0 dX6_findSpare_105 rfl 1 rfl ?_
      refine gj_get C 1 (by decide) (up_nx (by decide) (up_nx (by decide) (up_nx (by decide) (up_nx (by decide) (up_nx (by decide) (up_nx (by decide) (up_nx (by decide) (up_nx (by decide) (up_nx (by decide) (hg1)))))))))) inX6 rfl 14 (by decide) w_276 (v := .int ((cSpa kc t0).2)) rfl dX6_findSpare_106 ?_
      refine gj_icmp_le C 128 dX6_findSpare_109 (by decide) (fun c_6 => ?_) (fun c_6 => ?_)
      · refine gj_iinc C (v := nI (t0 + 1)) (lv' := [(1, .int (nI (t0 + 1))), (0, .ref (ad 1))]) dX6_findSpare_128 0 rfl (nI_1 _) (by decide) rfl ?_
        refine gj_goto C 58 dX6_findSpare_131 (by decide) ?_
        refine gj_lv [0, 1] rfl ?_
        exact ih_3 (t0 + 1) (by omega) _ ⟨((up_nx (by decide) (up_nx (by decide) (up_nx (by decide) (up_nx (by decide) (up_nx (by decide) (up_nx (by decide) (up_nx (by decide) (up_nx (by decide) (up_nx (by decide) (hg1)))))))))).trans (by rw [show (cSpa kc (t0 + 1)) = _ from (if_pos c_6).trans (rfl)])), cMat_c (fun k h1 h2 => up_nx (by omega) (up_nx (by omega) (up_nx (by omega) (up_nx (by omega) (up_nx (by omega) (up_nx (by omega) (up_nx (by omega) (up_nx (by omega) (up_nx (by omega) (rfl)))))))))) hgM, (up_nx (by decide) (up_nx (by decide) (up_nx (by decide) (up_nx (by decide) (up_nx (by decide) (up_nx (by decide) (up_nx (by decide) (up_nx (by decide) (up_nx (by decide) (hg37)))))))))), (fun s hs => up_nx (by omega) (up_nx (by omega) (up_nx (by omega) (up_nx (by omega) (up_nx (by omega) (up_nx (by omega) (up_nx (by omega) (up_nx (by omega) (up_nx (by omega) (hgT s hs)))))))))), ⟨_, _, _, _, _, _, _, _, _, _, _, _, (up_nx (by decide) (up_nx (by decide) (up_nx (by decide) (up_nx (by decide) (up_nx (by decide) (up_nx (by decide) (up_nx (by decide) (up_nx (by decide) (va_up_self _ _ _))))))))), (up_nx (by decide) (up_nx (by decide) (up_nx (by decide) (up_nx (by decide) (up_nx (by decide) (up_nx (by decide) (up_nx (by decide) (va_up_self _ _ _)))))))), (up_nx (by decide) (up_nx (by decide) (up_nx (by decide) (up_nx (by decide) (up_nx (by decide) (up_nx (by decide) (va_up_self _ _ _))))))), (up_nx (by decide) (up_nx (by decide) (up_nx (by decide) (up_nx (by decide) (up_nx (by decide) (va_up_self _ _ _)))))), (up_nx (by decide) (up_nx (by decide) (up_nx (by decide) (up_nx (by decide) (va_up_self _ _ _))))), (up_nx (by decide) (up_nx (by decide) (up_nx (by decide) (va_up_self _ _ _)))), (up_nx (by decide) (up_nx (by decide) (va_up_self _ _ _))), (up_nx (by decide) (va_up_self _ _ _)), (va_up_self _ _ _), (up_nx (by decide) (up_nx (by decide) (up_nx (by decide) (up_nx (by decide) (up_nx (by decide) (up_nx (by decide) (up_nx (by decide) (up_nx (by decide) (up_nx (by decide) (hc65)))))))))), (up_nx (by decide) (up_nx (by decide) (up_nx (by decide) (up_nx (by decide) (up_nx (by decide) (up_nx (by decide) (up_nx (by decide) (up_nx (by decide) (up_nx (by decide) (hc67))))))))))⟩, fun j h1 h2 h3 h4 h5 => up_nx (by omega) (up_nx (by omega) (up_nx (by omega) (up_nx (by omega) (up_nx (by omega) (up_nx (by omega) (up_nx (by omega) (up_nx (by omega) (up_nx (by omega) (hgS j h1 h2 h3 h4 h5)))))))))⟩
      · refine gj_aload_n C 0 dX6_findSpare_112 rfl 1 rfl ?_
        refine gj_aload_n C 0 dX6_findSpare_113 rfl 1 rfl ?_
        refine gj_get C 1 (by decide) (up_nx (by decide) (up_nx (by decide) (up_nx (by decide) (up_nx (by decide) (up_nx (by decide) (up_nx (by decide) (up_nx (by decide) (up_nx (by decide) (up_nx (by decide) (hg1)))))))))) inX6 rfl 8 (by decide) w_265 (v := .ref (ad 58)) rfl dX6_findSpare_114 ?_
        refine gj_getN C 58 (by decide) (up_nx (by decide) (up_nx (by decide) (up_nx (by decide) (up_nx (by decide) (up_nx (by decide) (up_nx (by decide) (up_nx (by decide) (up_nx (by decide) (va_up_self _ _ _))))))))) inX2 rfl 10 (by decide) w_222 (v := .int ((cConf gP n0 n1 (cTurn gS gP n0 n1 (cTake ((cWr n0 n1 gS gP se).2 t0) (se 2) n0 n1 tp).1 (cTake ((cWr n0 n1 gS gP se).2 t0) (se 2) n0 n1 tp).2.2.1 (cTake ((cWr n0 n1 gS gP se).2 t0) (se 2) n0 n1 tp).2.2.2.2 sta spa pl).2.2.2 (se 3) (nI t0) (cTurn gS gP n0 n1 (cTake ((cWr n0 n1 gS gP se).2 t0) (se 2) n0 n1 tp).1 (cTake ((cWr n0 n1 gS gP se).2 t0) (se 2) n0 n1 tp).2.2.1 (cTake ((cWr n0 n1 gS gP se).2 t0) (se 2) n0 n1 tp).2.2.2.2 sta spa pl).1).2.2.2)) rfl dX6_findSpare_117 ?_
        refine gj_seti (y := kc t0) (hcnt t0 (by omega) _ _ _ _) ?_
        refine gj_putS C 1 (by decide) (up_nx (by decide) (up_nx (by decide) (up_nx (by decide) (up_nx (by decide) (up_nx (by decide) (up_nx (by decide) (up_nx (by decide) (up_nx (by decide) (up_nx (by decide) (hg1)))))))))) inX6 rfl 14 (by decide) tyX6 tyX6_ok nmX6 w_276 rfl (v := .int (kc t0)) (fs' := [.ref (ad 2), .ref (ad 4), .ref (ad 6), .ref (ad 7), .ref (ad 12), .ref (ad 14), .ref (ad 37), .ref (ad 47), .ref (ad 58), .int lo, .int ma, .int bt, .int bc, .int ((cSpa kc t0).1), .int (kc t0), .int fk, .int bk, .int sk]) rfl rfl (Nat.le_of_ble_eq_true rfl) rfl dX6_findSpare_120 ?_
        refine gj_aload_n C 0 dX6_findSpare_123 rfl 1 rfl ?_
        refine gj_iload_n C 1 dX6_findSpare_124 rfl 0 rfl ?_
        refine gj_putS C 1 (by decide) (va_up_self _ _ _) inX6 rfl 13 (by decide) tyX6 tyX6_ok nmX6 w_274 rfl (v := .int (nI t0)) (fs' := [.ref (ad 2), .ref (ad 4), .ref (ad 6), .ref (ad 7), .ref (ad 12), .ref (ad 14), .ref (ad 37), .ref (ad 47), .ref (ad 58), .int lo, .int ma, .int bt, .int bc, .int (nI t0), .int (kc t0), .int fk, .int bk, .int sk]) rfl rfl (Nat.le_of_ble_eq_true rfl) rfl dX6_findSpare_125 ?_
        refine gj_setf (bx_uu _ _ _ _) ?_
        refine gj_iinc C (v := nI (t0 + 1)) (lv' := [(1, .int (nI (t0 + 1))), (0, .ref (ad 1))]) dX6_findSpare_128 0 rfl (nI_1 _) (by decide) rfl ?_
        refine gj_goto C 58 dX6_findSpare_131 (by decide) ?_
        refine gj_lv [0, 1] rfl ?_
        exact ih_3 (t0 + 1) (by omega) _ ⟨((va_up_self _ _ _).trans (by rw [show (cSpa kc (t0 + 1)) = _ from (if_neg c_6).trans (rfl)])), cMat_c (fun k h1 h2 => up_nx (by omega) (up_nx (by omega) (up_nx (by omega) (up_nx (by omega) (up_nx (by omega) (up_nx (by omega) (up_nx (by omega) (up_nx (by omega) (up_nx (by omega) (up_nx (by omega) (rfl))))))))))) hgM, (up_nx (by decide) (up_nx (by decide) (up_nx (by decide) (up_nx (by decide) (up_nx (by decide) (up_nx (by decide) (up_nx (by decide) (up_nx (by decide) (up_nx (by decide) (up_nx (by decide) (hg37))))))))))), (fun s hs => up_nx (by omega) (up_nx (by omega) (up_nx (by omega) (up_nx (by omega) (up_nx (by omega) (up_nx (by omega) (up_nx (by omega) (up_nx (by omega) (up_nx (by omega) (up_nx (by omega) (hgT s hs))))))))))), ⟨_, _, _, _, _, _, _, _, _, _, _, _, (up_nx (by decide) (up_nx (by decide) (up_nx (by decide) (up_nx (by decide) (up_nx (by decide) (up_nx (by decide) (up_nx (by decide) (up_nx (by decide) (up_nx (by decide) (va_up_self _ _ _)))))))))), (up_nx (by decide) (up_nx (by decide) (up_nx (by decide) (up_nx (by decide) (up_nx (by decide) (up_nx (by decide) (up_nx (by decide) (up_nx (by decide) (va_up_self _ _ _))))))))), (up_nx (by decide) (up_nx (by decide) (up_nx (by decide) (up_nx (by decide) (up_nx (by decide) (up_nx (by decide) (up_nx (by decide) (va_up_self _ _ _)))))))), (up_nx (by decide) (up_nx (by decide) (up_nx (by decide) (up_nx (by decide) (up_nx (by decide) (up_nx (by decide) (va_up_self _ _ _))))))), (up_nx (by decide) (up_nx (by decide) (up_nx (by decide) (up_nx (by decide) (up_nx (by decide) (va_up_self _ _ _)))))), (up_nx (by decide) (up_nx (by decide) (up_nx (by decide) (up_nx (by decide) (va_up_self _ _ _))))), (up_nx (by decide) (up_nx (by decide) (up_nx (by decide) (va_up_self _ _ _)))), (up_nx (by decide) (up_nx (by decide) (va_up_self _ _ _))), (up_nx (by decide) (va_up_self _ _ _)), (up_nx (by decide) (up_nx (by decide) (up_nx (by decide) (up_nx (by decide) (up_nx (by decide) (up_nx (by decide) (up_nx (by decide) (up_nx (by decide) (up_nx (by decide) (up_nx (by decide) (hc65))))))))))), (up_nx (by decide) (up_nx (by decide) (up_nx (by decide) (up_nx (by decide) (up_nx (by decide) (up_nx (by decide) (up_nx (by decide) (up_nx (by decide) (up_nx (by decide) (up_nx (by decide) (hc67)))))))))))⟩, fun j h1 h2 h3 h4 h5 => up_nx (by omega) (up_nx (by omega) (up_nx (by omega) (up_nx (by omega) (up_nx (by omega) (up_nx (by omega) (up_nx (by omega) (up_nx (by omega) (up_nx (by omega) (up_nx (by omega) (hgS j h1 h2 h3 h4 h5))))))))))⟩
  refine gj_lv [0, 1] rfl ?_
  exact loop_2 n1 0 (by omega) _ ⟨(va_up_self _ _ _), ⟨_, _, _, _, _, _, (up_nx (by decide) (up_nx (by decide) (up_nx (by decide) (up_nx (by decide) (up_nx (by decide) (va_up_self _ _ _)))))), (up_nx (by decide) (up_nx (by decide) (up_nx (by decide) (up_nx (by decide) (va_up_self _ _ _))))), (up_nx (by decide) (up_nx (by decide) (up_nx (by decide) (va_up_self _ _ _)))), (up_nx (by decide) (up_nx (by decide) (va_up_self _ _ _))), (up_nx (by decide) (va_up_self _ _ _))⟩, (up_nx (by decide) (up_nx (by decide) (up_nx (by decide) (up_nx (by decide) (up_nx (by decide) (up_nx (by decide) (va_up_self _ _ _))))))), (fun s hs => up_nx (by omega) (up_nx (by omega) (up_nx (by omega) (up_nx (by omega) (up_nx (by omega) (up_nx (by omega) (up_nx (by omega) (upB_in ca f _ hs)))))))), ⟨_, _, _, _, _, _, _, _, _, _, _, _, (up_nx (by decide) (up_nx (by decide) (up_nx (by decide) (up_nx (by decide) (up_nx (by decide) (up_nx (by decide) (up_nx (by decide) (((upB_out ca f _ (by decide)).trans hc58))))))))), (up_nx (by decide) (up_nx (by decide) (up_nx (by decide) (up_nx (by decide) (up_nx (by decide) (up_nx (by decide) (up_nx (by decide) (((upB_out ca f _ (by decide)).trans hc59))))))))), (up_nx (by decide) (up_nx (by decide) (up_nx (by decide) (up_nx (by decide) (up_nx (by decide) (up_nx (by decide) (up_nx (by decide) (((upB_out ca f _ (by decide)).trans hc60))))))))), (up_nx (by decide) (up_nx (by decide) (up_nx (by decide) (up_nx (by decide) (up_nx (by decide) (up_nx (by decide) (up_nx (by decide) (((upB_out ca f _ (by decide)).trans hc61))))))))), (up_nx (by decide) (up_nx (by decide) (up_nx (by decide) (up_nx (by decide) (up_nx (by decide) (up_nx (by decide) (up_nx (by decide) (((upB_out ca f _ (by decide)).trans hc62))))))))), (up_nx (by decide) (up_nx (by decide) (up_nx (by decide) (up_nx (by decide) (up_nx (by decide) (up_nx (by decide) (up_nx (by decide) (((upB_out ca f _ (by decide)).trans hc63))))))))), (up_nx (by decide) (up_nx (by decide) (up_nx (by decide) (up_nx (by decide) (up_nx (by decide) (up_nx (by decide) (up_nx (by decide) (((upB_out ca f _ (by decide)).trans hc64))))))))), (up_nx (by decide) (up_nx (by decide) (up_nx (by decide) (up_nx (by decide) (up_nx (by decide) (up_nx (by decide) (up_nx (by decide) (((upB_out ca f _ (by decide)).trans hc66))))))))), (up_nx (by decide) (up_nx (by decide) (up_nx (by decide) (up_nx (by decide) (up_nx (by decide) (up_nx (by decide) (up_nx (by decide) (((upB_out ca f _ (by decide)).trans hc68))))))))), (up_nx (by decide) (up_nx (by decide) (up_nx (by decide) (up_nx (by decide) (up_nx (by decide) (up_nx (by decide) (up_nx (by decide) (((upB_out ca f _ (by decide)).trans hc65))))))))), (up_nx (by decide) (up_nx (by decide) (up_nx (by decide) (up_nx (by decide) (up_nx (by decide) (up_nx (by decide) (up_nx (by decide) (((upB_out ca f _ (by decide)).trans hc67)))))))))⟩, fun j h1 h2 h3 h4 h5 => up_nx (by omega) (up_nx (by omega) (up_nx (by omega) (up_nx (by omega) (up_nx (by omega) (up_nx (by omega) (up_nx (by omega) (upB_out ca f _ (by omega))))))))⟩
set_option maxHeartbeats 400000 in
set_option maxRecDepth 100000 in
theorem c_findSpare1 {l : Launch} {D : va_G} {ca ss ad : Nat → Nat} {f : Nat → va_E} (lo ma bt bc sp sc fk bk sk : Int32) (hc1 : f 1 = .inr (6, sgF ad lo ma bt bc sp sc fk bk sk)) (hbk : ¬ sk = 0) : gMv l D ca ss ad 108 yX6_findSpare cX6_findSpare 2 none 5 f [.ref (ad 1)] (fun u => u = f) := by
  refine gMv_ofK (by decide +kernel) (Nat.le_of_ble_eq_true rfl) (lv0 := [(0, .ref (ad 1))]) rfl (fun pT eT sT mT aT below meth cT AT QT C RT => ?_)
  have C : gX pT sT mT aT meth cT AT D ca ss 2 RX6 cX6_findSpare none := C
  refine gj_aload_n C 0 dX6_findSpare_0 rfl 0 rfl ?_
  refine gj_get C 1 (by decide) hc1 inX6 rfl 17 (by decide) w_280 (v := .int sk) rfl dX6_findSpare_1 ?_
  refine gj_if_eq C 8 dX6_findSpare_4 (by decide) (fun c_1 => absurd c_1 hbk) (fun c_1 => ?_)
  exact RT _ _ _ rfl dX6_findSpare_7
