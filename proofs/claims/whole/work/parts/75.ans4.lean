/-! the digest -/
theorem one0_y {n0 i : Nat} (hn0 : n0 ≤ 12) (hi : i < n0) : ¬ s_isOne0 (nI i) n0 = 0 := by
  rw [one_0 hn0, nI_toInt (by omega)]; omega
theorem one1_y {n1 p : Nat} (hn1 : n1 ≤ 8) (hp : p < n1) : ¬ s_isOne1 (nI p) n1 = 0 := by
  rw [one_1 hn1, nI_toInt (by omega)]; omega
theorem eV_dV {n0 n1 : Nat} {gS gP se : Nat → Int32} (hn0 : n0 ≤ 12) (hn1 : n1 ≤ 8) {p : Nat} (hp : p < n1) (h : Int64) : ∀ i, i ≤ n0 → eV n0 n1 gS gP se p h i = dV (mVotes (dj gS gP) se n0 n1 (-1)).1 p h i
  | 0, _ => rfl
  | i + 1, hi => by
    have ih := eV_dV (gS := gS) (gP := gP) (se := se) hn0 hn1 hp h i (by omega)
    have e : s_votes (nI p) (nI i) n0 n1 gS gP se = (mVotes (dj gS gP) se n0 n1 (-1)).1 (12 * p + i) := by
      unfold s_votes kV
      rw [if_neg (one1_y hn1 hp), if_neg (one0_y hn0 (by omega))]
      generalize (mVotes (dj gS gP) se n0 n1 (-1)).1 = X
      unfold s_X11_pairOf
      rw [show (12 : Int32) = nI 12 from rfl, pk_mul, nI_add, nI_clamp (by omega), Nat.mul_comm]
    show hh (eV n0 n1 gS gP se p h i) (s_votes (nI p) (nI i) n0 n1 gS gP se) = hh (dV (mVotes (dj gS gP) se n0 n1 (-1)).1 p h i) ((mVotes (dj gS gP) se n0 n1 (-1)).1 (12 * p + i))
    rw [ih, e]
theorem eS_dS {n0 n1 : Nat} {gS gP se : Nat → Int32} (hn0 : n0 ≤ 12) (hn1 : n1 ≤ 8) (h : Int64) : ∀ p, p ≤ n1 → eS n0 n1 gS gP se h p = dS (rT (dj gS gP) se n0 n1 (-1)).1 (rT (dj gS gP) se n0 n1 (-1)).2.1 (rC (dj gS gP) se n0 n1 (-1)).2.1 (rC (dj gS gP) se n0 n1 (-1)).2.2.1 (mVotes (dj gS gP) se n0 n1 (-1)).1 n0 h p
  | 0, _ => rfl
  | p + 1, hp => by
    have ih := eS_dS (gS := gS) (gP := gP) (se := se) hn0 hn1 h p (by omega)
    have o0 : ¬ s_X11_isWithin (0 : Int32) (0 : Int32) (1 : Int32) = 0 := by decide +kernel
    have o1 : ¬ s_X11_isWithin (1 : Int32) (0 : Int32) (1 : Int32) = 0 := by decide +kernel
    have n1z : ¬ (1 : Int32) = 0 := by decide
    have t0 : s_taken (nI p) (0 : Int32) n0 n1 gS gP se = s_X12_takenBy (nI p) (0 : Int32) (rT (dj gS gP) se n0 n1 (-1)).1 (rT (dj gS gP) se n0 n1 (-1)).2.1 := by
      unfold s_taken kT s_X12_takenBy
      rw [if_neg (one1_y hn1 (by omega)), if_neg o0, if_pos rfl]
    have t1 : s_taken (nI p) (1 : Int32) n0 n1 gS gP se = s_X12_takenBy (nI p) (1 : Int32) (rT (dj gS gP) se n0 n1 (-1)).1 (rT (dj gS gP) se n0 n1 (-1)).2.1 := by
      unfold s_taken kT s_X12_takenBy
      rw [if_neg (one1_y hn1 (by omega)), if_neg o1, if_neg n1z]
    have c0 : s_confirmed (nI p) (0 : Int32) n0 n1 gS gP se = s_X12_confirmedBy (nI p) (0 : Int32) (rC (dj gS gP) se n0 n1 (-1)).2.1 (rC (dj gS gP) se n0 n1 (-1)).2.2.1 := by
      unfold s_confirmed kC s_X12_confirmedBy
      rw [if_neg (one1_y hn1 (by omega)), if_neg o0, if_pos rfl]
    have c1 : s_confirmed (nI p) (1 : Int32) n0 n1 gS gP se = s_X12_confirmedBy (nI p) (1 : Int32) (rC (dj gS gP) se n0 n1 (-1)).2.1 (rC (dj gS gP) se n0 n1 (-1)).2.2.1 := by
      unfold s_confirmed kC s_X12_confirmedBy
      rw [if_neg (one1_y hn1 (by omega)), if_neg o1, if_neg n1z]
    show eV n0 n1 gS gP se p (hh (hh (hh (hh (eS n0 n1 gS gP se h p) (s_taken (nI p) (0 : Int32) n0 n1 gS gP se)) (s_taken (nI p) (1 : Int32) n0 n1 gS gP se)) (s_confirmed (nI p) (0 : Int32) n0 n1 gS gP se)) (s_confirmed (nI p) (1 : Int32) n0 n1 gS gP se)) n0 = dP (rT (dj gS gP) se n0 n1 (-1)).1 (rT (dj gS gP) se n0 n1 (-1)).2.1 (rC (dj gS gP) se n0 n1 (-1)).2.1 (rC (dj gS gP) se n0 n1 (-1)).2.2.1 (mVotes (dj gS gP) se n0 n1 (-1)).1 n0 p (dS (rT (dj gS gP) se n0 n1 (-1)).1 (rT (dj gS gP) se n0 n1 (-1)).2.1 (rC (dj gS gP) se n0 n1 (-1)).2.1 (rC (dj gS gP) se n0 n1 (-1)).2.2.1 (mVotes (dj gS gP) se n0 n1 (-1)).1 n0 h p)
    unfold dP
    rw [ih, t0, t1, c0, c1, eV_dV hn0 hn1 (by omega) _ n0 (Nat.le_refl _)]
theorem eB_dB {n0 n1 : Nat} {gS gP se mn : Nat → Int32} (h0 : mn 0 = nI n0) (hn0 : n0 ≤ 12) (hb : 1 ≤ (se 0).toInt) (h : Int64) : ∀ i, i ≤ n0 → eB n0 n1 gS gP se h i = dB (rU (dj gS gP) se n0 n1 (-1)) (rP (dj gS gP) se n0 n1 (-1)) (dj gS gP) mn se h i
  | 0, _ => rfl
  | i + 1, hi => by
    have ih := eB_dB (n1 := n1) (gS := gS) (gP := gP) (se := se) h0 hn0 hb h i (by omega)
    have pl : ∀ w : Int32, ¬ s_X11_isWithin w (0 : Int32) (2 : Int32) = 0 → s_place (nI i) w n0 n1 gS gP se = s_X12_placeBy (nI i) w (rU (dj gS gP) se n0 n1 (-1)) (rP (dj gS gP) se n0 n1 (-1)) := by
      intro w hw
      unfold s_place kU kP s_X12_placeBy
      rw [if_neg (one0_y hn0 (by omega)), if_neg hw]
    show (hh (hh (hh (hh (hh (hh (eB n0 n1 gS gP se h i) (s_place (nI i) (0 : Int32) n0 n1 gS gP se)) (s_place (nI i) (1 : Int32) n0 n1 gS gP se)) (s_place (nI i) (2 : Int32) n0 n1 gS gP se)) (s_key0 (0 : Int32) (1 : Int32) (nI i) (0 : Int32) n0 gS se)) (s_key0 (0 : Int32) (1 : Int32) (nI i) (1 : Int32) n0 gS se)) (s_key0 (0 : Int32) (1 : Int32) (nI i) (2 : Int32) n0 gS se)) = dI (rU (dj gS gP) se n0 n1 (-1)) (rP (dj gS gP) se n0 n1 (-1)) (dj gS gP) mn se i (dB (rU (dj gS gP) se n0 n1 (-1)) (rP (dj gS gP) se n0 n1 (-1)) (dj gS gP) mn se h i)
    unfold dI
    rw [ih, pl 0 (by decide +kernel), pl 1 (by decide +kernel), pl 2 (by decide +kernel), key_0 (gP := gP) h0 hn0 hb, key_0 (gP := gP) h0 hn0 hb, key_0 (gP := gP) h0 hn0 hb]
theorem eT_3 {tr tm tZ : Nat → Int32} {tG : Nat → Nat → Int32} (R : tRel tr tm tZ tG) {t : Nat} (ht : t < 4) (i : Nat) (h : Int64) : ∀ j, eT3 tZ tG t i h j = dT3 tr tm t i h j
  | 0 => rfl
  | j + 1 => by
    show hh (eT3 tZ tG t i h j) (s_thing (nI i) (nI j) (tZ t) (tG t)) = hh (dT3 tr tm t i h j) (s_X12_thing (nI t) (nI i) (nI j) tr tm)
    rw [eT_3 R ht i h j, thing_ans R ht]
theorem eT_2 {tr tm tZ : Nat → Int32} {tG : Nat → Nat → Int32} (R : tRel tr tm tZ tG) {t : Nat} (ht : t < 4) (h : Int64) : ∀ i, eT2 tZ tG t h i = dT2 tr tm t h i
  | 0 => rfl
  | i + 1 => by
    show hh (eT3 tZ tG t i (eT2 tZ tG t h i) 4) (s_share (0 : Int32) (nI i) (tZ t) (tG t)) = hh (dT3 tr tm t i (dT2 tr tm t h i) 4) (s_X12_shareBy (nI t) (0 : Int32) (nI i) tr tm)
    rw [eT_3 R ht, eT_2 R ht h i, share_ans R ht]
theorem eT_1 {tr tm tZ : Nat → Int32} {tG : Nat → Nat → Int32} (R : tRel tr tm tZ tG) (h : Int64) : ∀ t, t ≤ 4 → eT1 tZ tG h t = dT1 tr tm h t
  | 0, _ => rfl
  | t + 1, ht => by
    show eT2 tZ tG t (eT1 tZ tG h t) 4 = dT2 tr tm t (dT1 tr tm h t) 4
    rw [eT_2 R (by omega), eT_1 R h t (by omega)]
theorem lk_by {n0 n1 : Nat} {gS gP se mn : Nat → Int32} (h0 : mn 0 = nI n0) (h1 : mn 1 = nI n1) {w : Int32} (hw : ¬ s_X12_in w.toInt64 (0 : Int64) (3 : Int64) = 0) : s_looks w n0 n1 gS gP se = s_X12_looksBy w ((mVotes (dj gS gP) se n0 n1 (-1)).2.2) ((mVotes (dj gS gP) se n0 n1 (-1)).2.1) mn := by
  rw [looks_eq (gS := gS) (gP := gP) (se := se) h0 h1 w]
  unfold s_X12_looks
  rw [if_neg hw]
theorem bt_by (w : Int32) (hw : ¬ s_X12_isTwo w = 0) (n0 n1 : Nat) (gS gP se : Nat → Int32) : s_better w n0 n1 gS gP se = if w = 0 then (mBt (dj gS gP) se n0 n1 (-1) 21).1 else (mBt (dj gS gP) se n0 n1 (-1) 21).2 := by
  rw [better_ans]
  unfold s_X12_better
  rw [if_neg hw]
theorem sp_by (w : Int32) (hw : ¬ s_X12_isTwo w = 0) (n0 n1 : Nat) (gS gP se : Nat → Int32) : s_spare w n0 n1 gS gP se = if w = 0 then (mSt (dj gS gP) se n0 n1 n1).1 else (mSt (dj gS gP) se n0 n1 n1).2 := by
  rw [spare_ans]
  unfold s_X12_spare
  rw [if_neg hw]
theorem digest_ans {n0 n1 : Nat} {gS gP se mn tr tm tZ : Nat → Int32} {tG : Nat → Nat → Int32} (h0 : mn 0 = nI n0) (h1 : mn 1 = nI n1) (hn0 : n0 ≤ 12) (hn1 : n1 ≤ 8) (hb : 1 ≤ (se 0).toInt) (R : tRel tr tm tZ tG) (la : Int32) : s_digest la tZ n0 n1 gS gP se tG = s_X12_digest la (dj gS gP) mn se tr tm n0 n1 := by
  have cn : ∀ w : Int32, s_count w la tZ n0 n1 gS gP se = s_X12_count w la (-1) (dj gS gP) mn se tm n0 n1 := fun w => count_ans h0 h1 (fun t ht => (R t ht).1) w la
  have g1 : eg1 la tZ n0 n1 gS gP se = dg1 la (dj gS gP) mn se tr tm n0 n1 := by
    unfold eg1 dg1
    rw [cn, cn, cn, cn, cn, cn, cn, cn]
  have g2 : eg2 la tZ n0 n1 gS gP se = dg2 la (dj gS gP) mn se tr tm n0 n1 := by
    unfold eg2 dg2
    rw [g1, lk_by (gS := gS) (gP := gP) (se := se) h0 h1 (w := 0) (by decide +kernel), lk_by (gS := gS) (gP := gP) (se := se) h0 h1 (w := 1) (by decide +kernel), lk_by (gS := gS) (gP := gP) (se := se) h0 h1 (w := 2) (by decide +kernel), lk_by (gS := gS) (gP := gP) (se := se) h0 h1 (w := 3) (by decide +kernel)]
  have g3 : eg3 la tZ n0 n1 gS gP se = dg3 la (dj gS gP) mn se tr tm n0 n1 := by
    unfold eg3 dg3 dSky
    rw [g2, eS_dS hn0 hn1 _ n1 (Nat.le_refl _), eB_dB (mn := mn) h0 hn0 hb _ n0 (Nat.le_refl _)]
  have g4 : eg4 la tZ n0 n1 gS gP se = dg4 la (dj gS gP) mn se tr tm n0 n1 := by
    unfold eg4 dg4
    rw [g3, bt_by 0 two_0, bt_by 1 two_1, sp_by 0 two_0, sp_by 1 two_1, wrong_ans]
    unfold s_turn kU s_X12_wrong
    rfl
  unfold s_digest s_X12_digest
  rw [g4, eT_1 R _ 4 (Nat.le_refl _)]
