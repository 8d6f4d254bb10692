/-! THE METHODS OF THE CLASS: what follows from stars, spots, settings -/
abbrev kV (n0 n1 : Nat) (gS gP se : Nat → Int32) : mVS := mVotes (dj gS gP) se n0 n1 (-1)
abbrev kT (n0 n1 : Nat) (gS gP se : Nat → Int32) : mTS := rT (dj gS gP) se n0 n1 (-1)
abbrev kU (n0 n1 : Nat) (gS gP se : Nat → Int32) : Int32 := rU (dj gS gP) se n0 n1 (-1)
abbrev kP (n0 n1 : Nat) (gS gP se : Nat → Int32) : Nat → Int32 := rP (dj gS gP) se n0 n1 (-1)
abbrev kC (n0 n1 : Nat) (gS gP se : Nat → Int32) : mCS := rC (dj gS gP) se n0 n1 (-1)
/-- the class's pairs, turn, confirmed spots are the reference's -/
def cTie (n0 n1 : Nat) (gS gP se : Nat → Int32) (T : cTS) (U : cUS) (X : cCS) : Prop := (∀ p, p < 8 → T.1 p = (kT n0 n1 gS gP se).1 p ∧ T.2.1 p = (kT n0 n1 gS gP se).2.1 p) ∧ T.2.2.2.2 = (kT n0 n1 gS gP se).2.2.2 ∧ U.1 = kU n0 n1 gS gP se ∧ (kU n0 n1 gS gP se = 1 → ∀ j, j < 3 * n0 → U.2.2.2 j = kP n0 n1 gS gP se j) ∧ (∀ p, p < 8 → X.2.1 p = (kC n0 n1 gS gP se).2.1 p ∧ X.2.2.1 p = (kC n0 n1 gS gP se).2.2.1 p) ∧ X.2.2.2 = (kC n0 n1 gS gP se).2.2.2
def cHK (n0 n1 : Nat) (gS gP se : Nat → Int32) : Prop := (cWp n0 n1 gS gP se).1 = (kV n0 n1 gS gP se).2.2 ∧ (cWp n0 n1 gS gP se).2.2 = (kV n0 n1 gS gP se).2.1 ∧ (∀ j, j < 96 → (cWp n0 n1 gS gP se).2.1 j = (kV n0 n1 gS gP se).1 j) ∧ ∀ (tp : Nat → Int32) (sta spa : Nat → Int64) (pl : Nat → Int32), cTie n0 n1 gS gP se (cTake (cWp n0 n1 gS gP se).2.1 (se 2) n0 n1 tp) (cSolU n0 n1 gS gP (cTake (cWp n0 n1 gS gP se).2.1 (se 2) n0 n1 tp) sta spa pl) (cSolC n0 n1 gP se (-1) (cSolU n0 n1 gS gP (cTake (cWp n0 n1 gS gP se).2.1 (se 2) n0 n1 tp) sta spa pl))
theorem cKn_tie {ca ad : Nat → Nat} {n0 n1 : Nat} {gS gP se : Nat → Int32} {lo ma : Int32} {u : Nat → va_E} (hX : cHK n0 n1 gS gP se) (hk : cKn ca ad n0 n1 gS gP se lo ma u) : lo = (kV n0 n1 gS gP se).2.2 ∧ ma = (kV n0 n1 gS gP se).2.1 ∧ ∃ (mt : Int32) (vo : Nat → Int32), u 12 = .inr (4, [.ref (ad 13), .int (se 1), .int mt]) ∧ u 13 = .inl (ca 0, 96, .inl vo) ∧ (∀ j, j < 96 → vo j = (kV n0 n1 gS gP se).1 j) ∧ ∃ (T : cTS) (U : cUS) (X : cCS), cFxV ca ad u T U X ∧ cTie n0 n1 gS gP se T U X := by
  obtain ⟨e1, e2, e3, e4, tp, sta, spa, pl, e5⟩ := hk
  obtain ⟨x1, x2, x3, x4⟩ := hX
  exact ⟨e1.trans x1, e2.trans x2, _, _, e3, e4, x3, _, _, _, e5, x4 tp sta spa pl⟩
theorem sw_out4 {x : Int32} (h0 : ¬ x = 0) (h1 : ¬ x = 1) (h2 : ¬ x = 2) (h3 : ¬ x = 3) : x.toInt < 0 ∨ 3 < x.toInt := by
  rw [i32_eq] at h0 h1 h2 h3
  have e0 : (0 : Int32).toInt = 0 := rfl
  have e1 : (1 : Int32).toInt = 1 := rfl
  have e2 : (2 : Int32).toInt = 2 := rfl
  have e3 : (3 : Int32).toInt = 3 := rfl
  omega
/-- a number that is there -/
theorem has_n {x : Int32} {n : Nat} (hn : n < 2 ^ 31) (h : ¬ s_X1_has x (nI n) = 0) : ∃ i, i < n ∧ x = nI i := by
  unfold s_X1_has at h
  by_cases a : x < 0
  · rw [if_pos a] at h; exact absurd rfl h
  · rw [if_neg a] at h
    by_cases b : nI n ≤ x
    · rw [if_pos b] at h; exact absurd rfl h
    · rw [i32_lt] at a
      rw [i32_le, nI_toInt hn] at b
      have e0 : (0 : Int32).toInt = 0 := rfl
      exact vp_in_of (vin (by omega) (by omega)) hn
theorem one0_n {x : Int32} {n : Nat} (hn : n ≤ 12) (h : ¬ s_isOne0 x n = 0) : ∃ i, i < n ∧ x = nI i := by
  unfold s_isOne0 at h
  by_cases a : s_X1_has x (nI n) = 0
  · rw [if_pos a] at h; exact absurd rfl h
  · exact has_n (by omega) a
theorem one1_n {x : Int32} {n : Nat} (hn : n ≤ 8) (h : ¬ s_isOne1 x n = 0) : ∃ i, i < n ∧ x = nI i := by
  unfold s_isOne1 at h
  by_cases a : s_X1_has x (nI n) = 0
  · rw [if_pos a] at h; exact absurd rfl h
  · exact has_n (by omega) a
theorem one1_in {x : Int32} {n : Nat} (hn : n ≤ 8) (h : ¬ s_isOne1 x n = 0) : vp_in x 8 := by
  obtain ⟨i, h1, rfl⟩ := one1_n hn h
  exact vp_in_nI (by omega) (by omega)
theorem one1_cl {x : Int32} {n : Nat} (hn : n ≤ 8) (h : ¬ s_isOne1 x n = 0) : x.toNatClampNeg < 8 := by
  obtain ⟨i, h1, rfl⟩ := one1_n hn h
  rw [nI_clamp (by omega)]; omega
theorem pair_n {p i : Int32} {n0 n1 : Nat} (hn0 : n0 ≤ 12) (hn1 : n1 ≤ 8) (hp : ¬ s_isOne1 p n1 = 0) (hi : ¬ s_isOne0 i n0 = 0) : vp_in (s_X11_pairOf p i) 96 ∧ (s_X11_pairOf p i).toNatClampNeg < 96 := by
  obtain ⟨a, h1, rfl⟩ := one1_n hn1 hp
  obtain ⟨b, h2, rfl⟩ := one0_n hn0 hi
  rw [pairN]
  exact ⟨vp_in_nI (by omega) (by omega), by rw [nI_clamp (by omega)]; omega⟩
theorem place_n {i w : Int32} {n0 : Nat} (hn0 : n0 ≤ 12) (hi : ¬ s_isOne0 i n0 = 0) (hw : ¬ s_X11_isWithin w (0 : Int32) (2 : Int32) = 0) : vp_in ((3 * i) + w) 36 ∧ ((3 * i) + w).toNatClampNeg < 3 * n0 := by
  obtain ⟨a, h1, rfl⟩ := one0_n hn0 hi
  have h := in_yes.mp hw
  have e0 : (0 : Int32).toInt = 0 := rfl
  have e2 : (2 : Int32).toInt = 2 := rfl
  obtain ⟨b, h2, rfl⟩ := vp_in_of (x := w) (n := 3) (vin (by omega) (by omega)) (by omega)
  rw [i3_c]
  exact ⟨vp_in_nI (by omega) (by omega), by rw [nI_clamp (by omega)]; omega⟩
theorem kU_1 {n0 n1 : Nat} {gS gP se : Nat → Int32} (h : ¬ kU n0 n1 gS gP se = 0) : kU n0 n1 gS gP se = 1 := by
  rcases rU_01 (dj gS gP) se n0 n1 (-1) with q | q
  · exact absurd q h
  · exact q
theorem cWb_c {a b c d : Nat → Int32} : ∀ n, (∀ p, p < n → a p = c p ∧ b p = d p) → cWb a b n = cWb c d n
  | 0, _ => rfl
  | n + 1, h => by
    have ih := cWb_c n (fun p hp => h p (by omega))
    show (if a n = -1 then cWb a b n else if a n = b n then cWb a b n else cWb a b n ||| (1 <<< (nI n &&& 31))) = (if c n = -1 then cWb c d n else if c n = d n then cWb c d n else cWb c d n ||| (1 <<< (nI n &&& 31)))
    rw [ih, (h n (by omega)).1, (h n (by omega)).2]
theorem cBet_0 {kc : Nat → Int32} (h : ¬ kc 0 ≤ -1) (b : Int32) : ∀ n, cBet kc b (n + 1) = cBet kc 0 (n + 1)
  | 0 => by
    show (if kc 0 ≤ -1 then (b, (-1 : Int32)) else (nI 0 * 50, kc 0)) = (if kc 0 ≤ -1 then ((0 : Int32), (-1 : Int32)) else (nI 0 * 50, kc 0))
    rw [if_neg h, if_neg h]
  | n + 1 => by
    show (if kc (n + 1) ≤ (cBet kc b (n + 1)).2 then cBet kc b (n + 1) else (nI (n + 1) * 50, kc (n + 1))) = (if kc (n + 1) ≤ (cBet kc 0 (n + 1)).2 then cBet kc 0 (n + 1) else (nI (n + 1) * 50, kc (n + 1)))
    rw [cBet_0 h b n]

def s_looks (w : Int32) (n0 n1 : Nat) (gS gP se : Nat → Int32) : Int32 := if w = 0 then s_X11_trianglesOf (nI n0) else if w = 1 then s_X11_trianglesOf (nI n1) else if w = 2 then (kV n0 n1 gS gP se).2.2 else if w = 3 then (kV n0 n1 gS gP se).2.1 else -2
set_option maxHeartbeats 400000 in
set_option maxRecDepth 100000 in
theorem c_looks {l : Launch} {D : va_G} {ca ss ad : Nat → Nat} {f : Nat → va_E} (w : Int32)  (la : Int32) (n0 n1 : Nat) (gS gP se : Nat → Int32) (hc0 : f 0 = .inr (10, [.ref (ad 1), .ref (ad 69), .ref (ad 70), .int la])) (hI : cSI ca ad n0 n1 gS gP se f) (hX : cHK n0 n1 gS gP se) : gMi l D ca ss ad 108 yX11_looks cX11_looks 2 (some .int) 6 f [.ref (ad 0), .int w] (fun r u => r = s_looks w n0 n1 gS gP se ∧ cSI ca ad n0 n1 gS gP se u ∧ ∀ k, k = 0 ∨ 69 ≤ k → u k = f k) := by
  refine gMi_ofK (by decide +kernel) (Nat.le_of_ble_eq_true rfl) (lv0 := [(0, .ref (ad 0)), (1, .int w)]) rfl (fun pT eT sT mT aT below meth cT AT QT C RT => ?_)
  have C : gX pT sT mT aT meth cT AT D ca ss 2 RX11 cX11_looks (some .int) := C
  have hI0 := hI
  obtain ⟨⟨hn0, hn1, hc2, hc3, hc4, hc5, hc6⟩, ⟨hM, hP, hT, hR, hF, hG⟩, lo, ma, bt, bc, sp, sc, fk, bk, sk, hc1, hfk, hbk, hsk⟩ := hI
  have hI := hI0
  refine gj_iload_n C 1 dX11_looks_0 rfl 1 rfl ?_
  by_cases c_1 : w = 0
  · refine gj_tableIn C 32 dX11_looks_1 (by rw [c_1]; decide) (by rw [c_1]; decide) (off := 31) (by rw [c_1]; decide) (by decide) ?_
    refine gj_aload_n C 0 dX11_looks_32 rfl 0 rfl ?_
    refine gj_get C 0 (by decide) hc0 inX11 rfl 0 (by decide) w_357 (v := .ref (ad 1)) rfl dX11_looks_33 ?_
    refine gj_getN C 1 (by decide) hc1 inX6 rfl 0 (by decide) w_253 (v := .ref (ad 2)) rfl dX11_looks_36 ?_
    refine gj_callVi C mi_X1_size w_400 2 (by decide) hc2 rfl (c_X1_size 2 3 (12 : Int32) (nI n0) 36 gS hc2 hc3 (by decide) (by decide) (by decide)) mc_X1_size ⟨Nat.le_of_ble_eq_true rfl, Nat.le_of_ble_eq_true rfl⟩ (rest := []) rfl (Nat.le_of_ble_eq_true rfl) dX11_looks_39 (fun r u h => ?_)
    obtain ⟨hr_, h⟩ := h; rw [hr_]
    rw [h]
    refine gj_seti (y := nI n0) rfl ?_
    refine gj_callSi C w_505 w_504 (c_X11_trianglesOf (nI n0)) mc_X11_trianglesOf ⟨Nat.le_of_ble_eq_true rfl, Nat.le_of_ble_eq_true rfl⟩ (rest := []) rfl (Nat.le_of_ble_eq_true rfl) dX11_looks_42 (fun r u h => ?_)
    obtain ⟨hr_, h⟩ := h; rw [hr_]
    rw [h]
    exact RT _ _ _ _ ⟨(by unfold s_looks; rw [if_pos c_1]), hI, fun k _ => rfl⟩ dX11_looks_45
  · by_cases c_2 : w = 1
    · refine gj_tableIn C 46 dX11_looks_1 (by rw [c_2]; decide) (by rw [c_2]; decide) (off := 45) (by rw [c_2]; decide) (by decide) ?_
      refine gj_aload_n C 0 dX11_looks_46 rfl 0 rfl ?_
      refine gj_get C 0 (by decide) hc0 inX11 rfl 0 (by decide) w_357 (v := .ref (ad 1)) rfl dX11_looks_47 ?_
      refine gj_getN C 1 (by decide) hc1 inX6 rfl 1 (by decide) w_255 (v := .ref (ad 4)) rfl dX11_looks_50 ?_
      refine gj_callVi C mi_X1_size w_400 4 (by decide) hc4 rfl (c_X1_size 4 5 (8 : Int32) (nI n1) 24 gP hc4 hc5 (by decide) (by decide) (by decide)) mc_X1_size ⟨Nat.le_of_ble_eq_true rfl, Nat.le_of_ble_eq_true rfl⟩ (rest := []) rfl (Nat.le_of_ble_eq_true rfl) dX11_looks_53 (fun r u h => ?_)
      obtain ⟨hr_, h⟩ := h; rw [hr_]
      rw [h]
      refine gj_seti (y := nI n1) rfl ?_
      refine gj_callSi C w_505 w_504 (c_X11_trianglesOf (nI n1)) mc_X11_trianglesOf ⟨Nat.le_of_ble_eq_true rfl, Nat.le_of_ble_eq_true rfl⟩ (rest := []) rfl (Nat.le_of_ble_eq_true rfl) dX11_looks_56 (fun r u h => ?_)
      obtain ⟨hr_, h⟩ := h; rw [hr_]
      rw [h]
      exact RT _ _ _ _ ⟨(by unfold s_looks; rw [if_neg c_1, if_pos c_2]), hI, fun k _ => rfl⟩ dX11_looks_59
    · by_cases c_3 : w = 2
      · refine gj_tableIn C 60 dX11_looks_1 (by rw [c_3]; decide) (by rw [c_3]; decide) (off := 59) (by rw [c_3]; decide) (by decide) ?_
        refine gj_aload_n C 0 dX11_looks_60 rfl 0 rfl ?_
        refine gj_get C 0 (by decide) hc0 inX11 rfl 0 (by decide) w_357 (v := .ref (ad 1)) rfl dX11_looks_61 ?_
        refine gj_callVr C mi_X6_known w_507 1 (by decide) hc1 rfl (c_known n0 n1 gS gP se hI) mc_X6_known ⟨Nat.le_of_ble_eq_true rfl, Nat.le_of_ble_eq_true rfl⟩ (rest := []) rfl (Nat.le_of_ble_eq_true rfl) dX11_looks_64 (fun r uK h => ?_)
        obtain ⟨hr_, hK, hsm⟩ := h; rw [hr_]
        obtain ⟨hI, lo, ma, bt, bc, sp, sc, bk, sk, hu1, hkn⟩ := hK
        obtain ⟨hlo, hma, mt, vo, hu12, hu13, hvo, kTt, kUu, kCc, ⟨hu47, hu48, hu49, hu50, hu51, hu52, hu53, hu55, hu57, hu54, hu56⟩, tie1, tie2, tie3, tie4, tie5, tie6⟩ := cKn_tie hX hkn
        have hu0 := (hsm 0 (Or.inl rfl)).trans hc0
        have hI_ := hI
        obtain ⟨⟨-, -, hu2, hu3, hu4, hu5, hu6⟩, -⟩ := hI_
        refine gj_getN C 1 (by decide) hu1 inX6 rfl 9 (by decide) w_267 (v := .int lo) rfl dX11_looks_67 ?_
        exact RT _ _ _ _ ⟨(by unfold s_looks; rw [if_neg c_1, if_neg c_2, if_pos c_3]; exact hlo), hI, hsm⟩ dX11_looks_70
      · by_cases c_4 : w = 3
        · refine gj_tableIn C 71 dX11_looks_1 (by rw [c_4]; decide) (by rw [c_4]; decide) (off := 70) (by rw [c_4]; decide) (by decide) ?_
          refine gj_aload_n C 0 dX11_looks_71 rfl 0 rfl ?_
          refine gj_get C 0 (by decide) hc0 inX11 rfl 0 (by decide) w_357 (v := .ref (ad 1)) rfl dX11_looks_72 ?_
          refine gj_callVr C mi_X6_known w_507 1 (by decide) hc1 rfl (c_known n0 n1 gS gP se hI) mc_X6_known ⟨Nat.le_of_ble_eq_true rfl, Nat.le_of_ble_eq_true rfl⟩ (rest := []) rfl (Nat.le_of_ble_eq_true rfl) dX11_looks_75 (fun r uK h => ?_)
          obtain ⟨hr_, hK, hsm⟩ := h; rw [hr_]
          obtain ⟨hI, lo, ma, bt, bc, sp, sc, bk, sk, hu1, hkn⟩ := hK
          obtain ⟨hlo, hma, mt, vo, hu12, hu13, hvo, kTt, kUu, kCc, ⟨hu47, hu48, hu49, hu50, hu51, hu52, hu53, hu55, hu57, hu54, hu56⟩, tie1, tie2, tie3, tie4, tie5, tie6⟩ := cKn_tie hX hkn
          have hu0 := (hsm 0 (Or.inl rfl)).trans hc0
          have hI_ := hI
          obtain ⟨⟨-, -, hu2, hu3, hu4, hu5, hu6⟩, -⟩ := hI_
          refine gj_getN C 1 (by decide) hu1 inX6 rfl 10 (by decide) w_269 (v := .int ma) rfl dX11_looks_78 ?_
          exact RT _ _ _ _ ⟨(by unfold s_looks; rw [if_neg c_1, if_neg c_2, if_neg c_3, if_pos c_4]; exact hma), hI, hsm⟩ dX11_looks_81
        · refine gj_tableOut C 82 dX11_looks_1 (sw_out4 c_1 c_2 c_3 c_4) (by decide) ?_
          refine gj_bipush C (v := (-2)) (by decide) dX11_looks_82 ?_
          exact RT _ _ _ _ ⟨(by unfold s_looks; rw [if_neg c_1, if_neg c_2, if_neg c_3, if_neg c_4]), hI, fun k _ => rfl⟩ dX11_looks_84
def s_votes (p i : Int32) (n0 n1 : Nat) (gS gP se : Nat → Int32) : Int32 := if s_isOne1 p n1 = 0 then -2 else if s_isOne0 i n0 = 0 then -2 else (kV n0 n1 gS gP se).1 (s_X11_pairOf p i).toNatClampNeg
set_option maxHeartbeats 400000 in
set_option maxRecDepth 100000 in
theorem c_votes {l : Launch} {D : va_G} {ca ss ad : Nat → Nat} {f : Nat → va_E} (p i : Int32)  (la : Int32) (n0 n1 : Nat) (gS gP se : Nat → Int32) (hc0 : f 0 = .inr (10, [.ref (ad 1), .ref (ad 69), .ref (ad 70), .int la])) (hI : cSI ca ad n0 n1 gS gP se f) (hX : cHK n0 n1 gS gP se) : gMi l D ca ss ad 108 yX11_votes cX11_votes 3 (some .int) 6 f [.ref (ad 0), .int p, .int i] (fun r u => r = s_votes p i n0 n1 gS gP se ∧ cSI ca ad n0 n1 gS gP se u ∧ ∀ k, k = 0 ∨ 69 ≤ k → u k = f k) := by
  refine gMi_ofK (by decide +kernel) (Nat.le_of_ble_eq_true rfl) (lv0 := [(0, .ref (ad 0)), (1, .int p), (2, .int i)]) rfl (fun pT eT sT mT aT below meth cT AT QT C RT => ?_)
  have C : gX pT sT mT aT meth cT AT D ca ss 3 RX11 cX11_votes (some .int) := C
  have hI0 := hI
  obtain ⟨⟨hn0, hn1, hc2, hc3, hc4, hc5, hc6⟩, ⟨hM, hP, hT, hR, hF, hG⟩, lo, ma, bt, bc, sp, sc, fk, bk, sk, hc1, hfk, hbk, hsk⟩ := hI
  have hI := hI0
  refine gj_aload_n C 0 dX11_votes_0 rfl 0 rfl ?_
  refine gj_iconst C (v := 1) (by decide) dX11_votes_1 ?_
  refine gj_iload_n C 1 dX11_votes_2 rfl 1 rfl ?_
  refine gj_callVi C mi_X11_isOne w_416 0 (by decide) hc0 rfl (c_isOne1 p la lo ma bt bc sp sc fk bk sk n0 n1 gS gP se hc0 hc1 hc2 hc3 hc4 hc5 hc6 (by first | assumption | omega) (by first | assumption | omega)) mc_X11_isOne ⟨Nat.le_of_ble_eq_true rfl, Nat.le_of_ble_eq_true rfl⟩ (rest := []) rfl (Nat.le_of_ble_eq_true rfl) dX11_votes_3 (fun r u h => ?_)
  obtain ⟨hr_, h⟩ := h; rw [hr_]
  rw [h]
  refine gj_if_eq C 18 dX11_votes_6 (by decide) (fun c_1 => ?_) (fun c_1 => ?_)
  · refine gj_bipush C (v := (-2)) (by decide) dX11_votes_18 ?_
    exact RT _ _ _ _ ⟨(by unfold s_votes; rw [if_pos c_1]), hI, fun k _ => rfl⟩ dX11_votes_20
  · refine gj_aload_n C 0 dX11_votes_9 rfl 0 rfl ?_
    refine gj_iconst C (v := 0) (by decide) dX11_votes_10 ?_
    refine gj_iload_n C 2 dX11_votes_11 rfl 2 rfl ?_
    refine gj_callVi C mi_X11_isOne w_416 0 (by decide) hc0 rfl (c_isOne0 i la lo ma bt bc sp sc fk bk sk n0 n1 gS gP se hc0 hc1 hc2 hc3 hc4 hc5 hc6 (by first | assumption | omega) (by first | assumption | omega)) mc_X11_isOne ⟨Nat.le_of_ble_eq_true rfl, Nat.le_of_ble_eq_true rfl⟩ (rest := []) rfl (Nat.le_of_ble_eq_true rfl) dX11_votes_12 (fun r u h => ?_)
    obtain ⟨hr_, h⟩ := h; rw [hr_]
    rw [h]
    refine gj_if_ne C 21 dX11_votes_15 (by decide) (fun c_2 => ?_) (fun c_2 => ?_)
    · refine gj_aload_n C 0 dX11_votes_21 rfl 0 rfl ?_
      refine gj_get C 0 (by decide) hc0 inX11 rfl 0 (by decide) w_357 (v := .ref (ad 1)) rfl dX11_votes_22 ?_
      refine gj_callVr C mi_X6_known w_507 1 (by decide) hc1 rfl (c_known n0 n1 gS gP se hI) mc_X6_known ⟨Nat.le_of_ble_eq_true rfl, Nat.le_of_ble_eq_true rfl⟩ (rest := []) rfl (Nat.le_of_ble_eq_true rfl) dX11_votes_25 (fun r uK h => ?_)
      obtain ⟨hr_, hK, hsm⟩ := h; rw [hr_]
      obtain ⟨hI, lo, ma, bt, bc, sp, sc, bk, sk, hu1, hkn⟩ := hK
      obtain ⟨hlo, hma, mt, vo, hu12, hu13, hvo, kTt, kUu, kCc, ⟨hu47, hu48, hu49, hu50, hu51, hu52, hu53, hu55, hu57, hu54, hu56⟩, tie1, tie2, tie3, tie4, tie5, tie6⟩ := cKn_tie hX hkn
      have hu0 := (hsm 0 (Or.inl rfl)).trans hc0
      have hI_ := hI
      obtain ⟨⟨-, -, hu2, hu3, hu4, hu5, hu6⟩, -⟩ := hI_
      refine gj_getN C 1 (by decide) hu1 inX6 rfl 4 (by decide) w_260 (v := .ref (ad 12)) rfl dX11_votes_28 ?_
      refine gj_getN C 12 (by decide) hu12 inX4 rfl 0 (by decide) w_151 (v := .ref (ad 13)) rfl dX11_votes_31 ?_
      refine gj_iload_n C 1 dX11_votes_34 rfl 1 rfl ?_
      refine gj_iload_n C 2 dX11_votes_35 rfl 2 rfl ?_
      refine gj_callSi C w_557 w_646 (c_X11_pairOf p i) mc_X11_pairOf ⟨Nat.le_of_ble_eq_true rfl, Nat.le_of_ble_eq_true rfl⟩ (rest := [.ref (ad 13)]) rfl (Nat.le_of_ble_eq_true rfl) dX11_votes_36 (fun r u h => ?_)
      obtain ⟨hr_, h⟩ := h; rw [hr_]
      rw [h]
      refine gj_iald C 13 (by decide) hu13 (pair_n hn0 hn1 c_1 c_2).1 dX11_votes_39 ?_
      exact RT _ _ _ _ ⟨(by unfold s_votes; rw [if_neg c_1, if_neg c_2]; exact hvo _ (pair_n hn0 hn1 c_1 c_2).2), hI, hsm⟩ dX11_votes_40
    · refine gj_bipush C (v := (-2)) (by decide) dX11_votes_18 ?_
      exact RT _ _ _ _ ⟨(by unfold s_votes; rw [if_neg c_1, if_pos c_2]), hI, fun k _ => rfl⟩ dX11_votes_20
def s_taken (p w : Int32) (n0 n1 : Nat) (gS gP se : Nat → Int32) : Int32 := if s_isOne1 p n1 = 0 then -2 else if s_X11_isWithin w (0 : Int32) (1 : Int32) = 0 then -2 else if w = 0 then (kT n0 n1 gS gP se).1 p.toNatClampNeg else (kT n0 n1 gS gP se).2.1 p.toNatClampNeg
set_option maxHeartbeats 400000 in
set_option maxRecDepth 100000 in
theorem c_taken {l : Launch} {D : va_G} {ca ss ad : Nat → Nat} {f : Nat → va_E} (p w : Int32)  (la : Int32) (n0 n1 : Nat) (gS gP se : Nat → Int32) (hc0 : f 0 = .inr (10, [.ref (ad 1), .ref (ad 69), .ref (ad 70), .int la])) (hI : cSI ca ad n0 n1 gS gP se f) (hX : cHK n0 n1 gS gP se) : gMi l D ca ss ad 108 yX11_taken cX11_taken 4 (some .int) 6 f [.ref (ad 0), .int p, .int w] (fun r u => r = s_taken p w n0 n1 gS gP se ∧ cSI ca ad n0 n1 gS gP se u ∧ ∀ k, k = 0 ∨ 69 ≤ k → u k = f k) := by
  refine gMi_ofK (by decide +kernel) (Nat.le_of_ble_eq_true rfl) (lv0 := [(0, .ref (ad 0)), (1, .int p), (2, .int w)]) rfl (fun pT eT sT mT aT below meth cT AT QT C RT => ?_)
  have C : gX pT sT mT aT meth cT AT D ca ss 4 RX11 cX11_taken (some .int) := C
  have hI0 := hI
  obtain ⟨⟨hn0, hn1, hc2, hc3, hc4, hc5, hc6⟩, ⟨hM, hP, hT, hR, hF, hG⟩, lo, ma, bt, bc, sp, sc, fk, bk, sk, hc1, hfk, hbk, hsk⟩ := hI
  have hI := hI0
  refine gj_aload_n C 0 dX11_taken_0 rfl 0 rfl ?_
  refine gj_iconst C (v := 1) (by decide) dX11_taken_1 ?_
  refine gj_iload_n C 1 dX11_taken_2 rfl 1 rfl ?_
  refine gj_callVi C mi_X11_isOne w_416 0 (by decide) hc0 rfl (c_isOne1 p la lo ma bt bc sp sc fk bk sk n0 n1 gS gP se hc0 hc1 hc2 hc3 hc4 hc5 hc6 (by first | assumption | omega) (by first | assumption | omega)) mc_X11_isOne ⟨Nat.le_of_ble_eq_true rfl, Nat.le_of_ble_eq_true rfl⟩ (rest := []) rfl (Nat.le_of_ble_eq_true rfl) dX11_taken_3 (fun r u h => ?_)
  obtain ⟨hr_, h⟩ := h; rw [hr_]
  rw [h]
  refine gj_if_eq C 18 dX11_taken_6 (by decide) (fun c_1 => ?_) (fun c_1 => ?_)
  · refine gj_bipush C (v := (-2)) (by decide) dX11_taken_18 ?_
    exact RT _ _ _ _ ⟨(by unfold s_taken; rw [if_pos c_1]), hI, fun k _ => rfl⟩ dX11_taken_20
  · refine gj_iload_n C 2 dX11_taken_9 rfl 2 rfl ?_
    refine gj_iconst C (v := 0) (by decide) dX11_taken_10 ?_
    refine gj_iconst C (v := 1) (by decide) dX11_taken_11 ?_
    refine gj_callSi C w_381 w_380 (c_X11_isWithin w (0 : Int32) (1 : Int32)) mc_X11_isWithin ⟨Nat.le_of_ble_eq_true rfl, Nat.le_of_ble_eq_true rfl⟩ (rest := []) rfl (Nat.le_of_ble_eq_true rfl) dX11_taken_12 (fun r u h => ?_)
    obtain ⟨hr_, h⟩ := h; rw [hr_]
    rw [h]
    refine gj_if_ne C 21 dX11_taken_15 (by decide) (fun c_2 => ?_) (fun c_2 => ?_)
    · refine gj_aload_n C 0 dX11_taken_21 rfl 0 rfl ?_
      refine gj_get C 0 (by decide) hc0 inX11 rfl 0 (by decide) w_357 (v := .ref (ad 1)) rfl dX11_taken_22 ?_
      refine gj_callVr C mi_X6_known w_507 1 (by decide) hc1 rfl (c_known n0 n1 gS gP se hI) mc_X6_known ⟨Nat.le_of_ble_eq_true rfl, Nat.le_of_ble_eq_true rfl⟩ (rest := []) rfl (Nat.le_of_ble_eq_true rfl) dX11_taken_25 (fun r uK h => ?_)
      obtain ⟨hr_, hK, hsm⟩ := h; rw [hr_]
      obtain ⟨hI, lo, ma, bt, bc, sp, sc, bk, sk, hu1, hkn⟩ := hK
      obtain ⟨hlo, hma, mt, vo, hu12, hu13, hvo, kTt, kUu, kCc, ⟨hu47, hu48, hu49, hu50, hu51, hu52, hu53, hu55, hu57, hu54, hu56⟩, tie1, tie2, tie3, tie4, tie5, tie6⟩ := cKn_tie hX hkn
      have hu0 := (hsm 0 (Or.inl rfl)).trans hc0
      have hI_ := hI
      obtain ⟨⟨-, -, hu2, hu3, hu4, hu5, hu6⟩, -⟩ := hI_
      refine gj_getN C 1 (by decide) hu1 inX6 rfl 7 (by decide) w_264 (v := .ref (ad 47)) rfl dX11_taken_28 ?_
      refine gj_astore_n C (lv' := [(3, .ref (ad 47)), (0, .ref (ad 0)), (1, .int p), (2, .int w)]) 3 dX11_taken_31 rfl (by decide) rfl ?_
      refine gj_iload_n C 2 dX11_taken_32 rfl 3 rfl ?_
      refine gj_if_ne C 45 dX11_taken_33 (by decide) (fun c_3 => ?_) (fun c_3 => ?_)
      · refine gj_aload_n C 3 dX11_taken_45 rfl 0 rfl ?_
        refine gj_getN C 47 (by decide) hu47 inX2 rfl 1 (by decide) w_209 (v := .ref (ad 49)) rfl dX11_taken_46 ?_
        refine gj_iload_n C 1 dX11_taken_49 rfl 2 rfl ?_
        refine gj_iald C 49 (by decide) hu49 (one1_in hn1 c_1) dX11_taken_50 ?_
        exact RT _ _ _ _ ⟨(by unfold s_taken; rw [if_neg c_1, if_neg c_2, if_neg c_3]; exact (tie1 _ (one1_cl hn1 c_1)).2), hI, hsm⟩ dX11_taken_51
      · refine gj_aload_n C 3 dX11_taken_36 rfl 0 rfl ?_
        refine gj_getN C 47 (by decide) hu47 inX2 rfl 0 (by decide) w_207 (v := .ref (ad 48)) rfl dX11_taken_37 ?_
        refine gj_iload_n C 1 dX11_taken_40 rfl 2 rfl ?_
        refine gj_iald C 48 (by decide) hu48 (one1_in hn1 c_1) dX11_taken_41 ?_
        refine gj_goto C 51 dX11_taken_42 (by decide) ?_
        exact RT _ _ _ _ ⟨(by unfold s_taken; rw [if_neg c_1, if_neg c_2, if_pos c_3]; exact (tie1 _ (one1_cl hn1 c_1)).1), hI, hsm⟩ dX11_taken_51
    · refine gj_bipush C (v := (-2)) (by decide) dX11_taken_18 ?_
      exact RT _ _ _ _ ⟨(by unfold s_taken; rw [if_neg c_1, if_pos c_2]), hI, fun k _ => rfl⟩ dX11_taken_20
def s_confirmed (p w : Int32) (n0 n1 : Nat) (gS gP se : Nat → Int32) : Int32 := if s_isOne1 p n1 = 0 then -2 else if s_X11_isWithin w (0 : Int32) (1 : Int32) = 0 then -2 else if w = 0 then (kC n0 n1 gS gP se).2.1 p.toNatClampNeg else (kC n0 n1 gS gP se).2.2.1 p.toNatClampNeg
set_option maxHeartbeats 400000 in
set_option maxRecDepth 100000 in
theorem c_confirmed {l : Launch} {D : va_G} {ca ss ad : Nat → Nat} {f : Nat → va_E} (p w : Int32)  (la : Int32) (n0 n1 : Nat) (gS gP se : Nat → Int32) (hc0 : f 0 = .inr (10, [.ref (ad 1), .ref (ad 69), .ref (ad 70), .int la])) (hI : cSI ca ad n0 n1 gS gP se f) (hX : cHK n0 n1 gS gP se) : gMi l D ca ss ad 108 yX11_confirmed cX11_confirmed 4 (some .int) 6 f [.ref (ad 0), .int p, .int w] (fun r u => r = s_confirmed p w n0 n1 gS gP se ∧ cSI ca ad n0 n1 gS gP se u ∧ ∀ k, k = 0 ∨ 69 ≤ k → u k = f k) := by
  refine gMi_ofK (by decide +kernel) (Nat.le_of_ble_eq_true rfl) (lv0 := [(0, .ref (ad 0)), (1, .int p), (2, .int w)]) rfl (fun pT eT sT mT aT below meth cT AT QT C RT => ?_)
  have C : gX pT sT mT aT meth cT AT D ca ss 4 RX11 cX11_confirmed (some .int) := C
  have hI0 := hI
  obtain ⟨⟨hn0, hn1, hc2, hc3, hc4, hc5, hc6⟩, ⟨hM, hP, hT, hR, hF, hG⟩, lo, ma, bt, bc, sp, sc, fk, bk, sk, hc1, hfk, hbk, hsk⟩ := hI
  have hI := hI0
  refine gj_aload_n C 0 dX11_confirmed_0 rfl 0 rfl ?_
  refine gj_iconst C (v := 1) (by decide) dX11_confirmed_1 ?_
  refine gj_iload_n C 1 dX11_confirmed_2 rfl 1 rfl ?_
  refine gj_callVi C mi_X11_isOne w_416 0 (by decide) hc0 rfl (c_isOne1 p la lo ma bt bc sp sc fk bk sk n0 n1 gS gP se hc0 hc1 hc2 hc3 hc4 hc5 hc6 (by first | assumption | omega) (by first | assumption | omega)) mc_X11_isOne ⟨Nat.le_of_ble_eq_true rfl, Nat.le_of_ble_eq_true rfl⟩ (rest := []) rfl (Nat.le_of_ble_eq_true rfl) dX11_confirmed_3 (fun r u h => ?_)
  obtain ⟨hr_, h⟩ := h; rw [hr_]
  rw [h]
  refine gj_if_eq C 18 dX11_confirmed_6 (by decide) (fun c_1 => ?_) (fun c_1 => ?_)
  · refine gj_bipush C (v := (-2)) (by decide) dX11_confirmed_18 ?_
    exact RT _ _ _ _ ⟨(by unfold s_confirmed; rw [if_pos c_1]), hI, fun k _ => rfl⟩ dX11_confirmed_20
  · refine gj_iload_n C 2 dX11_confirmed_9 rfl 2 rfl ?_
    refine gj_iconst C (v := 0) (by decide) dX11_confirmed_10 ?_
    refine gj_iconst C (v := 1) (by decide) dX11_confirmed_11 ?_
    refine gj_callSi C w_381 w_380 (c_X11_isWithin w (0 : Int32) (1 : Int32)) mc_X11_isWithin ⟨Nat.le_of_ble_eq_true rfl, Nat.le_of_ble_eq_true rfl⟩ (rest := []) rfl (Nat.le_of_ble_eq_true rfl) dX11_confirmed_12 (fun r u h => ?_)
    obtain ⟨hr_, h⟩ := h; rw [hr_]
    rw [h]
    refine gj_if_ne C 21 dX11_confirmed_15 (by decide) (fun c_2 => ?_) (fun c_2 => ?_)
    · refine gj_aload_n C 0 dX11_confirmed_21 rfl 0 rfl ?_
      refine gj_get C 0 (by decide) hc0 inX11 rfl 0 (by decide) w_357 (v := .ref (ad 1)) rfl dX11_confirmed_22 ?_
      refine gj_callVr C mi_X6_known w_507 1 (by decide) hc1 rfl (c_known n0 n1 gS gP se hI) mc_X6_known ⟨Nat.le_of_ble_eq_true rfl, Nat.le_of_ble_eq_true rfl⟩ (rest := []) rfl (Nat.le_of_ble_eq_true rfl) dX11_confirmed_25 (fun r uK h => ?_)
      obtain ⟨hr_, hK, hsm⟩ := h; rw [hr_]
      obtain ⟨hI, lo, ma, bt, bc, sp, sc, bk, sk, hu1, hkn⟩ := hK
      obtain ⟨hlo, hma, mt, vo, hu12, hu13, hvo, kTt, kUu, kCc, ⟨hu47, hu48, hu49, hu50, hu51, hu52, hu53, hu55, hu57, hu54, hu56⟩, tie1, tie2, tie3, tie4, tie5, tie6⟩ := cKn_tie hX hkn
      have hu0 := (hsm 0 (Or.inl rfl)).trans hc0
      have hI_ := hI
      obtain ⟨⟨-, -, hu2, hu3, hu4, hu5, hu6⟩, -⟩ := hI_
      refine gj_getN C 1 (by decide) hu1 inX6 rfl 7 (by decide) w_264 (v := .ref (ad 47)) rfl dX11_confirmed_28 ?_
      refine gj_astore_n C (lv' := [(3, .ref (ad 47)), (0, .ref (ad 0)), (1, .int p), (2, .int w)]) 3 dX11_confirmed_31 rfl (by decide) rfl ?_
      refine gj_iload_n C 2 dX11_confirmed_32 rfl 3 rfl ?_
      refine gj_if_ne C 45 dX11_confirmed_33 (by decide) (fun c_3 => ?_) (fun c_3 => ?_)
      · refine gj_aload_n C 3 dX11_confirmed_45 rfl 0 rfl ?_
        refine gj_getN C 47 (by decide) hu47 inX2 rfl 4 (by decide) w_214 (v := .ref (ad 52)) rfl dX11_confirmed_46 ?_
        refine gj_iload_n C 1 dX11_confirmed_49 rfl 2 rfl ?_
        refine gj_iald C 52 (by decide) hu52 (one1_in hn1 c_1) dX11_confirmed_50 ?_
        exact RT _ _ _ _ ⟨(by unfold s_confirmed; rw [if_neg c_1, if_neg c_2, if_neg c_3]; exact (tie5 _ (one1_cl hn1 c_1)).2), hI, hsm⟩ dX11_confirmed_51
      · refine gj_aload_n C 3 dX11_confirmed_36 rfl 0 rfl ?_
        refine gj_getN C 47 (by decide) hu47 inX2 rfl 3 (by decide) w_212 (v := .ref (ad 51)) rfl dX11_confirmed_37 ?_
        refine gj_iload_n C 1 dX11_confirmed_40 rfl 2 rfl ?_
        refine gj_iald C 51 (by decide) hu51 (one1_in hn1 c_1) dX11_confirmed_41 ?_
        refine gj_goto C 51 dX11_confirmed_42 (by decide) ?_
        exact RT _ _ _ _ ⟨(by unfold s_confirmed; rw [if_neg c_1, if_neg c_2, if_pos c_3]; exact (tie5 _ (one1_cl hn1 c_1)).1), hI, hsm⟩ dX11_confirmed_51
    · refine gj_bipush C (v := (-2)) (by decide) dX11_confirmed_18 ?_
      exact RT _ _ _ _ ⟨(by unfold s_confirmed; rw [if_neg c_1, if_pos c_2]), hI, fun k _ => rfl⟩ dX11_confirmed_20
def s_turn (n0 n1 : Nat) (gS gP se : Nat → Int32) : Int32 := if (kU n0 n1 gS gP se) = 0 then 0 else 1
set_option maxHeartbeats 400000 in
set_option maxRecDepth 100000 in
theorem c_turn {l : Launch} {D : va_G} {ca ss ad : Nat → Nat} {f : Nat → va_E}  (la : Int32) (n0 n1 : Nat) (gS gP se : Nat → Int32) (hc0 : f 0 = .inr (10, [.ref (ad 1), .ref (ad 69), .ref (ad 70), .int la])) (hI : cSI ca ad n0 n1 gS gP se f) (hX : cHK n0 n1 gS gP se) : gMi l D ca ss ad 108 yX11_turn cX11_turn 1 (some .int) 6 f [.ref (ad 0)] (fun r u => r = s_turn  n0 n1 gS gP se ∧ cSI ca ad n0 n1 gS gP se u ∧ ∀ k, k = 0 ∨ 69 ≤ k → u k = f k) := by
  refine gMi_ofK (by decide +kernel) (Nat.le_of_ble_eq_true rfl) (lv0 := [(0, .ref (ad 0))]) rfl (fun pT eT sT mT aT below meth cT AT QT C RT => ?_)
  have C : gX pT sT mT aT meth cT AT D ca ss 1 RX11 cX11_turn (some .int) := C
  have hI0 := hI
  obtain ⟨⟨hn0, hn1, hc2, hc3, hc4, hc5, hc6⟩, ⟨hM, hP, hT, hR, hF, hG⟩, lo, ma, bt, bc, sp, sc, fk, bk, sk, hc1, hfk, hbk, hsk⟩ := hI
  have hI := hI0
  refine gj_aload_n C 0 dX11_turn_0 rfl 0 rfl ?_
  refine gj_get C 0 (by decide) hc0 inX11 rfl 0 (by decide) w_357 (v := .ref (ad 1)) rfl dX11_turn_1 ?_
  refine gj_callVr C mi_X6_known w_507 1 (by decide) hc1 rfl (c_known n0 n1 gS gP se hI) mc_X6_known ⟨Nat.le_of_ble_eq_true rfl, Nat.le_of_ble_eq_true rfl⟩ (rest := []) rfl (Nat.le_of_ble_eq_true rfl) dX11_turn_4 (fun r uK h => ?_)
  obtain ⟨hr_, hK, hsm⟩ := h; rw [hr_]
  obtain ⟨hI, lo, ma, bt, bc, sp, sc, bk, sk, hu1, hkn⟩ := hK
  obtain ⟨hlo, hma, mt, vo, hu12, hu13, hvo, kTt, kUu, kCc, ⟨hu47, hu48, hu49, hu50, hu51, hu52, hu53, hu55, hu57, hu54, hu56⟩, tie1, tie2, tie3, tie4, tie5, tie6⟩ := cKn_tie hX hkn
  have hu0 := (hsm 0 (Or.inl rfl)).trans hc0
  have hI_ := hI
  obtain ⟨⟨-, -, hu2, hu3, hu4, hu5, hu6⟩, -⟩ := hI_
  refine gj_getN C 1 (by decide) hu1 inX6 rfl 7 (by decide) w_264 (v := .ref (ad 47)) rfl dX11_turn_7 ?_
  refine gj_getN C 47 (by decide) hu47 inX2 rfl 11 (by decide) w_226 (v := .int kUu.1) rfl dX11_turn_10 ?_
  refine gj_seti (y := kU n0 n1 gS gP se) tie3 ?_
  refine gj_if_eq C 20 dX11_turn_13 (by decide) (fun c_1 => ?_) (fun c_1 => ?_)
  · refine gj_iconst C (v := 0) (by decide) dX11_turn_20 ?_
    exact RT _ _ _ _ ⟨(by unfold s_turn; rw [if_pos c_1]), hI, hsm⟩ dX11_turn_21
  · refine gj_iconst C (v := 1) (by decide) dX11_turn_16 ?_
    refine gj_goto C 21 dX11_turn_17 (by decide) ?_
    exact RT _ _ _ _ ⟨(by unfold s_turn; rw [if_neg c_1]), hI, hsm⟩ dX11_turn_21
def s_place (i w : Int32) (n0 n1 : Nat) (gS gP se : Nat → Int32) : Int32 := if s_isOne0 i n0 = 0 then -2147483648 else if s_X11_isWithin w (0 : Int32) (2 : Int32) = 0 then -2147483648 else if (kU n0 n1 gS gP se) = 0 then -2147483648 else (kP n0 n1 gS gP se) ((3 * i) + w).toNatClampNeg
set_option maxHeartbeats 400000 in
set_option maxRecDepth 100000 in
theorem c_place {l : Launch} {D : va_G} {ca ss ad : Nat → Nat} {f : Nat → va_E} (i w : Int32)  (la : Int32) (n0 n1 : Nat) (gS gP se : Nat → Int32) (hc0 : f 0 = .inr (10, [.ref (ad 1), .ref (ad 69), .ref (ad 70), .int la])) (hI : cSI ca ad n0 n1 gS gP se f) (hX : cHK n0 n1 gS gP se) : gMi l D ca ss ad 108 yX11_place cX11_place 4 (some .int) 6 f [.ref (ad 0), .int i, .int w] (fun r u => r = s_place i w n0 n1 gS gP se ∧ cSI ca ad n0 n1 gS gP se u ∧ ∀ k, k = 0 ∨ 69 ≤ k → u k = f k) := by
  refine gMi_ofK (by decide +kernel) (Nat.le_of_ble_eq_true rfl) (lv0 := [(0, .ref (ad 0)), (1, .int i), (2, .int w)]) rfl (fun pT eT sT mT aT below meth cT AT QT C RT => ?_)
  have C : gX pT sT mT aT meth cT AT D ca ss 4 RX11 cX11_place (some .int) := C
  have hI0 := hI
  obtain ⟨⟨hn0, hn1, hc2, hc3, hc4, hc5, hc6⟩, ⟨hM, hP, hT, hR, hF, hG⟩, lo, ma, bt, bc, sp, sc, fk, bk, sk, hc1, hfk, hbk, hsk⟩ := hI
  have hI := hI0
  refine gj_aload_n C 0 dX11_place_0 rfl 0 rfl ?_
  refine gj_iconst C (v := 0) (by decide) dX11_place_1 ?_
  refine gj_iload_n C 1 dX11_place_2 rfl 1 rfl ?_
  refine gj_callVi C mi_X11_isOne w_416 0 (by decide) hc0 rfl (c_isOne0 i la lo ma bt bc sp sc fk bk sk n0 n1 gS gP se hc0 hc1 hc2 hc3 hc4 hc5 hc6 (by first | assumption | omega) (by first | assumption | omega)) mc_X11_isOne ⟨Nat.le_of_ble_eq_true rfl, Nat.le_of_ble_eq_true rfl⟩ (rest := []) rfl (Nat.le_of_ble_eq_true rfl) dX11_place_3 (fun r u h => ?_)
  obtain ⟨hr_, h⟩ := h; rw [hr_]
  rw [h]
  refine gj_if_eq C 18 dX11_place_6 (by decide) (fun c_1 => ?_) (fun c_1 => ?_)
  · refine gj_ldc C (v := (-2147483648)) w_424 dX11_place_18 ?_
    exact RT _ _ _ _ ⟨(by unfold s_place; rw [if_pos c_1]), hI, fun k _ => rfl⟩ dX11_place_20
  · refine gj_iload_n C 2 dX11_place_9 rfl 2 rfl ?_
    refine gj_iconst C (v := 0) (by decide) dX11_place_10 ?_
    refine gj_iconst C (v := 2) (by decide) dX11_place_11 ?_
    refine gj_callSi C w_381 w_380 (c_X11_isWithin w (0 : Int32) (2 : Int32)) mc_X11_isWithin ⟨Nat.le_of_ble_eq_true rfl, Nat.le_of_ble_eq_true rfl⟩ (rest := []) rfl (Nat.le_of_ble_eq_true rfl) dX11_place_12 (fun r u h => ?_)
    obtain ⟨hr_, h⟩ := h; rw [hr_]
    rw [h]
    refine gj_if_ne C 21 dX11_place_15 (by decide) (fun c_2 => ?_) (fun c_2 => ?_)
    · refine gj_aload_n C 0 dX11_place_21 rfl 0 rfl ?_
      refine gj_get C 0 (by decide) hc0 inX11 rfl 0 (by decide) w_357 (v := .ref (ad 1)) rfl dX11_place_22 ?_
      refine gj_callVr C mi_X6_known w_507 1 (by decide) hc1 rfl (c_known n0 n1 gS gP se hI) mc_X6_known ⟨Nat.le_of_ble_eq_true rfl, Nat.le_of_ble_eq_true rfl⟩ (rest := []) rfl (Nat.le_of_ble_eq_true rfl) dX11_place_25 (fun r uK h => ?_)
      obtain ⟨hr_, hK, hsm⟩ := h; rw [hr_]
      obtain ⟨hI, lo, ma, bt, bc, sp, sc, bk, sk, hu1, hkn⟩ := hK
      obtain ⟨hlo, hma, mt, vo, hu12, hu13, hvo, kTt, kUu, kCc, ⟨hu47, hu48, hu49, hu50, hu51, hu52, hu53, hu55, hu57, hu54, hu56⟩, tie1, tie2, tie3, tie4, tie5, tie6⟩ := cKn_tie hX hkn
      have hu0 := (hsm 0 (Or.inl rfl)).trans hc0
      have hI_ := hI
      obtain ⟨⟨-, -, hu2, hu3, hu4, hu5, hu6⟩, -⟩ := hI_
      refine gj_getN C 1 (by decide) hu1 inX6 rfl 7 (by decide) w_264 (v := .ref (ad 47)) rfl dX11_place_28 ?_
      refine gj_astore_n C (lv' := [(3, .ref (ad 47)), (0, .ref (ad 0)), (1, .int i), (2, .int w)]) 3 dX11_place_31 rfl (by decide) rfl ?_
      refine gj_aload_n C 3 dX11_place_32 rfl 0 rfl ?_
      refine gj_getN C 47 (by decide) hu47 inX2 rfl 11 (by decide) w_226 (v := .int kUu.1) rfl dX11_place_33 ?_
      refine gj_seti (y := kU n0 n1 gS gP se) tie3 ?_
      refine gj_if_eq C 52 dX11_place_36 (by decide) (fun c_3 => ?_) (fun c_3 => ?_)
      · refine gj_ldc C (v := (-2147483648)) w_424 dX11_place_52 ?_
        exact RT _ _ _ _ ⟨(by unfold s_place; rw [if_neg c_1, if_neg c_2, if_pos c_3]), hI, hsm⟩ dX11_place_54
      · refine gj_aload_n C 3 dX11_place_39 rfl 0 rfl ?_
        refine gj_getN C 47 (by decide) hu47 inX2 rfl 5 (by decide) w_216 (v := .ref (ad 53)) rfl dX11_place_40 ?_
        refine gj_iconst C (v := 3) (by decide) dX11_place_43 ?_
        refine gj_iload_n C 1 dX11_place_44 rfl 2 rfl ?_
        refine gj_imul C dX11_place_45 ?_
        refine gj_iload_n C 2 dX11_place_46 rfl 3 rfl ?_
        refine gj_iadd C dX11_place_47 ?_
        refine gj_iald C 53 (by decide) hu53 (place_n hn0 c_1 c_2).1 dX11_place_48 ?_
        refine gj_goto C 54 dX11_place_49 (by decide) ?_
        exact RT _ _ _ _ ⟨(by unfold s_place; rw [if_neg c_1, if_neg c_2, if_neg c_3]; exact tie4 (kU_1 c_3) _ (place_n hn0 c_1 c_2).2), hI, hsm⟩ dX11_place_54
    · refine gj_ldc C (v := (-2147483648)) w_424 dX11_place_18 ?_
      exact RT _ _ _ _ ⟨(by unfold s_place; rw [if_neg c_1, if_pos c_2]), hI, fun k _ => rfl⟩ dX11_place_20
def s_wrong (n0 n1 : Nat) (gS gP se : Nat → Int32) : Int32 := cWb (kT n0 n1 gS gP se).1 (kC n0 n1 gS gP se).2.1 8
set_option maxHeartbeats 400000 in
set_option maxRecDepth 100000 in
theorem c_wrong {l : Launch} {D : va_G} {ca ss ad : Nat → Nat} {f : Nat → va_E}  (la : Int32) (n0 n1 : Nat) (gS gP se : Nat → Int32) (hc0 : f 0 = .inr (10, [.ref (ad 1), .ref (ad 69), .ref (ad 70), .int la])) (hI : cSI ca ad n0 n1 gS gP se f) (hX : cHK n0 n1 gS gP se) : gMi l D ca ss ad 108 yX11_wrong cX11_wrong 1 (some .int) 6 f [.ref (ad 0)] (fun r u => r = s_wrong  n0 n1 gS gP se ∧ cSI ca ad n0 n1 gS gP se u ∧ ∀ k, k = 0 ∨ 69 ≤ k → u k = f k) := by
  refine gMi_ofK (by decide +kernel) (Nat.le_of_ble_eq_true rfl) (lv0 := [(0, .ref (ad 0))]) rfl (fun pT eT sT mT aT below meth cT AT QT C RT => ?_)
  have C : gX pT sT mT aT meth cT AT D ca ss 1 RX11 cX11_wrong (some .int) := C
  have hI0 := hI
  obtain ⟨⟨hn0, hn1, hc2, hc3, hc4, hc5, hc6⟩, ⟨hM, hP, hT, hR, hF, hG⟩, lo, ma, bt, bc, sp, sc, fk, bk, sk, hc1, hfk, hbk, hsk⟩ := hI
  have hI := hI0
  refine gj_aload_n C 0 dX11_wrong_0 rfl 0 rfl ?_
  refine gj_get C 0 (by decide) hc0 inX11 rfl 0 (by decide) w_357 (v := .ref (ad 1)) rfl dX11_wrong_1 ?_
  refine gj_callVr C mi_X6_known w_507 1 (by decide) hc1 rfl (c_known n0 n1 gS gP se hI) mc_X6_known ⟨Nat.le_of_ble_eq_true rfl, Nat.le_of_ble_eq_true rfl⟩ (rest := []) rfl (Nat.le_of_ble_eq_true rfl) dX11_wrong_4 (fun r uK h => ?_)
  obtain ⟨hr_, hK, hsm⟩ := h; rw [hr_]
  obtain ⟨hI, lo, ma, bt, bc, sp, sc, bk, sk, hu1, hkn⟩ := hK
  obtain ⟨hlo, hma, mt, vo, hu12, hu13, hvo, kTt, kUu, kCc, ⟨hu47, hu48, hu49, hu50, hu51, hu52, hu53, hu55, hu57, hu54, hu56⟩, tie1, tie2, tie3, tie4, tie5, tie6⟩ := cKn_tie hX hkn
  have hu0 := (hsm 0 (Or.inl rfl)).trans hc0
  have hI_ := hI
  obtain ⟨⟨-, -, hu2, hu3, hu4, hu5, hu6⟩, -⟩ := hI_
  refine gj_getN C 1 (by decide) hu1 inX6 rfl 7 (by decide) w_264 (v := .ref (ad 47)) rfl dX11_wrong_7 ?_
  refine gj_callVi C mi_X2_wrongBits w_667 47 (by decide) hu47 rfl (c_wrongBits kCc.1 kTt.2.2.2.2 kCc.2.2.2 kUu.1 kTt.1 kCc.2.1 hu47 hu48 hu51) mc_X2_wrongBits ⟨Nat.le_of_ble_eq_true rfl, Nat.le_of_ble_eq_true rfl⟩ (rest := []) rfl (Nat.le_of_ble_eq_true rfl) dX11_wrong_10 (fun r u h => ?_)
  obtain ⟨hr_, h⟩ := h; rw [hr_]
  rw [h]
  exact RT _ _ _ _ ⟨(by unfold s_wrong; exact cWb_c 8 (fun p hp => ⟨(tie1 p hp).1, (tie5 p hp).1⟩)), hI, hsm⟩ dX11_wrong_13
def s_better (w : Int32) (n0 n1 : Nat) (gS gP se : Nat → Int32) : Int32 := if s_X11_isWithin w (0 : Int32) (1 : Int32) = 0 then -2 else if w = 0 then (cBet (kBet n0 n1 gS gP se) 0 21).1 else (cBet (kBet n0 n1 gS gP se) 0 21).2
set_option maxHeartbeats 400000 in
set_option maxRecDepth 100000 in
theorem c_better {l : Launch} {D : va_G} {ca ss ad : Nat → Nat} {f : Nat → va_E} (w : Int32)  (la : Int32) (n0 n1 : Nat) (gS gP se : Nat → Int32) (hc0 : f 0 = .inr (10, [.ref (ad 1), .ref (ad 69), .ref (ad 70), .int la])) (hI : cSI ca ad n0 n1 gS gP se f) (hB : cHB n0 n1 gS gP se) (hB0 : ¬ kBet n0 n1 gS gP se 0 ≤ -1) : gMi l D ca ss ad 108 yX11_better cX11_better 2 (some .int) 6 f [.ref (ad 0), .int w] (fun r u => r = s_better w n0 n1 gS gP se ∧ cSI ca ad n0 n1 gS gP se u ∧ ∀ k, k = 0 ∨ 69 ≤ k → u k = f k) := by
  refine gMi_ofK (by decide +kernel) (Nat.le_of_ble_eq_true rfl) (lv0 := [(0, .ref (ad 0)), (1, .int w)]) rfl (fun pT eT sT mT aT below meth cT AT QT C RT => ?_)
  have C : gX pT sT mT aT meth cT AT D ca ss 2 RX11 cX11_better (some .int) := C
  have hI0 := hI
  obtain ⟨⟨hn0, hn1, hc2, hc3, hc4, hc5, hc6⟩, ⟨hM, hP, hT, hR, hF, hG⟩, lo, ma, bt, bc, sp, sc, fk, bk, sk, hc1, hfk, hbk, hsk⟩ := hI
  have hI := hI0
  refine gj_iload_n C 1 dX11_better_0 rfl 1 rfl ?_
  refine gj_iconst C (v := 0) (by decide) dX11_better_1 ?_
  refine gj_iconst C (v := 1) (by decide) dX11_better_2 ?_
  refine gj_callSi C w_381 w_380 (c_X11_isWithin w (0 : Int32) (1 : Int32)) mc_X11_isWithin ⟨Nat.le_of_ble_eq_true rfl, Nat.le_of_ble_eq_true rfl⟩ (rest := []) rfl (Nat.le_of_ble_eq_true rfl) dX11_better_3 (fun r u h => ?_)
  obtain ⟨hr_, h⟩ := h; rw [hr_]
  rw [h]
  refine gj_if_ne C 12 dX11_better_6 (by decide) (fun c_1 => ?_) (fun c_1 => ?_)
  · refine gj_aload_n C 0 dX11_better_12 rfl 0 rfl ?_
    refine gj_get C 0 (by decide) hc0 inX11 rfl 0 (by decide) w_357 (v := .ref (ad 1)) rfl dX11_better_13 ?_
    refine gj_callVv C mi_X6_findBetter w_675 1 (by decide) hc1 rfl (c_findBetter n0 n1 gS gP se hI hB) mc_X6_findBetter ⟨Nat.le_of_ble_eq_true rfl, Nat.le_of_ble_eq_true rfl⟩ (rest := []) rfl (Nat.le_of_ble_eq_true rfl) dX11_better_16 (fun uK h => ?_)
    obtain ⟨⟨hI, lo, ma, b0, sp, sc, fk, bk, sk, hu1⟩, hsm⟩ := h
    have hu0 := (hsm 0 (Or.inl rfl)).trans hc0
    refine gj_iload_n C 1 dX11_better_19 rfl 1 rfl ?_
    refine gj_if_ne C 33 dX11_better_20 (by decide) (fun c_2 => ?_) (fun c_2 => ?_)
    · refine gj_aload_n C 0 dX11_better_33 rfl 0 rfl ?_
      refine gj_get C 0 (by decide) hu0 inX11 rfl 0 (by decide) w_357 (v := .ref (ad 1)) rfl dX11_better_34 ?_
      refine gj_getN C 1 (by decide) hu1 inX6 rfl 12 (by decide) w_273 (v := .int ((cBet (kBet n0 n1 gS gP se) b0 21).2)) rfl dX11_better_37 ?_
      exact RT _ _ _ _ ⟨(by unfold s_better; rw [if_neg c_1, if_neg c_2]; rw [cBet_0 hB0 b0 20]), hI, hsm⟩ dX11_better_40
    · refine gj_aload_n C 0 dX11_better_23 rfl 0 rfl ?_
      refine gj_get C 0 (by decide) hu0 inX11 rfl 0 (by decide) w_357 (v := .ref (ad 1)) rfl dX11_better_24 ?_
      refine gj_getN C 1 (by decide) hu1 inX6 rfl 11 (by decide) w_271 (v := .int ((cBet (kBet n0 n1 gS gP se) b0 21).1)) rfl dX11_better_27 ?_
      refine gj_goto C 40 dX11_better_30 (by decide) ?_
      exact RT _ _ _ _ ⟨(by unfold s_better; rw [if_neg c_1, if_pos c_2]; rw [cBet_0 hB0 b0 20]), hI, hsm⟩ dX11_better_40
  · refine gj_bipush C (v := (-2)) (by decide) dX11_better_9 ?_
    exact RT _ _ _ _ ⟨(by unfold s_better; rw [if_pos c_1]), hI, fun k _ => rfl⟩ dX11_better_11
def s_spare (w : Int32) (n0 n1 : Nat) (gS gP se : Nat → Int32) : Int32 := if s_X11_isWithin w (0 : Int32) (1 : Int32) = 0 then -2 else if w = 0 then (cSpa (kSpa n0 n1 gS gP se) n1).1 else (cSpa (kSpa n0 n1 gS gP se) n1).2
set_option maxHeartbeats 400000 in
set_option maxRecDepth 100000 in
theorem c_spare {l : Launch} {D : va_G} {ca ss ad : Nat → Nat} {f : Nat → va_E} (w : Int32)  (la : Int32) (n0 n1 : Nat) (gS gP se : Nat → Int32) (hc0 : f 0 = .inr (10, [.ref (ad 1), .ref (ad 69), .ref (ad 70), .int la])) (hI : cSI ca ad n0 n1 gS gP se f) (hB : cHS n0 n1 gS gP se) : gMi l D ca ss ad 108 yX11_spare cX11_spare 2 (some .int) 6 f [.ref (ad 0), .int w] (fun r u => r = s_spare w n0 n1 gS gP se ∧ cSI ca ad n0 n1 gS gP se u ∧ ∀ k, k = 0 ∨ 69 ≤ k → u k = f k) := by
  refine gMi_ofK (by decide +kernel) (Nat.le_of_ble_eq_true rfl) (lv0 := [(0, .ref (ad 0)), (1, .int w)]) rfl (fun pT eT sT mT aT below meth cT AT QT C RT => ?_)
  have C : gX pT sT mT aT meth cT AT D ca ss 2 RX11 cX11_spare (some .int) := C
  have hI0 := hI
  obtain ⟨⟨hn0, hn1, hc2, hc3, hc4, hc5, hc6⟩, ⟨hM, hP, hT, hR, hF, hG⟩, lo, ma, bt, bc, sp, sc, fk, bk, sk, hc1, hfk, hbk, hsk⟩ := hI
  have hI := hI0
  refine gj_iload_n C 1 dX11_spare_0 rfl 1 rfl ?_
  refine gj_iconst C (v := 0) (by decide) dX11_spare_1 ?_
  refine gj_iconst C (v := 1) (by decide) dX11_spare_2 ?_
  refine gj_callSi C w_381 w_380 (c_X11_isWithin w (0 : Int32) (1 : Int32)) mc_X11_isWithin ⟨Nat.le_of_ble_eq_true rfl, Nat.le_of_ble_eq_true rfl⟩ (rest := []) rfl (Nat.le_of_ble_eq_true rfl) dX11_spare_3 (fun r u h => ?_)
  obtain ⟨hr_, h⟩ := h; rw [hr_]
  rw [h]
  refine gj_if_ne C 12 dX11_spare_6 (by decide) (fun c_1 => ?_) (fun c_1 => ?_)
  · refine gj_aload_n C 0 dX11_spare_12 rfl 0 rfl ?_
    refine gj_get C 0 (by decide) hc0 inX11 rfl 0 (by decide) w_357 (v := .ref (ad 1)) rfl dX11_spare_13 ?_
    refine gj_callVv C mi_X6_findSpare w_692 1 (by decide) hc1 rfl (c_findSpare n0 n1 gS gP se hI hB) mc_X6_findSpare ⟨Nat.le_of_ble_eq_true rfl, Nat.le_of_ble_eq_true rfl⟩ (rest := []) rfl (Nat.le_of_ble_eq_true rfl) dX11_spare_16 (fun uK h => ?_)
    obtain ⟨⟨hI, lo, ma, bt, bc, fk, bk, sk, hu1⟩, hsm⟩ := h
    have hu0 := (hsm 0 (Or.inl rfl)).trans hc0
    refine gj_iload_n C 1 dX11_spare_19 rfl 1 rfl ?_
    refine gj_if_ne C 33 dX11_spare_20 (by decide) (fun c_2 => ?_) (fun c_2 => ?_)
    · refine gj_aload_n C 0 dX11_spare_33 rfl 0 rfl ?_
      refine gj_get C 0 (by decide) hu0 inX11 rfl 0 (by decide) w_357 (v := .ref (ad 1)) rfl dX11_spare_34 ?_
      refine gj_getN C 1 (by decide) hu1 inX6 rfl 14 (by decide) w_277 (v := .int ((cSpa (kSpa n0 n1 gS gP se) n1).2)) rfl dX11_spare_37 ?_
      exact RT _ _ _ _ ⟨(by unfold s_spare; rw [if_neg c_1, if_neg c_2]), hI, hsm⟩ dX11_spare_40
    · refine gj_aload_n C 0 dX11_spare_23 rfl 0 rfl ?_
      refine gj_get C 0 (by decide) hu0 inX11 rfl 0 (by decide) w_357 (v := .ref (ad 1)) rfl dX11_spare_24 ?_
      refine gj_getN C 1 (by decide) hu1 inX6 rfl 13 (by decide) w_275 (v := .int ((cSpa (kSpa n0 n1 gS gP se) n1).1)) rfl dX11_spare_27 ?_
      refine gj_goto C 40 dX11_spare_30 (by decide) ?_
      exact RT _ _ _ _ ⟨(by unfold s_spare; rw [if_neg c_1, if_pos c_2]), hI, hsm⟩ dX11_spare_40
  · refine gj_bipush C (v := (-2)) (by decide) dX11_spare_9 ?_
    exact RT _ _ _ _ ⟨(by unfold s_spare; rw [if_pos c_1]), hI, fun k _ => rfl⟩ dX11_spare_11
