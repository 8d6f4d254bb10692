/-! COUNT, READ, SEE, WRITE OF THE CLASS -/
/-- the spots that are seen, one by one, and what the seed became -/
abbrev cSx (gS : Nat → Int32) (n0 i : Nat) (w : Int32) : Int32 := s_X1_part (nI i) w (nI n0) gS
abbrev sQ1 (gS : Nat → Int32) (n0 a i : Nat) : Int32 × Int32 := r1 (cSx gS n0 i 1) (cSx gS n0 i 2) a
abbrev sQ2 (gS : Nat → Int32) (n0 a b i : Nat) : Int32 × Int32 := r2 (cSx gS n0 i 0) (sQ1 gS n0 a i).2 b
abbrev sQ3 (gS : Nat → Int32) (n0 a b c i : Nat) : Int32 × Int32 := r3 (sQ2 gS n0 a b i).1 (sQ1 gS n0 a i).1 c
def cSee (gS : Nat → Int32) (n0 a b c : Nat) (q : Int32) (gP : Nat → Int32) (sd : Int32) : Nat → (Nat → Int32) × Int32
  | 0 => (gP, sd)
  | i + 1 => if 1 ≤ q then (w3 (cSee gS n0 a b c q gP sd i).1 i (cNoise (sQ3 gS n0 a b c i).1 q (cSee gS n0 a b c q gP sd i).2) (cNoise (sQ3 gS n0 a b c i).2 q (nDraw (cSee gS n0 a b c q gP sd i).2)) (zFix (cNoise (sQ3 gS n0 a b c i).1 q (cSee gS n0 a b c q gP sd i).2) (cNoise (sQ3 gS n0 a b c i).2 q (nDraw (cSee gS n0 a b c q gP sd i).2)) (cNoise (sQ2 gS n0 a b i).2 q (nDraw (nDraw (cSee gS n0 a b c q gP sd i).2)))), nDraw (nDraw (nDraw (cSee gS n0 a b c q gP sd i).2))) else (w3 (cSee gS n0 a b c q gP sd i).1 i (sQ3 gS n0 a b c i).1 (sQ3 gS n0 a b c i).2 (sQ2 gS n0 a b i).2, (cSee gS n0 a b c q gP sd i).2)
theorem w_n8 {n : Int32} (h : ¬ s_X11_isWithin n (0 : Int32) (8 : Int32) = 0) : ∃ k, k ≤ 8 ∧ n = nI k := by
  have := in_yes.mp h
  have e0 : (0 : Int32).toInt = 0 := rfl
  have e3 : (8 : Int32).toInt = 8 := rfl
  obtain ⟨k, h1, h2⟩ := vp_in_of (x := n) (n := 9) (vin (by omega) (by omega)) (by omega)
  exact ⟨k, by omega, h2⟩
theorem w_n3 {n : Int32} (h : ¬ s_X11_isWithin n (0 : Int32) (3 : Int32) = 0) : ∃ k, k ≤ 3 ∧ n = nI k := by
  have := in_yes.mp h
  have e0 : (0 : Int32).toInt = 0 := rfl
  have e3 : (3 : Int32).toInt = 3 := rfl
  obtain ⟨k, h1, h2⟩ := vp_in_of (x := n) (n := 4) (vin (by omega) (by omega)) (by omega)
  exact ⟨k, by omega, h2⟩
theorem q2_nz {q : Int32} (h : ¬ s_X11_isWithin q (0 : Int32) (3 : Int32) = 0) : ¬ 2 * q + 1 = 0 := by
  obtain ⟨k, hk, rfl⟩ := w_n3 h
  rcases (show k = 0 ∨ k = 1 ∨ k = 2 ∨ k = 3 by omega) with rfl | rfl | rfl | rfl <;> decide
theorem nI_nle1 {a b : Nat} (ha : a < 2 ^ 31) (hb : b < 2 ^ 31) (h : ¬ nI b < nI a) : a ≤ b := by
  rw [i32_lt, nI_toInt ha, nI_toInt hb] at h
  omega
/-- stars, spots from a sheet: how many, and what comes of the row -/
abbrev rdX (ln : Int32) (g : Nat → Int32) (t : Nat) (w : Nat) : Int32 := s_X5_item (nI (3 * t + w)) ln g
def rdGo (len rm n : Nat) (ln : Int32) (g : Nat → Int32) (t : Nat) : Prop := 3 * t + 2 < len ∧ n + t < rm ∧ ¬ s_X11_mayBeDirection (rdX ln g t 0) (rdX ln g t 1) (rdX ln g t 2) = 0
def cRd (ln : Int32) (g : Nat → Int32) (r : Nat → Int32) (n : Nat) : Nat → Nat → Int32
  | 0 => r
  | t + 1 => w3 (cRd ln g r n t) (n + t) (rdX ln g t 0) (rdX ln g t 1) (rdX ln g t 2)
theorem rd_end (P : Nat → Prop) : ∀ (k : Nat), (∃ t, t < k ∧ ¬ P t) → ∃ K, K < k ∧ ¬ P K ∧ ∀ t, t < K → P t := by
  intro k h
  obtain ⟨t, ht, hp⟩ := h
  obtain ⟨K, h1, h2⟩ := pk_least (fun t => ¬ P t) ⟨t, hp⟩
  refine ⟨K, ?_, h1, fun j hj => Classical.not_not.mp (h2 j hj)⟩
  apply Decidable.byContradiction
  intro q
  exact h2 t (by omega) hp
/-- the items that are written -/
def cWrt (fm : Int32) (sv g : Nat → Int32) : Nat → Nat → Int32
  | 0 => g
  | t + 1 => t_X5_store_j (nI t) (sv t) fm (cWrt fm sv g t)
theorem min_n {a b : Nat} (ha : a < 2 ^ 31) (hb : b < 2 ^ 31) : (if nI b < nI a then nI b else nI a) = nI (Nat.min a b) := by
  have e : Nat.min a b = min a b := rfl
  by_cases h : nI b < nI a
  · rw [if_pos h]
    rw [i32_lt, nI_toInt ha, nI_toInt hb] at h
    rw [show Nat.min a b = b by omega]
  · rw [if_neg h]
    rw [i32_lt, nI_toInt ha, nI_toInt hb] at h
    rw [show Nat.min a b = a by omega]
theorem ln_n {x : Int32} (h : 0 ≤ x.toInt ∧ x.toInt ≤ 60) : ∃ k, k ≤ 60 ∧ x = nI k := by
  obtain ⟨k, h1, h2⟩ := vp_in_of (x := x) (n := 61) (vin h.1 (by omega)) (by omega)
  exact ⟨k, by omega, h2⟩

def s_count (w la : Int32) (tZ : Nat → Int32) (n0 n1 : Nat) (gS gP se : Nat → Int32) : Int32 := if w = 0 then nI n0 else if w = 1 then nI n1 else if w = 2 then (kT n0 n1 gS gP se).2.2.2 else if w = 3 then (kC n0 n1 gS gP se).2.2.2 else if w = 4 then 3 * (kV n0 n1 gS gP se).2.1 else if w = 5 then se 1 else if w = 6 then ((tZ 0 + tZ 1) + tZ 2) + tZ 3 else if w = 7 then s_J6_bitCount_0f7a4 (cWb (kT n0 n1 gS gP se).1 (kC n0 n1 gS gP se).2.1 8) else if w = 8 then la else -2
set_option maxHeartbeats 400000 in
set_option maxRecDepth 100000 in
theorem c_count {l : Launch} {D : va_G} {ca ss ad : Nat → Nat} {f : Nat → va_E} (w : Int32) (la : Int32) (n0 n1 : Nat) (gS gP se : Nat → Int32) (tS tP tZ : Nat → Int32) (tG : Nat → Nat → Int32) (hc0 : f 0 = .inr (10, [.ref (ad 1), .ref (ad 69), .ref (ad 70), .int la])) (hI : cSI ca ad n0 n1 gS gP se f) (hT : cTr ca ad tS tP tZ tG f) (hX : cHK n0 n1 gS gP se) : gMi l D ca ss ad 108 yX11_count cX11_count 2 (some .int) 6 f [.ref (ad 0), .int w] (fun r u => r = s_count w la tZ n0 n1 gS gP se ∧ cSI ca ad n0 n1 gS gP se u ∧ ∀ k, k = 0 ∨ 69 ≤ k → u k = f k) := by
  refine gMi_ofK (by decide +kernel) (Nat.le_of_ble_eq_true rfl) (lv0 := [(0, .ref (ad 0)), (1, .int w)]) rfl (fun pT eT sT mT aT below meth cT AT QT C RT => ?_)
  have C : gX pT sT mT aT meth cT AT D ca ss 2 RX11 cX11_count (some .int) := C
  have hI0 := hI
  obtain ⟨⟨hn0, hn1, hc2, hc3, hc4, hc5, hc6⟩, ⟨hM, hP, hStp, hR, hF, hG⟩, lo, ma, bt, bc, sp, sc, fk, bk, sk, hc1, hfk, hbk, hsk⟩ := hI
  have hI := hI0
  refine gj_iload_n C 1 dX11_count_0 rfl 1 rfl ?_
  by_cases c_1 : w = 0
  · refine gj_tableIn C 52 dX11_count_1 (by rw [c_1]; decide) (by rw [c_1]; decide) (off := 51) (by rw [c_1]; decide) (by decide) ?_
    refine gj_aload_n C 0 dX11_count_52 rfl 0 rfl ?_
    refine gj_get C 0 (by decide) hc0 inX11 rfl 0 (by decide) w_357 (v := .ref (ad 1)) rfl dX11_count_53 ?_
    refine gj_getN C 1 (by decide) hc1 inX6 rfl 0 (by decide) w_253 (v := .ref (ad 2)) rfl dX11_count_56 ?_
    refine gj_callVi C mi_X1_size w_400 2 (by decide) hc2 rfl (c_X1_size 2 3 (12 : Int32) (nI n0) 36 gS hc2 hc3 (by decide) (by decide) (by decide)) mc_X1_size ⟨Nat.le_of_ble_eq_true rfl, Nat.le_of_ble_eq_true rfl⟩ (rest := []) rfl (Nat.le_of_ble_eq_true rfl) dX11_count_59 (fun r u h => ?_)
    obtain ⟨hr_, h⟩ := h; rw [hr_]
    rw [h]
    refine gj_seti (y := nI n0) rfl ?_
    exact RT _ _ _ _ ⟨(by unfold s_count; rw [if_pos c_1]), hI, fun k _ => rfl⟩ dX11_count_62
  · by_cases c_2 : w = 1
    · refine gj_tableIn C 63 dX11_count_1 (by rw [c_2]; decide) (by rw [c_2]; decide) (off := 62) (by rw [c_2]; decide) (by decide) ?_
      refine gj_aload_n C 0 dX11_count_63 rfl 0 rfl ?_
      refine gj_get C 0 (by decide) hc0 inX11 rfl 0 (by decide) w_357 (v := .ref (ad 1)) rfl dX11_count_64 ?_
      refine gj_getN C 1 (by decide) hc1 inX6 rfl 1 (by decide) w_255 (v := .ref (ad 4)) rfl dX11_count_67 ?_
      refine gj_callVi C mi_X1_size w_400 4 (by decide) hc4 rfl (c_X1_size 4 5 (8 : Int32) (nI n1) 24 gP hc4 hc5 (by decide) (by decide) (by decide)) mc_X1_size ⟨Nat.le_of_ble_eq_true rfl, Nat.le_of_ble_eq_true rfl⟩ (rest := []) rfl (Nat.le_of_ble_eq_true rfl) dX11_count_70 (fun r u h => ?_)
      obtain ⟨hr_, h⟩ := h; rw [hr_]
      rw [h]
      refine gj_seti (y := nI n1) rfl ?_
      exact RT _ _ _ _ ⟨(by unfold s_count; rw [if_neg c_1, if_pos c_2]), hI, fun k _ => rfl⟩ dX11_count_73
    · by_cases c_3 : w = 2
      · refine gj_tableIn C 74 dX11_count_1 (by rw [c_3]; decide) (by rw [c_3]; decide) (off := 73) (by rw [c_3]; decide) (by decide) ?_
        refine gj_aload_n C 0 dX11_count_74 rfl 0 rfl ?_
        refine gj_get C 0 (by decide) hc0 inX11 rfl 0 (by decide) w_357 (v := .ref (ad 1)) rfl dX11_count_75 ?_
        refine gj_callVr C mi_X6_known w_507 1 (by decide) hc1 rfl (c_known n0 n1 gS gP se hI) mc_X6_known ⟨Nat.le_of_ble_eq_true rfl, Nat.le_of_ble_eq_true rfl⟩ (rest := []) rfl (Nat.le_of_ble_eq_true rfl) dX11_count_78 (fun r uK h => ?_)
        obtain ⟨hr_, hK, hsm⟩ := h; rw [hr_]
        obtain ⟨hI, lo, ma, bt, bc, sp, sc, bk, sk, hu1, hkn⟩ := hK
        obtain ⟨hlo, hma, mt, vo, hu12, hu13, hvo, kTt, kUu, kCc, ⟨hu47, hu48, hu49, hu50, hu51, hu52, hu53, hu55, hu57, hu54, hu56⟩, tie1, tie2, tie3, tie4, tie5, tie6⟩ := cKn_tie hX hkn
        have hu0 := (hsm 0 (Or.inl rfl)).trans hc0
        have hI_ := hI
        obtain ⟨⟨-, -, hu2, hu3, hu4, hu5, hu6⟩, -⟩ := hI_
        refine gj_getN C 1 (by decide) hu1 inX6 rfl 7 (by decide) w_264 (v := .ref (ad 47)) rfl dX11_count_81 ?_
        refine gj_getN C 47 (by decide) hu47 inX2 rfl 9 (by decide) w_221 (v := .int kTt.2.2.2.2) rfl dX11_count_84 ?_
        exact RT _ _ _ _ ⟨(by unfold s_count; rw [if_neg c_1, if_neg c_2, if_pos c_3]; exact tie2), hI, hsm⟩ dX11_count_87
      · by_cases c_4 : w = 3
        · refine gj_tableIn C 88 dX11_count_1 (by rw [c_4]; decide) (by rw [c_4]; decide) (off := 87) (by rw [c_4]; decide) (by decide) ?_
          refine gj_aload_n C 0 dX11_count_88 rfl 0 rfl ?_
          refine gj_get C 0 (by decide) hc0 inX11 rfl 0 (by decide) w_357 (v := .ref (ad 1)) rfl dX11_count_89 ?_
          refine gj_callVr C mi_X6_known w_507 1 (by decide) hc1 rfl (c_known n0 n1 gS gP se hI) mc_X6_known ⟨Nat.le_of_ble_eq_true rfl, Nat.le_of_ble_eq_true rfl⟩ (rest := []) rfl (Nat.le_of_ble_eq_true rfl) dX11_count_92 (fun r uK h => ?_)
          obtain ⟨hr_, hK, hsm⟩ := h; rw [hr_]
          obtain ⟨hI, lo, ma, bt, bc, sp, sc, bk, sk, hu1, hkn⟩ := hK
          obtain ⟨hlo, hma, mt, vo, hu12, hu13, hvo, kTt, kUu, kCc, ⟨hu47, hu48, hu49, hu50, hu51, hu52, hu53, hu55, hu57, hu54, hu56⟩, tie1, tie2, tie3, tie4, tie5, tie6⟩ := cKn_tie hX hkn
          have hu0 := (hsm 0 (Or.inl rfl)).trans hc0
          have hI_ := hI
          obtain ⟨⟨-, -, hu2, hu3, hu4, hu5, hu6⟩, -⟩ := hI_
          refine gj_getN C 1 (by decide) hu1 inX6 rfl 7 (by decide) w_264 (v := .ref (ad 47)) rfl dX11_count_95 ?_
          refine gj_getN C 47 (by decide) hu47 inX2 rfl 10 (by decide) w_224 (v := .int kCc.2.2.2) rfl dX11_count_98 ?_
          exact RT _ _ _ _ ⟨(by unfold s_count; rw [if_neg c_1, if_neg c_2, if_neg c_3, if_pos c_4]; exact tie6), hI, hsm⟩ dX11_count_101
        · by_cases c_5 : w = 4
          · refine gj_tableIn C 102 dX11_count_1 (by rw [c_5]; decide) (by rw [c_5]; decide) (off := 101) (by rw [c_5]; decide) (by decide) ?_
            refine gj_iconst C (v := 3) (by decide) dX11_count_102 ?_
            refine gj_aload_n C 0 dX11_count_103 rfl 0 rfl ?_
            refine gj_get C 0 (by decide) hc0 inX11 rfl 0 (by decide) w_357 (v := .ref (ad 1)) rfl dX11_count_104 ?_
            refine gj_callVr C mi_X6_known w_507 1 (by decide) hc1 rfl (c_known n0 n1 gS gP se hI) mc_X6_known ⟨Nat.le_of_ble_eq_true rfl, Nat.le_of_ble_eq_true rfl⟩ (rest := [.int 3]) rfl (Nat.le_of_ble_eq_true rfl) dX11_count_107 (fun r uK h => ?_)
            obtain ⟨hr_, hK, hsm⟩ := h; rw [hr_]
            obtain ⟨hI, lo, ma, bt, bc, sp, sc, bk, sk, hu1, hkn⟩ := hK
            obtain ⟨hlo, hma, mt, vo, hu12, hu13, hvo, kTt, kUu, kCc, ⟨hu47, hu48, hu49, hu50, hu51, hu52, hu53, hu55, hu57, hu54, hu56⟩, tie1, tie2, tie3, tie4, tie5, tie6⟩ := cKn_tie hX hkn
            have hu0 := (hsm 0 (Or.inl rfl)).trans hc0
            have hI_ := hI
            obtain ⟨⟨-, -, hu2, hu3, hu4, hu5, hu6⟩, -⟩ := hI_
            refine gj_getN C 1 (by decide) hu1 inX6 rfl 10 (by decide) w_269 (v := .int ma) rfl dX11_count_110 ?_
            refine gj_imul C dX11_count_113 ?_
            exact RT _ _ _ _ ⟨(by unfold s_count; rw [if_neg c_1, if_neg c_2, if_neg c_3, if_neg c_4, if_pos c_5]; rw [hma]), hI, hsm⟩ dX11_count_114
          · by_cases c_6 : w = 5
            · refine gj_tableIn C 115 dX11_count_1 (by rw [c_6]; decide) (by rw [c_6]; decide) (off := 114) (by rw [c_6]; decide) (by decide) ?_
              refine gj_aload_n C 0 dX11_count_115 rfl 0 rfl ?_
              refine gj_get C 0 (by decide) hc0 inX11 rfl 0 (by decide) w_357 (v := .ref (ad 1)) rfl dX11_count_116 ?_
              refine gj_getN C 1 (by decide) hc1 inX6 rfl 2 (by decide) w_257 (v := .ref (ad 6)) rfl dX11_count_119 ?_
              refine gj_iconst C (v := 1) (by decide) dX11_count_122 ?_
              refine gj_iald C 6 (by decide) hc6 (by unfold vp_in; decide) dX11_count_123 ?_
              refine gj_seti (y := se 1) rfl ?_
              exact RT _ _ _ _ ⟨(by unfold s_count; rw [if_neg c_1, if_neg c_2, if_neg c_3, if_neg c_4, if_neg c_5, if_pos c_6]), hI, fun k _ => rfl⟩ dX11_count_124
            · by_cases c_7 : w = 6
              · refine gj_tableIn C 125 dX11_count_1 (by rw [c_7]; decide) (by rw [c_7]; decide) (off := 124) (by rw [c_7]; decide) (by decide) ?_
                refine gj_aload_n C 0 dX11_count_125 rfl 0 rfl ?_
                refine gj_get C 0 (by decide) hc0 inX11 rfl 1 (by decide) w_358 (v := .ref (ad 69)) rfl dX11_count_126 ?_
                refine gj_iconst C (v := 0) (by decide) dX11_count_129 ?_
                refine gj_aldq C 4 69 (by decide) hT.1 rfl (by unfold vp_in; decide) (a := ad (71 + 2 * 0)) rfl dX11_count_130 ?_
                refine gj_getN C (71 + 2 * 0) (by omega) (hT.2 0 (by decide)).2.2.2.1 inX10 rfl 3 (by decide) w_331 (v := .int (tZ 0)) rfl dX11_count_131 ?_
                refine gj_aload_n C 0 dX11_count_134 rfl 0 rfl ?_
                refine gj_get C 0 (by decide) hc0 inX11 rfl 1 (by decide) w_358 (v := .ref (ad 69)) rfl dX11_count_135 ?_
                refine gj_iconst C (v := 1) (by decide) dX11_count_138 ?_
                refine gj_aldq C 4 69 (by decide) hT.1 rfl (by unfold vp_in; decide) (a := ad (71 + 2 * 1)) rfl dX11_count_139 ?_
                refine gj_getN C (71 + 2 * 1) (by omega) (hT.2 1 (by decide)).2.2.2.1 inX10 rfl 3 (by decide) w_331 (v := .int (tZ 1)) rfl dX11_count_140 ?_
                refine gj_iadd C dX11_count_143 ?_
                refine gj_aload_n C 0 dX11_count_144 rfl 0 rfl ?_
                refine gj_get C 0 (by decide) hc0 inX11 rfl 1 (by decide) w_358 (v := .ref (ad 69)) rfl dX11_count_145 ?_
                refine gj_iconst C (v := 2) (by decide) dX11_count_148 ?_
                refine gj_aldq C 4 69 (by decide) hT.1 rfl (by unfold vp_in; decide) (a := ad (71 + 2 * 2)) rfl dX11_count_149 ?_
                refine gj_getN C (71 + 2 * 2) (by omega) (hT.2 2 (by decide)).2.2.2.1 inX10 rfl 3 (by decide) w_331 (v := .int (tZ 2)) rfl dX11_count_150 ?_
                refine gj_iadd C dX11_count_153 ?_
                refine gj_aload_n C 0 dX11_count_154 rfl 0 rfl ?_
                refine gj_get C 0 (by decide) hc0 inX11 rfl 1 (by decide) w_358 (v := .ref (ad 69)) rfl dX11_count_155 ?_
                refine gj_iconst C (v := 3) (by decide) dX11_count_158 ?_
                refine gj_aldq C 4 69 (by decide) hT.1 rfl (by unfold vp_in; decide) (a := ad (71 + 2 * 3)) rfl dX11_count_159 ?_
                refine gj_getN C (71 + 2 * 3) (by omega) (hT.2 3 (by decide)).2.2.2.1 inX10 rfl 3 (by decide) w_331 (v := .int (tZ 3)) rfl dX11_count_160 ?_
                refine gj_iadd C dX11_count_163 ?_
                exact RT _ _ _ _ ⟨(by unfold s_count; rw [if_neg c_1, if_neg c_2, if_neg c_3, if_neg c_4, if_neg c_5, if_neg c_6, if_pos c_7]), hI, fun k _ => rfl⟩ dX11_count_164
              · by_cases c_8 : w = 7
                · refine gj_tableIn C 165 dX11_count_1 (by rw [c_8]; decide) (by rw [c_8]; decide) (off := 164) (by rw [c_8]; decide) (by decide) ?_
                  refine gj_aload_n C 0 dX11_count_165 rfl 0 rfl ?_
                  refine gj_get C 0 (by decide) hc0 inX11 rfl 0 (by decide) w_357 (v := .ref (ad 1)) rfl dX11_count_166 ?_
                  refine gj_callVr C mi_X6_known w_507 1 (by decide) hc1 rfl (c_known n0 n1 gS gP se hI) mc_X6_known ⟨Nat.le_of_ble_eq_true rfl, Nat.le_of_ble_eq_true rfl⟩ (rest := []) rfl (Nat.le_of_ble_eq_true rfl) dX11_count_169 (fun r uK h => ?_)
                  obtain ⟨hr_, hK, hsm⟩ := h; rw [hr_]
                  obtain ⟨hI, lo, ma, bt, bc, sp, sc, bk, sk, hu1, hkn⟩ := hK
                  obtain ⟨hlo, hma, mt, vo, hu12, hu13, hvo, kTt, kUu, kCc, ⟨hu47, hu48, hu49, hu50, hu51, hu52, hu53, hu55, hu57, hu54, hu56⟩, tie1, tie2, tie3, tie4, tie5, tie6⟩ := cKn_tie hX hkn
                  have hu0 := (hsm 0 (Or.inl rfl)).trans hc0
                  have hI_ := hI
                  obtain ⟨⟨-, -, hu2, hu3, hu4, hu5, hu6⟩, -⟩ := hI_
                  refine gj_getN C 1 (by decide) hu1 inX6 rfl 7 (by decide) w_264 (v := .ref (ad 47)) rfl dX11_count_172 ?_
                  refine gj_callVi C mi_X2_wrongBits w_667 47 (by decide) hu47 rfl (c_wrongBits kCc.1 kTt.2.2.2.2 kCc.2.2.2 kUu.1 kTt.1 kCc.2.1 hu47 hu48 hu51) mc_X2_wrongBits ⟨Nat.le_of_ble_eq_true rfl, Nat.le_of_ble_eq_true rfl⟩ (rest := []) rfl (Nat.le_of_ble_eq_true rfl) dX11_count_175 (fun r u h => ?_)
                  obtain ⟨hr_, h⟩ := h; rw [hr_]
                  rw [h]
                  refine gj_callSi C w_819 w_818 (c_J6_bitCount_0f7a4 (cWb kTt.1 kCc.2.1 8)) mc_J6_bitCount_0f7a4 ⟨Nat.le_of_ble_eq_true rfl, Nat.le_of_ble_eq_true rfl⟩ (rest := []) rfl (Nat.le_of_ble_eq_true rfl) dX11_count_178 (fun r u h => ?_)
                  obtain ⟨hr_, h⟩ := h; rw [hr_]
                  rw [h]
                  exact RT _ _ _ _ ⟨(by unfold s_count; rw [if_neg c_1, if_neg c_2, if_neg c_3, if_neg c_4, if_neg c_5, if_neg c_6, if_neg c_7, if_pos c_8]; rw [cWb_c 8 (fun p hp => ⟨(tie1 p hp).1, (tie5 p hp).1⟩)]), hI, hsm⟩ dX11_count_181
                · by_cases c_9 : w = 8
                  · refine gj_tableIn C 182 dX11_count_1 (by rw [c_9]; decide) (by rw [c_9]; decide) (off := 181) (by rw [c_9]; decide) (by decide) ?_
                    refine gj_aload_n C 0 dX11_count_182 rfl 0 rfl ?_
                    refine gj_get C 0 (by decide) hc0 inX11 rfl 3 (by decide) w_360 (v := .int la) rfl dX11_count_183 ?_
                    exact RT _ _ _ _ ⟨(by unfold s_count; rw [if_neg c_1, if_neg c_2, if_neg c_3, if_neg c_4, if_neg c_5, if_neg c_6, if_neg c_7, if_neg c_8, if_pos c_9]), hI, fun k _ => rfl⟩ dX11_count_186
                  · refine gj_tableOut C 187 dX11_count_1 (sw_out c_1 c_2 c_3 c_4 c_5 c_6 c_7 c_8 c_9) (by decide) ?_
                    refine gj_bipush C (v := (-2)) (by decide) dX11_count_187 ?_
                    exact RT _ _ _ _ ⟨(by unfold s_count; rw [if_neg c_1, if_neg c_2, if_neg c_3, if_neg c_4, if_neg c_5, if_neg c_6, if_neg c_7, if_neg c_8, if_neg c_9]), hI, fun k _ => rfl⟩ dX11_count_189
theorem isf0 {t : Nat} (h : t < 8) : s_X1_isFull 8 (nI t) = 0 := by
  unfold s_X1_isFull
  exact if_pos (show nI t < nI 8 by rw [i32_lt, nI_toInt (by omega), nI_toInt (by omega)]; omega)
set_option maxHeartbeats 400000 in
set_option maxRecDepth 100000 in
theorem c_see {l : Launch} {D : va_G} {ca ss ad : Nat → Nat} {f : Nat → va_E} (n a b c sd m : Int32) (la : Int32) (n0 n1 : Nat) (gS gP se : Nat → Int32) (hc0 : f 0 = .inr (10, [.ref (ad 1), .ref (ad 69), .ref (ad 70), .int la])) (hI : cSI ca ad n0 n1 gS gP se f) : gMi l D ca ss ad 108 yX11_see cX11_see 9 (some .int) 2 f [.ref (ad 0), .int n, .int a, .int b, .int c, .int sd, .int m] (fun r u => if s_X11_isWithin n (0 : Int32) (8 : Int32) = 0 then (r = -2 ∧ u = f) else if nI n0 < n then (r = -2 ∧ u = f) else if s_X11_isWithin m (0 : Int32) (3 : Int32) = 0 then (r = -2 ∧ u = f) else if s_X11_isWithin a (0 : Int32) (3 : Int32) = 0 then (r = -2 ∧ u = f) else if s_X11_isWithin b (0 : Int32) (3 : Int32) = 0 then (r = -2 ∧ u = f) else if s_X11_isWithin c (0 : Int32) (3 : Int32) = 0 then (r = -2 ∧ u = f) else (r = n ∧ cSI ca ad n0 n.toNatClampNeg gS (cSee gS n0 a.toNatClampNeg b.toNatClampNeg c.toNatClampNeg m gP sd n.toNatClampNeg).1 se u ∧ ∀ k, k = 0 ∨ 69 ≤ k → u k = f k)) := by
  refine gMi_ofK (by decide +kernel) (Nat.le_of_ble_eq_true rfl) (lv0 := [(0, .ref (ad 0)), (1, .int n), (2, .int a), (3, .int b), (4, .int c), (5, .int sd), (6, .int m)]) rfl (fun pT eT sT mT aT below meth cT AT QT C RT => ?_)
  have C : gX pT sT mT aT meth cT AT D ca ss 9 RX11 cX11_see (some .int) := C
  have hI0 := hI
  obtain ⟨⟨hn0, hn1, hc2, hc3, hc4, hc5, hc6⟩, ⟨hM, hP, hT, hR, hF, hG⟩, lo, ma, bt, bc, sp, sc, fk, bk, sk, hc1, hfk, hbk, hsk⟩ := hI
  have hI := hI0
  refine gj_iload_n C 1 dX11_see_0 rfl 1 rfl ?_
  refine gj_iconst C (v := 0) (by decide) dX11_see_1 ?_
  refine gj_bipush C (v := 8) (by decide) dX11_see_2 ?_
  refine gj_callSi C w_381 w_380 (c_X11_isWithin n (0 : Int32) (8 : Int32)) mc_X11_isWithin ⟨Nat.le_of_ble_eq_true rfl, Nat.le_of_ble_eq_true rfl⟩ (rest := []) rfl (Nat.le_of_ble_eq_true rfl) dX11_see_4 (fun r u h => ?_)
  obtain ⟨hr_, h⟩ := h; rw [hr_]
  rw [h]
  refine gj_if_eq C 34 dX11_see_7 (by decide) (fun c_1 => ?_) (fun c_1 => ?_)
  · refine gj_bipush C (v := (-2)) (by decide) dX11_see_34 ?_
    exact RT _ _ _ _ (by rw [if_pos c_1]; exact ⟨rfl, rfl⟩) dX11_see_36
  · refine gj_iload_n C 1 dX11_see_10 rfl 1 rfl ?_
    refine gj_aload_n C 0 dX11_see_11 rfl 0 rfl ?_
    refine gj_get C 0 (by decide) hc0 inX11 rfl 0 (by decide) w_357 (v := .ref (ad 1)) rfl dX11_see_12 ?_
    refine gj_getN C 1 (by decide) hc1 inX6 rfl 0 (by decide) w_253 (v := .ref (ad 2)) rfl dX11_see_15 ?_
    refine gj_callVi C mi_X1_size w_400 2 (by decide) hc2 rfl (c_X1_size 2 3 (12 : Int32) (nI n0) 36 gS hc2 hc3 (by decide) (by decide) (by decide)) mc_X1_size ⟨Nat.le_of_ble_eq_true rfl, Nat.le_of_ble_eq_true rfl⟩ (rest := [.int n]) rfl (Nat.le_of_ble_eq_true rfl) dX11_see_18 (fun r u h => ?_)
    obtain ⟨hr_, h⟩ := h; rw [hr_]
    rw [h]
    refine gj_seti (y := nI n0) rfl ?_
    refine gj_icmp_gt C 34 dX11_see_21 (by decide) (fun c_2 => ?_) (fun c_2 => ?_)
    · refine gj_bipush C (v := (-2)) (by decide) dX11_see_34 ?_
      exact RT _ _ _ _ (by rw [if_neg c_1, if_pos c_2]; exact ⟨rfl, rfl⟩) dX11_see_36
    · refine gj_iload C dX11_see_24 6 rfl ?_
      refine gj_iconst C (v := 0) (by decide) dX11_see_26 ?_
      refine gj_iconst C (v := 3) (by decide) dX11_see_27 ?_
      refine gj_callSi C w_381 w_380 (c_X11_isWithin m (0 : Int32) (3 : Int32)) mc_X11_isWithin ⟨Nat.le_of_ble_eq_true rfl, Nat.le_of_ble_eq_true rfl⟩ (rest := []) rfl (Nat.le_of_ble_eq_true rfl) dX11_see_28 (fun r u h => ?_)
      obtain ⟨hr_, h⟩ := h; rw [hr_]
      rw [h]
      refine gj_if_ne C 37 dX11_see_31 (by decide) (fun c_3 => ?_) (fun c_3 => ?_)
      · refine gj_iload_n C 2 dX11_see_37 rfl 2 rfl ?_
        refine gj_iconst C (v := 0) (by decide) dX11_see_38 ?_
        refine gj_iconst C (v := 3) (by decide) dX11_see_39 ?_
        refine gj_callSi C w_381 w_380 (c_X11_isWithin a (0 : Int32) (3 : Int32)) mc_X11_isWithin ⟨Nat.le_of_ble_eq_true rfl, Nat.le_of_ble_eq_true rfl⟩ (rest := []) rfl (Nat.le_of_ble_eq_true rfl) dX11_see_40 (fun r u h => ?_)
        obtain ⟨hr_, h⟩ := h; rw [hr_]
        rw [h]
        refine gj_if_eq C 65 dX11_see_43 (by decide) (fun c_4 => ?_) (fun c_4 => ?_)
        · refine gj_bipush C (v := (-2)) (by decide) dX11_see_65 ?_
          exact RT _ _ _ _ (by rw [if_neg c_1, if_neg c_2, if_neg c_3, if_pos c_4]; exact ⟨rfl, rfl⟩) dX11_see_67
        · refine gj_iload_n C 3 dX11_see_46 rfl 3 rfl ?_
          refine gj_iconst C (v := 0) (by decide) dX11_see_47 ?_
          refine gj_iconst C (v := 3) (by decide) dX11_see_48 ?_
          refine gj_callSi C w_381 w_380 (c_X11_isWithin b (0 : Int32) (3 : Int32)) mc_X11_isWithin ⟨Nat.le_of_ble_eq_true rfl, Nat.le_of_ble_eq_true rfl⟩ (rest := []) rfl (Nat.le_of_ble_eq_true rfl) dX11_see_49 (fun r u h => ?_)
          obtain ⟨hr_, h⟩ := h; rw [hr_]
          rw [h]
          refine gj_if_eq C 65 dX11_see_52 (by decide) (fun c_5 => ?_) (fun c_5 => ?_)
          · refine gj_bipush C (v := (-2)) (by decide) dX11_see_65 ?_
            exact RT _ _ _ _ (by rw [if_neg c_1, if_neg c_2, if_neg c_3, if_neg c_4, if_pos c_5]; exact ⟨rfl, rfl⟩) dX11_see_67
          · refine gj_iload C dX11_see_55 4 rfl ?_
            refine gj_iconst C (v := 0) (by decide) dX11_see_57 ?_
            refine gj_iconst C (v := 3) (by decide) dX11_see_58 ?_
            refine gj_callSi C w_381 w_380 (c_X11_isWithin c (0 : Int32) (3 : Int32)) mc_X11_isWithin ⟨Nat.le_of_ble_eq_true rfl, Nat.le_of_ble_eq_true rfl⟩ (rest := []) rfl (Nat.le_of_ble_eq_true rfl) dX11_see_59 (fun r u h => ?_)
            obtain ⟨hr_, h⟩ := h; rw [hr_]
            rw [h]
            refine gj_if_ne C 68 dX11_see_62 (by decide) (fun c_6 => ?_) (fun c_6 => ?_)
            · obtain ⟨nN, hnN, rfl⟩ := w_n8 c_1
              obtain ⟨aN, haN, rfl⟩ := w_n3 c_4
              obtain ⟨bN, hbN, rfl⟩ := w_n3 c_5
              obtain ⟨cN, hcN, rfl⟩ := w_n3 c_6
              have hnn : nN ≤ n0 := nI_nle1 (by omega) (by omega) c_2
              refine gj_aload_n C 0 dX11_see_68 rfl 0 rfl ?_
              refine gj_get C 0 (by decide) hc0 inX11 rfl 0 (by decide) w_357 (v := .ref (ad 1)) rfl dX11_see_69 ?_
              refine gj_getN C 1 (by decide) hc1 inX6 rfl 1 (by decide) w_255 (v := .ref (ad 4)) rfl dX11_see_72 ?_
              refine gj_callVv C mi_X1_empty w_458 4 (by decide) hc4 rfl (c_X1_empty 4 5 (8 : Int32) (nI n1) 24 gP hc4 hc5 (by decide) (by decide) (by decide)) mc_X1_empty ⟨Nat.le_of_ble_eq_true rfl, Nat.le_of_ble_eq_true rfl⟩ (rest := []) rfl (Nat.le_of_ble_eq_true rfl) dX11_see_75 (fun u h => ?_)
              subst h
              refine gj_aload_n C 0 dX11_see_78 rfl 0 rfl ?_
              refine gj_get C 0 (by decide) (up_nx (by decide) (hc0)) inX11 rfl 0 (by decide) w_357 (v := .ref (ad 1)) rfl dX11_see_79 ?_
              refine gj_callVv C mi_X6_forget w_396 1 (by decide) (up_nx (by decide) (hc1)) rfl (c_forget lo ma bt bc sp sc fk bk sk (up_nx (by decide) (hc1))) mc_X6_forget ⟨Nat.le_of_ble_eq_true rfl, Nat.le_of_ble_eq_true rfl⟩ (rest := []) rfl (Nat.le_of_ble_eq_true rfl) dX11_see_82 (fun u h => ?_)
              subst h
              refine gj_iload C dX11_see_85 5 rfl ?_
              refine gj_istore C (lv' := [(7, .int sd), (0, .ref (ad 0)), (1, .int (nI nN)), (2, .int (nI aN)), (3, .int (nI bN)), (4, .int (nI cN)), (5, .int sd), (6, .int m)]) dX11_see_87 (by decide) rfl ?_
              refine gj_iconst C (v := 0) (by decide) dX11_see_89 ?_
              refine gj_seti (y := nI 0) rfl ?_
              refine gj_istore C (lv' := [(8, .int (nI 0)), (7, .int sd), (0, .ref (ad 0)), (1, .int (nI nN)), (2, .int (nI aN)), (3, .int (nI bN)), (4, .int (nI cN)), (5, .int sd), (6, .int m)]) dX11_see_90 (by decide) rfl ?_
              refine gj_setf (up_id (up_nx (by decide) (up_nx (by decide) (hc5)))).symm ?_
              refine gj_lvs (lv' := [(8, .int (nI 0)), (7, .int ((cSee gS n0 aN bN cN m gP sd 0).2)), (0, .ref (ad 0)), (1, .int (nI nN)), (2, .int (nI aN)), (3, .int (nI bN)), (4, .int (nI cN)), (5, .int sd), (6, .int m)]) rfl ?_
              refine gj_setf (g := va_up (va_up (va_up f 4 (.inr (1, [.ref (ad 5), .int 8, .int (nI 0)]))) 1 (.inr (6, sgF ad lo ma bt bc sp sc 0 0 0))) 5 (.inl (ca 0, 24, .inl ((cSee gS n0 aN bN cN m gP sd 0).1)))) rfl ?_
              have loop_7 : ∀ (m0 t0 : Nat), t0 + m0 = nN → gJ pT l eT (Rm 2) sT mT aT below meth cT AT QT D ad 108 9 (va_up (va_up (va_up f 4 (.inr (1, [.ref (ad 5), .int 8, .int (nI t0)]))) 1 (.inr (6, sgF ad lo ma bt bc sp sc 0 0 0))) 5 (.inl (ca 0, 24, .inl ((cSee gS n0 aN bN cN m gP sd t0).1)))) [(8, .int (nI t0)), (7, .int ((cSee gS n0 aN bN cN m gP sd t0).2)), (0, .ref (ad 0)), (1, .int (nI nN)), (2, .int (nI aN)), (3, .int (nI bN)), (4, .int (nI cN)), (5, .int sd), (6, .int m)] 92 [] := by
                intro m0
                induction m0 with
                | zero =>
                  intro t0 hk_t0  
                  refine gj_iload C dX11_see_92 0 rfl ?_
                  refine gj_iload_n C 1 dX11_see_94 rfl 3 rfl ?_
                  refine gj_icmp_ge C 214 dX11_see_95 (by decide) (fun c_9 => ?_) (fun c_9 => absurd (nI_le (by omega) (by omega)) c_9)
                  refine gj_iload_n C 1 dX11_see_214 rfl 3 rfl ?_
                  exact RT _ _ _ _ (by rw [if_neg c_1, if_neg c_2, if_neg c_3, if_neg c_4, if_neg c_5, if_neg c_6, nI_clamp (show nN < 2 ^ 31 by omega), nI_clamp (show aN < 2 ^ 31 by omega), nI_clamp (show bN < 2 ^ 31 by omega), nI_clamp (show cN < 2 ^ 31 by omega)]; obtain rfl : t0 = nN := (by omega); exact ⟨rfl, cSI_new hI (fun k h1 h2 => up_nx (by omega) (up_nx (by omega) (up_nx (by omega) (rfl)))) (up_nx (by decide) (va_up_self _ _ _)) ⟨hn0, hnN, (up_nx (by decide) (up_nx (by decide) (up_nx (by decide) (hc2)))), (up_nx (by decide) (up_nx (by decide) (up_nx (by decide) (hc3)))), (up_nx (by decide) (up_nx (by decide) (va_up_self _ _ _))), (va_up_self _ _ _), (up_nx (by decide) (up_nx (by decide) (up_nx (by decide) (hc6))))⟩, fun k hk => up_nx (by omega) (up_nx (by omega) (up_nx (by omega) (rfl)))⟩) dX11_see_215
                | succ m0 ih_8 =>
                  intro t0 hk_t0  
                  refine gj_iload C dX11_see_92 0 rfl ?_
                  refine gj_iload_n C 1 dX11_see_94 rfl 3 rfl ?_
                  refine gj_icmp_ge C 214 dX11_see_95 (by decide) (fun c_10 => absurd c_10 (nI_ge (by omega) (by omega))) (fun c_10 => ?_)
                  by_cases hq : 1 ≤ m
                  · refine gj_aload_n C 0 dX11_see_98 rfl 2 rfl ?_
                    refine gj_get C 0 (by decide) (up_nx (by decide) (up_nx (by decide) (up_nx (by decide) (hc0)))) inX11 rfl 0 (by decide) w_357 (v := .ref (ad 1)) rfl dX11_see_99 ?_
                    refine gj_getN C 1 (by decide) (up_nx (by decide) (va_up_self _ _ _)) inX6 rfl 1 (by decide) w_255 (v := .ref (ad 4)) rfl dX11_see_102 ?_
                    refine gj_aload_n C 0 dX11_see_105 rfl 2 rfl ?_
                    refine gj_get C 0 (by decide) (up_nx (by decide) (up_nx (by decide) (up_nx (by decide) (hc0)))) inX11 rfl 0 (by decide) w_357 (v := .ref (ad 1)) rfl dX11_see_106 ?_
                    refine gj_getN C 1 (by decide) (up_nx (by decide) (va_up_self _ _ _)) inX6 rfl 0 (by decide) w_253 (v := .ref (ad 2)) rfl dX11_see_109 ?_
                    refine gj_iload C dX11_see_112 0 rfl ?_
                    refine gj_iconst C (v := 0) (by decide) dX11_see_114 ?_
                    refine gj_callVi C mi_X1_part w_425 2 (by decide) (up_nx (by decide) (up_nx (by decide) (up_nx (by decide) (hc2)))) rfl (c_X1_part 2 3 (nI t0) (0 : Int32) (12 : Int32) (nI n0) 36 gS (up_nx (by decide) (up_nx (by decide) (up_nx (by decide) (hc2)))) (up_nx (by decide) (up_nx (by decide) (up_nx (by decide) (hc3)))) (by decide) (by decide) (by decide) (szk (by omega) (by omega))) mc_X1_part ⟨Nat.le_of_ble_eq_true rfl, Nat.le_of_ble_eq_true rfl⟩ (rest := [.ref (ad 4)]) rfl (Nat.le_of_ble_eq_true rfl) dX11_see_115 (fun r u h => ?_)
                    obtain ⟨hr_, hu_⟩ := h; rw [hr_]; subst hu_
                    refine gj_aload_n C 0 dX11_see_118 rfl 2 rfl ?_
                    refine gj_get C 0 (by decide) (up_nx (by decide) (up_nx (by decide) (up_nx (by decide) (hc0)))) inX11 rfl 0 (by decide) w_357 (v := .ref (ad 1)) rfl dX11_see_119 ?_
                    refine gj_getN C 1 (by decide) (up_nx (by decide) (va_up_self _ _ _)) inX6 rfl 0 (by decide) w_253 (v := .ref (ad 2)) rfl dX11_see_122 ?_
                    refine gj_iload C dX11_see_125 0 rfl ?_
                    refine gj_iconst C (v := 1) (by decide) dX11_see_127 ?_
                    refine gj_callVi C mi_X1_part w_425 2 (by decide) (up_nx (by decide) (up_nx (by decide) (up_nx (by decide) (hc2)))) rfl (c_X1_part 2 3 (nI t0) (1 : Int32) (12 : Int32) (nI n0) 36 gS (up_nx (by decide) (up_nx (by decide) (up_nx (by decide) (hc2)))) (up_nx (by decide) (up_nx (by decide) (up_nx (by decide) (hc3)))) (by decide) (by decide) (by decide) (szk (by omega) (by omega))) mc_X1_part ⟨Nat.le_of_ble_eq_true rfl, Nat.le_of_ble_eq_true rfl⟩ (rest := [.int (s_X1_part (nI t0) (0 : Int32) (nI n0) gS), .ref (ad 4)]) rfl (Nat.le_of_ble_eq_true rfl) dX11_see_128 (fun r u h => ?_)
                    obtain ⟨hr_, hu_⟩ := h; rw [hr_]; subst hu_
                    refine gj_aload_n C 0 dX11_see_131 rfl 2 rfl ?_
                    refine gj_get C 0 (by decide) (up_nx (by decide) (up_nx (by decide) (up_nx (by decide) (hc0)))) inX11 rfl 0 (by decide) w_357 (v := .ref (ad 1)) rfl dX11_see_132 ?_
                    refine gj_getN C 1 (by decide) (up_nx (by decide) (va_up_self _ _ _)) inX6 rfl 0 (by decide) w_253 (v := .ref (ad 2)) rfl dX11_see_135 ?_
                    refine gj_iload C dX11_see_138 0 rfl ?_
                    refine gj_iconst C (v := 2) (by decide) dX11_see_140 ?_
                    refine gj_callVi C mi_X1_part w_425 2 (by decide) (up_nx (by decide) (up_nx (by decide) (up_nx (by decide) (hc2)))) rfl (c_X1_part 2 3 (nI t0) (2 : Int32) (12 : Int32) (nI n0) 36 gS (up_nx (by decide) (up_nx (by decide) (up_nx (by decide) (hc2)))) (up_nx (by decide) (up_nx (by decide) (up_nx (by decide) (hc3)))) (by decide) (by decide) (by decide) (szk (by omega) (by omega))) mc_X1_part ⟨Nat.le_of_ble_eq_true rfl, Nat.le_of_ble_eq_true rfl⟩ (rest := [.int (s_X1_part (nI t0) (1 : Int32) (nI n0) gS), .int (s_X1_part (nI t0) (0 : Int32) (nI n0) gS), .ref (ad 4)]) rfl (Nat.le_of_ble_eq_true rfl) dX11_see_141 (fun r u h => ?_)
                    obtain ⟨hr_, hu_⟩ := h; rw [hr_]; subst hu_
                    refine gj_callVv C mi_X1_append w_391 4 (by decide) (up_nx (by decide) (up_nx (by decide) (va_up_self _ _ _))) rfl (c_X1_append 4 5 (s_X1_part (nI t0) (0 : Int32) (nI n0) gS) (s_X1_part (nI t0) (1 : Int32) (nI n0) gS) (s_X1_part (nI t0) (2 : Int32) (nI n0) gS) (8 : Int32) (nI t0) 24 ((cSee gS n0 aN bN cN m gP sd t0).1) (up_nx (by decide) (up_nx (by decide) (va_up_self _ _ _))) (va_up_self _ _ _) (by decide) (by decide) (by decide) (isf0 (by omega)) (apk (by omega) (by decide))) mc_X1_append ⟨Nat.le_of_ble_eq_true rfl, Nat.le_of_ble_eq_true rfl⟩ (rest := []) rfl (Nat.le_of_ble_eq_true rfl) dX11_see_144 (fun u h => ?_)
                    subst h
                    refine gj_setf ((up_un (bx_uu _ _ _ _)).trans ((up_comm (by decide)).trans (up_un ((up_comm (by decide)).trans (up_un (bx_uu _ _ _ _)))))) ?_
                    refine gj_setf (g := va_up (va_up (va_up f 4 (.inr (1, [.ref (ad 5), .int 8, .int (nI (t0 + 1))]))) 1 (.inr (6, sgF ad lo ma bt bc sp sc 0 0 0))) 5 (.inl (ca 0, 24, .inl (w3 ((cSee gS n0 aN bN cN m gP sd t0).1) t0 (cSx gS n0 t0 0) (cSx gS n0 t0 1) (cSx gS n0 t0 2))))) (by rw [app_w3 _ (show t0 ≤ 12 by omega), nI_1]) ?_
                    refine gj_aload_n C 0 dX11_see_147 rfl 2 rfl ?_
                    refine gj_get C 0 (by decide) (up_nx (by decide) (up_nx (by decide) (up_nx (by decide) (hc0)))) inX11 rfl 0 (by decide) w_357 (v := .ref (ad 1)) rfl dX11_see_148 ?_
                    refine gj_getN C 1 (by decide) (up_nx (by decide) (va_up_self _ _ _)) inX6 rfl 1 (by decide) w_255 (v := .ref (ad 4)) rfl dX11_see_151 ?_
                    refine gj_iload C dX11_see_154 0 rfl ?_
                    refine gj_iconst C (v := 0) (by decide) dX11_see_156 ?_
                    refine gj_iload_n C 2 dX11_see_157 rfl 4 rfl ?_
                    refine gj_callVv C mi_X1_quarter w_462 4 (by decide) (up_nx (by decide) (up_nx (by decide) (va_up_self _ _ _))) rfl (c_quarter0 t0 aN (t0 + 1) ((cSee gS n0 aN bN cN m gP sd t0).1) (cSx gS n0 t0 0) (cSx gS n0 t0 1) (cSx gS n0 t0 2) (up_nx (by decide) (up_nx (by decide) (va_up_self _ _ _))) (va_up_self _ _ _) (by omega) (by omega) (by omega)) mc_X1_quarter ⟨Nat.le_of_ble_eq_true rfl, Nat.le_of_ble_eq_true rfl⟩ (rest := []) rfl (Nat.le_of_ble_eq_true rfl) dX11_see_158 (fun u h => ?_)
                    subst h
                    refine gj_setf (bx_uu _ _ _ _) ?_
                    refine gj_aload_n C 0 dX11_see_161 rfl 2 rfl ?_
                    refine gj_get C 0 (by decide) (up_nx (by decide) (up_nx (by decide) (up_nx (by decide) (hc0)))) inX11 rfl 0 (by decide) w_357 (v := .ref (ad 1)) rfl dX11_see_162 ?_
                    refine gj_getN C 1 (by decide) (up_nx (by decide) (va_up_self _ _ _)) inX6 rfl 1 (by decide) w_255 (v := .ref (ad 4)) rfl dX11_see_165 ?_
                    refine gj_iload C dX11_see_168 0 rfl ?_
                    refine gj_iconst C (v := 1) (by decide) dX11_see_170 ?_
                    refine gj_iload_n C 3 dX11_see_171 rfl 5 rfl ?_
                    refine gj_callVv C mi_X1_quarter w_462 4 (by decide) (up_nx (by decide) (up_nx (by decide) (va_up_self _ _ _))) rfl (c_quarter1 t0 bN (t0 + 1) ((cSee gS n0 aN bN cN m gP sd t0).1) (cSx gS n0 t0 0) ((r1 (cSx gS n0 t0 1) (cSx gS n0 t0 2) aN).1) ((r1 (cSx gS n0 t0 1) (cSx gS n0 t0 2) aN).2) (up_nx (by decide) (up_nx (by decide) (va_up_self _ _ _))) (va_up_self _ _ _) (by omega) (by omega) (by omega)) mc_X1_quarter ⟨Nat.le_of_ble_eq_true rfl, Nat.le_of_ble_eq_true rfl⟩ (rest := []) rfl (Nat.le_of_ble_eq_true rfl) dX11_see_172 (fun u h => ?_)
                    subst h
                    refine gj_setf (bx_uu _ _ _ _) ?_
                    refine gj_aload_n C 0 dX11_see_175 rfl 2 rfl ?_
                    refine gj_get C 0 (by decide) (up_nx (by decide) (up_nx (by decide) (up_nx (by decide) (hc0)))) inX11 rfl 0 (by decide) w_357 (v := .ref (ad 1)) rfl dX11_see_176 ?_
                    refine gj_getN C 1 (by decide) (up_nx (by decide) (va_up_self _ _ _)) inX6 rfl 1 (by decide) w_255 (v := .ref (ad 4)) rfl dX11_see_179 ?_
                    refine gj_iload C dX11_see_182 0 rfl ?_
                    refine gj_iconst C (v := 2) (by decide) dX11_see_184 ?_
                    refine gj_iload C dX11_see_185 6 rfl ?_
                    refine gj_callVv C mi_X1_quarter w_462 4 (by decide) (up_nx (by decide) (up_nx (by decide) (va_up_self _ _ _))) rfl (c_quarter2 t0 cN (t0 + 1) ((cSee gS n0 aN bN cN m gP sd t0).1) ((r2 (cSx gS n0 t0 0) ((r1 (cSx gS n0 t0 1) (cSx gS n0 t0 2) aN).2) bN).1) ((r1 (cSx gS n0 t0 1) (cSx gS n0 t0 2) aN).1) ((r2 (cSx gS n0 t0 0) ((r1 (cSx gS n0 t0 1) (cSx gS n0 t0 2) aN).2) bN).2) (up_nx (by decide) (up_nx (by decide) (va_up_self _ _ _))) (va_up_self _ _ _) (by omega) (by omega) (by omega)) mc_X1_quarter ⟨Nat.le_of_ble_eq_true rfl, Nat.le_of_ble_eq_true rfl⟩ (rest := []) rfl (Nat.le_of_ble_eq_true rfl) dX11_see_187 (fun u h => ?_)
                    subst h
                    refine gj_setf (bx_uu _ _ _ _) ?_
                    refine gj_aload_n C 0 dX11_see_190 rfl 2 rfl ?_
                    refine gj_get C 0 (by decide) (up_nx (by decide) (up_nx (by decide) (up_nx (by decide) (hc0)))) inX11 rfl 0 (by decide) w_357 (v := .ref (ad 1)) rfl dX11_see_191 ?_
                    refine gj_getN C 1 (by decide) (up_nx (by decide) (va_up_self _ _ _)) inX6 rfl 1 (by decide) w_255 (v := .ref (ad 4)) rfl dX11_see_194 ?_
                    refine gj_iload C dX11_see_197 0 rfl ?_
                    refine gj_iload C dX11_see_199 8 rfl ?_
                    refine gj_iload C dX11_see_201 1 rfl ?_
                    refine gj_callVi C mi_X1_blur w_466 4 (by decide) (up_nx (by decide) (up_nx (by decide) (va_up_self _ _ _))) rfl (c_blur1 t0 (t0 + 1) m ((cSee gS n0 aN bN cN m gP sd t0).2) ((cSee gS n0 aN bN cN m gP sd t0).1) ((r3 ((r2 (cSx gS n0 t0 0) ((r1 (cSx gS n0 t0 1) (cSx gS n0 t0 2) aN).2) bN).1) ((r1 (cSx gS n0 t0 1) (cSx gS n0 t0 2) aN).1) cN).1) ((r3 ((r2 (cSx gS n0 t0 0) ((r1 (cSx gS n0 t0 1) (cSx gS n0 t0 2) aN).2) bN).1) ((r1 (cSx gS n0 t0 1) (cSx gS n0 t0 2) aN).1) cN).2) ((r2 (cSx gS n0 t0 0) ((r1 (cSx gS n0 t0 1) (cSx gS n0 t0 2) aN).2) bN).2) (up_nx (by decide) (up_nx (by decide) (va_up_self _ _ _))) (va_up_self _ _ _) (by omega) (by omega) hq (q2_nz c_3)) mc_X1_blur ⟨Nat.le_of_ble_eq_true rfl, Nat.le_of_ble_eq_true rfl⟩ (rest := []) rfl (Nat.le_of_ble_eq_true rfl) dX11_see_203 (fun r u h => ?_)
                    obtain ⟨hr_, hu_⟩ := h; rw [hr_]; subst hu_
                    refine gj_setf (bx_uu _ _ _ _) ?_
                    refine gj_istore C (lv' := [(7, .int (nDraw (nDraw (nDraw ((cSee gS n0 aN bN cN m gP sd t0).2))))), (8, .int (nI t0)), (0, .ref (ad 0)), (1, .int (nI nN)), (2, .int (nI aN)), (3, .int (nI bN)), (4, .int (nI cN)), (5, .int sd), (6, .int m)]) dX11_see_206 (by decide) rfl ?_
                    refine gj_iinc C (v := nI (t0 + 1)) (lv' := [(8, .int (nI (t0 + 1))), (7, .int (nDraw (nDraw (nDraw ((cSee gS n0 aN bN cN m gP sd t0).2))))), (0, .ref (ad 0)), (1, .int (nI nN)), (2, .int (nI aN)), (3, .int (nI bN)), (4, .int (nI cN)), (5, .int sd), (6, .int m)]) dX11_see_208 1 rfl (nI_1 _) (by decide) rfl ?_
                    refine gj_goto C 92 dX11_see_211 (by decide) ?_
                    refine gj_lvs (lv' := [(8, .int (nI (t0 + 1))), (7, .int ((cSee gS n0 aN bN cN m gP sd (t0 + 1)).2)), (0, .ref (ad 0)), (1, .int (nI nN)), (2, .int (nI aN)), (3, .int (nI bN)), (4, .int (nI cN)), (5, .int sd), (6, .int m)]) (by rw [(show (cSee gS n0 aN bN cN m gP sd (t0 + 1)) = _ from if_pos hq)]) ?_
                    refine gj_setf (g := va_up (va_up (va_up f 4 (.inr (1, [.ref (ad 5), .int 8, .int (nI (t0 + 1))]))) 1 (.inr (6, sgF ad lo ma bt bc sp sc 0 0 0))) 5 (.inl (ca 0, 24, .inl ((cSee gS n0 aN bN cN m gP sd (t0 + 1)).1)))) (by rw [(show (cSee gS n0 aN bN cN m gP sd (t0 + 1)) = _ from if_pos hq)]) ?_
                    refine gj_lv [0, 1, 2, 3, 4, 5, 6, 7, 8] rfl ?_
                    exact ih_8 (t0 + 1) (by omega)
                  · refine gj_aload_n C 0 dX11_see_98 rfl 2 rfl ?_
                    refine gj_get C 0 (by decide) (up_nx (by decide) (up_nx (by decide) (up_nx (by decide) (hc0)))) inX11 rfl 0 (by decide) w_357 (v := .ref (ad 1)) rfl dX11_see_99 ?_
                    refine gj_getN C 1 (by decide) (up_nx (by decide) (va_up_self _ _ _)) inX6 rfl 1 (by decide) w_255 (v := .ref (ad 4)) rfl dX11_see_102 ?_
                    refine gj_aload_n C 0 dX11_see_105 rfl 2 rfl ?_
                    refine gj_get C 0 (by decide) (up_nx (by decide) (up_nx (by decide) (up_nx (by decide) (hc0)))) inX11 rfl 0 (by decide) w_357 (v := .ref (ad 1)) rfl dX11_see_106 ?_
                    refine gj_getN C 1 (by decide) (up_nx (by decide) (va_up_self _ _ _)) inX6 rfl 0 (by decide) w_253 (v := .ref (ad 2)) rfl dX11_see_109 ?_
                    refine gj_iload C dX11_see_112 0 rfl ?_
                    refine gj_iconst C (v := 0) (by decide) dX11_see_114 ?_
                    refine gj_callVi C mi_X1_part w_425 2 (by decide) (up_nx (by decide) (up_nx (by decide) (up_nx (by decide) (hc2)))) rfl (c_X1_part 2 3 (nI t0) (0 : Int32) (12 : Int32) (nI n0) 36 gS (up_nx (by decide) (up_nx (by decide) (up_nx (by decide) (hc2)))) (up_nx (by decide) (up_nx (by decide) (up_nx (by decide) (hc3)))) (by decide) (by decide) (by decide) (szk (by omega) (by omega))) mc_X1_part ⟨Nat.le_of_ble_eq_true rfl, Nat.le_of_ble_eq_true rfl⟩ (rest := [.ref (ad 4)]) rfl (Nat.le_of_ble_eq_true rfl) dX11_see_115 (fun r u h => ?_)
                    obtain ⟨hr_, hu_⟩ := h; rw [hr_]; subst hu_
                    refine gj_aload_n C 0 dX11_see_118 rfl 2 rfl ?_
                    refine gj_get C 0 (by decide) (up_nx (by decide) (up_nx (by decide) (up_nx (by decide) (hc0)))) inX11 rfl 0 (by decide) w_357 (v := .ref (ad 1)) rfl dX11_see_119 ?_
                    refine gj_getN C 1 (by decide) (up_nx (by decide) (va_up_self _ _ _)) inX6 rfl 0 (by decide) w_253 (v := .ref (ad 2)) rfl dX11_see_122 ?_
                    refine gj_iload C dX11_see_125 0 rfl ?_
                    refine gj_iconst C (v := 1) (by decide) dX11_see_127 ?_
                    refine gj_callVi C mi_X1_part w_425 2 (by decide) (up_nx (by decide) (up_nx (by decide) (up_nx (by decide) (hc2)))) rfl (c_X1_part 2 3 (nI t0) (1 : Int32) (12 : Int32) (nI n0) 36 gS (up_nx (by decide) (up_nx (by decide) (up_nx (by decide) (hc2)))) (up_nx (by decide) (up_nx (by decide) (up_nx (by decide) (hc3)))) (by decide) (by decide) (by decide) (szk (by omega) (by omega))) mc_X1_part ⟨Nat.le_of_ble_eq_true rfl, Nat.le_of_ble_eq_true rfl⟩ (rest := [.int (s_X1_part (nI t0) (0 : Int32) (nI n0) gS), .ref (ad 4)]) rfl (Nat.le_of_ble_eq_true rfl) dX11_see_128 (fun r u h => ?_)
                    obtain ⟨hr_, hu_⟩ := h; rw [hr_]; subst hu_
                    refine gj_aload_n C 0 dX11_see_131 rfl 2 rfl ?_
                    refine gj_get C 0 (by decide) (up_nx (by decide) (up_nx (by decide) (up_nx (by decide) (hc0)))) inX11 rfl 0 (by decide) w_357 (v := .ref (ad 1)) rfl dX11_see_132 ?_
                    refine gj_getN C 1 (by decide) (up_nx (by decide) (va_up_self _ _ _)) inX6 rfl 0 (by decide) w_253 (v := .ref (ad 2)) rfl dX11_see_135 ?_
                    refine gj_iload C dX11_see_138 0 rfl ?_
                    refine gj_iconst C (v := 2) (by decide) dX11_see_140 ?_
                    refine gj_callVi C mi_X1_part w_425 2 (by decide) (up_nx (by decide) (up_nx (by decide) (up_nx (by decide) (hc2)))) rfl (c_X1_part 2 3 (nI t0) (2 : Int32) (12 : Int32) (nI n0) 36 gS (up_nx (by decide) (up_nx (by decide) (up_nx (by decide) (hc2)))) (up_nx (by decide) (up_nx (by decide) (up_nx (by decide) (hc3)))) (by decide) (by decide) (by decide) (szk (by omega) (by omega))) mc_X1_part ⟨Nat.le_of_ble_eq_true rfl, Nat.le_of_ble_eq_true rfl⟩ (rest := [.int (s_X1_part (nI t0) (1 : Int32) (nI n0) gS), .int (s_X1_part (nI t0) (0 : Int32) (nI n0) gS), .ref (ad 4)]) rfl (Nat.le_of_ble_eq_true rfl) dX11_see_141 (fun r u h => ?_)
                    obtain ⟨hr_, hu_⟩ := h; rw [hr_]; subst hu_
                    refine gj_callVv C mi_X1_append w_391 4 (by decide) (up_nx (by decide) (up_nx (by decide) (va_up_self _ _ _))) rfl (c_X1_append 4 5 (s_X1_part (nI t0) (0 : Int32) (nI n0) gS) (s_X1_part (nI t0) (1 : Int32) (nI n0) gS) (s_X1_part (nI t0) (2 : Int32) (nI n0) gS) (8 : Int32) (nI t0) 24 ((cSee gS n0 aN bN cN m gP sd t0).1) (up_nx (by decide) (up_nx (by decide) (va_up_self _ _ _))) (va_up_self _ _ _) (by decide) (by decide) (by decide) (isf0 (by omega)) (apk (by omega) (by decide))) mc_X1_append ⟨Nat.le_of_ble_eq_true rfl, Nat.le_of_ble_eq_true rfl⟩ (rest := []) rfl (Nat.le_of_ble_eq_true rfl) dX11_see_144 (fun u h => ?_)
                    subst h
                    refine gj_setf ((up_un (bx_uu _ _ _ _)).trans ((up_comm (by decide)).trans (up_un ((up_comm (by decide)).trans (up_un (bx_uu _ _ _ _)))))) ?_
                    refine gj_setf (g := va_up (va_up (va_up f 4 (.inr (1, [.ref (ad 5), .int 8, .int (nI (t0 + 1))]))) 1 (.inr (6, sgF ad lo ma bt bc sp sc 0 0 0))) 5 (.inl (ca 0, 24, .inl (w3 ((cSee gS n0 aN bN cN m gP sd t0).1) t0 (cSx gS n0 t0 0) (cSx gS n0 t0 1) (cSx gS n0 t0 2))))) (by rw [app_w3 _ (show t0 ≤ 12 by omega), nI_1]) ?_
                    refine gj_aload_n C 0 dX11_see_147 rfl 2 rfl ?_
                    refine gj_get C 0 (by decide) (up_nx (by decide) (up_nx (by decide) (up_nx (by decide) (hc0)))) inX11 rfl 0 (by decide) w_357 (v := .ref (ad 1)) rfl dX11_see_148 ?_
                    refine gj_getN C 1 (by decide) (up_nx (by decide) (va_up_self _ _ _)) inX6 rfl 1 (by decide) w_255 (v := .ref (ad 4)) rfl dX11_see_151 ?_
                    refine gj_iload C dX11_see_154 0 rfl ?_
                    refine gj_iconst C (v := 0) (by decide) dX11_see_156 ?_
                    refine gj_iload_n C 2 dX11_see_157 rfl 4 rfl ?_
                    refine gj_callVv C mi_X1_quarter w_462 4 (by decide) (up_nx (by decide) (up_nx (by decide) (va_up_self _ _ _))) rfl (c_quarter0 t0 aN (t0 + 1) ((cSee gS n0 aN bN cN m gP sd t0).1) (cSx gS n0 t0 0) (cSx gS n0 t0 1) (cSx gS n0 t0 2) (up_nx (by decide) (up_nx (by decide) (va_up_self _ _ _))) (va_up_self _ _ _) (by omega) (by omega) (by omega)) mc_X1_quarter ⟨Nat.le_of_ble_eq_true rfl, Nat.le_of_ble_eq_true rfl⟩ (rest := []) rfl (Nat.le_of_ble_eq_true rfl) dX11_see_158 (fun u h => ?_)
                    subst h
                    refine gj_setf (bx_uu _ _ _ _) ?_
                    refine gj_aload_n C 0 dX11_see_161 rfl 2 rfl ?_
                    refine gj_get C 0 (by decide) (up_nx (by decide) (up_nx (by decide) (up_nx (by decide) (hc0)))) inX11 rfl 0 (by decide) w_357 (v := .ref (ad 1)) rfl dX11_see_162 ?_
                    refine gj_getN C 1 (by decide) (up_nx (by decide) (va_up_self _ _ _)) inX6 rfl 1 (by decide) w_255 (v := .ref (ad 4)) rfl dX11_see_165 ?_
                    refine gj_iload C dX11_see_168 0 rfl ?_
                    refine gj_iconst C (v := 1) (by decide) dX11_see_170 ?_
                    refine gj_iload_n C 3 dX11_see_171 rfl 5 rfl ?_
                    refine gj_callVv C mi_X1_quarter w_462 4 (by decide) (up_nx (by decide) (up_nx (by decide) (va_up_self _ _ _))) rfl (c_quarter1 t0 bN (t0 + 1) ((cSee gS n0 aN bN cN m gP sd t0).1) (cSx gS n0 t0 0) ((r1 (cSx gS n0 t0 1) (cSx gS n0 t0 2) aN).1) ((r1 (cSx gS n0 t0 1) (cSx gS n0 t0 2) aN).2) (up_nx (by decide) (up_nx (by decide) (va_up_self _ _ _))) (va_up_self _ _ _) (by omega) (by omega) (by omega)) mc_X1_quarter ⟨Nat.le_of_ble_eq_true rfl, Nat.le_of_ble_eq_true rfl⟩ (rest := []) rfl (Nat.le_of_ble_eq_true rfl) dX11_see_172 (fun u h => ?_)
                    subst h
                    refine gj_setf (bx_uu _ _ _ _) ?_
                    refine gj_aload_n C 0 dX11_see_175 rfl 2 rfl ?_
                    refine gj_get C 0 (by decide) (up_nx (by decide) (up_nx (by decide) (up_nx (by decide) (hc0)))) inX11 rfl 0 (by decide) w_357 (v := .ref (ad 1)) rfl dX11_see_176 ?_
                    refine gj_getN C 1 (by decide) (up_nx (by decide) (va_up_self _ _ _)) inX6 rfl 1 (by decide) w_255 (v := .ref (ad 4)) rfl dX11_see_179 ?_
                    refine gj_iload C dX11_see_182 0 rfl ?_
                    refine gj_iconst C (v := 2) (by decide) dX11_see_184 ?_
                    refine gj_iload C dX11_see_185 6 rfl ?_
                    refine gj_callVv C mi_X1_quarter w_462 4 (by decide) (up_nx (by decide) (up_nx (by decide) (va_up_self _ _ _))) rfl (c_quarter2 t0 cN (t0 + 1) ((cSee gS n0 aN bN cN m gP sd t0).1) ((r2 (cSx gS n0 t0 0) ((r1 (cSx gS n0 t0 1) (cSx gS n0 t0 2) aN).2) bN).1) ((r1 (cSx gS n0 t0 1) (cSx gS n0 t0 2) aN).1) ((r2 (cSx gS n0 t0 0) ((r1 (cSx gS n0 t0 1) (cSx gS n0 t0 2) aN).2) bN).2) (up_nx (by decide) (up_nx (by decide) (va_up_self _ _ _))) (va_up_self _ _ _) (by omega) (by omega) (by omega)) mc_X1_quarter ⟨Nat.le_of_ble_eq_true rfl, Nat.le_of_ble_eq_true rfl⟩ (rest := []) rfl (Nat.le_of_ble_eq_true rfl) dX11_see_187 (fun u h => ?_)
                    subst h
                    refine gj_setf (bx_uu _ _ _ _) ?_
                    refine gj_aload_n C 0 dX11_see_190 rfl 2 rfl ?_
                    refine gj_get C 0 (by decide) (up_nx (by decide) (up_nx (by decide) (up_nx (by decide) (hc0)))) inX11 rfl 0 (by decide) w_357 (v := .ref (ad 1)) rfl dX11_see_191 ?_
                    refine gj_getN C 1 (by decide) (up_nx (by decide) (va_up_self _ _ _)) inX6 rfl 1 (by decide) w_255 (v := .ref (ad 4)) rfl dX11_see_194 ?_
                    refine gj_iload C dX11_see_197 0 rfl ?_
                    refine gj_iload C dX11_see_199 8 rfl ?_
                    refine gj_iload C dX11_see_201 1 rfl ?_
                    refine gj_callVi C mi_X1_blur w_466 4 (by decide) (up_nx (by decide) (up_nx (by decide) (va_up_self _ _ _))) rfl (c_blur0 t0 (t0 + 1) m ((cSee gS n0 aN bN cN m gP sd t0).2) ((cSee gS n0 aN bN cN m gP sd t0).1) ((r3 ((r2 (cSx gS n0 t0 0) ((r1 (cSx gS n0 t0 1) (cSx gS n0 t0 2) aN).2) bN).1) ((r1 (cSx gS n0 t0 1) (cSx gS n0 t0 2) aN).1) cN).1) ((r3 ((r2 (cSx gS n0 t0 0) ((r1 (cSx gS n0 t0 1) (cSx gS n0 t0 2) aN).2) bN).1) ((r1 (cSx gS n0 t0 1) (cSx gS n0 t0 2) aN).1) cN).2) ((r2 (cSx gS n0 t0 0) ((r1 (cSx gS n0 t0 1) (cSx gS n0 t0 2) aN).2) bN).2) (up_nx (by decide) (up_nx (by decide) (va_up_self _ _ _))) (va_up_self _ _ _) (by omega) (by omega) hq) mc_X1_blur ⟨Nat.le_of_ble_eq_true rfl, Nat.le_of_ble_eq_true rfl⟩ (rest := []) rfl (Nat.le_of_ble_eq_true rfl) dX11_see_203 (fun r u h => ?_)
                    obtain ⟨hr_, hu_⟩ := h; rw [hr_]; subst hu_
                    refine gj_istore C (lv' := [(7, .int ((cSee gS n0 aN bN cN m gP sd t0).2)), (8, .int (nI t0)), (0, .ref (ad 0)), (1, .int (nI nN)), (2, .int (nI aN)), (3, .int (nI bN)), (4, .int (nI cN)), (5, .int sd), (6, .int m)]) dX11_see_206 (by decide) rfl ?_
                    refine gj_iinc C (v := nI (t0 + 1)) (lv' := [(8, .int (nI (t0 + 1))), (7, .int ((cSee gS n0 aN bN cN m gP sd t0).2)), (0, .ref (ad 0)), (1, .int (nI nN)), (2, .int (nI aN)), (3, .int (nI bN)), (4, .int (nI cN)), (5, .int sd), (6, .int m)]) dX11_see_208 1 rfl (nI_1 _) (by decide) rfl ?_
                    refine gj_goto C 92 dX11_see_211 (by decide) ?_
                    refine gj_lvs (lv' := [(8, .int (nI (t0 + 1))), (7, .int ((cSee gS n0 aN bN cN m gP sd (t0 + 1)).2)), (0, .ref (ad 0)), (1, .int (nI nN)), (2, .int (nI aN)), (3, .int (nI bN)), (4, .int (nI cN)), (5, .int sd), (6, .int m)]) (by rw [(show (cSee gS n0 aN bN cN m gP sd (t0 + 1)) = _ from if_neg hq)]) ?_
                    refine gj_setf (g := va_up (va_up (va_up f 4 (.inr (1, [.ref (ad 5), .int 8, .int (nI (t0 + 1))]))) 1 (.inr (6, sgF ad lo ma bt bc sp sc 0 0 0))) 5 (.inl (ca 0, 24, .inl ((cSee gS n0 aN bN cN m gP sd (t0 + 1)).1)))) (by rw [(show (cSee gS n0 aN bN cN m gP sd (t0 + 1)) = _ from if_neg hq)]) ?_
                    refine gj_lv [0, 1, 2, 3, 4, 5, 6, 7, 8] rfl ?_
                    exact ih_8 (t0 + 1) (by omega)
              refine gj_lv [0, 1, 2, 3, 4, 5, 6, 7, 8] rfl ?_
              exact loop_7 (nN - 0) 0 (by omega)
            · refine gj_bipush C (v := (-2)) (by decide) dX11_see_65 ?_
              exact RT _ _ _ _ (by rw [if_neg c_1, if_neg c_2, if_neg c_3, if_neg c_4, if_neg c_5, if_pos c_6]; exact ⟨rfl, rfl⟩) dX11_see_67
      · refine gj_bipush C (v := (-2)) (by decide) dX11_see_34 ?_
        exact RT _ _ _ _ (by rw [if_neg c_1, if_neg c_2, if_pos c_3]; exact ⟨rfl, rfl⟩) dX11_see_36
theorem isfn {t r : Nat} (hr : r < 2 ^ 30) (h : t < r) : s_X1_isFull (nI r) (nI t) = 0 := by
  unfold s_X1_isFull
  exact if_pos (by rw [i32_lt, nI_toInt (by omega), nI_toInt (by omega)]; omega)
theorem nI_nle2 {a b : Nat} (ha : a < 2 ^ 31) (hb : b < 2 ^ 31) (h : ¬ nI b ≤ nI a) : a < b := by
  rw [i32_le, nI_toInt ha, nI_toInt hb] at h
  omega
set_option maxHeartbeats 400000 in
set_option maxRecDepth 100000 in
theorem c_read0 {l : Launch} {D : va_G} {ca ss ad : Nat → Nat} {f : Nat → va_E} (sN : Nat) (hsN : sN < 4) (la : Int32) (n0 n1 : Nat) (gS gP se : Nat → Int32) (fm ln : Nat → Int32) (sG : Nat → Nat → Int32) (hc0 : f 0 = .inr (10, [.ref (ad 1), .ref (ad 69), .ref (ad 70), .int la])) (hI : cSI ca ad n0 n1 gS gP se f) (hS : cSh ca ad fm ln sG f) : gMi l D ca ss ad 108 yX11_read cX11_read 10 (some .int) 2 f [.ref (ad 0), .int 0, .int (nI sN)] (fun r u => if s_X5_isLost (fm sN) = 0 then (∃ K, (¬ rdGo (ln sN).toNatClampNeg 12 n0 (ln sN) (sG sN) K ∧ ∀ t, t < K → rdGo (ln sN).toNatClampNeg 12 n0 (ln sN) (sG sN) t) ∧ r = nI (n0 + K) - nI n0 ∧ cSI ca ad (n0 + K) n1 (cRd (ln sN) (sG sN) gS n0 K) gP se u ∧ ∀ k, k = 0 ∨ 69 ≤ k → u k = f k) else (r = -11 ∧ u = va_up f 0 (.inr (10, [.ref (ad 1), .ref (ad 69), .ref (ad 70), .int 1])))) := by
  refine gMi_ofK (by decide +kernel) (Nat.le_of_ble_eq_true rfl) (lv0 := [(0, .ref (ad 0)), (1, .int 0), (2, .int (nI sN))]) rfl (fun pT eT sT mT aT below meth cT AT QT C RT => ?_)
  have C : gX pT sT mT aT meth cT AT D ca ss 10 RX11 cX11_read (some .int) := C
  have hI0 := hI
  obtain ⟨⟨hn0, hn1, hc2, hc3, hc4, hc5, hc6⟩, ⟨hM, hP, hT, hR, hF, hG⟩, lo, ma, bt, bc, sp, sc, fk, bk, sk, hc1, hfk, hbk, hsk⟩ := hI
  have hI := hI0
  obtain ⟨hsz, hso, hsg⟩ := hS.2 sN (by omega)
  obtain ⟨LN, hLN, eLN⟩ := ln_n hsz
  obtain ⟨K, hK, hstop, hgo⟩ := rd_end (rdGo LN 12 n0 (ln sN) (sG sN)) 21 ⟨20, by omega, fun q => by have := q.1; omega⟩
  refine gj_iload_n C 1 dX11_read_0 rfl 1 rfl ?_
  refine gj_callSi C w_375 w_374 (c_X11_isKind (0 : Int32)) mc_X11_isKind ⟨Nat.le_of_ble_eq_true rfl, Nat.le_of_ble_eq_true rfl⟩ (rest := []) rfl (Nat.le_of_ble_eq_true rfl) dX11_read_1 (fun r u h => ?_)
  obtain ⟨hr_, h⟩ := h; rw [hr_]
  rw [h]
  refine gj_seti (y := 1) (by decide) ?_
  refine gj_if_eq C 14 dX11_read_4 (by decide) (fun c_1 => absurd c_1 (by decide)) (fun c_1 => ?_)
  refine gj_iload_n C 2 dX11_read_7 rfl 2 rfl ?_
  refine gj_callSi C w_436 w_435 (c_X11_isSheet (nI sN)) mc_X11_isSheet ⟨Nat.le_of_ble_eq_true rfl, Nat.le_of_ble_eq_true rfl⟩ (rest := []) rfl (Nat.le_of_ble_eq_true rfl) dX11_read_8 (fun r u h => ?_)
  obtain ⟨hr_, h⟩ := h; rw [hr_]
  rw [h]
  refine gj_if_ne C 17 dX11_read_11 (by decide) (fun c_2 => ?_) (fun c_2 => absurd c_2 (isSheet_y hsN))
  refine gj_aload_n C 0 dX11_read_17 rfl 0 rfl ?_
  refine gj_get C 0 (by decide) hc0 inX11 rfl 2 (by decide) w_359 (v := .ref (ad 70)) rfl dX11_read_18 ?_
  refine gj_iload_n C 2 dX11_read_21 rfl 2 rfl ?_
  refine gj_aldq C 3 70 (by decide) hS.1 rfl (vp_in_nI (by omega) (by omega)) (a := ad (79 + 2 * sN)) (q2_n ad 79 (by omega)) dX11_read_22 ?_
  refine gj_astore_n C (lv' := [(3, .ref (ad (79 + 2 * sN))), (0, .ref (ad 0)), (1, .int 0), (2, .int (nI sN))]) 3 dX11_read_23 rfl (by decide) rfl ?_
  refine gj_aload_n C 3 dX11_read_24 rfl 0 rfl ?_
  refine gj_callVi C mi_X5_isLost w_438 (79 + 2 * sN) (by omega) hso rfl (c_X5_isLost (79 + 2 * sN) (80 + 2 * sN) (fm sN) (ln sN) (sG sN) hso hsg (by omega) (by omega) (by omega)) mc_X5_isLost ⟨Nat.le_of_ble_eq_true rfl, Nat.le_of_ble_eq_true rfl⟩ (rest := []) rfl (Nat.le_of_ble_eq_true rfl) dX11_read_25 (fun r u h => ?_)
  obtain ⟨hr_, h⟩ := h; rw [hr_]
  rw [h]
  refine gj_if_eq C 37 dX11_read_28 (by decide) (fun c_3 => ?_) (fun c_3 => ?_)
  · refine gj_aload_n C 0 dX11_read_37 rfl 1 rfl ?_
    refine gj_get C 0 (by decide) hc0 inX11 rfl 0 (by decide) w_357 (v := .ref (ad 1)) rfl dX11_read_38 ?_
    refine gj_iload_n C 1 dX11_read_41 rfl 2 rfl ?_
    refine gj_callVr C mi_X6_rowOf w_383 1 (by decide) hc1 rfl (c_rowOf0 lo ma bt bc sp sc fk bk sk hc1) mc_X6_rowOf ⟨Nat.le_of_ble_eq_true rfl, Nat.le_of_ble_eq_true rfl⟩ (rest := []) rfl (Nat.le_of_ble_eq_true rfl) dX11_read_42 (fun r u h => ?_)
    obtain ⟨hr_, h⟩ := h; rw [hr_]
    rw [h]
    refine gj_astore C (lv' := [(4, .ref (ad 2)), (3, .ref (ad (79 + 2 * sN))), (0, .ref (ad 0)), (1, .int 0), (2, .int (nI sN))]) dX11_read_45 (by decide) rfl ?_
    refine gj_aload C dX11_read_47 0 rfl ?_
    refine gj_callVi C mi_X1_size w_400 2 (by decide) hc2 rfl (c_X1_size 2 3 (12 : Int32) (nI n0) 36 gS hc2 hc3 (by decide) (by decide) (by decide)) mc_X1_size ⟨Nat.le_of_ble_eq_true rfl, Nat.le_of_ble_eq_true rfl⟩ (rest := []) rfl (Nat.le_of_ble_eq_true rfl) dX11_read_49 (fun r u h => ?_)
    obtain ⟨hr_, h⟩ := h; rw [hr_]
    rw [h]
    refine gj_istore C (lv' := [(5, .int (s_X1_size (nI n0))), (4, .ref (ad 2)), (3, .ref (ad (79 + 2 * sN))), (0, .ref (ad 0)), (1, .int 0), (2, .int (nI sN))]) dX11_read_52 (by decide) rfl ?_
    refine gj_aload_n C 0 dX11_read_54 rfl 3 rfl ?_
    refine gj_get C 0 (by decide) hc0 inX11 rfl 0 (by decide) w_357 (v := .ref (ad 1)) rfl dX11_read_55 ?_
    refine gj_callVv C mi_X6_forget w_396 1 (by decide) hc1 rfl (c_forget lo ma bt bc sp sc fk bk sk hc1) mc_X6_forget ⟨Nat.le_of_ble_eq_true rfl, Nat.le_of_ble_eq_true rfl⟩ (rest := []) rfl (Nat.le_of_ble_eq_true rfl) dX11_read_58 (fun u h => ?_)
    subst h
    refine gj_iconst C (v := 0) (by decide) dX11_read_61 ?_
    refine gj_seti (y := nI (3 * 0)) rfl ?_
    refine gj_istore C (lv' := [(6, .int (nI (3 * 0))), (5, .int (s_X1_size (nI n0))), (4, .ref (ad 2)), (3, .ref (ad (79 + 2 * sN))), (0, .ref (ad 0)), (1, .int 0), (2, .int (nI sN))]) dX11_read_62 (by decide) rfl ?_
    refine gj_setf (up_id (up_nx (by decide) (hc3))).symm ?_
    refine gj_setf (up_id (up_nx (by decide) (up_nx (by decide) (hc2)))).symm ?_
    refine gj_setf (g := va_up (va_up (va_up f 1 (.inr (6, sgF ad lo ma bt bc sp sc 0 0 0))) 3 (.inl (ca 0, 36, .inl (cRd (ln sN) (sG sN) gS n0 0)))) 2 (.inr (1, [.ref (ad 3), .int 12, .int (nI (n0 + 0))]))) rfl ?_
    have loop_4 : ∀ (m0 t0 : Nat), t0 + m0 = K → gJ pT l eT (Rm 2) sT mT aT below meth cT AT QT D ad 108 10 (va_up (va_up (va_up f 1 (.inr (6, sgF ad lo ma bt bc sp sc 0 0 0))) 3 (.inl (ca 0, 36, .inl (cRd (ln sN) (sG sN) gS n0 t0)))) 2 (.inr (1, [.ref (ad 3), .int 12, .int (nI (n0 + t0))]))) [(6, .int (nI (3 * t0))), (5, .int (s_X1_size (nI n0))), (4, .ref (ad 2)), (3, .ref (ad (79 + 2 * sN))), (0, .ref (ad 0))] 64 [] := by
      intro m0
      induction m0 with
      | zero =>
        intro t0 hk_t0  
        refine gj_iload C dX11_read_64 0 rfl ?_
        refine gj_iconst C (v := 2) (by decide) dX11_read_66 ?_
        refine gj_iadd C dX11_read_67 ?_
        refine gj_seti (y := nI (3 * t0 + 2)) (nI_add _ 2) ?_
        refine gj_aload_n C 3 dX11_read_68 rfl 3 rfl ?_
        refine gj_callVi C mi_X5_length w_446 (79 + 2 * sN) (by omega) (up_nx (by omega) (up_nx (by omega) (up_nx (by omega) (hso)))) rfl (c_X5_length (79 + 2 * sN) (80 + 2 * sN) (fm sN) (ln sN) (sG sN) (up_nx (by omega) (up_nx (by omega) (up_nx (by omega) (hso)))) (up_nx (by omega) (up_nx (by omega) (up_nx (by omega) (hsg)))) (by omega) (by omega) (by omega)) mc_X5_length ⟨Nat.le_of_ble_eq_true rfl, Nat.le_of_ble_eq_true rfl⟩ (rest := [.int (nI (3 * t0 + 2))]) rfl (Nat.le_of_ble_eq_true rfl) dX11_read_69 (fun r u h => ?_)
        obtain ⟨hr_, hu_⟩ := h; rw [hr_]; subst hu_
        refine gj_seti (y := nI LN) eLN ?_
        refine gj_icmp_ge C 143 dX11_read_72 (by decide) (fun c_6 => ?_) (fun c_6 => ?_)
        · have hKr : n0 + t0 ≤ 12 := by
            rcases Nat.eq_zero_or_pos K with h | h
            · omega
            · have := (hgo (K - 1) (by omega)).2.1; omega
          have hrd : ¬ rdGo (ln sN).toNatClampNeg 12 n0 (ln sN) (sG sN) t0 ∧ ∀ t, t < t0 → rdGo (ln sN).toNatClampNeg 12 n0 (ln sN) (sG sN) t := by
            obtain rfl : t0 = K := (by omega)
            rw [show (ln sN).toNatClampNeg = LN by rw [eLN]; exact nI_clamp (by omega)]
            exact ⟨hstop, hgo⟩
          refine gj_aload C dX11_read_143 2 rfl ?_
          refine gj_callVi C mi_X1_size w_400 2 (by decide) (va_up_self _ _ _) rfl (c_X1_size 2 3 (12 : Int32) (nI (n0 + t0)) 36 (cRd (ln sN) (sG sN) gS n0 t0) (va_up_self _ _ _) (up_nx (by decide) (va_up_self _ _ _)) (by decide) (by decide) (by decide)) mc_X1_size ⟨Nat.le_of_ble_eq_true rfl, Nat.le_of_ble_eq_true rfl⟩ (rest := []) rfl (Nat.le_of_ble_eq_true rfl) dX11_read_145 (fun r u h => ?_)
          obtain ⟨hr_, hu_⟩ := h; rw [hr_]; subst hu_
          refine gj_iload C dX11_read_148 1 rfl ?_
          refine gj_isub C dX11_read_150 ?_
          exact RT _ _ _ _ (by rw [if_pos c_3]; obtain rfl : t0 = K := (by omega); exact ⟨t0, hrd, rfl, cSI_new hI (fun k h1 h2 => up_nx (by omega) (up_nx (by omega) (up_nx (by omega) (rfl)))) (up_nx (by decide) (up_nx (by decide) (va_up_self _ _ _))) ⟨(by omega), hn1, (va_up_self _ _ _), (up_nx (by decide) (va_up_self _ _ _)), (up_nx (by decide) (up_nx (by decide) (up_nx (by decide) (hc4)))), (up_nx (by decide) (up_nx (by decide) (up_nx (by decide) (hc5)))), (up_nx (by decide) (up_nx (by decide) (up_nx (by decide) (hc6))))⟩, fun k hk => up_nx (by omega) (up_nx (by omega) (up_nx (by omega) (rfl)))⟩) dX11_read_151
        · refine gj_aload C dX11_read_75 2 rfl ?_
          refine gj_callVi C mi_X1_isFull w_387 2 (by decide) (va_up_self _ _ _) rfl (c_X1_isFull 2 3 (12 : Int32) (nI (n0 + t0)) 36 (cRd (ln sN) (sG sN) gS n0 t0) (va_up_self _ _ _) (up_nx (by decide) (va_up_self _ _ _)) (by decide) (by decide) (by decide)) mc_X1_isFull ⟨Nat.le_of_ble_eq_true rfl, Nat.le_of_ble_eq_true rfl⟩ (rest := []) rfl (Nat.le_of_ble_eq_true rfl) dX11_read_77 (fun r u h => ?_)
          obtain ⟨hr_, hu_⟩ := h; rw [hr_]; subst hu_
          refine gj_if_ne C 143 dX11_read_80 (by decide) (fun c_7 => ?_) (fun c_7 => ?_)
          · have hKr : n0 + t0 ≤ 12 := by
              rcases Nat.eq_zero_or_pos K with h | h
              · omega
              · have := (hgo (K - 1) (by omega)).2.1; omega
            have hrd : ¬ rdGo (ln sN).toNatClampNeg 12 n0 (ln sN) (sG sN) t0 ∧ ∀ t, t < t0 → rdGo (ln sN).toNatClampNeg 12 n0 (ln sN) (sG sN) t := by
              obtain rfl : t0 = K := (by omega)
              rw [show (ln sN).toNatClampNeg = LN by rw [eLN]; exact nI_clamp (by omega)]
              exact ⟨hstop, hgo⟩
            refine gj_aload C dX11_read_143 2 rfl ?_
            refine gj_callVi C mi_X1_size w_400 2 (by decide) (va_up_self _ _ _) rfl (c_X1_size 2 3 (12 : Int32) (nI (n0 + t0)) 36 (cRd (ln sN) (sG sN) gS n0 t0) (va_up_self _ _ _) (up_nx (by decide) (va_up_self _ _ _)) (by decide) (by decide) (by decide)) mc_X1_size ⟨Nat.le_of_ble_eq_true rfl, Nat.le_of_ble_eq_true rfl⟩ (rest := []) rfl (Nat.le_of_ble_eq_true rfl) dX11_read_145 (fun r u h => ?_)
            obtain ⟨hr_, hu_⟩ := h; rw [hr_]; subst hu_
            refine gj_iload C dX11_read_148 1 rfl ?_
            refine gj_isub C dX11_read_150 ?_
            exact RT _ _ _ _ (by rw [if_pos c_3]; obtain rfl : t0 = K := (by omega); exact ⟨t0, hrd, rfl, cSI_new hI (fun k h1 h2 => up_nx (by omega) (up_nx (by omega) (up_nx (by omega) (rfl)))) (up_nx (by decide) (up_nx (by decide) (va_up_self _ _ _))) ⟨(by omega), hn1, (va_up_self _ _ _), (up_nx (by decide) (va_up_self _ _ _)), (up_nx (by decide) (up_nx (by decide) (up_nx (by decide) (hc4)))), (up_nx (by decide) (up_nx (by decide) (up_nx (by decide) (hc5)))), (up_nx (by decide) (up_nx (by decide) (up_nx (by decide) (hc6))))⟩, fun k hk => up_nx (by omega) (up_nx (by omega) (up_nx (by omega) (rfl)))⟩) dX11_read_151
          · refine gj_aload_n C 3 dX11_read_83 rfl 3 rfl ?_
            refine gj_iload C dX11_read_84 0 rfl ?_
            refine gj_seti (y := nI (3 * t0 + 0)) rfl ?_
            refine gj_callVi C mi_X5_item w_450 (79 + 2 * sN) (by omega) (up_nx (by omega) (up_nx (by omega) (up_nx (by omega) (hso)))) rfl (c_X5_item (79 + 2 * sN) (80 + 2 * sN) (nI (3 * t0 + 0)) (fm sN) (ln sN) (sG sN) (up_nx (by omega) (up_nx (by omega) (up_nx (by omega) (hso)))) (up_nx (by omega) (up_nx (by omega) (up_nx (by omega) (hsg)))) (by omega) (by omega) (by omega) hsz.2) mc_X5_item ⟨Nat.le_of_ble_eq_true rfl, Nat.le_of_ble_eq_true rfl⟩ (rest := []) rfl (Nat.le_of_ble_eq_true rfl) dX11_read_86 (fun r u h => ?_)
            obtain ⟨hr_, hu_⟩ := h; rw [hr_]; subst hu_
            refine gj_istore C (lv' := [(7, .int (s_X5_item (nI (3 * t0 + 0)) (ln sN) (sG sN))), (6, .int (nI (3 * t0))), (5, .int (s_X1_size (nI n0))), (4, .ref (ad 2)), (3, .ref (ad (79 + 2 * sN))), (0, .ref (ad 0))]) dX11_read_89 (by decide) rfl ?_
            refine gj_aload_n C 3 dX11_read_91 rfl 4 rfl ?_
            refine gj_iload C dX11_read_92 1 rfl ?_
            refine gj_iconst C (v := 1) (by decide) dX11_read_94 ?_
            refine gj_iadd C dX11_read_95 ?_
            refine gj_seti (y := nI (3 * t0 + 1)) (nI_add _ 1) ?_
            refine gj_callVi C mi_X5_item w_450 (79 + 2 * sN) (by omega) (up_nx (by omega) (up_nx (by omega) (up_nx (by omega) (hso)))) rfl (c_X5_item (79 + 2 * sN) (80 + 2 * sN) (nI (3 * t0 + 1)) (fm sN) (ln sN) (sG sN) (up_nx (by omega) (up_nx (by omega) (up_nx (by omega) (hso)))) (up_nx (by omega) (up_nx (by omega) (up_nx (by omega) (hsg)))) (by omega) (by omega) (by omega) hsz.2) mc_X5_item ⟨Nat.le_of_ble_eq_true rfl, Nat.le_of_ble_eq_true rfl⟩ (rest := []) rfl (Nat.le_of_ble_eq_true rfl) dX11_read_96 (fun r u h => ?_)
            obtain ⟨hr_, hu_⟩ := h; rw [hr_]; subst hu_
            refine gj_istore C (lv' := [(8, .int (s_X5_item (nI (3 * t0 + 1)) (ln sN) (sG sN))), (7, .int (s_X5_item (nI (3 * t0 + 0)) (ln sN) (sG sN))), (6, .int (nI (3 * t0))), (5, .int (s_X1_size (nI n0))), (4, .ref (ad 2)), (3, .ref (ad (79 + 2 * sN))), (0, .ref (ad 0))]) dX11_read_99 (by decide) rfl ?_
            refine gj_aload_n C 3 dX11_read_101 rfl 5 rfl ?_
            refine gj_iload C dX11_read_102 2 rfl ?_
            refine gj_iconst C (v := 2) (by decide) dX11_read_104 ?_
            refine gj_iadd C dX11_read_105 ?_
            refine gj_seti (y := nI (3 * t0 + 2)) (nI_add _ 2) ?_
            refine gj_callVi C mi_X5_item w_450 (79 + 2 * sN) (by omega) (up_nx (by omega) (up_nx (by omega) (up_nx (by omega) (hso)))) rfl (c_X5_item (79 + 2 * sN) (80 + 2 * sN) (nI (3 * t0 + 2)) (fm sN) (ln sN) (sG sN) (up_nx (by omega) (up_nx (by omega) (up_nx (by omega) (hso)))) (up_nx (by omega) (up_nx (by omega) (up_nx (by omega) (hsg)))) (by omega) (by omega) (by omega) hsz.2) mc_X5_item ⟨Nat.le_of_ble_eq_true rfl, Nat.le_of_ble_eq_true rfl⟩ (rest := []) rfl (Nat.le_of_ble_eq_true rfl) dX11_read_106 (fun r u h => ?_)
            obtain ⟨hr_, hu_⟩ := h; rw [hr_]; subst hu_
            refine gj_istore C (lv' := [(9, .int (s_X5_item (nI (3 * t0 + 2)) (ln sN) (sG sN))), (8, .int (s_X5_item (nI (3 * t0 + 1)) (ln sN) (sG sN))), (7, .int (s_X5_item (nI (3 * t0 + 0)) (ln sN) (sG sN))), (6, .int (nI (3 * t0))), (5, .int (s_X1_size (nI n0))), (4, .ref (ad 2)), (3, .ref (ad (79 + 2 * sN))), (0, .ref (ad 0))]) dX11_read_109 (by decide) rfl ?_
            refine gj_iload C dX11_read_111 2 rfl ?_
            refine gj_iload C dX11_read_113 1 rfl ?_
            refine gj_iload C dX11_read_115 0 rfl ?_
            refine gj_callSi C w_378 w_377 (c_X11_mayBeDirection (s_X5_item (nI (3 * t0 + 0)) (ln sN) (sG sN)) (s_X5_item (nI (3 * t0 + 1)) (ln sN) (sG sN)) (s_X5_item (nI (3 * t0 + 2)) (ln sN) (sG sN))) mc_X11_mayBeDirection ⟨Nat.le_of_ble_eq_true rfl, Nat.le_of_ble_eq_true rfl⟩ (rest := []) rfl (Nat.le_of_ble_eq_true rfl) dX11_read_117 (fun r u h => ?_)
            obtain ⟨hr_, hu_⟩ := h; rw [hr_]; subst hu_
            refine gj_if_ne C 126 dX11_read_120 (by decide) (fun c_8 => ?_) (fun c_8 => ?_)
            · exact absurd (show rdGo LN 12 n0 (ln sN) (sG sN) t0 from ⟨by have := nI_nle2 (by omega) (by omega) c_6; omega, notfull (r := 12) (by decide) (by omega) c_7, c_8⟩) (by obtain rfl : t0 = K := (by omega); exact hstop)
            · refine gj_goto C 143 dX11_read_123 (by decide) ?_
              have hKr : n0 + t0 ≤ 12 := by
                rcases Nat.eq_zero_or_pos K with h | h
                · omega
                · have := (hgo (K - 1) (by omega)).2.1; omega
              have hrd : ¬ rdGo (ln sN).toNatClampNeg 12 n0 (ln sN) (sG sN) t0 ∧ ∀ t, t < t0 → rdGo (ln sN).toNatClampNeg 12 n0 (ln sN) (sG sN) t := by
                obtain rfl : t0 = K := (by omega)
                rw [show (ln sN).toNatClampNeg = LN by rw [eLN]; exact nI_clamp (by omega)]
                exact ⟨hstop, hgo⟩
              refine gj_aload C dX11_read_143 5 rfl ?_
              refine gj_callVi C mi_X1_size w_400 2 (by decide) (va_up_self _ _ _) rfl (c_X1_size 2 3 (12 : Int32) (nI (n0 + t0)) 36 (cRd (ln sN) (sG sN) gS n0 t0) (va_up_self _ _ _) (up_nx (by decide) (va_up_self _ _ _)) (by decide) (by decide) (by decide)) mc_X1_size ⟨Nat.le_of_ble_eq_true rfl, Nat.le_of_ble_eq_true rfl⟩ (rest := []) rfl (Nat.le_of_ble_eq_true rfl) dX11_read_145 (fun r u h => ?_)
              obtain ⟨hr_, hu_⟩ := h; rw [hr_]; subst hu_
              refine gj_iload C dX11_read_148 4 rfl ?_
              refine gj_isub C dX11_read_150 ?_
              exact RT _ _ _ _ (by rw [if_pos c_3]; obtain rfl : t0 = K := (by omega); exact ⟨t0, hrd, rfl, cSI_new hI (fun k h1 h2 => up_nx (by omega) (up_nx (by omega) (up_nx (by omega) (rfl)))) (up_nx (by decide) (up_nx (by decide) (va_up_self _ _ _))) ⟨(by omega), hn1, (va_up_self _ _ _), (up_nx (by decide) (va_up_self _ _ _)), (up_nx (by decide) (up_nx (by decide) (up_nx (by decide) (hc4)))), (up_nx (by decide) (up_nx (by decide) (up_nx (by decide) (hc5)))), (up_nx (by decide) (up_nx (by decide) (up_nx (by decide) (hc6))))⟩, fun k hk => up_nx (by omega) (up_nx (by omega) (up_nx (by omega) (rfl)))⟩) dX11_read_151
      | succ m0 ih_5 =>
        intro t0 hk_t0  
        refine gj_iload C dX11_read_64 0 rfl ?_
        refine gj_iconst C (v := 2) (by decide) dX11_read_66 ?_
        refine gj_iadd C dX11_read_67 ?_
        refine gj_seti (y := nI (3 * t0 + 2)) (nI_add _ 2) ?_
        refine gj_aload_n C 3 dX11_read_68 rfl 3 rfl ?_
        refine gj_callVi C mi_X5_length w_446 (79 + 2 * sN) (by omega) (up_nx (by omega) (up_nx (by omega) (up_nx (by omega) (hso)))) rfl (c_X5_length (79 + 2 * sN) (80 + 2 * sN) (fm sN) (ln sN) (sG sN) (up_nx (by omega) (up_nx (by omega) (up_nx (by omega) (hso)))) (up_nx (by omega) (up_nx (by omega) (up_nx (by omega) (hsg)))) (by omega) (by omega) (by omega)) mc_X5_length ⟨Nat.le_of_ble_eq_true rfl, Nat.le_of_ble_eq_true rfl⟩ (rest := [.int (nI (3 * t0 + 2))]) rfl (Nat.le_of_ble_eq_true rfl) dX11_read_69 (fun r u h => ?_)
        obtain ⟨hr_, hu_⟩ := h; rw [hr_]; subst hu_
        refine gj_seti (y := nI LN) eLN ?_
        refine gj_icmp_ge C 143 dX11_read_72 (by decide) (fun c_9 => absurd c_9 (show ¬ nI LN ≤ nI (3 * t0 + 2) from nI_ge (by have := (hgo t0 (by omega)).1; omega) (by omega))) (fun c_9 => ?_)
        refine gj_aload C dX11_read_75 2 rfl ?_
        refine gj_callVi C mi_X1_isFull w_387 2 (by decide) (va_up_self _ _ _) rfl (c_X1_isFull 2 3 (12 : Int32) (nI (n0 + t0)) 36 (cRd (ln sN) (sG sN) gS n0 t0) (va_up_self _ _ _) (up_nx (by decide) (va_up_self _ _ _)) (by decide) (by decide) (by decide)) mc_X1_isFull ⟨Nat.le_of_ble_eq_true rfl, Nat.le_of_ble_eq_true rfl⟩ (rest := []) rfl (Nat.le_of_ble_eq_true rfl) dX11_read_77 (fun r u h => ?_)
        obtain ⟨hr_, hu_⟩ := h; rw [hr_]; subst hu_
        refine gj_if_ne C 143 dX11_read_80 (by decide) (fun c_10 => absurd (show s_X1_isFull 12 (nI (n0 + t0)) = 0 from isfn (r := 12) (by decide) (hgo t0 (by omega)).2.1) c_10) (fun c_10 => ?_)
        refine gj_aload_n C 3 dX11_read_83 rfl 3 rfl ?_
        refine gj_iload C dX11_read_84 0 rfl ?_
        refine gj_seti (y := nI (3 * t0 + 0)) rfl ?_
        refine gj_callVi C mi_X5_item w_450 (79 + 2 * sN) (by omega) (up_nx (by omega) (up_nx (by omega) (up_nx (by omega) (hso)))) rfl (c_X5_item (79 + 2 * sN) (80 + 2 * sN) (nI (3 * t0 + 0)) (fm sN) (ln sN) (sG sN) (up_nx (by omega) (up_nx (by omega) (up_nx (by omega) (hso)))) (up_nx (by omega) (up_nx (by omega) (up_nx (by omega) (hsg)))) (by omega) (by omega) (by omega) hsz.2) mc_X5_item ⟨Nat.le_of_ble_eq_true rfl, Nat.le_of_ble_eq_true rfl⟩ (rest := []) rfl (Nat.le_of_ble_eq_true rfl) dX11_read_86 (fun r u h => ?_)
        obtain ⟨hr_, hu_⟩ := h; rw [hr_]; subst hu_
        refine gj_istore C (lv' := [(7, .int (s_X5_item (nI (3 * t0 + 0)) (ln sN) (sG sN))), (6, .int (nI (3 * t0))), (5, .int (s_X1_size (nI n0))), (4, .ref (ad 2)), (3, .ref (ad (79 + 2 * sN))), (0, .ref (ad 0))]) dX11_read_89 (by decide) rfl ?_
        refine gj_aload_n C 3 dX11_read_91 rfl 4 rfl ?_
        refine gj_iload C dX11_read_92 1 rfl ?_
        refine gj_iconst C (v := 1) (by decide) dX11_read_94 ?_
        refine gj_iadd C dX11_read_95 ?_
        refine gj_seti (y := nI (3 * t0 + 1)) (nI_add _ 1) ?_
        refine gj_callVi C mi_X5_item w_450 (79 + 2 * sN) (by omega) (up_nx (by omega) (up_nx (by omega) (up_nx (by omega) (hso)))) rfl (c_X5_item (79 + 2 * sN) (80 + 2 * sN) (nI (3 * t0 + 1)) (fm sN) (ln sN) (sG sN) (up_nx (by omega) (up_nx (by omega) (up_nx (by omega) (hso)))) (up_nx (by omega) (up_nx (by omega) (up_nx (by omega) (hsg)))) (by omega) (by omega) (by omega) hsz.2) mc_X5_item ⟨Nat.le_of_ble_eq_true rfl, Nat.le_of_ble_eq_true rfl⟩ (rest := []) rfl (Nat.le_of_ble_eq_true rfl) dX11_read_96 (fun r u h => ?_)
        obtain ⟨hr_, hu_⟩ := h; rw [hr_]; subst hu_
        refine gj_istore C (lv' := [(8, .int (s_X5_item (nI (3 * t0 + 1)) (ln sN) (sG sN))), (7, .int (s_X5_item (nI (3 * t0 + 0)) (ln sN) (sG sN))), (6, .int (nI (3 * t0))), (5, .int (s_X1_size (nI n0))), (4, .ref (ad 2)), (3, .ref (ad (79 + 2 * sN))), (0, .ref (ad 0))]) dX11_read_99 (by decide) rfl ?_
        refine gj_aload_n C 3 dX11_read_101 rfl 5 rfl ?_
        refine gj_iload C dX11_read_102 2 rfl ?_
        refine gj_iconst C (v := 2) (by decide) dX11_read_104 ?_
        refine gj_iadd C dX11_read_105 ?_
        refine gj_seti (y := nI (3 * t0 + 2)) (nI_add _ 2) ?_
        refine gj_callVi C mi_X5_item w_450 (79 + 2 * sN) (by omega) (up_nx (by omega) (up_nx (by omega) (up_nx (by omega) (hso)))) rfl (c_X5_item (79 + 2 * sN) (80 + 2 * sN) (nI (3 * t0 + 2)) (fm sN) (ln sN) (sG sN) (up_nx (by omega) (up_nx (by omega) (up_nx (by omega) (hso)))) (up_nx (by omega) (up_nx (by omega) (up_nx (by omega) (hsg)))) (by omega) (by omega) (by omega) hsz.2) mc_X5_item ⟨Nat.le_of_ble_eq_true rfl, Nat.le_of_ble_eq_true rfl⟩ (rest := []) rfl (Nat.le_of_ble_eq_true rfl) dX11_read_106 (fun r u h => ?_)
        obtain ⟨hr_, hu_⟩ := h; rw [hr_]; subst hu_
        refine gj_istore C (lv' := [(9, .int (s_X5_item (nI (3 * t0 + 2)) (ln sN) (sG sN))), (8, .int (s_X5_item (nI (3 * t0 + 1)) (ln sN) (sG sN))), (7, .int (s_X5_item (nI (3 * t0 + 0)) (ln sN) (sG sN))), (6, .int (nI (3 * t0))), (5, .int (s_X1_size (nI n0))), (4, .ref (ad 2)), (3, .ref (ad (79 + 2 * sN))), (0, .ref (ad 0))]) dX11_read_109 (by decide) rfl ?_
        refine gj_iload C dX11_read_111 2 rfl ?_
        refine gj_iload C dX11_read_113 1 rfl ?_
        refine gj_iload C dX11_read_115 0 rfl ?_
        refine gj_callSi C w_378 w_377 (c_X11_mayBeDirection (s_X5_item (nI (3 * t0 + 0)) (ln sN) (sG sN)) (s_X5_item (nI (3 * t0 + 1)) (ln sN) (sG sN)) (s_X5_item (nI (3 * t0 + 2)) (ln sN) (sG sN))) mc_X11_mayBeDirection ⟨Nat.le_of_ble_eq_true rfl, Nat.le_of_ble_eq_true rfl⟩ (rest := []) rfl (Nat.le_of_ble_eq_true rfl) dX11_read_117 (fun r u h => ?_)
        obtain ⟨hr_, hu_⟩ := h; rw [hr_]; subst hu_
        refine gj_if_ne C 126 dX11_read_120 (by decide) (fun c_11 => ?_) (fun c_11 => absurd c_11 ((hgo t0 (by omega)).2.2))
        refine gj_aload C dX11_read_126 5 rfl ?_
        refine gj_iload C dX11_read_128 2 rfl ?_
        refine gj_iload C dX11_read_130 1 rfl ?_
        refine gj_iload C dX11_read_132 0 rfl ?_
        refine gj_callVv C mi_X1_append w_391 2 (by decide) (va_up_self _ _ _) rfl (c_X1_append 2 3 (s_X5_item (nI (3 * t0 + 0)) (ln sN) (sG sN)) (s_X5_item (nI (3 * t0 + 1)) (ln sN) (sG sN)) (s_X5_item (nI (3 * t0 + 2)) (ln sN) (sG sN)) (12 : Int32) (nI (n0 + t0)) 36 (cRd (ln sN) (sG sN) gS n0 t0) (va_up_self _ _ _) (up_nx (by decide) (va_up_self _ _ _)) (by decide) (by decide) (by decide) (isfn (r := 12) (by decide) (hgo t0 (by omega)).2.1) (apk (by have := (hgo t0 (by omega)).2.1; omega) (by decide))) mc_X1_append ⟨Nat.le_of_ble_eq_true rfl, Nat.le_of_ble_eq_true rfl⟩ (rest := []) rfl (Nat.le_of_ble_eq_true rfl) dX11_read_134 (fun u h => ?_)
        subst h
        refine gj_setf ((up_un ((up_comm (by decide)).trans (up_un (bx_uu _ _ _ _)))).trans (bx_uu _ _ _ _)) ?_
        refine gj_setf (g := va_up (va_up (va_up f 1 (.inr (6, sgF ad lo ma bt bc sp sc 0 0 0))) 3 (.inl (ca 0, 36, .inl (cRd (ln sN) (sG sN) gS n0 (t0 + 1))))) 2 (.inr (1, [.ref (ad 3), .int 12, .int (nI (n0 + (t0 + 1)))]))) (by rw [app_w3 _ (show n0 + t0 ≤ 12 by have := (hgo t0 (by omega)).2.1; omega), nI_1]; rfl) ?_
        refine gj_iinc C (v := nI (3 * (t0 + 1))) (lv' := [(6, .int (nI (3 * (t0 + 1)))), (9, .int (s_X5_item (nI (3 * t0 + 2)) (ln sN) (sG sN))), (8, .int (s_X5_item (nI (3 * t0 + 1)) (ln sN) (sG sN))), (7, .int (s_X5_item (nI (3 * t0 + 0)) (ln sN) (sG sN))), (5, .int (s_X1_size (nI n0))), (4, .ref (ad 2)), (3, .ref (ad (79 + 2 * sN))), (0, .ref (ad 0))]) dX11_read_137 3 rfl (nI_add _ 3) (by decide) rfl ?_
        refine gj_goto C 64 dX11_read_140 (by decide) ?_
        refine gj_setf (g := va_up (va_up (va_up f 1 (.inr (6, sgF ad lo ma bt bc sp sc 0 0 0))) 3 (.inl (ca 0, 36, .inl (cRd (ln sN) (sG sN) gS n0 (t0 + 1))))) 2 (.inr (1, [.ref (ad 3), .int 12, .int (nI (n0 + (t0 + 1)))]))) rfl ?_
        refine gj_lv [0, 4, 5, 6, 7] rfl ?_
        exact ih_5 (t0 + 1) (by omega)
    refine gj_lv [0, 1, 2, 3, 4] rfl ?_
    exact loop_4 (K - 0) 0 (by omega)
  · refine gj_aload_n C 0 dX11_read_31 rfl 1 rfl ?_
    refine gj_iconst C (v := 1) (by decide) dX11_read_32 ?_
    refine gj_callVi C mi_X11_find w_442 0 (by decide) hc0 rfl (c_X11_find (1 : Int32) la hc0) mc_X11_find ⟨Nat.le_of_ble_eq_true rfl, Nat.le_of_ble_eq_true rfl⟩ (rest := []) rfl (Nat.le_of_ble_eq_true rfl) dX11_read_33 (fun r u h => ?_)
    obtain ⟨hr_, hu_⟩ := h; rw [hr_]; subst hu_
    refine gj_seti (y := (-11)) (by decide) ?_
    exact RT _ _ _ _ (by rw [if_neg c_3]; exact ⟨rfl, rfl⟩) dX11_read_36
set_option maxHeartbeats 400000 in
set_option maxRecDepth 100000 in
theorem c_read1 {l : Launch} {D : va_G} {ca ss ad : Nat → Nat} {f : Nat → va_E} (sN : Nat) (hsN : sN < 4) (la : Int32) (n0 n1 : Nat) (gS gP se : Nat → Int32) (fm ln : Nat → Int32) (sG : Nat → Nat → Int32) (hc0 : f 0 = .inr (10, [.ref (ad 1), .ref (ad 69), .ref (ad 70), .int la])) (hI : cSI ca ad n0 n1 gS gP se f) (hS : cSh ca ad fm ln sG f) : gMi l D ca ss ad 108 yX11_read cX11_read 10 (some .int) 2 f [.ref (ad 0), .int 1, .int (nI sN)] (fun r u => if s_X5_isLost (fm sN) = 0 then (∃ K, (¬ rdGo (ln sN).toNatClampNeg 8 n1 (ln sN) (sG sN) K ∧ ∀ t, t < K → rdGo (ln sN).toNatClampNeg 8 n1 (ln sN) (sG sN) t) ∧ r = nI (n1 + K) - nI n1 ∧ cSI ca ad n0 (n1 + K) gS (cRd (ln sN) (sG sN) gP n1 K) se u ∧ ∀ k, k = 0 ∨ 69 ≤ k → u k = f k) else (r = -11 ∧ u = va_up f 0 (.inr (10, [.ref (ad 1), .ref (ad 69), .ref (ad 70), .int 1])))) := by
  refine gMi_ofK (by decide +kernel) (Nat.le_of_ble_eq_true rfl) (lv0 := [(0, .ref (ad 0)), (1, .int 1), (2, .int (nI sN))]) rfl (fun pT eT sT mT aT below meth cT AT QT C RT => ?_)
  have C : gX pT sT mT aT meth cT AT D ca ss 10 RX11 cX11_read (some .int) := C
  have hI0 := hI
  obtain ⟨⟨hn0, hn1, hc2, hc3, hc4, hc5, hc6⟩, ⟨hM, hP, hT, hR, hF, hG⟩, lo, ma, bt, bc, sp, sc, fk, bk, sk, hc1, hfk, hbk, hsk⟩ := hI
  have hI := hI0
  obtain ⟨hsz, hso, hsg⟩ := hS.2 sN (by omega)
  obtain ⟨LN, hLN, eLN⟩ := ln_n hsz
  obtain ⟨K, hK, hstop, hgo⟩ := rd_end (rdGo LN 8 n1 (ln sN) (sG sN)) 21 ⟨20, by omega, fun q => by have := q.1; omega⟩
  refine gj_iload_n C 1 dX11_read_0 rfl 1 rfl ?_
  refine gj_callSi C w_375 w_374 (c_X11_isKind (1 : Int32)) mc_X11_isKind ⟨Nat.le_of_ble_eq_true rfl, Nat.le_of_ble_eq_true rfl⟩ (rest := []) rfl (Nat.le_of_ble_eq_true rfl) dX11_read_1 (fun r u h => ?_)
  obtain ⟨hr_, h⟩ := h; rw [hr_]
  rw [h]
  refine gj_seti (y := 1) (by decide) ?_
  refine gj_if_eq C 14 dX11_read_4 (by decide) (fun c_1 => absurd c_1 (by decide)) (fun c_1 => ?_)
  refine gj_iload_n C 2 dX11_read_7 rfl 2 rfl ?_
  refine gj_callSi C w_436 w_435 (c_X11_isSheet (nI sN)) mc_X11_isSheet ⟨Nat.le_of_ble_eq_true rfl, Nat.le_of_ble_eq_true rfl⟩ (rest := []) rfl (Nat.le_of_ble_eq_true rfl) dX11_read_8 (fun r u h => ?_)
  obtain ⟨hr_, h⟩ := h; rw [hr_]
  rw [h]
  refine gj_if_ne C 17 dX11_read_11 (by decide) (fun c_2 => ?_) (fun c_2 => absurd c_2 (isSheet_y hsN))
  refine gj_aload_n C 0 dX11_read_17 rfl 0 rfl ?_
  refine gj_get C 0 (by decide) hc0 inX11 rfl 2 (by decide) w_359 (v := .ref (ad 70)) rfl dX11_read_18 ?_
  refine gj_iload_n C 2 dX11_read_21 rfl 2 rfl ?_
  refine gj_aldq C 3 70 (by decide) hS.1 rfl (vp_in_nI (by omega) (by omega)) (a := ad (79 + 2 * sN)) (q2_n ad 79 (by omega)) dX11_read_22 ?_
  refine gj_astore_n C (lv' := [(3, .ref (ad (79 + 2 * sN))), (0, .ref (ad 0)), (1, .int 1), (2, .int (nI sN))]) 3 dX11_read_23 rfl (by decide) rfl ?_
  refine gj_aload_n C 3 dX11_read_24 rfl 0 rfl ?_
  refine gj_callVi C mi_X5_isLost w_438 (79 + 2 * sN) (by omega) hso rfl (c_X5_isLost (79 + 2 * sN) (80 + 2 * sN) (fm sN) (ln sN) (sG sN) hso hsg (by omega) (by omega) (by omega)) mc_X5_isLost ⟨Nat.le_of_ble_eq_true rfl, Nat.le_of_ble_eq_true rfl⟩ (rest := []) rfl (Nat.le_of_ble_eq_true rfl) dX11_read_25 (fun r u h => ?_)
  obtain ⟨hr_, h⟩ := h; rw [hr_]
  rw [h]
  refine gj_if_eq C 37 dX11_read_28 (by decide) (fun c_3 => ?_) (fun c_3 => ?_)
  · refine gj_aload_n C 0 dX11_read_37 rfl 1 rfl ?_
    refine gj_get C 0 (by decide) hc0 inX11 rfl 0 (by decide) w_357 (v := .ref (ad 1)) rfl dX11_read_38 ?_
    refine gj_iload_n C 1 dX11_read_41 rfl 2 rfl ?_
    refine gj_callVr C mi_X6_rowOf w_383 1 (by decide) hc1 rfl (c_rowOf1 lo ma bt bc sp sc fk bk sk hc1) mc_X6_rowOf ⟨Nat.le_of_ble_eq_true rfl, Nat.le_of_ble_eq_true rfl⟩ (rest := []) rfl (Nat.le_of_ble_eq_true rfl) dX11_read_42 (fun r u h => ?_)
    obtain ⟨hr_, h⟩ := h; rw [hr_]
    rw [h]
    refine gj_astore C (lv' := [(4, .ref (ad 4)), (3, .ref (ad (79 + 2 * sN))), (0, .ref (ad 0)), (1, .int 1), (2, .int (nI sN))]) dX11_read_45 (by decide) rfl ?_
    refine gj_aload C dX11_read_47 0 rfl ?_
    refine gj_callVi C mi_X1_size w_400 4 (by decide) hc4 rfl (c_X1_size 4 5 (8 : Int32) (nI n1) 24 gP hc4 hc5 (by decide) (by decide) (by decide)) mc_X1_size ⟨Nat.le_of_ble_eq_true rfl, Nat.le_of_ble_eq_true rfl⟩ (rest := []) rfl (Nat.le_of_ble_eq_true rfl) dX11_read_49 (fun r u h => ?_)
    obtain ⟨hr_, h⟩ := h; rw [hr_]
    rw [h]
    refine gj_istore C (lv' := [(5, .int (s_X1_size (nI n1))), (4, .ref (ad 4)), (3, .ref (ad (79 + 2 * sN))), (0, .ref (ad 0)), (1, .int 1), (2, .int (nI sN))]) dX11_read_52 (by decide) rfl ?_
    refine gj_aload_n C 0 dX11_read_54 rfl 3 rfl ?_
    refine gj_get C 0 (by decide) hc0 inX11 rfl 0 (by decide) w_357 (v := .ref (ad 1)) rfl dX11_read_55 ?_
    refine gj_callVv C mi_X6_forget w_396 1 (by decide) hc1 rfl (c_forget lo ma bt bc sp sc fk bk sk hc1) mc_X6_forget ⟨Nat.le_of_ble_eq_true rfl, Nat.le_of_ble_eq_true rfl⟩ (rest := []) rfl (Nat.le_of_ble_eq_true rfl) dX11_read_58 (fun u h => ?_)
    subst h
    refine gj_iconst C (v := 0) (by decide) dX11_read_61 ?_
    refine gj_seti (y := nI (3 * 0)) rfl ?_
    refine gj_istore C (lv' := [(6, .int (nI (3 * 0))), (5, .int (s_X1_size (nI n1))), (4, .ref (ad 4)), (3, .ref (ad (79 + 2 * sN))), (0, .ref (ad 0)), (1, .int 1), (2, .int (nI sN))]) dX11_read_62 (by decide) rfl ?_
    refine gj_setf (up_id (up_nx (by decide) (hc5))).symm ?_
    refine gj_setf (up_id (up_nx (by decide) (up_nx (by decide) (hc4)))).symm ?_
    refine gj_setf (g := va_up (va_up (va_up f 1 (.inr (6, sgF ad lo ma bt bc sp sc 0 0 0))) 5 (.inl (ca 0, 24, .inl (cRd (ln sN) (sG sN) gP n1 0)))) 4 (.inr (1, [.ref (ad 5), .int 8, .int (nI (n1 + 0))]))) rfl ?_
    have loop_4 : ∀ (m0 t0 : Nat), t0 + m0 = K → gJ pT l eT (Rm 2) sT mT aT below meth cT AT QT D ad 108 10 (va_up (va_up (va_up f 1 (.inr (6, sgF ad lo ma bt bc sp sc 0 0 0))) 5 (.inl (ca 0, 24, .inl (cRd (ln sN) (sG sN) gP n1 t0)))) 4 (.inr (1, [.ref (ad 5), .int 8, .int (nI (n1 + t0))]))) [(6, .int (nI (3 * t0))), (5, .int (s_X1_size (nI n1))), (4, .ref (ad 4)), (3, .ref (ad (79 + 2 * sN))), (0, .ref (ad 0))] 64 [] := by
      intro m0
      induction m0 with
      | zero =>
        intro t0 hk_t0  
        refine gj_iload C dX11_read_64 0 rfl ?_
        refine gj_iconst C (v := 2) (by decide) dX11_read_66 ?_
        refine gj_iadd C dX11_read_67 ?_
        refine gj_seti (y := nI (3 * t0 + 2)) (nI_add _ 2) ?_
        refine gj_aload_n C 3 dX11_read_68 rfl 3 rfl ?_
        refine gj_callVi C mi_X5_length w_446 (79 + 2 * sN) (by omega) (up_nx (by omega) (up_nx (by omega) (up_nx (by omega) (hso)))) rfl (c_X5_length (79 + 2 * sN) (80 + 2 * sN) (fm sN) (ln sN) (sG sN) (up_nx (by omega) (up_nx (by omega) (up_nx (by omega) (hso)))) (up_nx (by omega) (up_nx (by omega) (up_nx (by omega) (hsg)))) (by omega) (by omega) (by omega)) mc_X5_length ⟨Nat.le_of_ble_eq_true rfl, Nat.le_of_ble_eq_true rfl⟩ (rest := [.int (nI (3 * t0 + 2))]) rfl (Nat.le_of_ble_eq_true rfl) dX11_read_69 (fun r u h => ?_)
        obtain ⟨hr_, hu_⟩ := h; rw [hr_]; subst hu_
        refine gj_seti (y := nI LN) eLN ?_
        refine gj_icmp_ge C 143 dX11_read_72 (by decide) (fun c_6 => ?_) (fun c_6 => ?_)
        · have hKr : n1 + t0 ≤ 8 := by
            rcases Nat.eq_zero_or_pos K with h | h
            · omega
            · have := (hgo (K - 1) (by omega)).2.1; omega
          have hrd : ¬ rdGo (ln sN).toNatClampNeg 8 n1 (ln sN) (sG sN) t0 ∧ ∀ t, t < t0 → rdGo (ln sN).toNatClampNeg 8 n1 (ln sN) (sG sN) t := by
            obtain rfl : t0 = K := (by omega)
            rw [show (ln sN).toNatClampNeg = LN by rw [eLN]; exact nI_clamp (by omega)]
            exact ⟨hstop, hgo⟩
          refine gj_aload C dX11_read_143 2 rfl ?_
          refine gj_callVi C mi_X1_size w_400 4 (by decide) (va_up_self _ _ _) rfl (c_X1_size 4 5 (8 : Int32) (nI (n1 + t0)) 24 (cRd (ln sN) (sG sN) gP n1 t0) (va_up_self _ _ _) (up_nx (by decide) (va_up_self _ _ _)) (by decide) (by decide) (by decide)) mc_X1_size ⟨Nat.le_of_ble_eq_true rfl, Nat.le_of_ble_eq_true rfl⟩ (rest := []) rfl (Nat.le_of_ble_eq_true rfl) dX11_read_145 (fun r u h => ?_)
          obtain ⟨hr_, hu_⟩ := h; rw [hr_]; subst hu_
          refine gj_iload C dX11_read_148 1 rfl ?_
          refine gj_isub C dX11_read_150 ?_
          exact RT _ _ _ _ (by rw [if_pos c_3]; obtain rfl : t0 = K := (by omega); exact ⟨t0, hrd, rfl, cSI_new hI (fun k h1 h2 => up_nx (by omega) (up_nx (by omega) (up_nx (by omega) (rfl)))) (up_nx (by decide) (up_nx (by decide) (va_up_self _ _ _))) ⟨hn0, (by omega), (up_nx (by decide) (up_nx (by decide) (up_nx (by decide) (hc2)))), (up_nx (by decide) (up_nx (by decide) (up_nx (by decide) (hc3)))), (va_up_self _ _ _), (up_nx (by decide) (va_up_self _ _ _)), (up_nx (by decide) (up_nx (by decide) (up_nx (by decide) (hc6))))⟩, fun k hk => up_nx (by omega) (up_nx (by omega) (up_nx (by omega) (rfl)))⟩) dX11_read_151
        · refine gj_aload C dX11_read_75 2 rfl ?_
          refine gj_callVi C mi_X1_isFull w_387 4 (by decide) (va_up_self _ _ _) rfl (c_X1_isFull 4 5 (8 : Int32) (nI (n1 + t0)) 24 (cRd (ln sN) (sG sN) gP n1 t0) (va_up_self _ _ _) (up_nx (by decide) (va_up_self _ _ _)) (by decide) (by decide) (by decide)) mc_X1_isFull ⟨Nat.le_of_ble_eq_true rfl, Nat.le_of_ble_eq_true rfl⟩ (rest := []) rfl (Nat.le_of_ble_eq_true rfl) dX11_read_77 (fun r u h => ?_)
          obtain ⟨hr_, hu_⟩ := h; rw [hr_]; subst hu_
          refine gj_if_ne C 143 dX11_read_80 (by decide) (fun c_7 => ?_) (fun c_7 => ?_)
          · have hKr : n1 + t0 ≤ 8 := by
              rcases Nat.eq_zero_or_pos K with h | h
              · omega
              · have := (hgo (K - 1) (by omega)).2.1; omega
            have hrd : ¬ rdGo (ln sN).toNatClampNeg 8 n1 (ln sN) (sG sN) t0 ∧ ∀ t, t < t0 → rdGo (ln sN).toNatClampNeg 8 n1 (ln sN) (sG sN) t := by
              obtain rfl : t0 = K := (by omega)
              rw [show (ln sN).toNatClampNeg = LN by rw [eLN]; exact nI_clamp (by omega)]
              exact ⟨hstop, hgo⟩
            refine gj_aload C dX11_read_143 2 rfl ?_
            refine gj_callVi C mi_X1_size w_400 4 (by decide) (va_up_self _ _ _) rfl (c_X1_size 4 5 (8 : Int32) (nI (n1 + t0)) 24 (cRd (ln sN) (sG sN) gP n1 t0) (va_up_self _ _ _) (up_nx (by decide) (va_up_self _ _ _)) (by decide) (by decide) (by decide)) mc_X1_size ⟨Nat.le_of_ble_eq_true rfl, Nat.le_of_ble_eq_true rfl⟩ (rest := []) rfl (Nat.le_of_ble_eq_true rfl) dX11_read_145 (fun r u h => ?_)
            obtain ⟨hr_, hu_⟩ := h; rw [hr_]; subst hu_
            refine gj_iload C dX11_read_148 1 rfl ?_
            refine gj_isub C dX11_read_150 ?_
            exact RT _ _ _ _ (by rw [if_pos c_3]; obtain rfl : t0 = K := (by omega); exact ⟨t0, hrd, rfl, cSI_new hI (fun k h1 h2 => up_nx (by omega) (up_nx (by omega) (up_nx (by omega) (rfl)))) (up_nx (by decide) (up_nx (by decide) (va_up_self _ _ _))) ⟨hn0, (by omega), (up_nx (by decide) (up_nx (by decide) (up_nx (by decide) (hc2)))), (up_nx (by decide) (up_nx (by decide) (up_nx (by decide) (hc3)))), (va_up_self _ _ _), (up_nx (by decide) (va_up_self _ _ _)), (up_nx (by decide) (up_nx (by decide) (up_nx (by decide) (hc6))))⟩, fun k hk => up_nx (by omega) (up_nx (by omega) (up_nx (by omega) (rfl)))⟩) dX11_read_151
          · refine gj_aload_n C 3 dX11_read_83 rfl 3 rfl ?_
            refine gj_iload C dX11_read_84 0 rfl ?_
            refine gj_seti (y := nI (3 * t0 + 0)) rfl ?_
            refine gj_callVi C mi_X5_item w_450 (79 + 2 * sN) (by omega) (up_nx (by omega) (up_nx (by omega) (up_nx (by omega) (hso)))) rfl (c_X5_item (79 + 2 * sN) (80 + 2 * sN) (nI (3 * t0 + 0)) (fm sN) (ln sN) (sG sN) (up_nx (by omega) (up_nx (by omega) (up_nx (by omega) (hso)))) (up_nx (by omega) (up_nx (by omega) (up_nx (by omega) (hsg)))) (by omega) (by omega) (by omega) hsz.2) mc_X5_item ⟨Nat.le_of_ble_eq_true rfl, Nat.le_of_ble_eq_true rfl⟩ (rest := []) rfl (Nat.le_of_ble_eq_true rfl) dX11_read_86 (fun r u h => ?_)
            obtain ⟨hr_, hu_⟩ := h; rw [hr_]; subst hu_
            refine gj_istore C (lv' := [(7, .int (s_X5_item (nI (3 * t0 + 0)) (ln sN) (sG sN))), (6, .int (nI (3 * t0))), (5, .int (s_X1_size (nI n1))), (4, .ref (ad 4)), (3, .ref (ad (79 + 2 * sN))), (0, .ref (ad 0))]) dX11_read_89 (by decide) rfl ?_
            refine gj_aload_n C 3 dX11_read_91 rfl 4 rfl ?_
            refine gj_iload C dX11_read_92 1 rfl ?_
            refine gj_iconst C (v := 1) (by decide) dX11_read_94 ?_
            refine gj_iadd C dX11_read_95 ?_
            refine gj_seti (y := nI (3 * t0 + 1)) (nI_add _ 1) ?_
            refine gj_callVi C mi_X5_item w_450 (79 + 2 * sN) (by omega) (up_nx (by omega) (up_nx (by omega) (up_nx (by omega) (hso)))) rfl (c_X5_item (79 + 2 * sN) (80 + 2 * sN) (nI (3 * t0 + 1)) (fm sN) (ln sN) (sG sN) (up_nx (by omega) (up_nx (by omega) (up_nx (by omega) (hso)))) (up_nx (by omega) (up_nx (by omega) (up_nx (by omega) (hsg)))) (by omega) (by omega) (by omega) hsz.2) mc_X5_item ⟨Nat.le_of_ble_eq_true rfl, Nat.le_of_ble_eq_true rfl⟩ (rest := []) rfl (Nat.le_of_ble_eq_true rfl) dX11_read_96 (fun r u h => ?_)
            obtain ⟨hr_, hu_⟩ := h; rw [hr_]; subst hu_
            refine gj_istore C (lv' := [(8, .int (s_X5_item (nI (3 * t0 + 1)) (ln sN) (sG sN))), (7, .int (s_X5_item (nI (3 * t0 + 0)) (ln sN) (sG sN))), (6, .int (nI (3 * t0))), (5, .int (s_X1_size (nI n1))), (4, .ref (ad 4)), (3, .ref (ad (79 + 2 * sN))), (0, .ref (ad 0))]) dX11_read_99 (by decide) rfl ?_
            refine gj_aload_n C 3 dX11_read_101 rfl 5 rfl ?_
            refine gj_iload C dX11_read_102 2 rfl ?_
            refine gj_iconst C (v := 2) (by decide) dX11_read_104 ?_
            refine gj_iadd C dX11_read_105 ?_
            refine gj_seti (y := nI (3 * t0 + 2)) (nI_add _ 2) ?_
            refine gj_callVi C mi_X5_item w_450 (79 + 2 * sN) (by omega) (up_nx (by omega) (up_nx (by omega) (up_nx (by omega) (hso)))) rfl (c_X5_item (79 + 2 * sN) (80 + 2 * sN) (nI (3 * t0 + 2)) (fm sN) (ln sN) (sG sN) (up_nx (by omega) (up_nx (by omega) (up_nx (by omega) (hso)))) (up_nx (by omega) (up_nx (by omega) (up_nx (by omega) (hsg)))) (by omega) (by omega) (by omega) hsz.2) mc_X5_item ⟨Nat.le_of_ble_eq_true rfl, Nat.le_of_ble_eq_true rfl⟩ (rest := []) rfl (Nat.le_of_ble_eq_true rfl) dX11_read_106 (fun r u h => ?_)
            obtain ⟨hr_, hu_⟩ := h; rw [hr_]; subst hu_
            refine gj_istore C (lv' := [(9, .int (s_X5_item (nI (3 * t0 + 2)) (ln sN) (sG sN))), (8, .int (s_X5_item (nI (3 * t0 + 1)) (ln sN) (sG sN))), (7, .int (s_X5_item (nI (3 * t0 + 0)) (ln sN) (sG sN))), (6, .int (nI (3 * t0))), (5, .int (s_X1_size (nI n1))), (4, .ref (ad 4)), (3, .ref (ad (79 + 2 * sN))), (0, .ref (ad 0))]) dX11_read_109 (by decide) rfl ?_
            refine gj_iload C dX11_read_111 2 rfl ?_
            refine gj_iload C dX11_read_113 1 rfl ?_
            refine gj_iload C dX11_read_115 0 rfl ?_
            refine gj_callSi C w_378 w_377 (c_X11_mayBeDirection (s_X5_item (nI (3 * t0 + 0)) (ln sN) (sG sN)) (s_X5_item (nI (3 * t0 + 1)) (ln sN) (sG sN)) (s_X5_item (nI (3 * t0 + 2)) (ln sN) (sG sN))) mc_X11_mayBeDirection ⟨Nat.le_of_ble_eq_true rfl, Nat.le_of_ble_eq_true rfl⟩ (rest := []) rfl (Nat.le_of_ble_eq_true rfl) dX11_read_117 (fun r u h => ?_)
            obtain ⟨hr_, hu_⟩ := h; rw [hr_]; subst hu_
            refine gj_if_ne C 126 dX11_read_120 (by decide) (fun c_8 => ?_) (fun c_8 => ?_)
            · exact absurd (show rdGo LN 8 n1 (ln sN) (sG sN) t0 from ⟨by have := nI_nle2 (by omega) (by omega) c_6; omega, notfull (r := 8) (by decide) (by omega) c_7, c_8⟩) (by obtain rfl : t0 = K := (by omega); exact hstop)
            · refine gj_goto C 143 dX11_read_123 (by decide) ?_
              have hKr : n1 + t0 ≤ 8 := by
                rcases Nat.eq_zero_or_pos K with h | h
                · omega
                · have := (hgo (K - 1) (by omega)).2.1; omega
              have hrd : ¬ rdGo (ln sN).toNatClampNeg 8 n1 (ln sN) (sG sN) t0 ∧ ∀ t, t < t0 → rdGo (ln sN).toNatClampNeg 8 n1 (ln sN) (sG sN) t := by
                obtain rfl : t0 = K := (by omega)
                rw [show (ln sN).toNatClampNeg = LN by rw [eLN]; exact nI_clamp (by omega)]
                exact ⟨hstop, hgo⟩
              refine gj_aload C dX11_read_143 5 rfl ?_
              refine gj_callVi C mi_X1_size w_400 4 (by decide) (va_up_self _ _ _) rfl (c_X1_size 4 5 (8 : Int32) (nI (n1 + t0)) 24 (cRd (ln sN) (sG sN) gP n1 t0) (va_up_self _ _ _) (up_nx (by decide) (va_up_self _ _ _)) (by decide) (by decide) (by decide)) mc_X1_size ⟨Nat.le_of_ble_eq_true rfl, Nat.le_of_ble_eq_true rfl⟩ (rest := []) rfl (Nat.le_of_ble_eq_true rfl) dX11_read_145 (fun r u h => ?_)
              obtain ⟨hr_, hu_⟩ := h; rw [hr_]; subst hu_
              refine gj_iload C dX11_read_148 4 rfl ?_
              refine gj_isub C dX11_read_150 ?_
              exact RT _ _ _ _ (by rw [if_pos c_3]; obtain rfl : t0 = K := (by omega); exact ⟨t0, hrd, rfl, cSI_new hI (fun k h1 h2 => up_nx (by omega) (up_nx (by omega) (up_nx (by omega) (rfl)))) (up_nx (by decide) (up_nx (by decide) (va_up_self _ _ _))) ⟨hn0, (by omega), (up_nx (by decide) (up_nx (by decide) (up_nx (by decide) (hc2)))), (up_nx (by decide) (up_nx (by decide) (up_nx (by decide) (hc3)))), (va_up_self _ _ _), (up_nx (by decide) (va_up_self _ _ _)), (up_nx (by decide) (up_nx (by decide) (up_nx (by decide) (hc6))))⟩, fun k hk => up_nx (by omega) (up_nx (by omega) (up_nx (by omega) (rfl)))⟩) dX11_read_151
      | succ m0 ih_5 =>
        intro t0 hk_t0  
        refine gj_iload C dX11_read_64 0 rfl ?_
        refine gj_iconst C (v := 2) (by decide) dX11_read_66 ?_
        refine gj_iadd C dX11_read_67 ?_
        refine gj_seti (y := nI (3 * t0 + 2)) (nI_add _ 2) ?_
        refine gj_aload_n C 3 dX11_read_68 rfl 3 rfl ?_
        refine gj_callVi C mi_X5_length w_446 (79 + 2 * sN) (by omega) (up_nx (by omega) (up_nx (by omega) (up_nx (by omega) (hso)))) rfl (c_X5_length (79 + 2 * sN) (80 + 2 * sN) (fm sN) (ln sN) (sG sN) (up_nx (by omega) (up_nx (by omega) (up_nx (by omega) (hso)))) (up_nx (by omega) (up_nx (by omega) (up_nx (by omega) (hsg)))) (by omega) (by omega) (by omega)) mc_X5_length ⟨Nat.le_of_ble_eq_true rfl, Nat.le_of_ble_eq_true rfl⟩ (rest := [.int (nI (3 * t0 + 2))]) rfl (Nat.le_of_ble_eq_true rfl) dX11_read_69 (fun r u h => ?_)
        obtain ⟨hr_, hu_⟩ := h; rw [hr_]; subst hu_
        refine gj_seti (y := nI LN) eLN ?_
        refine gj_icmp_ge C 143 dX11_read_72 (by decide) (fun c_9 => absurd c_9 (show ¬ nI LN ≤ nI (3 * t0 + 2) from nI_ge (by have := (hgo t0 (by omega)).1; omega) (by omega))) (fun c_9 => ?_)
        refine gj_aload C dX11_read_75 2 rfl ?_
        refine gj_callVi C mi_X1_isFull w_387 4 (by decide) (va_up_self _ _ _) rfl (c_X1_isFull 4 5 (8 : Int32) (nI (n1 + t0)) 24 (cRd (ln sN) (sG sN) gP n1 t0) (va_up_self _ _ _) (up_nx (by decide) (va_up_self _ _ _)) (by decide) (by decide) (by decide)) mc_X1_isFull ⟨Nat.le_of_ble_eq_true rfl, Nat.le_of_ble_eq_true rfl⟩ (rest := []) rfl (Nat.le_of_ble_eq_true rfl) dX11_read_77 (fun r u h => ?_)
        obtain ⟨hr_, hu_⟩ := h; rw [hr_]; subst hu_
        refine gj_if_ne C 143 dX11_read_80 (by decide) (fun c_10 => absurd (show s_X1_isFull 8 (nI (n1 + t0)) = 0 from isfn (r := 8) (by decide) (hgo t0 (by omega)).2.1) c_10) (fun c_10 => ?_)
        refine gj_aload_n C 3 dX11_read_83 rfl 3 rfl ?_
        refine gj_iload C dX11_read_84 0 rfl ?_
        refine gj_seti (y := nI (3 * t0 + 0)) rfl ?_
        refine gj_callVi C mi_X5_item w_450 (79 + 2 * sN) (by omega) (up_nx (by omega) (up_nx (by omega) (up_nx (by omega) (hso)))) rfl (c_X5_item (79 + 2 * sN) (80 + 2 * sN) (nI (3 * t0 + 0)) (fm sN) (ln sN) (sG sN) (up_nx (by omega) (up_nx (by omega) (up_nx (by omega) (hso)))) (up_nx (by omega) (up_nx (by omega) (up_nx (by omega) (hsg)))) (by omega) (by omega) (by omega) hsz.2) mc_X5_item ⟨Nat.le_of_ble_eq_true rfl, Nat.le_of_ble_eq_true rfl⟩ (rest := []) rfl (Nat.le_of_ble_eq_true rfl) dX11_read_86 (fun r u h => ?_)
        obtain ⟨hr_, hu_⟩ := h; rw [hr_]; subst hu_
        refine gj_istore C (lv' := [(7, .int (s_X5_item (nI (3 * t0 + 0)) (ln sN) (sG sN))), (6, .int (nI (3 * t0))), (5, .int (s_X1_size (nI n1))), (4, .ref (ad 4)), (3, .ref (ad (79 + 2 * sN))), (0, .ref (ad 0))]) dX11_read_89 (by decide) rfl ?_
        refine gj_aload_n C 3 dX11_read_91 rfl 4 rfl ?_
        refine gj_iload C dX11_read_92 1 rfl ?_
        refine gj_iconst C (v := 1) (by decide) dX11_read_94 ?_
        refine gj_iadd C dX11_read_95 ?_
        refine gj_seti (y := nI (3 * t0 + 1)) (nI_add _ 1) ?_
        refine gj_callVi C mi_X5_item w_450 (79 + 2 * sN) (by omega) (up_nx (by omega) (up_nx (by omega) (up_nx (by omega) (hso)))) rfl (c_X5_item (79 + 2 * sN) (80 + 2 * sN) (nI (3 * t0 + 1)) (fm sN) (ln sN) (sG sN) (up_nx (by omega) (up_nx (by omega) (up_nx (by omega) (hso)))) (up_nx (by omega) (up_nx (by omega) (up_nx (by omega) (hsg)))) (by omega) (by omega) (by omega) hsz.2) mc_X5_item ⟨Nat.le_of_ble_eq_true rfl, Nat.le_of_ble_eq_true rfl⟩ (rest := []) rfl (Nat.le_of_ble_eq_true rfl) dX11_read_96 (fun r u h => ?_)
        obtain ⟨hr_, hu_⟩ := h; rw [hr_]; subst hu_
        refine gj_istore C (lv' := [(8, .int (s_X5_item (nI (3 * t0 + 1)) (ln sN) (sG sN))), (7, .int (s_X5_item (nI (3 * t0 + 0)) (ln sN) (sG sN))), (6, .int (nI (3 * t0))), (5, .int (s_X1_size (nI n1))), (4, .ref (ad 4)), (3, .ref (ad (79 + 2 * sN))), (0, .ref (ad 0))]) dX11_read_99 (by decide) rfl ?_
        refine gj_aload_n C 3 dX11_read_101 rfl 5 rfl ?_
        refine gj_iload C dX11_read_102 2 rfl ?_
        refine gj_iconst C (v := 2) (by decide) dX11_read_104 ?_
        refine gj_iadd C dX11_read_105 ?_
        refine gj_seti (y := nI (3 * t0 + 2)) (nI_add _ 2) ?_
        refine gj_callVi C mi_X5_item w_450 (79 + 2 * sN) (by omega) (up_nx (by omega) (up_nx (by omega) (up_nx (by omega) (hso)))) rfl (c_X5_item (79 + 2 * sN) (80 + 2 * sN) (nI (3 * t0 + 2)) (fm sN) (ln sN) (sG sN) (up_nx (by omega) (up_nx (by omega) (up_nx (by omega) (hso)))) (up_nx (by omega) (up_nx (by omega) (up_nx (by omega) (hsg)))) (by omega) (by omega) (by omega) hsz.2) mc_X5_item ⟨Nat.le_of_ble_eq_true rfl, Nat.le_of_ble_eq_true rfl⟩ (rest := []) rfl (Nat.le_of_ble_eq_true rfl) dX11_read_106 (fun r u h => ?_)
        obtain ⟨hr_, hu_⟩ := h; rw [hr_]; subst hu_
        refine gj_istore C (lv' := [(9, .int (s_X5_item (nI (3 * t0 + 2)) (ln sN) (sG sN))), (8, .int (s_X5_item (nI (3 * t0 + 1)) (ln sN) (sG sN))), (7, .int (s_X5_item (nI (3 * t0 + 0)) (ln sN) (sG sN))), (6, .int (nI (3 * t0))), (5, .int (s_X1_size (nI n1))), (4, .ref (ad 4)), (3, .ref (ad (79 + 2 * sN))), (0, .ref (ad 0))]) dX11_read_109 (by decide) rfl ?_
        refine gj_iload C dX11_read_111 2 rfl ?_
        refine gj_iload C dX11_read_113 1 rfl ?_
        refine gj_iload C dX11_read_115 0 rfl ?_
        refine gj_callSi C w_378 w_377 (c_X11_mayBeDirection (s_X5_item (nI (3 * t0 + 0)) (ln sN) (sG sN)) (s_X5_item (nI (3 * t0 + 1)) (ln sN) (sG sN)) (s_X5_item (nI (3 * t0 + 2)) (ln sN) (sG sN))) mc_X11_mayBeDirection ⟨Nat.le_of_ble_eq_true rfl, Nat.le_of_ble_eq_true rfl⟩ (rest := []) rfl (Nat.le_of_ble_eq_true rfl) dX11_read_117 (fun r u h => ?_)
        obtain ⟨hr_, hu_⟩ := h; rw [hr_]; subst hu_
        refine gj_if_ne C 126 dX11_read_120 (by decide) (fun c_11 => ?_) (fun c_11 => absurd c_11 ((hgo t0 (by omega)).2.2))
        refine gj_aload C dX11_read_126 5 rfl ?_
        refine gj_iload C dX11_read_128 2 rfl ?_
        refine gj_iload C dX11_read_130 1 rfl ?_
        refine gj_iload C dX11_read_132 0 rfl ?_
        refine gj_callVv C mi_X1_append w_391 4 (by decide) (va_up_self _ _ _) rfl (c_X1_append 4 5 (s_X5_item (nI (3 * t0 + 0)) (ln sN) (sG sN)) (s_X5_item (nI (3 * t0 + 1)) (ln sN) (sG sN)) (s_X5_item (nI (3 * t0 + 2)) (ln sN) (sG sN)) (8 : Int32) (nI (n1 + t0)) 24 (cRd (ln sN) (sG sN) gP n1 t0) (va_up_self _ _ _) (up_nx (by decide) (va_up_self _ _ _)) (by decide) (by decide) (by decide) (isfn (r := 8) (by decide) (hgo t0 (by omega)).2.1) (apk (by have := (hgo t0 (by omega)).2.1; omega) (by decide))) mc_X1_append ⟨Nat.le_of_ble_eq_true rfl, Nat.le_of_ble_eq_true rfl⟩ (rest := []) rfl (Nat.le_of_ble_eq_true rfl) dX11_read_134 (fun u h => ?_)
        subst h
        refine gj_setf ((up_un ((up_comm (by decide)).trans (up_un (bx_uu _ _ _ _)))).trans (bx_uu _ _ _ _)) ?_
        refine gj_setf (g := va_up (va_up (va_up f 1 (.inr (6, sgF ad lo ma bt bc sp sc 0 0 0))) 5 (.inl (ca 0, 24, .inl (cRd (ln sN) (sG sN) gP n1 (t0 + 1))))) 4 (.inr (1, [.ref (ad 5), .int 8, .int (nI (n1 + (t0 + 1)))]))) (by rw [app_w3 _ (show n1 + t0 ≤ 12 by have := (hgo t0 (by omega)).2.1; omega), nI_1]; rfl) ?_
        refine gj_iinc C (v := nI (3 * (t0 + 1))) (lv' := [(6, .int (nI (3 * (t0 + 1)))), (9, .int (s_X5_item (nI (3 * t0 + 2)) (ln sN) (sG sN))), (8, .int (s_X5_item (nI (3 * t0 + 1)) (ln sN) (sG sN))), (7, .int (s_X5_item (nI (3 * t0 + 0)) (ln sN) (sG sN))), (5, .int (s_X1_size (nI n1))), (4, .ref (ad 4)), (3, .ref (ad (79 + 2 * sN))), (0, .ref (ad 0))]) dX11_read_137 3 rfl (nI_add _ 3) (by decide) rfl ?_
        refine gj_goto C 64 dX11_read_140 (by decide) ?_
        refine gj_setf (g := va_up (va_up (va_up f 1 (.inr (6, sgF ad lo ma bt bc sp sc 0 0 0))) 5 (.inl (ca 0, 24, .inl (cRd (ln sN) (sG sN) gP n1 (t0 + 1))))) 4 (.inr (1, [.ref (ad 5), .int 8, .int (nI (n1 + (t0 + 1)))]))) rfl ?_
        refine gj_lv [0, 4, 5, 6, 7] rfl ?_
        exact ih_5 (t0 + 1) (by omega)
    refine gj_lv [0, 1, 2, 3, 4] rfl ?_
    exact loop_4 (K - 0) 0 (by omega)
  · refine gj_aload_n C 0 dX11_read_31 rfl 1 rfl ?_
    refine gj_iconst C (v := 1) (by decide) dX11_read_32 ?_
    refine gj_callVi C mi_X11_find w_442 0 (by decide) hc0 rfl (c_X11_find (1 : Int32) la hc0) mc_X11_find ⟨Nat.le_of_ble_eq_true rfl, Nat.le_of_ble_eq_true rfl⟩ (rest := []) rfl (Nat.le_of_ble_eq_true rfl) dX11_read_33 (fun r u h => ?_)
    obtain ⟨hr_, hu_⟩ := h; rw [hr_]; subst hu_
    refine gj_seti (y := (-11)) (by decide) ?_
    exact RT _ _ _ _ (by rw [if_neg c_3]; exact ⟨rfl, rfl⟩) dX11_read_36
set_option maxHeartbeats 400000 in
set_option maxRecDepth 100000 in
theorem c_readB {l : Launch} {D : va_G} {ca ss ad : Nat → Nat} {f : Nat → va_E} (q k : Int32) (hq : ¬ s_X11_isKind q = 0) (hk : s_X11_isSheet k = 0) : gMi l D ca ss ad 108 yX11_read cX11_read 10 (some .int) 2 f [.ref (ad 0), .int q, .int k] (fun r u => r = -2 ∧ u = f) := by
  refine gMi_ofK (by decide +kernel) (Nat.le_of_ble_eq_true rfl) (lv0 := [(0, .ref (ad 0)), (1, .int q), (2, .int k)]) rfl (fun pT eT sT mT aT below meth cT AT QT C RT => ?_)
  have C : gX pT sT mT aT meth cT AT D ca ss 10 RX11 cX11_read (some .int) := C
  refine gj_iload_n C 1 dX11_read_0 rfl 1 rfl ?_
  refine gj_callSi C w_375 w_374 (c_X11_isKind q) mc_X11_isKind ⟨Nat.le_of_ble_eq_true rfl, Nat.le_of_ble_eq_true rfl⟩ (rest := []) rfl (Nat.le_of_ble_eq_true rfl) dX11_read_1 (fun r u h => ?_)
  obtain ⟨hr_, h⟩ := h; rw [hr_]
  rw [h]
  refine gj_if_eq C 14 dX11_read_4 (by decide) (fun c_1 => absurd c_1 hq) (fun c_1 => ?_)
  refine gj_iload_n C 2 dX11_read_7 rfl 2 rfl ?_
  refine gj_callSi C w_436 w_435 (c_X11_isSheet k) mc_X11_isSheet ⟨Nat.le_of_ble_eq_true rfl, Nat.le_of_ble_eq_true rfl⟩ (rest := []) rfl (Nat.le_of_ble_eq_true rfl) dX11_read_8 (fun r u h => ?_)
  obtain ⟨hr_, h⟩ := h; rw [hr_]
  rw [h]
  refine gj_if_ne C 17 dX11_read_11 (by decide) (fun c_2 => absurd hk c_2) (fun c_2 => ?_)
  refine gj_bipush C (v := (-2)) (by decide) dX11_read_14 ?_
  exact RT _ _ _ _ ⟨rfl, rfl⟩ dX11_read_16
set_option maxHeartbeats 400000 in
set_option maxRecDepth 100000 in
theorem c_readK {l : Launch} {D : va_G} {ca ss ad : Nat → Nat} {f : Nat → va_E} (q k : Int32) (hq : s_X11_isKind q = 0) : gMi l D ca ss ad 108 yX11_read cX11_read 10 (some .int) 2 f [.ref (ad 0), .int q, .int k] (fun r u => r = -2 ∧ u = f) := by
  refine gMi_ofK (by decide +kernel) (Nat.le_of_ble_eq_true rfl) (lv0 := [(0, .ref (ad 0)), (1, .int q), (2, .int k)]) rfl (fun pT eT sT mT aT below meth cT AT QT C RT => ?_)
  have C : gX pT sT mT aT meth cT AT D ca ss 10 RX11 cX11_read (some .int) := C
  refine gj_iload_n C 1 dX11_read_0 rfl 1 rfl ?_
  refine gj_callSi C w_375 w_374 (c_X11_isKind q) mc_X11_isKind ⟨Nat.le_of_ble_eq_true rfl, Nat.le_of_ble_eq_true rfl⟩ (rest := []) rfl (Nat.le_of_ble_eq_true rfl) dX11_read_1 (fun r u h => ?_)
  obtain ⟨hr_, h⟩ := h; rw [hr_]
  rw [h]
  refine gj_if_eq C 14 dX11_read_4 (by decide) (fun c_1 => ?_) (fun c_1 => absurd hq c_1)
  refine gj_bipush C (v := (-2)) (by decide) dX11_read_14 ?_
  exact RT _ _ _ _ ⟨rfl, rfl⟩ dX11_read_16
set_option maxHeartbeats 400000 in
set_option maxRecDepth 100000 in
theorem c_write {l : Launch} {D : va_G} {ca ss ad : Nat → Nat} {f : Nat → va_E} (sN : Nat) (hsN : sN < 4) (la : Int32) (n0 n1 : Nat) (gS gP se : Nat → Int32) (fm ln : Nat → Int32) (sG : Nat → Nat → Int32) (hc0 : f 0 = .inr (10, [.ref (ad 1), .ref (ad 69), .ref (ad 70), .int la])) (hI : cSI ca ad n0 n1 gS gP se f) (hS : cSh ca ad fm ln sG f) (hX : cHK n0 n1 gS gP se) : gMi l D ca ss ad 108 yX11_write cX11_write 6 (some .int) 6 f [.ref (ad 0), .int (nI sN)] (fun r u => if s_X5_isLost (fm sN) = 0 then (∃ LN, LN ≤ 60 ∧ ln sN = nI LN ∧ r = nI (Nat.min LN n1) ∧ cSI ca ad n0 n1 gS gP se u ∧ cSh ca ad fm ln (updT sG sN (cWrt (fm sN) (kC n0 n1 gS gP se).2.1 (sG sN) (Nat.min LN n1))) u ∧ ∀ k, k = 0 ∨ (69 ≤ k ∧ ¬ (79 ≤ k ∧ k < 87)) → u k = f k) else (r = -11 ∧ u = va_up f 0 (.inr (10, [.ref (ad 1), .ref (ad 69), .ref (ad 70), .int 1])))) := by
  refine gMi_ofK (by decide +kernel) (Nat.le_of_ble_eq_true rfl) (lv0 := [(0, .ref (ad 0)), (1, .int (nI sN))]) rfl (fun pT eT sT mT aT below meth cT AT QT C RT => ?_)
  have C : gX pT sT mT aT meth cT AT D ca ss 6 RX11 cX11_write (some .int) := C
  have hI0 := hI
  obtain ⟨⟨hn0, hn1, hc2, hc3, hc4, hc5, hc6⟩, ⟨hM, hP, hT, hR, hF, hG⟩, lo, ma, bt, bc, sp, sc, fk, bk, sk, hc1, hfk, hbk, hsk⟩ := hI
  have hI := hI0
  obtain ⟨hsz, hso, hsg⟩ := hS.2 sN (by omega)
  obtain ⟨LN, hLN, eLN⟩ := ln_n hsz
  obtain ⟨MN, hMN⟩ : ∃ MN, MN = Nat.min LN n1 := ⟨_, rfl⟩
  have hM1 : MN ≤ LN := hMN ▸ Nat.min_le_left LN n1
  have hM2 : MN ≤ n1 := hMN ▸ Nat.min_le_right LN n1
  refine gj_iload_n C 1 dX11_write_0 rfl 1 rfl ?_
  refine gj_callSi C w_436 w_435 (c_X11_isSheet (nI sN)) mc_X11_isSheet ⟨Nat.le_of_ble_eq_true rfl, Nat.le_of_ble_eq_true rfl⟩ (rest := []) rfl (Nat.le_of_ble_eq_true rfl) dX11_write_1 (fun r u h => ?_)
  obtain ⟨hr_, h⟩ := h; rw [hr_]
  rw [h]
  refine gj_if_ne C 10 dX11_write_4 (by decide) (fun c_1 => ?_) (fun c_1 => absurd c_1 (isSheet_y hsN))
  refine gj_aload_n C 0 dX11_write_10 rfl 0 rfl ?_
  refine gj_get C 0 (by decide) hc0 inX11 rfl 2 (by decide) w_359 (v := .ref (ad 70)) rfl dX11_write_11 ?_
  refine gj_iload_n C 1 dX11_write_14 rfl 1 rfl ?_
  refine gj_aldq C 3 70 (by decide) hS.1 rfl (vp_in_nI (by omega) (by omega)) (a := ad (79 + 2 * sN)) (q2_n ad 79 (by omega)) dX11_write_15 ?_
  refine gj_astore_n C (lv' := [(2, .ref (ad (79 + 2 * sN))), (0, .ref (ad 0)), (1, .int (nI sN))]) 2 dX11_write_16 rfl (by decide) rfl ?_
  refine gj_aload_n C 2 dX11_write_17 rfl 0 rfl ?_
  refine gj_callVi C mi_X5_isLost w_438 (79 + 2 * sN) (by omega) hso rfl (c_X5_isLost (79 + 2 * sN) (80 + 2 * sN) (fm sN) (ln sN) (sG sN) hso hsg (by omega) (by omega) (by omega)) mc_X5_isLost ⟨Nat.le_of_ble_eq_true rfl, Nat.le_of_ble_eq_true rfl⟩ (rest := []) rfl (Nat.le_of_ble_eq_true rfl) dX11_write_18 (fun r u h => ?_)
  obtain ⟨hr_, h⟩ := h; rw [hr_]
  rw [h]
  refine gj_if_eq C 30 dX11_write_21 (by decide) (fun c_2 => ?_) (fun c_2 => ?_)
  · refine gj_aload_n C 0 dX11_write_30 rfl 1 rfl ?_
    refine gj_get C 0 (by decide) hc0 inX11 rfl 0 (by decide) w_357 (v := .ref (ad 1)) rfl dX11_write_31 ?_
    refine gj_callVr C mi_X6_known w_507 1 (by decide) hc1 rfl (c_known n0 n1 gS gP se hI) mc_X6_known ⟨Nat.le_of_ble_eq_true rfl, Nat.le_of_ble_eq_true rfl⟩ (rest := []) rfl (Nat.le_of_ble_eq_true rfl) dX11_write_34 (fun r uK h => ?_)
    obtain ⟨hr_, hK, hsm⟩ := h; rw [hr_]
    obtain ⟨hI, lo, ma, bt, bc, sp, sc, bk, sk, hu1, hkn⟩ := hK
    obtain ⟨hlo, hma, mt, vo, hu12, hu13, hvo, kTt, kUu, kCc, ⟨hu47, hu48, hu49, hu50, hu51, hu52, hu53, hu55, hu57, hu54, hu56⟩, tie1, tie2, tie3, tie4, tie5, tie6⟩ := cKn_tie hX hkn
    have hu0 := (hsm 0 (Or.inl rfl)).trans hc0
    have hI_ := hI
    obtain ⟨⟨-, -, hu2, hu3, hu4, hu5, hu6⟩, -⟩ := hI_
    refine gj_getN C 1 (by decide) hu1 inX6 rfl 7 (by decide) w_264 (v := .ref (ad 47)) rfl dX11_write_37 ?_
    refine gj_astore_n C (lv' := [(3, .ref (ad 47)), (2, .ref (ad (79 + 2 * sN))), (0, .ref (ad 0)), (1, .int (nI sN))]) 3 dX11_write_40 rfl (by decide) rfl ?_
    refine gj_aload_n C 2 dX11_write_41 rfl 1 rfl ?_
    refine gj_callVi C mi_X5_length w_446 (79 + 2 * sN) (by omega) ((hsm _ (by omega)).trans hso) rfl (c_X5_length (79 + 2 * sN) (80 + 2 * sN) (fm sN) (ln sN) (sG sN) ((hsm _ (by omega)).trans hso) ((hsm _ (by omega)).trans hsg) (by omega) (by omega) (by omega)) mc_X5_length ⟨Nat.le_of_ble_eq_true rfl, Nat.le_of_ble_eq_true rfl⟩ (rest := []) rfl (Nat.le_of_ble_eq_true rfl) dX11_write_42 (fun r u h => ?_)
    obtain ⟨hr_, h⟩ := h; rw [hr_]
    rw [h]
    refine gj_seti (y := nI LN) eLN ?_
    refine gj_aload_n C 0 dX11_write_45 rfl 2 rfl ?_
    refine gj_get C 0 (by decide) hu0 inX11 rfl 0 (by decide) w_357 (v := .ref (ad 1)) rfl dX11_write_46 ?_
    refine gj_getN C 1 (by decide) hu1 inX6 rfl 1 (by decide) w_255 (v := .ref (ad 4)) rfl dX11_write_49 ?_
    refine gj_callVi C mi_X1_size w_400 4 (by decide) hu4 rfl (c_X1_size 4 5 (8 : Int32) (nI n1) 24 gP hu4 hu5 (by decide) (by decide) (by decide)) mc_X1_size ⟨Nat.le_of_ble_eq_true rfl, Nat.le_of_ble_eq_true rfl⟩ (rest := [.int (nI LN)]) rfl (Nat.le_of_ble_eq_true rfl) dX11_write_52 (fun r u h => ?_)
    obtain ⟨hr_, h⟩ := h; rw [hr_]
    rw [h]
    refine gj_seti (y := nI n1) rfl ?_
    refine gj_mmin C w_498 w_472 w_57 w_473 ⟨Nat.le_of_ble_eq_true rfl, Nat.le_of_ble_eq_true rfl⟩ (Nat.le_of_ble_eq_true rfl) dX11_write_55 ?_
    refine gj_seti (y := nI MN) ((min_n (by omega) (by omega)).trans (by rw [hMN])) ?_
    refine gj_istore C (lv' := [(4, .int (nI MN)), (3, .ref (ad 47)), (2, .ref (ad (79 + 2 * sN))), (0, .ref (ad 0)), (1, .int (nI sN))]) dX11_write_58 (by decide) rfl ?_
    refine gj_iconst C (v := 0) (by decide) dX11_write_60 ?_
    refine gj_seti (y := nI 0) rfl ?_
    refine gj_istore C (lv' := [(5, .int (nI 0)), (4, .int (nI MN)), (3, .ref (ad 47)), (2, .ref (ad (79 + 2 * sN))), (0, .ref (ad 0)), (1, .int (nI sN))]) dX11_write_61 (by decide) rfl ?_
    refine gj_setf (up_id ((hsm _ (by omega)).trans hsg)).symm ?_
    refine gj_setf (g := va_up uK (80 + 2 * sN) (.inl (ca 0, 60, .inl (cWrt (fm sN) (kC n0 n1 gS gP se).2.1 (sG sN) 0)))) rfl ?_
    have loop_3 : ∀ (m0 t0 : Nat), t0 + m0 = MN → gJ pT l eT (Rm 6) sT mT aT below meth cT AT QT D ad 108 6 (va_up uK (80 + 2 * sN) (.inl (ca 0, 60, .inl (cWrt (fm sN) (kC n0 n1 gS gP se).2.1 (sG sN) t0)))) [(5, .int (nI t0)), (4, .int (nI MN)), (3, .ref (ad 47)), (2, .ref (ad (79 + 2 * sN))), (0, .ref (ad 0)), (1, .int (nI sN))] 63 [] := by
      intro m0
      induction m0 with
      | zero =>
        intro t0 hk_t0  
        refine gj_iload C dX11_write_63 0 rfl ?_
        refine gj_iload C dX11_write_65 1 rfl ?_
        refine gj_icmp_ge C 89 dX11_write_67 (by decide) (fun c_5 => ?_) (fun c_5 => absurd (nI_le (by omega) (by omega)) c_5)
        refine gj_iload C dX11_write_89 1 rfl ?_
        exact RT _ _ _ _ (by rw [if_pos c_2]; obtain rfl : t0 = MN := (by omega); refine ⟨LN, hLN, eLN, ?_⟩; rw [← hMN]; exact ⟨rfl, cSI_c hI (fun k h1 h2 => up_nx (by omega) (rfl)), (by have q := cSh_new (u := va_up uK (80 + 2 * sN) (.inl (ca 0, 60, .inl (cWrt (fm sN) (kC n0 n1 gS gP se).2.1 (sG sN) t0)))) hsN (cSh_c hS (fun k hk => hsm k (by omega))) (fun k h1 h2 => up_nx (by omega) (rfl)) (up_nx (by omega) (((hsm _ (by omega)).trans hso))) (va_up_self _ _ _) hsz; rwa [upd_same, upd_same] at q), fun k hk => up_nx (by omega) (hsm k (by omega))⟩) dX11_write_91
      | succ m0 ih_4 =>
        intro t0 hk_t0  
        refine gj_iload C dX11_write_63 0 rfl ?_
        refine gj_iload C dX11_write_65 1 rfl ?_
        refine gj_icmp_ge C 89 dX11_write_67 (by decide) (fun c_6 => absurd c_6 (nI_ge (by omega) (by omega))) (fun c_6 => ?_)
        refine gj_aload_n C 2 dX11_write_70 rfl 3 rfl ?_
        refine gj_iload C dX11_write_71 0 rfl ?_
        refine gj_aload_n C 3 dX11_write_73 rfl 2 rfl ?_
        refine gj_getN C 47 (by decide) (up_nx (by omega) (hu47)) inX2 rfl 3 (by decide) w_212 (v := .ref (ad 51)) rfl dX11_write_74 ?_
        refine gj_iload C dX11_write_77 0 rfl ?_
        refine gj_iald C 51 (by decide) (up_nx (by omega) (hu51)) (vp_in_nI (by omega) (by omega)) dX11_write_79 ?_
        refine gj_seti (y := (kC n0 n1 gS gP se).2.1 t0) ((congrArg _ (nI_clamp (show t0 < 2 ^ 31 by omega))).trans (tie5 t0 (by omega)).1) ?_
        refine gj_callVv C mi_X5_store w_788 (79 + 2 * sN) (by omega) (up_nx (by omega) (((hsm _ (by omega)).trans hso))) rfl (c_X5_store (79 + 2 * sN) (80 + 2 * sN) (nI t0) ((kC n0 n1 gS gP se).2.1 t0) (fm sN) (ln sN) (cWrt (fm sN) (kC n0 n1 gS gP se).2.1 (sG sN) t0) (up_nx (by omega) (((hsm _ (by omega)).trans hso))) (va_up_self _ _ _) (by omega) (by omega) (by omega) hsz.2 (show ¬ nI t0 < 0 from nI_nlt (b := 0) (by omega) (by omega)) (by rw [eLN]; exact nI_ge (by omega) (by omega))) mc_X5_store ⟨Nat.le_of_ble_eq_true rfl, Nat.le_of_ble_eq_true rfl⟩ (rest := []) rfl (Nat.le_of_ble_eq_true rfl) dX11_write_80 (fun u h => ?_)
        subst h
        refine gj_setf (bx_uu _ _ _ _) ?_
        refine gj_iinc C (v := nI (t0 + 1)) (lv' := [(5, .int (nI (t0 + 1))), (4, .int (nI MN)), (3, .ref (ad 47)), (2, .ref (ad (79 + 2 * sN))), (0, .ref (ad 0)), (1, .int (nI sN))]) dX11_write_83 0 rfl (nI_1 _) (by decide) rfl ?_
        refine gj_goto C 63 dX11_write_86 (by decide) ?_
        refine gj_setf (g := va_up uK (80 + 2 * sN) (.inl (ca 0, 60, .inl (cWrt (fm sN) (kC n0 n1 gS gP se).2.1 (sG sN) (t0 + 1))))) rfl ?_
        refine gj_lv [0, 1, 2, 3, 4, 5] rfl ?_
        exact ih_4 (t0 + 1) (by omega)
    refine gj_lv [0, 1, 2, 3, 4, 5] rfl ?_
    exact loop_3 (MN - 0) 0 (by omega)
  · refine gj_aload_n C 0 dX11_write_24 rfl 1 rfl ?_
    refine gj_iconst C (v := 1) (by decide) dX11_write_25 ?_
    refine gj_callVi C mi_X11_find w_442 0 (by decide) hc0 rfl (c_X11_find (1 : Int32) la hc0) mc_X11_find ⟨Nat.le_of_ble_eq_true rfl, Nat.le_of_ble_eq_true rfl⟩ (rest := []) rfl (Nat.le_of_ble_eq_true rfl) dX11_write_26 (fun r u h => ?_)
    obtain ⟨hr_, hu_⟩ := h; rw [hr_]; subst hu_
    refine gj_seti (y := (-11)) (by decide) ?_
    exact RT _ _ _ _ (by rw [if_neg c_2]; exact ⟨rfl, rfl⟩) dX11_write_29
set_option maxHeartbeats 400000 in
set_option maxRecDepth 100000 in
theorem c_writeB {l : Launch} {D : va_G} {ca ss ad : Nat → Nat} {f : Nat → va_E} (k : Int32) (hk : s_X11_isSheet k = 0) : gMi l D ca ss ad 108 yX11_write cX11_write 6 (some .int) 6 f [.ref (ad 0), .int k] (fun r u => r = -2 ∧ u = f) := by
  refine gMi_ofK (by decide +kernel) (Nat.le_of_ble_eq_true rfl) (lv0 := [(0, .ref (ad 0)), (1, .int k)]) rfl (fun pT eT sT mT aT below meth cT AT QT C RT => ?_)
  have C : gX pT sT mT aT meth cT AT D ca ss 6 RX11 cX11_write (some .int) := C
  refine gj_iload_n C 1 dX11_write_0 rfl 1 rfl ?_
  refine gj_callSi C w_436 w_435 (c_X11_isSheet k) mc_X11_isSheet ⟨Nat.le_of_ble_eq_true rfl, Nat.le_of_ble_eq_true rfl⟩ (rest := []) rfl (Nat.le_of_ble_eq_true rfl) dX11_write_1 (fun r u h => ?_)
  obtain ⟨hr_, h⟩ := h; rw [hr_]
  rw [h]
  refine gj_if_ne C 10 dX11_write_4 (by decide) (fun c_1 => absurd hk c_1) (fun c_1 => ?_)
  refine gj_bipush C (v := (-2)) (by decide) dX11_write_7 ?_
  exact RT _ _ _ _ ⟨rfl, rfl⟩ dX11_write_9
