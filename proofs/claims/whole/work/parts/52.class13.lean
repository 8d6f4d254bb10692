/-! THE SIGHT OF THE CLASS, as its methods leave it -/
theorem gMi_mono {l : Launch} {D : va_G} {ca ss ad : Nat → Nat} {N : Nat} {y : MethodName} {cc : ByteArray} {n : Nat} {ret : Option FieldType} {d : Nat} {f : Nat → va_E} {av : List Value} {P Q : Int32 → (Nat → va_E) → Prop} (h : gMi l D ca ss ad N y cc n ret d f av P) (hq : ∀ r u, P r u → Q r u) : gMi l D ca ss ad N y cc n ret d f av Q := by
  intro sz
  refine MetFree.mono (h sz) (fun _ _ q => q) (fun _ _ _ _ _ q => q) ?_
  rintro a s o t - ⟨⟨⟨r, u, h1, h2, h3⟩, h4⟩, h5⟩
  exact ⟨⟨⟨r, u, h1, hq r u h2, h3⟩, h4⟩, h5⟩
theorem gMl_mono {l : Launch} {D : va_G} {ca ss ad : Nat → Nat} {N : Nat} {y : MethodName} {cc : ByteArray} {n : Nat} {ret : Option FieldType} {d : Nat} {f : Nat → va_E} {av : List Value} {P Q : Int64 → (Nat → va_E) → Prop} (h : gMl l D ca ss ad N y cc n ret d f av P) (hq : ∀ r u, P r u → Q r u) : gMl l D ca ss ad N y cc n ret d f av Q := by
  intro sz
  refine MetFree.mono (h sz) (fun _ _ q => q) (fun _ _ _ _ _ q => q) ?_
  rintro a s o t - ⟨⟨⟨r, u, h1, h2, h3⟩, h4⟩, h5⟩
  exact ⟨⟨⟨r, u, h1, hq r u h2, h3⟩, h4⟩, h5⟩
theorem gMv_mono {l : Launch} {D : va_G} {ca ss ad : Nat → Nat} {N : Nat} {y : MethodName} {cc : ByteArray} {n : Nat} {ret : Option FieldType} {d : Nat} {f : Nat → va_E} {av : List Value} {P Q : (Nat → va_E) → Prop} (h : gMv l D ca ss ad N y cc n ret d f av P) (hq : ∀ u, P u → Q u) : gMv l D ca ss ad N y cc n ret d f av Q := by
  intro sz
  refine MetFree.mono (h sz) (fun _ _ q => q) (fun _ _ _ _ _ q => q) ?_
  rintro a s o t - ⟨⟨⟨u, h1, h2, h3⟩, h4⟩, h5⟩
  exact ⟨⟨⟨u, h1, hq u h2, h3⟩, h4⟩, h5⟩
theorem gMr_mono {l : Launch} {D : va_G} {ca ss ad : Nat → Nat} {N : Nat} {y : MethodName} {cc : ByteArray} {n : Nat} {ret : Option FieldType} {d : Nat} {f : Nat → va_E} {av : List Value} {P Q : Nat → (Nat → va_E) → Prop} (h : gMr l D ca ss ad N y cc n ret d f av P) (hq : ∀ r u, P r u → Q r u) : gMr l D ca ss ad N y cc n ret d f av Q := by
  intro sz
  refine MetFree.mono (h sz) (fun _ _ q => q) (fun _ _ _ _ _ q => q) ?_
  rintro a s o t - ⟨⟨⟨u, r, h1, h2, h3, h4⟩, h5⟩, h6⟩
  exact ⟨⟨⟨u, r, h1, h2, hq r u h3, h4⟩, h5⟩, h6⟩
/-- stars and spots in one row -/
def dj (gS gP : Nat → Int32) : Nat → Int32 := fun j => if j < 36 then gS j else gP (j - 36)
abbrev kBet (n0 n1 : Nat) (gS gP se : Nat → Int32) : Nat → Int32 := mBc (dj gS gP) se n0 n1 (-1)
abbrev kSpa (n0 n1 : Nat) (gS gP se : Nat → Int32) : Nat → Int32 := fun k => (rC (dj gS gP) se n0 n1 (nI k)).2.2.2
/-- what the counts of the trial are -/
def cHB (n0 n1 : Nat) (gS gP se : Nat → Int32) : Prop := ∀ k, k < 21 → ∀ (tp : Nat → Int32) (sta spa : Nat → Int64) (pl : Nat → Int32), (cSolC n0 n1 gP se (-1) (cSolU n0 n1 gS gP (cTake (sumT (sumN (cWs n0 n1 gS gP se).2 k) k k) (se 2) n0 n1 tp) sta spa pl)).2.2.2 = kBet n0 n1 gS gP se k
def cHS (n0 n1 : Nat) (gS gP se : Nat → Int32) : Prop := ∀ k, k < n1 → ∀ (tp : Nat → Int32) (sta spa : Nat → Int64) (pl : Nat → Int32), (cSolC n0 n1 gP se (nI k) (cSolU n0 n1 gS gP (cTake ((cWr n0 n1 gS gP se).2 k) (se 2) n0 n1 tp) sta spa pl)).2.2.2 = kSpa n0 n1 gS gP se k
/-- the cells of the sight that no method but its own touches -/
def cCel (ca ad : Nat → Nat) (u : Nat → va_E) : Prop := cMat ca ad u ∧ cPln ca ad u ∧ cStp ca ad u ∧ cSpr ca ad u ∧ cFx47 ca ad u ∧ cFx58 ca ad u
def cDir (ca ad : Nat → Nat) (n0 n1 : Nat) (gS gP se : Nat → Int32) (u : Nat → va_E) : Prop := n0 ≤ 12 ∧ n1 ≤ 8 ∧ u 2 = .inr (1, [.ref (ad 3), .int 12, .int (nI n0)]) ∧ u 3 = .inl (ca 0, 36, .inl gS) ∧ u 4 = .inr (1, [.ref (ad 5), .int 8, .int (nI n1)]) ∧ u 5 = .inl (ca 0, 24, .inl gP) ∧ u 6 = .inl (ca 0, 4, .inl se)
/-- the sight: what is kept is what follows -/
def cSI (ca ad : Nat → Nat) (n0 n1 : Nat) (gS gP se : Nat → Int32) (u : Nat → va_E) : Prop := cDir ca ad n0 n1 gS gP se u ∧ cCel ca ad u ∧ ∃ lo ma bt bc sp sc fk bk sk : Int32, u 1 = .inr (6, sgF ad lo ma bt bc sp sc fk bk sk) ∧ (fk = 0 ∨ fk = 1 ∧ cKn ca ad n0 n1 gS gP se lo ma u) ∧ (bk = 0 ∨ bk = 1 ∧ ∃ b0, bt = (cBet (kBet n0 n1 gS gP se) b0 21).1 ∧ bc = (cBet (kBet n0 n1 gS gP se) b0 21).2) ∧ (sk = 0 ∨ sk = 1 ∧ sp = (cSpa (kSpa n0 n1 gS gP se) n1).1 ∧ sc = (cSpa (kSpa n0 n1 gS gP se) n1).2)
theorem cFx47_c {ca ad : Nat → Nat} {f u : Nat → va_E} (h : ∀ k, 47 ≤ k → k < 58 → u k = f k) (hM : cFx47 ca ad f) : cFx47 ca ad u := by
  obtain ⟨a1, a2, a3, a4, a5, a6, a7, a8, a9, b1, b2, b3, h1, h2, h3, h4, h5, h6, h7, h8, h9, g1, g2⟩ := hM
  exact ⟨a1, a2, a3, a4, a5, a6, a7, a8, a9, b1, b2, b3, (h _ (by decide) (by decide)).trans h1, (h _ (by decide) (by decide)).trans h2, (h _ (by decide) (by decide)).trans h3, (h _ (by decide) (by decide)).trans h4, (h _ (by decide) (by decide)).trans h5, (h _ (by decide) (by decide)).trans h6, (h _ (by decide) (by decide)).trans h7, (h _ (by decide) (by decide)).trans h8, (h _ (by decide) (by decide)).trans h9, (h _ (by decide) (by decide)).trans g1, (h _ (by decide) (by decide)).trans g2⟩
theorem cFx58_c {ca ad : Nat → Nat} {f u : Nat → va_E} (h : ∀ k, 58 ≤ k → k < 69 → u k = f k) (hM : cFx58 ca ad f) : cFx58 ca ad u := by
  obtain ⟨a1, a2, a3, a4, a5, a6, a7, a8, a9, b1, b2, b3, h1, h2, h3, h4, h5, h6, h7, h8, h9, g1, g2⟩ := hM
  exact ⟨a1, a2, a3, a4, a5, a6, a7, a8, a9, b1, b2, b3, (h _ (by decide) (by decide)).trans h1, (h _ (by decide) (by decide)).trans h2, (h _ (by decide) (by decide)).trans h3, (h _ (by decide) (by decide)).trans h4, (h _ (by decide) (by decide)).trans h5, (h _ (by decide) (by decide)).trans h6, (h _ (by decide) (by decide)).trans h7, (h _ (by decide) (by decide)).trans h8, (h _ (by decide) (by decide)).trans h9, (h _ (by decide) (by decide)).trans g1, (h _ (by decide) (by decide)).trans g2⟩
theorem cFxV_c {ca ad : Nat → Nat} {f u : Nat → va_E} {T : cTS} {U : cUS} {C : cCS} (h : ∀ k, 47 ≤ k → k < 58 → u k = f k) (hM : cFxV ca ad f T U C) : cFxV ca ad u T U C := by
  obtain ⟨h1, h2, h3, h4, h5, h6, h7, h8, h9, g1, g2⟩ := hM
  exact ⟨(h _ (by decide) (by decide)).trans h1, (h _ (by decide) (by decide)).trans h2, (h _ (by decide) (by decide)).trans h3, (h _ (by decide) (by decide)).trans h4, (h _ (by decide) (by decide)).trans h5, (h _ (by decide) (by decide)).trans h6, (h _ (by decide) (by decide)).trans h7, (h _ (by decide) (by decide)).trans h8, (h _ (by decide) (by decide)).trans h9, (h _ (by decide) (by decide)).trans g1, (h _ (by decide) (by decide)).trans g2⟩
theorem cFxV_a {ca ad : Nat → Nat} {u : Nat → va_E} {T : cTS} {U : cUS} {C : cCS} (hM : cFxV ca ad u T U C) : cFx47 ca ad u := ⟨_, _, _, _, _, _, _, _, _, _, _, _, hM⟩
theorem cKn_c {ca ad : Nat → Nat} {n0 n1 : Nat} {gS gP se : Nat → Int32} {lo ma : Int32} {f u : Nat → va_E} (h : ∀ k, 12 ≤ k → k < 14 → u k = f k) (h2 : ∀ k, 47 ≤ k → k < 58 → u k = f k) (hM : cKn ca ad n0 n1 gS gP se lo ma f) : cKn ca ad n0 n1 gS gP se lo ma u := by
  obtain ⟨e1, e2, e3, e4, tp, sta, spa, pl, e5⟩ := hM
  exact ⟨e1, e2, (h 12 (by decide) (by decide)).trans e3, (h 13 (by decide) (by decide)).trans e4, tp, sta, spa, pl, cFxV_c h2 e5⟩
theorem cKn_p {ca ad : Nat → Nat} {n0 n1 : Nat} {gS gP se : Nat → Int32} {lo ma : Int32} {u : Nat → va_E} (hM : cKn ca ad n0 n1 gS gP se lo ma u) : cPln ca ad u ∧ cFx47 ca ad u := by
  obtain ⟨e1, e2, e3, e4, tp, sta, spa, pl, e5⟩ := hM
  exact ⟨⟨_, _, _, e3, e4⟩, cFxV_a e5⟩
theorem cCel_c {ca ad : Nat → Nat} {f u : Nat → va_E} (h : ∀ k, 7 ≤ k → k < 69 → u k = f k) (hM : cCel ca ad f) : cCel ca ad u := by
  obtain ⟨h1, h2, h3, h4, h5, h6⟩ := hM
  exact ⟨cMat_c (fun k a b => h k a (by omega)) h1, cPln_c (fun k a b => h k (by omega) (by omega)) h2, cStp_c (fun k a b => h k (by omega) (by omega)) h3, cSpr_c (fun k a b => h k (by omega) (by omega)) h4, cFx47_c (fun k a b => h k (by omega) (by omega)) h5, cFx58_c (fun k a b => h k (by omega) (by omega)) h6⟩
/-- what changes stars, spots or settings, and forgets -/
theorem cSI_new {ca ad : Nat → Nat} {n0 n1 n0' n1' : Nat} {gS gP se gS' gP' se' : Nat → Int32} {lo ma bt bc sp sc : Int32} {f u : Nat → va_E} (hI : cSI ca ad n0 n1 gS gP se f) (h : ∀ k, 7 ≤ k → k < 69 → u k = f k) (h1 : u 1 = .inr (6, sgF ad lo ma bt bc sp sc 0 0 0)) (hD : cDir ca ad n0' n1' gS' gP' se' u) : cSI ca ad n0' n1' gS' gP' se' u :=
  ⟨hD, cCel_c h hI.2.1, _, _, _, _, _, _, _, _, _, h1, Or.inl rfl, Or.inl rfl, Or.inl rfl⟩
/-- what touches other cells alone -/
theorem cSI_c {ca ad : Nat → Nat} {n0 n1 : Nat} {gS gP se : Nat → Int32} {f u : Nat → va_E} (hI : cSI ca ad n0 n1 gS gP se f) (h : ∀ k, 0 < k → k < 69 → u k = f k) : cSI ca ad n0 n1 gS gP se u := by
  obtain ⟨⟨a1, a2, a3, a4, a5, a6, a7⟩, hc, lo, ma, bt, bc, sp, sc, fk, bk, sk, h1, h2, h3, h4⟩ := hI
  refine ⟨⟨a1, a2, (h _ (by decide) (by decide)).trans a3, (h _ (by decide) (by decide)).trans a4, (h _ (by decide) (by decide)).trans a5, (h _ (by decide) (by decide)).trans a6, (h _ (by decide) (by decide)).trans a7⟩, cCel_c (fun k a b => h k (by omega) b) hc, lo, ma, bt, bc, sp, sc, fk, bk, sk, (h _ (by decide) (by decide)).trans h1, ?_, h3, h4⟩
  rcases h2 with h2 | ⟨q, h2⟩
  · exact Or.inl h2
  · exact Or.inr ⟨q, cKn_c (fun k a b => h k (by omega) (by omega)) (fun k a b => h k (by omega) (by omega)) h2⟩
/-- behind 'known' -/
def cSK (ca ad : Nat → Nat) (n0 n1 : Nat) (gS gP se : Nat → Int32) (u : Nat → va_E) : Prop := cSI ca ad n0 n1 gS gP se u ∧ ∃ lo ma bt bc sp sc bk sk : Int32, u 1 = .inr (6, sgF ad lo ma bt bc sp sc 1 bk sk) ∧ cKn ca ad n0 n1 gS gP se lo ma u

theorem c_known {l : Launch} {D : va_G} {ca ss ad : Nat → Nat} {f : Nat → va_E} (n0 n1 : Nat) (gS gP se : Nat → Int32) (hI : cSI ca ad n0 n1 gS gP se f) : gMr l D ca ss ad 108 yX6_known cX6_known 1 (some (.object "StarTracker$Sight")) 5 f [.ref (ad 1)] (fun r u => r = ad 1 ∧ cSK ca ad n0 n1 gS gP se u ∧ ∀ k, k = 0 ∨ 69 ≤ k → u k = f k) := by
  have hI0 := hI
  obtain ⟨⟨hn0, hn1, hc2, hc3, hc4, hc5, hc6⟩, ⟨hM, hP, hT, hR, hF, hG⟩, lo, ma, bt, bc, sp, sc, fk, bk, sk, hc1, hfk, hbk, hsk⟩ := hI
  rcases hfk with hfk | ⟨hfk, hkn⟩
  · refine gMr_mono (c_known0 n0 n1 gS gP se lo ma bt bc sp sc fk bk sk hc1 hc2 hc3 hc4 hc5 hc6 hM hP hF hn0 hn1 hfk) ?_
    rintro r u ⟨h0, h1, h2, h3, h4⟩
    have q : ∀ k, k ≠ 1 → k < 7 ∨ (14 ≤ k ∧ k < 47) ∨ 58 ≤ k → u k = f k := fun k a b => h4 k a (by omega) (by omega)
    have hK := cKn_p h3
    have hC : cCel ca ad u := ⟨h2, hK.1, cStp_c (fun k a b => q k (by omega) (by omega)) hT, cSpr_c (fun k a b => q k (by omega) (by omega)) hR, hK.2, cFx58_c (fun k a b => q k (by omega) (by omega)) hG⟩
    have hD : cDir ca ad n0 n1 gS gP se u := ⟨hn0, hn1, (q 2 (by decide) (by decide)).trans hc2, (q 3 (by decide) (by decide)).trans hc3, (q 4 (by decide) (by decide)).trans hc4, (q 5 (by decide) (by decide)).trans hc5, (q 6 (by decide) (by decide)).trans hc6⟩
    exact ⟨h0, ⟨⟨hD, hC, _, _, bt, bc, sp, sc, 1, bk, sk, h1, Or.inr ⟨rfl, h3⟩, hbk, hsk⟩, _, _, bt, bc, sp, sc, bk, sk, h1, h3⟩, fun k hk => q k (by omega) (by omega)⟩
  · subst hfk
    refine gMr_mono (c_known1 lo ma bt bc sp sc 1 bk sk hc1 (by decide)) ?_
    rintro r u ⟨h0, h1⟩
    subst h1
    exact ⟨h0, ⟨hI0, lo, ma, bt, bc, sp, sc, bk, sk, hc1, hkn⟩, fun k _ => rfl⟩
theorem c_findBetter {l : Launch} {D : va_G} {ca ss ad : Nat → Nat} {f : Nat → va_E} (n0 n1 : Nat) (gS gP se : Nat → Int32) (hI : cSI ca ad n0 n1 gS gP se f) (hB : cHB n0 n1 gS gP se) : gMv l D ca ss ad 108 yX6_findBetter cX6_findBetter 2 none 5 f [.ref (ad 1)] (fun u => (cSI ca ad n0 n1 gS gP se u ∧ ∃ lo ma b0 sp sc fk bk sk : Int32, u 1 = .inr (6, sgF ad lo ma (cBet (kBet n0 n1 gS gP se) b0 21).1 (cBet (kBet n0 n1 gS gP se) b0 21).2 sp sc fk bk sk)) ∧ ∀ k, k = 0 ∨ 69 ≤ k → u k = f k) := by
  have hI0 := hI
  obtain ⟨⟨hn0, hn1, hc2, hc3, hc4, hc5, hc6⟩, ⟨hM, hP, hT, hR, hF, hG⟩, lo, ma, bt, bc, sp, sc, fk, bk, sk, hc1, hfk, hbk, hsk⟩ := hI
  rcases hbk with hbk | ⟨hbk, b0, hb1, hb2⟩
  · refine gMv_mono (c_findBetter0 n0 n1 gS gP se lo ma bt bc sp sc fk bk sk (kBet n0 n1 gS gP se) hB hc1 hc2 hc3 hc4 hc5 hc6 hM hT hG hn0 hn1 hbk) ?_
    rintro u ⟨h1, h2, h3, h5, h4⟩
    have q : ∀ k, k ≠ 1 → k < 7 ∨ (12 ≤ k ∧ k < 16) ∨ (37 ≤ k ∧ k < 58) ∨ 69 ≤ k → u k = f k := fun k a b => h4 k a (by omega) (by omega) (by omega)
    have hC : cCel ca ad u := ⟨h2, cPln_c (fun k a b => q k (by omega) (by omega)) hP, h3, cSpr_c (fun k a b => q k (by omega) (by omega)) hR, cFx47_c (fun k a b => q k (by omega) (by omega)) hF, h5⟩
    have hD : cDir ca ad n0 n1 gS gP se u := ⟨hn0, hn1, (q 2 (by decide) (by decide)).trans hc2, (q 3 (by decide) (by decide)).trans hc3, (q 4 (by decide) (by decide)).trans hc4, (q 5 (by decide) (by decide)).trans hc5, (q 6 (by decide) (by decide)).trans hc6⟩
    have hK : fk = 0 ∨ fk = 1 ∧ cKn ca ad n0 n1 gS gP se lo ma u := by
      rcases hfk with a | ⟨a, b⟩
      · exact Or.inl a
      · exact Or.inr ⟨a, cKn_c (fun k a b => q k (by omega) (by omega)) (fun k a b => q k (by omega) (by omega)) b⟩
    exact ⟨⟨⟨hD, hC, lo, ma, _, _, sp, sc, fk, 1, sk, h1, hK, Or.inr ⟨rfl, bt, rfl, rfl⟩, hsk⟩, lo, ma, bt, sp, sc, fk, 1, sk, h1⟩, fun k hk => q k (by omega) (by omega)⟩
  · subst hbk
    refine gMv_mono (c_findBetter1 lo ma bt bc sp sc fk 1 sk hc1 (by decide)) ?_
    intro u h1
    subst h1
    exact ⟨⟨hI0, lo, ma, b0, sp, sc, fk, 1, sk, by rw [hc1, hb1, hb2]⟩, fun k _ => rfl⟩
theorem c_findSpare {l : Launch} {D : va_G} {ca ss ad : Nat → Nat} {f : Nat → va_E} (n0 n1 : Nat) (gS gP se : Nat → Int32) (hI : cSI ca ad n0 n1 gS gP se f) (hB : cHS n0 n1 gS gP se) : gMv l D ca ss ad 108 yX6_findSpare cX6_findSpare 2 none 5 f [.ref (ad 1)] (fun u => (cSI ca ad n0 n1 gS gP se u ∧ ∃ lo ma bt bc fk bk sk : Int32, u 1 = .inr (6, sgF ad lo ma bt bc (cSpa (kSpa n0 n1 gS gP se) n1).1 (cSpa (kSpa n0 n1 gS gP se) n1).2 fk bk sk)) ∧ ∀ k, k = 0 ∨ 69 ≤ k → u k = f k) := by
  have hI0 := hI
  obtain ⟨⟨hn0, hn1, hc2, hc3, hc4, hc5, hc6⟩, ⟨hM, hP, hT, hR, hF, hG⟩, lo, ma, bt, bc, sp, sc, fk, bk, sk, hc1, hfk, hbk, hsk⟩ := hI
  rcases hsk with hsk | ⟨hsk, hb1, hb2⟩
  · refine gMv_mono (c_findSpare0 n0 n1 gS gP se lo ma bt bc sp sc fk bk sk (kSpa n0 n1 gS gP se) hB hc1 hc2 hc3 hc4 hc5 hc6 hM hR hG hn0 hn1 hsk) ?_
    rintro u ⟨h1, h2, h3, h5, h4⟩
    have q : ∀ k, k ≠ 1 → k < 7 ∨ (12 ≤ k ∧ k < 37) ∨ k = 38 ∨ (47 ≤ k ∧ k < 58) ∨ 69 ≤ k → u k = f k := fun k a b => h4 k a (by omega) (by omega) (by omega) (by omega)
    have hC : cCel ca ad u := ⟨h2, cPln_c (fun k a b => q k (by omega) (by omega)) hP, cStp_c (fun k a b => q k (by omega) (by omega)) hT, h3, cFx47_c (fun k a b => q k (by omega) (by omega)) hF, h5⟩
    have hD : cDir ca ad n0 n1 gS gP se u := ⟨hn0, hn1, (q 2 (by decide) (by decide)).trans hc2, (q 3 (by decide) (by decide)).trans hc3, (q 4 (by decide) (by decide)).trans hc4, (q 5 (by decide) (by decide)).trans hc5, (q 6 (by decide) (by decide)).trans hc6⟩
    have hK : fk = 0 ∨ fk = 1 ∧ cKn ca ad n0 n1 gS gP se lo ma u := by
      rcases hfk with a | ⟨a, b⟩
      · exact Or.inl a
      · exact Or.inr ⟨a, cKn_c (fun k a b => q k (by omega) (by omega)) (fun k a b => q k (by omega) (by omega)) b⟩
    exact ⟨⟨⟨hD, hC, lo, ma, bt, bc, _, _, fk, bk, 1, h1, hK, hbk, Or.inr ⟨rfl, rfl, rfl⟩⟩, lo, ma, bt, bc, fk, bk, 1, h1⟩, fun k hk => q k (by omega) (by omega)⟩
  · subst hsk
    refine gMv_mono (c_findSpare1 lo ma bt bc sp sc fk bk 1 hc1 (by decide)) ?_
    intro u h1
    subst h1
    exact ⟨⟨hI0, lo, ma, bt, bc, fk, bk, 1, by rw [hc1, hb1, hb2]⟩, fun k _ => rfl⟩
