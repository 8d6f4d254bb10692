/-- what holds of a sight at all times -/
def wOk (n0 n1 : Nat) (gS gP se : Nat → Int32) : Prop := n0 ≤ 12 ∧ n1 ≤ 8 ∧ dOk (dj gS gP) ∧ 1 ≤ (se 0).toInt ∧ (0 ≤ (se 1).toInt ∧ (se 1).toInt ≤ 9999) ∧ 1 ≤ (se 2).toInt ∧ (0 ≤ (se 3).toInt ∧ (se 3).toInt ≤ 300)
theorem dIn_0p {i : Nat} (h : i < 12) : dIn (0 : Int32) (nI i) := dIn_0 h
theorem dIn_1p {i : Nat} (h : i < 8) : dIn (1 : Int32) (nI i) := by
  unfold dIn
  rw [nI_toInt (by omega)]
  have e1 : (1 : Int32).toInt = 1 := rfl
  omega
theorem sbS {di : Nat → Int32} (hd : dOk di) {i j : Nat} (hi : i < 12) (hj : j < 12) : 0 ≤ (s_X12_sideOf (0 : Int32) (nI i) (nI j) di).toInt ∧ (s_X12_sideOf (0 : Int32) (nI i) (nI j) di).toInt ≤ 120000 := side_bd hd (dIn_0p hi) (dIn_0p hj)
theorem sbP {di : Nat → Int32} (hd : dOk di) {i j : Nat} (hi : i < 8) (hj : j < 8) : 0 ≤ (s_X12_sideOf (1 : Int32) (nI i) (nI j) di).toInt ∧ (s_X12_sideOf (1 : Int32) (nI i) (nI j) di).toInt ≤ 120000 := side_bd hd (dIn_1p hi) (dIn_1p hj)
theorem keyS {n0 : Nat} {gS gP se : Nat → Int32} (hn : n0 ≤ 12) (hb : 1 ≤ (se 0).toInt) {i j k : Nat} (hi : i < n0) (hj : j < n0) (hk : k < n0) (w : Int32) : cKey (cSD gS n0) (se 0) w i j k = s_X12_keyOf (0 : Int32) (nI i) (nI j) (nI k) w (dj gS gP) se := by
  unfold cKey
  rw [key_eq (by rw [i32_le]; exact hb), sdS (gP := gP) hi hj hn, sdS (gP := gP) hj hk hn, sdS (gP := gP) hi hk hn]
  rfl
theorem keyP {n1 : Nat} {gS gP se : Nat → Int32} (hn : n1 ≤ 8) (hb : 1 ≤ (se 0).toInt) {i j k : Nat} (hi : i < n1) (hj : j < n1) (hk : k < n1) (w : Int32) : cKey (cSD gP n1) (se 0) w i j k = s_X12_keyOf (1 : Int32) (nI i) (nI j) (nI k) w (dj gS gP) se := by
  unfold cKey
  rw [key_eq (by rw [i32_le]; exact hb), sdP (gS := gS) hi hj hn, sdP (gS := gS) hj hk hn, sdP (gS := gS) hi hk hn]
  rfl
theorem keyS_bd {n0 : Nat} {gS gP se : Nat → Int32} (hn : n0 ≤ 12) (hd : dOk (dj gS gP)) (hb : 1 ≤ (se 0).toInt) {i j k : Nat} (hi : i < n0) (hj : j < n0) (hk : k < n0) (w : Int32) : 0 ≤ (cKey (cSD gS n0) (se 0) w i j k).toInt ∧ (cKey (cSD gS n0) (se 0) w i j k).toInt ≤ 360000 := by
  unfold cKey
  rw [sdS (gP := gP) hi hj hn, sdS (gP := gP) hj hk hn, sdS (gP := gP) hi hk hn]
  exact key_bd (by rw [i32_le]; exact hb) (sbS hd (by omega) (by omega)) (sbS hd (by omega) (by omega)) (sbS hd (by omega) (by omega))
theorem keyP_bd {n1 : Nat} {gS gP se : Nat → Int32} (hn : n1 ≤ 8) (hd : dOk (dj gS gP)) (hb : 1 ≤ (se 0).toInt) {i j k : Nat} (hi : i < n1) (hj : j < n1) (hk : k < n1) (w : Int32) : 0 ≤ (cKey (cSD gP n1) (se 0) w i j k).toInt ∧ (cKey (cSD gP n1) (se 0) w i j k).toInt ≤ 360000 := by
  unfold cKey
  rw [sdP (gS := gS) hi hj hn, sdP (gS := gS) hj hk hn, sdP (gS := gS) hi hk hn]
  exact key_bd (by rw [i32_le]; exact hb) (sbP hd (by omega) (by omega)) (sbP hd (by omega) (by omega)) (sbP hd (by omega) (by omega))
theorem need_eq {n0 n1 : Nat} {gS gP se : Nat → Int32} (h : wOk n0 n1 gS gP se) {p q r i j k : Nat} (hp : p < n1) (hq : q < n1) (hr : r < n1) (hi : i < n0) (hj : j < n0) (hk : k < n0) : cNeed (cSD gP n1) (cSD gS n0) p q r i j k = mNeed (dj gS gP) p q r i j k := by
  obtain ⟨hn0, hn1, hd, -⟩ := h
  unfold cNeed mNeed
  have b : ∀ {a b : Int32}, 0 ≤ a.toInt ∧ a.toInt ≤ 120000 → 0 ≤ b.toInt ∧ b.toInt ≤ 120000 → cAbs (a - b) = s_X12_apart a b := fun ha hb => absA (by omega) (by omega)
  rw [sdS (gP := gP) hi hj hn0, sdS (gP := gP) hj hk hn0, sdS (gP := gP) hi hk hn0, sdP (gS := gS) hp hq hn1, sdP (gS := gS) hq hr hn1, sdP (gS := gS) hp hr hn1, b (sbP hd (by omega) (by omega)) (sbS hd (by omega) (by omega)), b (sbP hd (by omega) (by omega)) (sbS hd (by omega) (by omega)), b (sbP hd (by omega) (by omega)) (sbS hd (by omega) (by omega))]
theorem need_bd {di : Nat → Int32} (hd : dOk di) {p q r i j k : Nat} (hp : p < 8) (hq : q < 8) (hr : r < 8) (hi : i < 12) (hj : j < 12) (hk : k < 12) : 0 ≤ (mNeed di p q r i j k).toInt ∧ (mNeed di p q r i j k).toInt ≤ 360000 := by
  have b : ∀ {a b : Int32}, 0 ≤ a.toInt ∧ a.toInt ≤ 120000 → 0 ≤ b.toInt ∧ b.toInt ≤ 120000 → 0 ≤ (s_X12_apart a b).toInt ∧ (s_X12_apart a b).toInt ≤ 360000 := fun ha hb => apart_bd (by omega) (by omega)
  have m : ∀ {a b : Int32}, 0 ≤ a.toInt ∧ a.toInt ≤ 360000 → 0 ≤ b.toInt ∧ b.toInt ≤ 360000 → 0 ≤ (cMax a b).toInt ∧ (cMax a b).toInt ≤ 360000 := by
    intro a b ha hb
    unfold cMax
    split
    · exact hb
    · exact ha
  exact m (m (b (sbP hd hp hq) (sbS hd hi hj)) (b (sbP hd hq hr) (sbS hd hj hk))) (b (sbP hd hp hr) (sbS hd hi hk))
theorem walk_all {K : Type} {th : K → Int32 → Int32 → Int32 → Int32 → K} {n0 n1 : Nat} {gS gP se se' : Nat → Int32} {go : Int32} {st0 : K} (Rv : K → (Nat → Int32) → Int32 → Prop) (T : Prop) (w : wOk n0 n1 gS gP se) (he : se' 0 = se 0) (h0 : Rv st0 (kI 0) 0) (hT : T → go = -1)
    (hOne : ∀ p q r i j k s vo ma, p < n1 → q < n1 → r < n1 → i < n0 → j < n0 → k < n0 → ¬ nI p = go → ¬ nI q = go → ¬ nI r = go → Rv s vo ma → Rv (th s (nI (12 * p + i)) (nI (12 * q + j)) (nI (12 * r + k)) (mNeed (dj gS gP) p q r i j k)) (if se' 1 < mNeed (dj gS gP) p q r i j k then vo else v3 vo (nI (12 * p + i)) (nI (12 * q + j)) (nI (12 * r + k))) (if se' 1 < mNeed (dj gS gP) p q r i j k then ma else ma + 1))
    (hSkip : ∀ p q r i j k s vo ma, p < n1 → q < n1 → r < n1 → i < n0 → j < n0 → k < n0 → (nI p = go ∨ nI q = go ∨ nI r = go) → Rv s vo ma → Rv (th s (nI (12 * p + i)) (nI (12 * q + j)) (nI (12 * r + k)) (mNeed (dj gS gP) p q r i j k)) vo ma) :
    (T → (cWalk th (cSD gP n1) (cSD gS n0) (se 0) n0 n1 st0).1 = (mVotes (dj gS gP) se' n0 n1 go).2.2) ∧ Rv (cWalk th (cSD gP n1) (cSD gS n0) (se 0) n0 n1 st0).2 (mVotes (dj gS gP) se' n0 n1 go).1 (mVotes (dj gS gP) se' n0 n1 go).2.1 := by
  have W := w
  obtain ⟨hn0, hn1, hd, hb, -⟩ := w
  refine walk_rel (fun X st => (T → X.1 = st.2.2) ∧ Rv X.2 st.1 st.2.1) hn0 ⟨fun _ => rfl, h0⟩ ?_ ?_
  · intro p q r i j k X st hpq hqr hr hij hjk hk g1 g2 g3 hR
    have hR2 := hR.2
    have hb' : 1 ≤ (se' 0).toInt := by rw [he]; exact hb
    have ky : ∀ w : Int32, cAbs (cKey (cSD gS n0) (se 0) w i j k - cKey (cSD gP n1) (se 0) w p q r) = s_X12_apart (s_X12_keyOf (1 : Int32) (nI p) (nI q) (nI r) w (dj gS gP) se') (s_X12_keyOf (0 : Int32) (nI i) (nI j) (nI k) w (dj gS gP) se') := by
      intro w
      rw [absA (keyS_bd hn0 hd hb (by omega) (by omega) hk w) (keyP_bd hn1 hd hb (by omega) (by omega) hr w), apart_c, ← he, keyS (gP := gP) hn0 hb' (by omega) (by omega) hk, keyP (gS := gS) hn1 hb' (by omega) (by omega) hr]
    have one : ∀ i j k s vo ma, i < n0 → j < n0 → k < n0 → Rv s vo ma → Rv (cOne th (cSD gP n1) (cSD gS n0) p q r i j k s) (t_X12_tries_95 p q r i j k (dj gS gP) se' vo) (t_X12_tries_87_11 p q r i j k ma (dj gS gP) se') := by
      intro i j k s vo ma hi hj hk h
      rw [tr95 (by omega) (by omega) (by omega) (by omega) (by omega) (by omega), tr11]
      unfold cOne
      rw [need_eq W (by omega) (by omega) hr hi hj hk]
      exact hOne p q r i j k s vo ma (by omega) (by omega) hr hi hj hk g1 g2 g3 h
    by_cases h0 : 1 < s_X12_apart (s_X12_keyOf (1 : Int32) (nI p) (nI q) (nI r) (0 : Int32) (dj gS gP) se') (s_X12_keyOf (0 : Int32) (nI i) (nI j) (nI k) (0 : Int32) (dj gS gP) se')
    · have e1 : cLk1 th (cSD gP n1) (cSD gS n0) (se 0) p q r (i, j, k) X = X := by
        unfold cLk1; simp only [ky]; rw [if_pos h0]
      have e2 : mMeet (dj gS gP) se' p q r i j k st = st := by
        unfold mMeet t_X12_meets_95 t_X12_meets_87_11 t_X12_meets_87_10
        rw [if_pos h0, if_pos h0, if_pos h0]
      rw [e1, e2]; exact hR
    · by_cases h1 : 1 < s_X12_apart (s_X12_keyOf (1 : Int32) (nI p) (nI q) (nI r) (1 : Int32) (dj gS gP) se') (s_X12_keyOf (0 : Int32) (nI i) (nI j) (nI k) (1 : Int32) (dj gS gP) se')
      · have e1 : cLk1 th (cSD gP n1) (cSD gS n0) (se 0) p q r (i, j, k) X = X := by
          unfold cLk1; simp only [ky]; rw [if_neg h0, if_pos h1]
        have e2 : mMeet (dj gS gP) se' p q r i j k st = st := by
          unfold mMeet t_X12_meets_95 t_X12_meets_87_11 t_X12_meets_87_10
          rw [if_neg h0, if_neg h0, if_neg h0, if_pos h1, if_pos h1, if_pos h1]
        rw [e1, e2]; exact hR
      · by_cases h2 : 1 < s_X12_apart (s_X12_keyOf (1 : Int32) (nI p) (nI q) (nI r) (2 : Int32) (dj gS gP) se') (s_X12_keyOf (0 : Int32) (nI i) (nI j) (nI k) (2 : Int32) (dj gS gP) se')
        · have e1 : cLk1 th (cSD gP n1) (cSD gS n0) (se 0) p q r (i, j, k) X = X := by
            unfold cLk1; simp only [ky]; rw [if_neg h0, if_neg h1, if_pos h2]
          have e2 : mMeet (dj gS gP) se' p q r i j k st = st := by
            unfold mMeet t_X12_meets_95 t_X12_meets_87_11 t_X12_meets_87_10
            rw [if_neg h0, if_neg h0, if_neg h0, if_neg h1, if_neg h1, if_neg h1, if_pos h2, if_pos h2, if_pos h2]
          rw [e1, e2]; exact hR
        · have e1 : cLk1 th (cSD gP n1) (cSD gS n0) (se 0) p q r (i, j, k) X = (X.1 + 1, cTell th (cSD gP n1) (cSD gS n0) p q r (i, j, k) X.2) := by
            unfold cLk1; simp only [ky]; rw [if_neg h0, if_neg h1, if_neg h2]
          rw [e1]
          unfold mMeet t_X12_meets_95 t_X12_meets_87_11 t_X12_meets_87_10
          rw [if_neg h0, if_neg h0, if_neg h0, if_neg h1, if_neg h1, if_neg h1, if_neg h2, if_neg h2, if_neg h2]
          refine ⟨fun t => by show X.1 + 1 = st.2.2 + 1; rw [hR.1 t], ?_⟩
          have s1 := one i j k X.2 st.1 st.2.1 (by omega) (by omega) hk hR2
          have s2 := one i k j _ _ _ (by omega) hk (by omega) s1
          have s3 := one j i k _ _ _ (by omega) (by omega) hk s2
          have s4 := one j k i _ _ _ (by omega) hk (by omega) s3
          have s5 := one k i j _ _ _ hk (by omega) (by omega) s4
          have s6 := one k j i _ _ _ hk (by omega) (by omega) s5
          clear e1 one ky hOne hSkip h0 h1 h2 s1 s2 s3 s4 s5
          unfold cTell
          dsimp only
          exact s6
  · intro p q r i j k X st hpq hqr hr hij hjk hk g hR
    have hR2 := hR.2
    have nT : ¬ T := by
      intro t
      have := hT t
      rw [this] at g
      rcases g with g | g | g
      · exact nI_m1 (by omega) g
      · exact nI_m1 (by omega) g
      · exact nI_m1 (by omega) g
    have one : ∀ i j k s, i < n0 → j < n0 → k < n0 → Rv s st.1 st.2.1 → Rv (cOne th (cSD gP n1) (cSD gS n0) p q r i j k s) st.1 st.2.1 := by
      intro i j k s hi hj hk h
      unfold cOne
      rw [need_eq W (by omega) (by omega) hr hi hj hk]
      exact hSkip p q r i j k s _ _ (by omega) (by omega) hr hi hj hk g h
    refine ⟨fun t => absurd t nT, ?_⟩
    have fin : Rv (cTell th (cSD gP n1) (cSD gS n0) p q r (i, j, k) X.2) st.1 st.2.1 := by
      have s1 := one i j k X.2 (by omega) (by omega) hk hR2
      have s2 := one i k j _ (by omega) hk (by omega) s1
      have s3 := one j i k _ (by omega) (by omega) hk s2
      have s4 := one j k i _ (by omega) hk (by omega) s3
      have s5 := one k i j _ hk (by omega) (by omega) s4
      have s6 := one k j i _ hk (by omega) (by omega) s5
      unfold cTell
      exact s6
    unfold cLk1
    repeat' split
    · exact hR2
    · exact hR2
    · exact hR2
    · exact fin
/-! the plain tally -/
theorem votes_plain {n0 n1 : Nat} {gS gP se : Nat → Int32} (w : wOk n0 n1 gS gP se) : (cWp n0 n1 gS gP se).1 = (kV n0 n1 gS gP se).2.2 ∧ (cWp n0 n1 gS gP se).2.2 = (kV n0 n1 gS gP se).2.1 ∧ (cWp n0 n1 gS gP se).2.1 = (kV n0 n1 gS gP se).1 := by
  have h := walk_all (th := thL (se 1)) (se' := se) (go := -1) (st0 := ((kI (0 : Int32)), (0 : Int32))) (fun s vo ma => s.2 = ma ∧ s.1 = vo) True w rfl ⟨rfl, rfl⟩ (fun _ => rfl)
    (fun p q r i j k s vo ma _ _ _ _ _ _ _ _ _ h => by
      obtain ⟨h1, h2⟩ := h
      subst h1; subst h2
      unfold thL
      split
      · exact ⟨rfl, rfl⟩
      · exact ⟨rfl, rfl⟩)
    (fun p q r i j k s vo ma hp hq hr _ _ _ g h => by
      have := w.2.1
      rcases g with g | g | g
      · exact absurd g (nI_m1 (by omega))
      · exact absurd g (nI_m1 (by omega))
      · exact absurd g (nI_m1 (by omega)))
  exact ⟨h.1 trivial, h.2.1, h.2.2⟩
/-! the spare tally -/
theorem sprN_at (T : Nat → Nat → Int32) (x y z : Int32) (k : Nat) : ∀ n, sprN T x y z n k = if k < n then (if nI k = x / 12 then T k else if nI k = y / 12 then T k else if nI k = z / 12 then T k else v3 (T k) x y z) else T k
  | 0 => by rw [if_neg (by omega)]; rfl
  | n + 1 => by
    have ih := sprN_at T x y z k n
    by_cases e : k = n
    · subst e
      rw [if_neg (by omega)] at ih
      rw [if_pos (by omega)]
      unfold sprN
      by_cases h1 : nI k = x / 12
      · rw [if_pos h1, if_pos h1]; exact ih
      · rw [if_neg h1, if_neg h1]
        by_cases h2 : nI k = y / 12
        · rw [if_pos h2, if_pos h2]; exact ih
        · rw [if_neg h2, if_neg h2]
          by_cases h3 : nI k = z / 12
          · rw [if_pos h3, if_pos h3]; exact ih
          · rw [if_neg h3, if_neg h3, updT_s, ih]
    · have e1 : sprN T x y z (n + 1) k = sprN T x y z n k := by
        show (if nI n = x / 12 then sprN T x y z n else if nI n = y / 12 then sprN T x y z n else if nI n = z / 12 then sprN T x y z n else updT (sprN T x y z n) n (v3 (sprN T x y z n n) x y z)) k = _
        repeat' split
        · rfl
        · rfl
        · rfl
        · exact updT_n _ _ e
      rw [e1, ih]
      by_cases h : k < n
      · rw [if_pos h, if_pos (show k < n + 1 by omega)]
      · rw [if_neg h, if_neg (show ¬ k < n + 1 by omega)]
theorem votes_spare {n0 n1 : Nat} {gS gP se : Nat → Int32} (w : wOk n0 n1 gS gP se) {k : Nat} (hk : k < n1) : (cWr n0 n1 gS gP se).2 k = (mVotes (dj gS gP) se n0 n1 (nI k)).1 := by
  have hn0 := w.1
  have hn1 := w.2.1
  have pn : ∀ {p i : Nat}, p < n1 → i < n0 → nI (12 * p + i) / 12 = nI p := by
    intro p i hp hi
    rw [dv12 (by omega)]
    congr 1
    omega
  have h := walk_all (th := thP (se 1)) (se' := se) (go := nI k) (st0 := (fun _ => kI (0 : Int32))) (fun s vo _ => s k = vo) False w rfl rfl (fun h => h.elim)
    (fun p q r i j c s vo ma hp hq hr hi hj hc g1 g2 g3 h => by
      subst h
      unfold thP
      by_cases h : se 1 < mNeed (dj gS gP) p q r i j c
      · rw [if_pos h, if_neg (by rw [i32_le]; rw [i32_lt] at h; omega)]
      · rw [if_neg h, if_pos (by rw [i32_le]; rw [i32_lt] at h; omega), sprN_at, if_pos (by omega), pn hp hi, pn hq hj, pn hr hc, if_neg (Ne.symm g1), if_neg (Ne.symm g2), if_neg (Ne.symm g3)])
    (fun p q r i j c s vo ma hp hq hr hi hj hc g h => by
      subst h
      unfold thP
      split
      · rw [sprN_at, if_pos (by omega), pn hp hi, pn hq hj, pn hr hc]
        rcases g with g | g | g
        · rw [if_pos g.symm]
        · rw [if_pos g.symm]; split <;> rfl
        · rw [if_pos g.symm]; repeat' split
          all_goals rfl
      · rfl)
  exact h.2
/-! the tally by steps -/
def inc (g : Nat → Int32) (x : Nat) : Nat → Int32 := upd g x (g x + 1)
def e1 (x j : Nat) : Int32 := if j = x then 1 else 0
theorem inc_e (g : Nat → Int32) (x j : Nat) : inc g x j = g j + e1 x j := by
  unfold inc e1
  by_cases h : j = x
  · subst h; rw [pk_us, if_pos rfl]
  · rw [pk_un h, if_neg h, Int32.add_zero]
theorem v3_inc (g : Nat → Int32) (x y z : Int32) : v3 g x y z = inc (inc (inc g x.toNatClampNeg) y.toNatClampNeg) z.toNatClampNeg := rfl
def d3 (x y z : Int32) (j : Nat) : Int32 := e1 x.toNatClampNeg j + e1 y.toNatClampNeg j + e1 z.toNatClampNeg j
theorem v3_e (g : Nat → Int32) (x y z : Int32) (j : Nat) : v3 g x y z j = g j + d3 x y z j := by
  rw [v3_inc, inc_e, inc_e, inc_e]
  unfold d3
  rw [Int32.add_assoc, Int32.add_assoc, Int32.add_assoc]
def cumT (T : Nat → Nat → Int32) : Nat → Nat → Int32
  | 0 => T 0
  | k + 1 => fun j => T (k + 1) j + cumT T k j
theorem cumT_up (T : Nat → Nat → Int32) (m : Nat) (G : Nat → Int32) (c : Nat → Int32) (hG : ∀ j, G j = T m j + c j) : ∀ k j, cumT (updT T m G) k j = if m ≤ k then cumT T k j + c j else cumT T k j
  | 0, j => by
    show updT T m G 0 j = _
    by_cases h : m = 0
    · subst h; rw [updT_s, if_pos (Nat.le_refl 0), hG]; rfl
    · rw [updT_n _ _ (Ne.symm h), if_neg (by omega)]; rfl
  | k + 1, j => by
    have ih := cumT_up T m G c hG k j
    show updT T m G (k + 1) j + cumT (updT T m G) k j = _
    rw [ih]
    by_cases h : m = k + 1
    · subst h
      rw [updT_s, if_neg (by omega), if_pos (Nat.le_refl _), hG]
      show _ = T (k + 1) j + cumT T k j + c j
      rw [Int32.add_assoc, Int32.add_assoc, Int32.add_comm (c j)]
    · rw [updT_n _ _ (Ne.symm h)]
      by_cases h2 : m ≤ k
      · rw [if_pos h2, if_pos (by omega)]
        show _ = T (k + 1) j + cumT T k j + c j
        rw [Int32.add_assoc]
      · rw [if_neg h2, if_neg (by omega)]; rfl
theorem sumN_at (T : Nat → Nat → Int32) : ∀ k, (∀ s j, s < k → j < 96 → sumN T k s j = cumT T s j) ∧ ∀ s, k ≤ s → sumN T k s = T s
  | 0 => ⟨fun s j h => absurd h (by omega), fun s _ => rfl⟩
  | k + 1 => by
    obtain ⟨h1, h2⟩ := sumN_at T k
    refine ⟨fun s j hs hj => ?_, fun s hs => ?_⟩
    · show sumT (sumN T k) k s j = _
      by_cases e : s = k
      · subst e
        unfold sumT
        by_cases z : s = 0
        · subst z; rw [if_pos rfl, h2 0 (by omega)]; rfl
        · rw [if_neg z, updT_s]
          unfold aF
          rw [if_pos hj, h2 s (by omega), h1 (s - 1) j (by omega) hj]
          match s, z with
          | s + 1, _ => rfl
      · rw [sumT_n _ e]; exact h1 s j (by omega) hj
    · show sumT (sumN T k) k s = _
      rw [sumT_n _ (by omega)]; exact h2 s (by omega)
theorem sum_row (T : Nat → Nat → Int32) (k j : Nat) (hj : j < 96) : sumT (sumN T k) k k j = cumT T k j := (sumN_at T (k + 1)).1 k j (by omega) hj
theorem votes_step {n0 n1 : Nat} {gS gP se : Nat → Int32} (w : wOk n0 n1 gS gP se) {k : Nat} (hk : k < 21) : ∀ j, cumT (cWs n0 n1 gS gP se).2 k j = (mVotes (dj gS gP) (upd se 1 (nI (50 * k))) n0 n1 (-1)).1 j := by
  have hn0 := w.1
  have hn1 := w.2.1
  have h := walk_all (th := thS) (se' := upd se 1 (nI (50 * k))) (go := -1) (st0 := (fun _ => kI (0 : Int32))) (fun s vo _ => ∀ j, cumT s k j = vo j) False w (pk_un (by decide))
    (by
      intro j
      show cumT (fun _ => kI 0) k j = 0
      have : ∀ k, cumT (fun _ => kI (0 : Int32)) k j = 0 := by
        intro k
        induction k with
        | zero => rfl
        | succ k ih => show kI 0 j + cumT (fun _ => kI 0) k j = 0; rw [ih]; rfl
      exact this k)
    (fun h => h.elim)
    (fun p q r i j c s vo ma hp hq hr hi hj hc g1 g2 g3 h x => by
      have bd := need_bd w.2.2.1 (p := p) (q := q) (r := r) (i := i) (j := j) (k := c) (by omega) (by omega) (by omega) (by omega) (by omega) (by omega)
      obtain ⟨m, hm, e⟩ := nI_of (x := mNeed (dj gS gP) p q r i j c) (by rw [i32_lt]; have : (0 : Int32).toInt = 0 := rfl; omega)
      rw [e, nI_toInt hm] at bd
      rw [e, pk_us]
      have d : (nI m + 50 - 1) / 50 = nI ((m + 49) / 50) := by
        rw [show (50 : Int32) = nI 50 from rfl, nI_add, show (1 : Int32) = nI 1 from rfl, pk_sub (by omega), pk_div (by omega) (by omega) (by omega)]
        congr 1
      unfold thS
      rw [d, if_neg (nI_pos (by omega)), show (21 : Int32) = nI 21 from rfl, nI_clamp (by omega)]
      by_cases l : m ≤ 50 * k
      · rw [if_neg (nI_nlt l (by omega)), if_neg (nI_ge (by omega) (by omega)), cumT_up s _ _ (d3 (nI (12 * p + i)) (nI (12 * q + j)) (nI (12 * r + c))) (fun j => v3_e _ _ _ _ _), if_pos (by omega), v3_e, h]
      · rw [if_pos (nI_lt (by omega) (by omega))]
        by_cases l2 : 21 ≤ (m + 49) / 50
        · rw [if_pos (nI_le l2 (by omega))]; exact h x
        · rw [if_neg (nI_ge (by omega) (by omega)), cumT_up s _ _ (d3 (nI (12 * p + i)) (nI (12 * q + j)) (nI (12 * r + c))) (fun j => v3_e _ _ _ _ _), if_neg (by omega)]; exact h x)
    (fun p q r i j c s vo ma hp hq hr _ _ _ g h => by
      rcases g with g | g | g
      · exact absurd g (nI_m1 (by omega))
      · exact absurd g (nI_m1 (by omega))
      · exact absurd g (nI_m1 (by omega)))
  exact h.2
