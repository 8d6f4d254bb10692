/-! THE FIX IS THE MODEL'S -/
theorem ofL_P {gS gP : Nat → Int32} {n1 p : Nat} (hn1 : n1 ≤ 8) (hp : p < n1) : cOfL gP n1 (nI p) = ofL (dj gS gP) (1 : Int32) (nI p) := by
  have a : s_X1_part (nI p) (0 : Int32) (nI n1) gP = s_X12_of (1 : Int32) (nI p) (0 : Int32) (dj gS gP) := partP (w := 0) hp hn1 (by omega)
  have b : s_X1_part (nI p) (1 : Int32) (nI n1) gP = s_X12_of (1 : Int32) (nI p) (1 : Int32) (dj gS gP) := partP (w := 1) hp hn1 (by omega)
  have c : s_X1_part (nI p) (2 : Int32) (nI n1) gP = s_X12_of (1 : Int32) (nI p) (2 : Int32) (dj gS gP) := partP (w := 2) hp hn1 (by omega)
  show t3 _ _ _ = t3 _ _ _
  rw [a, b, c]
theorem ofL_S {gS gP : Nat → Int32} {n0 i : Nat} (hn0 : n0 ≤ 12) (hi : i < n0) : cOfL gS n0 (nI i) = ofL (dj gS gP) (0 : Int32) (nI i) := by
  have a : s_X1_part (nI i) (0 : Int32) (nI n0) gS = s_X12_of (0 : Int32) (nI i) (0 : Int32) (dj gS gP) := partS (w := 0) hi hn0 (by omega)
  have b : s_X1_part (nI i) (1 : Int32) (nI n0) gS = s_X12_of (0 : Int32) (nI i) (1 : Int32) (dj gS gP) := partS (w := 1) hi hn0 (by omega)
  have c : s_X1_part (nI i) (2 : Int32) (nI n0) gS = s_X12_of (0 : Int32) (nI i) (2 : Int32) (dj gS gP) := partS (w := 2) hi hn0 (by omega)
  show t3 _ _ _ = t3 _ _ _
  rw [a, b, c]
/-- what a finding of the class gives is what a finding of the model gives -/
def fTie (n0 n1 : Nat) (gS gP se : Nat → Int32) (go : Int32) (T : cTS) (U : cUS) (X : cCS) : Prop := (∀ p, p < 8 → T.1 p = (rT (dj gS gP) se n0 n1 go).1 p ∧ T.2.1 p = (rT (dj gS gP) se n0 n1 go).2.1 p) ∧ T.2.2.2.2 = (rT (dj gS gP) se n0 n1 go).2.2.2 ∧ U.1 = rU (dj gS gP) se n0 n1 go ∧ (rU (dj gS gP) se n0 n1 go = 1 → ∀ j, j < 3 * n0 → U.2.2.2 j = rP (dj gS gP) se n0 n1 go j) ∧ (∀ p, p < 8 → X.2.1 p = (rC (dj gS gP) se n0 n1 go).2.1 p ∧ X.2.2.1 p = (rC (dj gS gP) se n0 n1 go).2.2.1 p) ∧ X.2.2.2 = (rC (dj gS gP) se n0 n1 go).2.2.2
theorem turns_eq {n0 n1 : Nat} {gS gP se se' : Nat → Int32} (w : wOk n0 n1 gS gP se) {go : Int32} {C : cTS} {k : Nat} (hk : k ≤ 8) (T : tkOk n0 n1 C (rT (dj gS gP) se' n0 n1 go) k) (sta spa : Nat → Int64) (pl : Nat → Int32) : (cSolU n0 n1 gS gP C sta spa pl).1 = rU (dj gS gP) se' n0 n1 go ∧ (¬ rU (dj gS gP) se' n0 n1 go = 0 → ∀ j, j < 3 * n0 → (cSolU n0 n1 gS gP C sta spa pl).2.2.2 j = rP (dj gS gP) se' n0 n1 go j ∧ -402010003 ≤ (rP (dj gS gP) se' n0 n1 go j).toInt ∧ (rP (dj gS gP) se' n0 n1 go j).toInt ≤ 402010003) := by
  obtain ⟨hn0, hn1, hd, -⟩ := w
  have hc : C.2.2.2.2 = nI k := T.c.trans T.d
  by_cases k2 : k < 2
  · have e1 : cSolU n0 n1 gS gP C sta spa pl = (0, sta, spa, pl) := by
      refine if_neg ?_
      rw [hc, show (2 : Int32) = nI 2 from rfl]
      exact nI_ge k2 (by omega)
    have e2 : rU (dj gS gP) se' n0 n1 go = 0 := by
      refine if_pos ?_
      rw [T.d, show (1 : Int32) = nI 1 from rfl]
      exact nI_le (by omega) (by omega)
    rw [e1, e2]
    exact ⟨rfl, fun h => absurd rfl h⟩
  · obtain ⟨p0, s0, hp0, hs0, a1, a2, a3, a4⟩ := tk_sp hk hn1 T (show 0 < k by omega)
    obtain ⟨p1, s1, hp1, hs1, b1, b2, b3, b4⟩ := tk_sp hk hn1 T (show 1 < k by omega)
    have a2 : mSp (rT (dj gS gP) se' n0 n1 go).2.1 (0 : Int32) 8 = nI p0 := a2
    have b2 : mSp (rT (dj gS gP) se' n0 n1 go).2.1 (1 : Int32) 8 = nI p1 := b2
    have vP0 := ofL_bd hd (dIn_1p (show p0 < 8 by omega))
    have vP1 := ofL_bd hd (dIn_1p (show p1 < 8 by omega))
    have vS0 := ofL_bd hd (dIn_0p (show s0 < 12 by omega))
    have vS1 := ofL_bd hd (dIn_0p (show s1 < 12 by omega))
    have eP : cSPA gP n1 C.2.2.1 spa = armC spa (ofL (dj gS gP) (1 : Int32) (nI p0)) (ofL (dj gS gP) (1 : Int32) (nI p1)) := by
      show armC spa (cOfL gP n1 (C.2.2.1 0)) (cOfL gP n1 (C.2.2.1 1)) = _
      rw [a1, b1, ofL_P (gS := gS) hn1 hp0, ofL_P (gS := gS) hn1 hp1]
    have eS : cSTA gS n0 C.1 C.2.2.1 sta = armC sta (ofL (dj gS gP) (0 : Int32) (nI s0)) (ofL (dj gS gP) (0 : Int32) (nI s1)) := by
      show armC sta (cOfL gS n0 (C.1 (C.2.2.1 0).toNatClampNeg)) (cOfL gS n0 (C.1 (C.2.2.1 1).toNatClampNeg)) = _
      rw [a1, b1, nI_clamp (by omega), nI_clamp (by omega), a3, b3, ofL_S (gP := gP) hn0 hs0, ofL_S (gP := gP) hn0 hs1]
    have mP : rSPA (dj gS gP) se' n0 n1 go = armF kL (ofL (dj gS gP) (1 : Int32) (nI p0)) (ofL (dj gS gP) (1 : Int32) (nI p1)) := by
      show armF kL (ofL (dj gS gP) (1 : Int32) (mSp (rT (dj gS gP) se' n0 n1 go).2.1 (0 : Int32) 8)) (ofL (dj gS gP) (1 : Int32) (mSp (rT (dj gS gP) se' n0 n1 go).2.1 (1 : Int32) 8)) = _
      rw [a2, b2]
    have mS : rSTA (dj gS gP) se' n0 n1 go = armF kL (ofL (dj gS gP) (0 : Int32) (nI s0)) (ofL (dj gS gP) (0 : Int32) (nI s1)) := by
      show armF kL (ofL (dj gS gP) (0 : Int32) ((rT (dj gS gP) se' n0 n1 go).1 (mSp (rT (dj gS gP) se' n0 n1 go).2.1 (0 : Int32) 8).toNatClampNeg)) (ofL (dj gS gP) (0 : Int32) ((rT (dj gS gP) se' n0 n1 go).1 (mSp (rT (dj gS gP) se' n0 n1 go).2.1 (1 : Int32) 8).toNatClampNeg)) = _
      rw [a2, b2, nI_clamp (by omega), nI_clamp (by omega), a4, b4]
    have t2 : (2 : Int32) ≤ C.2.2.2.2 := by
      rw [hc, show (2 : Int32) = nI 2 from rfl]
      exact nI_le (by omega) (by omega)
    have t1 : ¬ (rT (dj gS gP) se' n0 n1 go).2.2.2 ≤ 1 := by
      rw [T.d, show (1 : Int32) = nI 1 from rfl]
      exact nI_ge (by omega) (by omega)
    have f1 : s_X0_isFlat (cSPA gP n1 C.2.2.1 spa) = s_X12_isNone (rSPA (dj gS gP) se' n0 n1 go) := by rw [eP, mP]; exact flat_none _ _ _ _
    have f2 : s_X0_isFlat (cSTA gS n0 C.1 C.2.2.1 sta) = s_X12_isNone (rSTA (dj gS gP) se' n0 n1 go) := by rw [eS, mS]; exact flat_none _ _ _ _
    have cU : cSolU n0 n1 gS gP C sta spa pl = _ := if_pos t2
    have mU : rU (dj gS gP) se' n0 n1 go = _ := if_neg t1
    by_cases g1 : s_X12_isNone (rSPA (dj gS gP) se' n0 n1 go) = 0
    · rw [if_pos (f1.trans g1)] at cU
      rw [if_pos g1] at mU
      by_cases g2 : s_X12_isNone (rSTA (dj gS gP) se' n0 n1 go) = 0
      · rw [if_pos (f2.trans g2)] at cU
        rw [if_pos g2] at mU
        rw [cU, mU]
        refine ⟨rfl, fun _ j hj => ?_⟩
        show cPn (cSTA gS n0 C.1 C.2.2.1 sta) (cSPA gP n1 C.2.2.1 spa) gS n0 pl n0 j = rP (dj gS gP) se' n0 n1 go j ∧ _
        have eR : rP (dj gS gP) se' n0 n1 go j = s_X12_coordinate (j / 3) (j % 3) (dj gS gP) (rSTA (dj gS gP) se' n0 n1 go) (rSPA (dj gS gP) se' n0 n1 go) (selfF kL (rSTA (dj gS gP) se' n0 n1 go)) := rfl
        rw [cPn_at _ _ _ _ _ _ _ hj, eR, eS, eP, mS, mP]
        rw [mS] at g2
        exact ⟨coord_eq hn0 vS0 vS1 g2 (by omega) (by omega), coord_bd hd vS0 vS1 vP0 vP1 g2 (by omega) (by omega)⟩
      · rw [if_neg (fun q => g2 (f2.symm.trans q))] at cU
        rw [if_neg g2] at mU
        rw [cU, mU]
        exact ⟨rfl, fun h => absurd rfl h⟩
    · rw [if_neg (fun q => g1 (f1.symm.trans q))] at cU
      rw [if_neg g1] at mU
      rw [cU, mU]
      exact ⟨rfl, fun h => absurd rfl h⟩
theorem fix_eq {n0 n1 : Nat} {gS gP se se' vo : Nat → Int32} {go : Int32} (w : wOk n0 n1 gS gP se) (h2 : se' 2 = se 2) (h3 : se' 3 = se 3) (hv : ∀ j, j < 96 → vo j = (mVotes (dj gS gP) se' n0 n1 go).1 j) (tp : Nat → Int32) (sta spa : Nat → Int64) (pl : Nat → Int32) : fTie n0 n1 gS gP se' go (cTake vo (se 2) n0 n1 tp) (cSolU n0 n1 gS gP (cTake vo (se 2) n0 n1 tp) sta spa pl) (cSolC n0 n1 gP se go (cSolU n0 n1 gS gP (cTake vo (se 2) n0 n1 tp) sta spa pl)) := by
  have hp : pOk n0 n1 vo (mVotes (dj gS gP) se' n0 n1 go).1 (se 2) := ⟨w.1, w.2.1, hv, votes_out w se' go, w.2.2.2.2.2.1⟩
  obtain ⟨k, hk, T⟩ := take_eq hp tp
  have er : mTake (mVotes (dj gS gP) se' n0 n1 go).1 (se 2) = rT (dj gS gP) se' n0 n1 go := by
    show _ = mTake (mVotes (dj gS gP) se' n0 n1 go).1 (se' 2)
    rw [h2]
  rw [er] at T
  generalize cTake vo (se 2) n0 n1 tp = C at T ⊢
  obtain ⟨u1, u2⟩ := turns_eq w hk T sta spa pl
  have cf := confs_eq (gS := gS) (gP := gP) (plC := (cSolU n0 n1 gS gP C sta spa pl).2.2.2) (pl := rP (dj gS gP) se' n0 n1 go) (ne := se 3) (tu := rU (dj gS gP) se' n0 n1 go) (go := go) w.2.2.1 w.1 w.2.1 w.2.2.2.2.2.2 (fun h j hj => (u2 h j hj).1) (fun h j hj => (u2 h j hj).2)
  have eC : rC (dj gS gP) se' n0 n1 go = mConf (dj gS gP) (rP (dj gS gP) se' n0 n1 go) (se 3) (rU (dj gS gP) se' n0 n1 go) go n0 n1 := by
    show mConf (dj gS gP) (rP (dj gS gP) se' n0 n1 go) (se' 3) (rU (dj gS gP) se' n0 n1 go) go n0 n1 = _
    rw [h3]
  have eX : cSolC n0 n1 gP se go (cSolU n0 n1 gS gP C sta spa pl) = cConf gP n0 n1 (cSolU n0 n1 gS gP C sta spa pl).2.2.2 (se 3) go (rU (dj gS gP) se' n0 n1 go) := by
    show cConf gP n0 n1 (cSolU n0 n1 gS gP C sta spa pl).2.2.2 (se 3) go (cSolU n0 n1 gS gP C sta spa pl).1 = _
    rw [u1]
  refine ⟨T.a, T.c, u1, fun h j hj => (u2 (by rw [h]; decide) j hj).1, ?_⟩
  rw [eC, eX]
  exact cf
/-! WHAT THE CLASS'S CONTRACTS ASK -/
theorem fT_cT {n0 n1 : Nat} {gS gP se : Nat → Int32} {T : cTS} {U : cUS} {X : cCS} (h : fTie n0 n1 gS gP se (-1) T U X) : cTie n0 n1 gS gP se T U X := by
  unfold fTie at h
  unfold cTie kT kU kP kC
  exact h
theorem hk_tie {n0 n1 : Nat} {gS gP se : Nat → Int32} (w : wOk n0 n1 gS gP se) {vo : Nat → Int32} (c : vo = (mVotes (dj gS gP) se n0 n1 (-1)).1) (tp : Nat → Int32) (sta spa : Nat → Int64) (pl : Nat → Int32) : cTie n0 n1 gS gP se (cTake vo (se 2) n0 n1 tp) (cSolU n0 n1 gS gP (cTake vo (se 2) n0 n1 tp) sta spa pl) (cSolC n0 n1 gP se (-1) (cSolU n0 n1 gS gP (cTake vo (se 2) n0 n1 tp) sta spa pl)) :=
  fT_cT (fix_eq (se' := se) (go := -1) w rfl rfl (fun j _ => congrFun c j) tp sta spa pl)
theorem hk_of {n0 n1 : Nat} {gS gP se : Nat → Int32} (w : wOk n0 n1 gS gP se) : cHK n0 n1 gS gP se :=
  ⟨(votes_plain w).1, (votes_plain w).2.1, fun j _ => congrFun (votes_plain w).2.2 j, fun tp sta spa pl => hk_tie w (votes_plain w).2.2 tp sta spa pl⟩
theorem hb_of {n0 n1 : Nat} {gS gP se : Nat → Int32} (w : wOk n0 n1 gS gP se) : cHB n0 n1 gS gP se := by
  intro k hk tp sta spa pl
  have h := fix_eq (se' := upd se 1 (nI (50 * k))) (go := -1) w (pk_un (by decide)) (pk_un (by decide)) (vo := sumT (sumN (cWs n0 n1 gS gP se).2 k) k k) (fun j hj => by rw [sum_row _ _ _ hj]; exact votes_step w hk j) tp sta spa pl
  exact h.2.2.2.2.2
theorem hs_of {n0 n1 : Nat} {gS gP se : Nat → Int32} (w : wOk n0 n1 gS gP se) : cHS n0 n1 gS gP se := by
  intro k hk tp sta spa pl
  have h := fix_eq (se' := se) (go := nI k) w rfl rfl (vo := (cWr n0 n1 gS gP se).2 k) (fun j _ => by rw [votes_spare w hk]) tp sta spa pl
  exact h.2.2.2.2.2
theorem mCn_cnt (di pl : Nat → Int32) (ne tu go : Int32) (n n1 : Nat) : ∀ m, m ≤ 8 → ∃ k, k ≤ m ∧ (mCn di pl ne tu go n n1 (kI 0, kI (-1), kI (-1), 0) m).2.2.2 = nI k
  | 0, _ => ⟨0, Nat.le_refl 0, rfl⟩
  | m + 1, h => by
    obtain ⟨k, hk, e⟩ := mCn_cnt di pl ne tu go n n1 m (by omega)
    show ∃ k, k ≤ m + 1 ∧ (mCs di pl ne tu go n n1 m (mCn di pl ne tu go n n1 (kI 0, kI (-1), kI (-1), 0) m)).2.2.2 = nI k
    generalize mCn di pl ne tu go n n1 (kI 0, kI (-1), kI (-1), 0) m = X at e ⊢
    unfold mCs
    split
    · exact ⟨k, by omega, e⟩
    · exact ⟨k + 1, by omega, by show X.2.2.2 + 1 = _; rw [e]; exact nI_1 k⟩
theorem rC_cnt (di se : Nat → Int32) (n n1 : Nat) (go : Int32) : ∃ k, k ≤ 8 ∧ (rC di se n n1 go).2.2.2 = nI k := by
  unfold rC mConf
  exact mCn_cnt di (rP di se n n1 go) (se 3) (rU di se n n1 go) go n n1 8 (Nat.le_refl _)
theorem hb0_of (n0 n1 : Nat) (gS gP se : Nat → Int32) : ¬ kBet n0 n1 gS gP se 0 ≤ -1 := by
  obtain ⟨k, hk, e⟩ := rC_cnt (dj gS gP) (upd se 1 (nI (50 * 0))) n0 n1 (-1)
  show ¬ (rC (dj gS gP) (upd se 1 (nI (50 * 0))) n0 n1 (-1)).2.2.2 ≤ -1
  rw [e, i32_le, nI_toInt (by omega)]
  have o : (-1 : Int32).toInt = -1 := rfl
  omega
