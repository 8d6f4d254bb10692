theorem vuu (g : Nat → Int64) (k : Nat) (a b : Int64) : vp_updL (vp_updL g k a) k b = vp_updL g k b := by
  funext j; unfold vp_updL; by_cases h : j = k
  · rw [if_pos h, if_pos h]
  · rw [if_neg h, if_neg h, if_neg h]
theorem uuI (g : Nat → Int32) (k : Nat) (a b : Int32) : upd (upd g k a) k b = upd g k b := by
  funext j
  by_cases h : j = k
  · subst h; rw [pk_us, pk_us]
  · rw [pk_un h, pk_un h, pk_un h]
def selfF (g a : Nat → Int64) : Nat → Int64 := vp_updL (vp_updL (vp_updL g 0 (0 + a 0 * a 0 + a 1 * a 1 + a 2 * a 2)) 1 (0 + a 3 * a 3 + a 4 * a 4 + a 5 * a 5)) 2 (0 + a 6 * a 6 + a 7 * a 7 + a 8 * a 8)
/-- x, y, z of a direction as longs -/
abbrev ofL (di : Nat → Int32) (k i : Int32) : Nat → Int64 := t3 (s_X12_of k i (0 : Int32) di).toInt64 (s_X12_of k i (1 : Int32) di).toInt64 (s_X12_of k i (2 : Int32) di).toInt64
abbrev mSPA (di ro : Nat → Int32) (spa : Nat → Int64) : Nat → Int64 := armF spa (ofL di (1 : Int32) (mSp ro (0 : Int32) 8)) (ofL di (1 : Int32) (mSp ro (1 : Int32) 8))
abbrev mSTA (di so ro : Nat → Int32) (sta : Nat → Int64) : Nat → Int64 := armF sta (ofL di (0 : Int32) (so (mSp ro (0 : Int32) 8).toNatClampNeg)) (ofL di (0 : Int32) (so (mSp ro (1 : Int32) 8).toNatClampNeg))
/-- the first t places laid anew -/
def plF (di : Nat → Int32) (sta spa sf : Nat → Int64) (pl : Nat → Int32) (t : Nat) : Nat → Int32 := fun j => if j < t then s_X12_coordinate (j / 3) (j % 3) di sta spa sf else pl j
theorem plF_0 (di : Nat → Int32) (sta spa sf : Nat → Int64) (pl : Nat → Int32) : plF di sta spa sf pl 0 = pl := by funext j; simp [plF]
theorem plF_s (di : Nat → Int32) (sta spa sf : Nat → Int64) (pl : Nat → Int32) {t : Nat} (h : t < 2 ^ 31) : upd (plF di sta spa sf pl t) (nI t).toNatClampNeg (s_X12_coordinate (t / 3) (t % 3) di sta spa sf) = plF di sta spa sf pl (t + 1) := by
  rw [nI_clamp h]
  funext j
  by_cases e : j = t
  · subst e; rw [pk_us]; simp [plF]
  · rw [pk_un e]; unfold plF
    by_cases h2 : j < t
    · rw [if_pos h2, if_pos (by omega)]
    · rw [if_neg h2, if_neg (by omega)]
abbrev mUS : Type := Int32 × (Nat → Int64) × (Nat → Int64) × (Nat → Int64) × (Nat → Int32)
def mTurn (di so ro : Nat → Int32) (n : Nat) (pa : Int32) (spa sta sf : Nat → Int64) (pl : Nat → Int32) : mUS :=
  if pa ≤ 1 then (0, spa, sta, sf, pl) else if s_X12_isNone (mSPA di ro spa) = 0 then (if s_X12_isNone (mSTA di so ro sta) = 0 then (1, mSPA di ro spa, mSTA di so ro sta, selfF sf (mSTA di so ro sta), plF di (mSTA di so ro sta) (mSPA di ro spa) (selfF sf (mSTA di so ro sta)) pl (3 * n)) else (0, mSPA di ro spa, mSTA di so ro sta, selfF sf (mSTA di so ro sta), pl)) else (0, mSPA di ro spa, mSTA di so ro sta, selfF sf (mSTA di so ro sta), pl)
theorem dv3 {c : Nat} (h : c < 36) : nI c / 3 = nI (c / 3) := by
  rw [show (3 : Int32) = nI 3 from rfl]; exact pk_div (by omega) (by omega) (by omega)
theorem rm3 {c : Nat} (h : c < 36) : nI c - nI c / 3 * 3 = nI (c % 3) := by
  rw [show (3 : Int32) = nI 3 from rfl]; exact pk_rem (by omega) (by omega) (by omega)
theorem dIn_8 {k i : Int32} (h : dIn k i) (hk : k.toInt = 1) : vp_in i 8 := by
  obtain ⟨_, h3, h4, h5⟩ := h
  exact vin h3 (by have := h5 hk; omega)
/-- the star that confirms spot p, of the first i, and how far it is -/
def mC1 (di pl us : Nat → Int32) (ne : Int32) (p : Nat) : Nat → Int32 × Int32
  | 0 => (-1, -1)
  | i + 1 => if us i = 0 then (if ne < s_X12_farOf p i di pl then mC1 di pl us ne p i else (if (mC1 di pl us ne p i).1 = -1 then (nI i, s_X12_farOf p i di pl) else (if (mC1 di pl us ne p i).2 ≤ s_X12_farOf p i di pl then mC1 di pl us ne p i else (nI i, s_X12_farOf p i di pl)))) else mC1 di pl us ne p i
theorem mC1_in (di pl us : Nat → Int32) (ne : Int32) (p : Nat) : ∀ k, (mC1 di pl us ne p k).1 = -1 ∨ ∃ b, b < k ∧ (mC1 di pl us ne p k).1 = nI b
  | 0 => Or.inl rfl
  | c + 1 => by
    have ih := mC1_in di pl us ne p c
    have keep : mC1 di pl us ne p (c + 1) = mC1 di pl us ne p c → ((mC1 di pl us ne p (c + 1)).1 = -1 ∨ ∃ b, b < c + 1 ∧ (mC1 di pl us ne p (c + 1)).1 = nI b) := by
      intro e
      rw [e]
      rcases ih with h | ⟨b, h1, h2⟩
      · exact Or.inl h
      · exact Or.inr ⟨b, by omega, h2⟩
    have new : mC1 di pl us ne p (c + 1) = (nI c, s_X12_farOf p c di pl) → ((mC1 di pl us ne p (c + 1)).1 = -1 ∨ ∃ b, b < c + 1 ∧ (mC1 di pl us ne p (c + 1)).1 = nI b) := by
      intro e
      rw [e]
      exact Or.inr ⟨c, by omega, rfl⟩
    by_cases h1 : us c = 0
    · by_cases h2 : ne < s_X12_farOf p c di pl
      · exact keep ((if_pos h1).trans (if_pos h2))
      · by_cases h3 : (mC1 di pl us ne p c).1 = -1
        · exact new ((if_pos h1).trans ((if_neg h2).trans (if_pos h3)))
        · by_cases h4 : (mC1 di pl us ne p c).2 ≤ s_X12_farOf p c di pl
          · exact keep ((if_pos h1).trans ((if_neg h2).trans ((if_neg h3).trans (if_pos h4))))
          · exact new ((if_pos h1).trans ((if_neg h2).trans ((if_neg h3).trans (if_neg h4))))
    · exact keep (if_neg h1)
theorem mC1_vin {di pl us : Nat → Int32} {ne : Int32} {p k : Nat} (hk : k ≤ 12) (h : ¬ (mC1 di pl us ne p k).1 = -1) : vp_in (mC1 di pl us ne p k).1 12 := by
  rcases mC1_in di pl us ne p k with e | ⟨b, h1, h2⟩
  · exact absurd e h
  · rw [h2]; exact vp_in_nI (by omega) (by omega)
def mCf (di pl us : Nat → Int32) (ne tu go : Int32) (n n1 p : Nat) : Int32 × Int32 := if tu = 0 then (-1, -1) else if nI n1 ≤ nI p then (-1, -1) else if nI p = go then (-1, -1) else mC1 di pl us ne p n
abbrev mCS : Type := (Nat → Int32) × (Nat → Int32) × (Nat → Int32) × Int32
def mCs (di pl : Nat → Int32) (ne tu go : Int32) (n n1 p : Nat) (X : mCS) : mCS := if (mCf di pl X.1 ne tu go n n1 p).1 = -1 then (X.1, upd X.2.1 p (mCf di pl X.1 ne tu go n n1 p).1, upd X.2.2.1 p (mCf di pl X.1 ne tu go n n1 p).2, X.2.2.2) else (upd X.1 (mCf di pl X.1 ne tu go n n1 p).1.toNatClampNeg (1 &&& 1), upd X.2.1 p (mCf di pl X.1 ne tu go n n1 p).1, upd X.2.2.1 p (mCf di pl X.1 ne tu go n n1 p).2, X.2.2.2 + 1)
def mCn (di pl : Nat → Int32) (ne tu go : Int32) (n n1 : Nat) (X : mCS) : Nat → mCS
  | 0 => X
  | p + 1 => mCs di pl ne tu go n n1 p (mCn di pl ne tu go n n1 X p)
def mConf (di pl : Nat → Int32) (ne tu go : Int32) (n n1 : Nat) : mCS := mCn di pl ne tu go n n1 (kI 0, kI (-1), kI (-1), 0) 8
theorem mCs_e {di pl : Nat → Int32} {ne tu go : Int32} {n n1 p : Nat} {X : mCS} {v w : Int32} (e : mCf di pl X.1 ne tu go n n1 p = (v, w)) (h : v = -1) : mCs di pl ne tu go n n1 p X = (X.1, upd X.2.1 p v, upd X.2.2.1 p w, X.2.2.2) := by
  unfold mCs; rw [e]; exact if_pos h
theorem mCs_n {di pl : Nat → Int32} {ne tu go : Int32} {n n1 p : Nat} {X : mCS} {v w : Int32} (e : mCf di pl X.1 ne tu go n n1 p = (v, w)) (h : ¬ v = -1) : mCs di pl ne tu go n n1 p X = (upd X.1 v.toNatClampNeg (1 &&& 1), upd X.2.1 p v, upd X.2.2.1 p w, X.2.2.2 + 1) := by
  unfold mCs; rw [e]; exact if_neg h
theorem mCs_x {di pl : Nat → Int32} {ne tu go : Int32} {n n1 p : Nat} {X Y : mCS} (h1 : X.1 = Y.1) (h2 : X.2.2.2 = Y.2.2.2) (h3 : ∀ j, j < p → X.2.1 j = Y.2.1 j ∧ X.2.2.1 j = Y.2.2.1 j) : (mCs di pl ne tu go n n1 p X).1 = (mCs di pl ne tu go n n1 p Y).1 ∧ (mCs di pl ne tu go n n1 p X).2.2.2 = (mCs di pl ne tu go n n1 p Y).2.2.2 ∧ ∀ j, j < p + 1 → (mCs di pl ne tu go n n1 p X).2.1 j = (mCs di pl ne tu go n n1 p Y).2.1 j ∧ (mCs di pl ne tu go n n1 p X).2.2.1 j = (mCs di pl ne tu go n n1 p Y).2.2.1 j := by
  have key : ∀ (a b : Int32) (j : Nat), j < p + 1 → upd X.2.1 p a j = upd Y.2.1 p a j ∧ upd X.2.2.1 p b j = upd Y.2.2.1 p b j := by
    intro a b j hj
    by_cases e : j = p
    · subst e; rw [pk_us, pk_us, pk_us, pk_us]; exact ⟨rfl, rfl⟩
    · rw [pk_un e, pk_un e, pk_un e, pk_un e]; exact h3 j (by omega)
  obtain ⟨v, w, e⟩ : ∃ v w, mCf di pl X.1 ne tu go n n1 p = (v, w) := ⟨_, _, rfl⟩
  have e' : mCf di pl Y.1 ne tu go n n1 p = (v, w) := by rw [← h1]; exact e
  by_cases h : v = -1
  · rw [mCs_e e h, mCs_e e' h]
    exact ⟨h1, h2, fun j hj => key v w j hj⟩
  · rw [mCs_n e h, mCs_n e' h]
    exact ⟨by show upd X.1 _ _ = upd Y.1 _ _; rw [h1], by show X.2.2.2 + 1 = Y.2.2.2 + 1; rw [h2], fun j hj => key v w j hj⟩
theorem mCn_x {di pl : Nat → Int32} {ne tu go : Int32} {n n1 : Nat} {X Y : mCS} (h1 : X.1 = Y.1) (h2 : X.2.2.2 = Y.2.2.2) : ∀ k, (mCn di pl ne tu go n n1 X k).1 = (mCn di pl ne tu go n n1 Y k).1 ∧ (mCn di pl ne tu go n n1 X k).2.2.2 = (mCn di pl ne tu go n n1 Y k).2.2.2 ∧ ∀ j, j < k → (mCn di pl ne tu go n n1 X k).2.1 j = (mCn di pl ne tu go n n1 Y k).2.1 j ∧ (mCn di pl ne tu go n n1 X k).2.2.1 j = (mCn di pl ne tu go n n1 Y k).2.2.1 j
  | 0 => ⟨h1, h2, fun j hj => by omega⟩
  | k + 1 => by
    obtain ⟨a, b, c⟩ := mCn_x (di := di) (pl := pl) (ne := ne) (tu := tu) (go := go) (n := n) (n1 := n1) h1 h2 k
    exact mCs_x a b c

set_option maxHeartbeats 1000000 in
set_option maxRecDepth 100000 in
theorem c_X12_turning {l : Launch} {D : va_G} {ca ss ad : Nat → Nat} {f : Nat → va_E}   (la : Int32) (dr : Int32) (go : Int32) (lo : Int32) (ma : Int32) (pa : Int32) (tu : Int32) (su : Int32) (di : Nat → Int32) (mn : Nat → Int32) (so : Nat → Int32) (ro : Nat → Int32) (sta : Nat → Int64) (spa : Nat → Int64) (sf : Nat → Int64) (pl : Nat → Int32) (n0 : Nat) (hc0 : f 87 = .inr (11, mF ad la dr go lo ma pa tu su)) (hc1 : f 92 = .inl (ca 0, 60, .inl di)) (hc2 : f 93 = .inl (ca 0, 2, .inl mn)) (hc3 : f 96 = .inl (ca 0, 8, .inl so)) (hc4 : f 97 = .inl (ca 0, 8, .inl ro)) (hc5 : f 99 = .inl (ca 1, 9, .inr (.inl sta))) (hc6 : f 100 = .inl (ca 1, 9, .inr (.inl spa))) (hc7 : f 101 = .inl (ca 1, 3, .inr (.inl sf))) (hc8 : f 102 = .inl (ca 0, 36, .inl pl)) (h0 : mn 0 = nI n0) (hn : n0 ≤ 12) (hT : ¬ pa ≤ 1 → dIn (1 : Int32) (mSp ro (0 : Int32) 8) ∧ dIn (1 : Int32) (mSp ro (1 : Int32) 8) ∧ dIn (0 : Int32) (so (mSp ro (0 : Int32) 8).toNatClampNeg) ∧ dIn (0 : Int32) (so (mSp ro (1 : Int32) 8).toNatClampNeg)) (hZ : ¬ pa ≤ 1 → s_X12_isNone (mSTA di so ro sta) = 0 → ¬ 2 * (selfF sf (mSTA di so ro sta)) 2 = 0) : gMv l D ca ss ad 108 yX12_turning cX12_turning 5 none 2 f [.ref (ad 87)] (fun u => u = va_up (va_up (va_up (va_up (va_up f 87 (.inr (11, mF ad la dr go lo ma pa ((mTurn di so ro n0 pa spa sta sf pl).1) su))) 100 (.inl (ca 1, 9, .inr (.inl ((mTurn di so ro n0 pa spa sta sf pl).2.1))))) 99 (.inl (ca 1, 9, .inr (.inl ((mTurn di so ro n0 pa spa sta sf pl).2.2.1))))) 101 (.inl (ca 1, 3, .inr (.inl ((mTurn di so ro n0 pa spa sta sf pl).2.2.2.1))))) 102 (.inl (ca 0, 36, .inl ((mTurn di so ro n0 pa spa sta sf pl).2.2.2.2)))) := by
  refine gMv_ofK (by decide +kernel) (Nat.le_of_ble_eq_true rfl) (lv0 := [(0, .ref (ad 87))]) rfl (fun pT eT sT mT aT below meth cT AT QT C RT => ?_)
  have C : gX pT sT mT aT meth cT AT D ca ss 5 RX12 cX12_turning none := C
  refine gj_setf (up_id hc0).symm ?_
  refine gj_setf (up_id (up_nx (by decide) (hc6))).symm ?_
  refine gj_setf (up_id (up_nx (by decide) (up_nx (by decide) (hc5)))).symm ?_
  refine gj_setf (up_id (up_nx (by decide) (up_nx (by decide) (up_nx (by decide) (hc7))))).symm ?_
  refine gj_setf (up_id (up_nx (by decide) (up_nx (by decide) (up_nx (by decide) (up_nx (by decide) (hc8)))))).symm ?_
  refine gj_aload_n C 0 dX12_turning_0 rfl 0 rfl ?_
  refine gj_aload_n C 0 dX12_turning_1 rfl 0 rfl ?_
  refine gj_get C 87 (by decide) (up_nx (by decide) (up_nx (by decide) (up_nx (by decide) (up_nx (by decide) (va_up_self _ _ _))))) inX12 rfl 16 (by decide) w_865 (v := .int pa) rfl dX12_turning_2 ?_
  refine gj_iconst C (v := 1) (by decide) dX12_turning_5 ?_
  refine gj_icmp_le C 13 dX12_turning_6 (by decide) (fun c_1 => ?_) (fun c_1 => ?_)
  · refine gj_iconst C (v := 0) (by decide) dX12_turning_13 ?_
    refine gj_putS C 87 (by decide) (up_nx (by decide) (up_nx (by decide) (up_nx (by decide) (up_nx (by decide) (va_up_self _ _ _))))) inX12 rfl 17 (by decide) tyX12 tyX12_ok nmX12 w_866 rfl (v := .int 0) (fs' := [.ref (ad 88), .ref (ad 89), .ref (ad 90), .ref (ad 91), .int la, .ref (ad 92), .ref (ad 93), .ref (ad 94), .int dr, .int go, .int lo, .int ma, .ref (ad 95), .ref (ad 96), .ref (ad 97), .ref (ad 98), .int pa, .int 0, .ref (ad 99), .ref (ad 100), .ref (ad 101), .ref (ad 102), .ref (ad 103), .ref (ad 104), .int su, .ref (ad 105), .ref (ad 106), .ref (ad 107)]) rfl rfl (Nat.le_of_ble_eq_true rfl) rfl dX12_turning_14 ?_
    refine gj_setf ((up_comm (by decide)).trans (up_un ((up_comm (by decide)).trans (up_un ((up_comm (by decide)).trans (up_un ((up_comm (by decide)).trans (up_un (bx_uu _ _ _ _))))))))) ?_
    refine gj_aload_n C 0 dX12_turning_17 rfl 0 rfl ?_
    refine gj_get C 87 (by decide) (up_nx (by decide) (up_nx (by decide) (up_nx (by decide) (up_nx (by decide) (va_up_self _ _ _))))) inX12 rfl 17 (by decide) w_866 (v := .int 0) rfl dX12_turning_18 ?_
    refine gj_if_ne C 25 dX12_turning_21 (by decide) (fun c_2 => absurd (by decide) c_2) (fun c_2 => ?_)
    exact RT _ _ _ (by rw [show (mTurn di so ro n0 pa spa sta sf pl) = (0, spa, sta, sf, pl) from (if_pos c_1).trans (rfl)]) dX12_turning_24
  · refine gj_iconst C (v := 1) (by decide) dX12_turning_9 ?_
    refine gj_goto C 14 dX12_turning_10 (by decide) ?_
    refine gj_putS C 87 (by decide) (up_nx (by decide) (up_nx (by decide) (up_nx (by decide) (up_nx (by decide) (va_up_self _ _ _))))) inX12 rfl 17 (by decide) tyX12 tyX12_ok nmX12 w_866 rfl (v := .int 1) (fs' := [.ref (ad 88), .ref (ad 89), .ref (ad 90), .ref (ad 91), .int la, .ref (ad 92), .ref (ad 93), .ref (ad 94), .int dr, .int go, .int lo, .int ma, .ref (ad 95), .ref (ad 96), .ref (ad 97), .ref (ad 98), .int pa, .int 1, .ref (ad 99), .ref (ad 100), .ref (ad 101), .ref (ad 102), .ref (ad 103), .ref (ad 104), .int su, .ref (ad 105), .ref (ad 106), .ref (ad 107)]) rfl rfl (Nat.le_of_ble_eq_true rfl) rfl dX12_turning_14 ?_
    refine gj_setf ((up_comm (by decide)).trans (up_un ((up_comm (by decide)).trans (up_un ((up_comm (by decide)).trans (up_un ((up_comm (by decide)).trans (up_un (bx_uu _ _ _ _))))))))) ?_
    refine gj_aload_n C 0 dX12_turning_17 rfl 0 rfl ?_
    refine gj_get C 87 (by decide) (up_nx (by decide) (up_nx (by decide) (up_nx (by decide) (up_nx (by decide) (va_up_self _ _ _))))) inX12 rfl 17 (by decide) w_866 (v := .int 1) rfl dX12_turning_18 ?_
    refine gj_if_ne C 25 dX12_turning_21 (by decide) (fun c_3 => ?_) (fun c_3 => absurd c_3 (by decide))
    refine gj_aload_n C 0 dX12_turning_25 rfl 0 rfl ?_
    refine gj_iconst C (v := 0) (by decide) dX12_turning_26 ?_
    refine gj_callVi C mi_X12_spotOf w_1104 87 (by decide) (up_nx (by decide) (up_nx (by decide) (up_nx (by decide) (up_nx (by decide) (va_up_self _ _ _))))) rfl (c_X12_spotOf (0 : Int32) la dr go lo ma pa (1 : Int32) su ro (up_nx (by decide) (up_nx (by decide) (up_nx (by decide) (up_nx (by decide) (va_up_self _ _ _))))) (up_nx (by decide) (up_nx (by decide) (up_nx (by decide) (up_nx (by decide) (up_nx (by decide) (hc4))))))) mc_X12_spotOf ⟨Nat.le_of_ble_eq_true rfl, Nat.le_of_ble_eq_true rfl⟩ (rest := []) rfl (Nat.le_of_ble_eq_true rfl) dX12_turning_27 (fun r u h => ?_)
    obtain ⟨rfl, rfl⟩ := h
    refine gj_istore_n C (lv' := [(1, .int (mSp ro (0 : Int32) 8)), (0, .ref (ad 87))]) 1 dX12_turning_30 rfl (by decide) rfl ?_
    refine gj_aload_n C 0 dX12_turning_31 rfl 1 rfl ?_
    refine gj_iconst C (v := 1) (by decide) dX12_turning_32 ?_
    refine gj_callVi C mi_X12_spotOf w_1104 87 (by decide) (up_nx (by decide) (up_nx (by decide) (up_nx (by decide) (up_nx (by decide) (va_up_self _ _ _))))) rfl (c_X12_spotOf (1 : Int32) la dr go lo ma pa (1 : Int32) su ro (up_nx (by decide) (up_nx (by decide) (up_nx (by decide) (up_nx (by decide) (va_up_self _ _ _))))) (up_nx (by decide) (up_nx (by decide) (up_nx (by decide) (up_nx (by decide) (up_nx (by decide) (hc4))))))) mc_X12_spotOf ⟨Nat.le_of_ble_eq_true rfl, Nat.le_of_ble_eq_true rfl⟩ (rest := []) rfl (Nat.le_of_ble_eq_true rfl) dX12_turning_33 (fun r u h => ?_)
    obtain ⟨rfl, rfl⟩ := h
    refine gj_istore_n C (lv' := [(2, .int (mSp ro (1 : Int32) 8)), (1, .int (mSp ro (0 : Int32) 8)), (0, .ref (ad 87))]) 2 dX12_turning_36 rfl (by decide) rfl ?_
    refine gj_aload_n C 0 dX12_turning_37 rfl 2 rfl ?_
    refine gj_aload_n C 0 dX12_turning_38 rfl 2 rfl ?_
    refine gj_get C 87 (by decide) (up_nx (by decide) (up_nx (by decide) (up_nx (by decide) (up_nx (by decide) (va_up_self _ _ _))))) inX12 rfl 19 (by decide) w_868 (v := .ref (ad 100)) rfl dX12_turning_39 ?_
    refine gj_iconst C (v := 1) (by decide) dX12_turning_42 ?_
    refine gj_iload_n C 1 dX12_turning_43 rfl 1 rfl ?_
    refine gj_iload_n C 2 dX12_turning_44 rfl 0 rfl ?_
    refine gj_callVv C mi_X12_arms w_1108 87 (by decide) (up_nx (by decide) (up_nx (by decide) (up_nx (by decide) (up_nx (by decide) (va_up_self _ _ _))))) rfl (c_X12_arms 100 (1 : Int32) (mSp ro (0 : Int32) 8) (mSp ro (1 : Int32) 8) la dr go lo ma pa 1 su di spa (up_nx (by decide) (up_nx (by decide) (up_nx (by decide) (up_nx (by decide) (va_up_self _ _ _))))) (up_nx (by decide) (up_nx (by decide) (up_nx (by decide) (up_nx (by decide) (up_nx (by decide) (hc1)))))) (up_nx (by decide) (up_nx (by decide) (up_nx (by decide) (va_up_self _ _ _)))) (by decide) (by decide) (by decide) (hT c_1).1 (hT c_1).2.1) mc_X12_arms ⟨Nat.le_of_ble_eq_true rfl, Nat.le_of_ble_eq_true rfl⟩ (rest := []) rfl (Nat.le_of_ble_eq_true rfl) dX12_turning_45 (fun u h => ?_)
    subst h
    refine gj_setf ((up_comm (by decide)).trans (up_un ((up_comm (by decide)).trans (up_un ((up_comm (by decide)).trans (up_un (bx_uu _ _ _ _))))))) ?_
    refine gj_setf (g := va_up (va_up (va_up (va_up (va_up f 87 (.inr (11, [.ref (ad 88), .ref (ad 89), .ref (ad 90), .ref (ad 91), .int la, .ref (ad 92), .ref (ad 93), .ref (ad 94), .int dr, .int go, .int lo, .int ma, .ref (ad 95), .ref (ad 96), .ref (ad 97), .ref (ad 98), .int pa, .int 1, .ref (ad 99), .ref (ad 100), .ref (ad 101), .ref (ad 102), .ref (ad 103), .ref (ad 104), .int su, .ref (ad 105), .ref (ad 106), .ref (ad 107)]))) 100 (.inl (ca 1, 9, .inr (.inl (mSPA di ro spa))))) 99 (.inl (ca 1, 9, .inr (.inl sta)))) 101 (.inl (ca 1, 3, .inr (.inl sf)))) 102 (.inl (ca 0, 36, .inl pl))) rfl ?_
    refine gj_aload_n C 0 dX12_turning_48 rfl 2 rfl ?_
    refine gj_aload_n C 0 dX12_turning_49 rfl 2 rfl ?_
    refine gj_get C 87 (by decide) (up_nx (by decide) (up_nx (by decide) (up_nx (by decide) (up_nx (by decide) (va_up_self _ _ _))))) inX12 rfl 18 (by decide) w_867 (v := .ref (ad 99)) rfl dX12_turning_50 ?_
    refine gj_iconst C (v := 0) (by decide) dX12_turning_53 ?_
    refine gj_aload_n C 0 dX12_turning_54 rfl 2 rfl ?_
    refine gj_get C 87 (by decide) (up_nx (by decide) (up_nx (by decide) (up_nx (by decide) (up_nx (by decide) (va_up_self _ _ _))))) inX12 rfl 13 (by decide) w_862 (v := .ref (ad 96)) rfl dX12_turning_55 ?_
    refine gj_iload_n C 1 dX12_turning_58 rfl 1 rfl ?_
    refine gj_iald C 96 (by decide) (up_nx (by decide) (up_nx (by decide) (up_nx (by decide) (up_nx (by decide) (up_nx (by decide) (hc3)))))) (dIn_8 (hT c_1).1 rfl) dX12_turning_59 ?_
    refine gj_aload_n C 0 dX12_turning_60 rfl 2 rfl ?_
    refine gj_get C 87 (by decide) (up_nx (by decide) (up_nx (by decide) (up_nx (by decide) (up_nx (by decide) (va_up_self _ _ _))))) inX12 rfl 13 (by decide) w_862 (v := .ref (ad 96)) rfl dX12_turning_61 ?_
    refine gj_iload_n C 2 dX12_turning_64 rfl 0 rfl ?_
    refine gj_iald C 96 (by decide) (up_nx (by decide) (up_nx (by decide) (up_nx (by decide) (up_nx (by decide) (up_nx (by decide) (hc3)))))) (dIn_8 (hT c_1).2.1 rfl) dX12_turning_65 ?_
    refine gj_callVv C mi_X12_arms w_1108 87 (by decide) (up_nx (by decide) (up_nx (by decide) (up_nx (by decide) (up_nx (by decide) (va_up_self _ _ _))))) rfl (c_X12_arms 99 (0 : Int32) (so (mSp ro (0 : Int32) 8).toNatClampNeg) (so (mSp ro (1 : Int32) 8).toNatClampNeg) la dr go lo ma pa 1 su di sta (up_nx (by decide) (up_nx (by decide) (up_nx (by decide) (up_nx (by decide) (va_up_self _ _ _))))) (up_nx (by decide) (up_nx (by decide) (up_nx (by decide) (up_nx (by decide) (up_nx (by decide) (hc1)))))) (up_nx (by decide) (up_nx (by decide) (va_up_self _ _ _))) (by decide) (by decide) (by decide) (hT c_1).2.2.1 (hT c_1).2.2.2) mc_X12_arms ⟨Nat.le_of_ble_eq_true rfl, Nat.le_of_ble_eq_true rfl⟩ (rest := []) rfl (Nat.le_of_ble_eq_true rfl) dX12_turning_66 (fun u h => ?_)
    subst h
    refine gj_setf ((up_comm (by decide)).trans (up_un ((up_comm (by decide)).trans (up_un (bx_uu _ _ _ _))))) ?_
    refine gj_setf (g := va_up (va_up (va_up (va_up (va_up f 87 (.inr (11, [.ref (ad 88), .ref (ad 89), .ref (ad 90), .ref (ad 91), .int la, .ref (ad 92), .ref (ad 93), .ref (ad 94), .int dr, .int go, .int lo, .int ma, .ref (ad 95), .ref (ad 96), .ref (ad 97), .ref (ad 98), .int pa, .int 1, .ref (ad 99), .ref (ad 100), .ref (ad 101), .ref (ad 102), .ref (ad 103), .ref (ad 104), .int su, .ref (ad 105), .ref (ad 106), .ref (ad 107)]))) 100 (.inl (ca 1, 9, .inr (.inl (mSPA di ro spa))))) 99 (.inl (ca 1, 9, .inr (.inl (mSTA di so ro sta))))) 101 (.inl (ca 1, 3, .inr (.inl sf)))) 102 (.inl (ca 0, 36, .inl pl))) rfl ?_
    refine gj_aload_n C 0 dX12_turning_69 rfl 2 rfl ?_
    refine gj_aload_n C 0 dX12_turning_70 rfl 2 rfl ?_
    refine gj_get C 87 (by decide) (up_nx (by decide) (up_nx (by decide) (up_nx (by decide) (up_nx (by decide) (va_up_self _ _ _))))) inX12 rfl 19 (by decide) w_868 (v := .ref (ad 100)) rfl dX12_turning_71 ?_
    refine gj_callSi C w_1116 w_1115 (c_X12_isNone 100 (mSPA di ro spa) (up_nx (by decide) (up_nx (by decide) (up_nx (by decide) (va_up_self _ _ _)))) (by decide)) mc_X12_isNone ⟨Nat.le_of_ble_eq_true rfl, Nat.le_of_ble_eq_true rfl⟩ (rest := [.ref (ad 87)]) rfl (Nat.le_of_ble_eq_true rfl) dX12_turning_74 (fun r u h => ?_)
    obtain ⟨rfl, rfl⟩ := h
    refine gj_if_ne C 94 dX12_turning_77 (by decide) (fun c_4 => ?_) (fun c_4 => ?_)
    · refine gj_iconst C (v := 0) (by decide) dX12_turning_94 ?_
      refine gj_putS C 87 (by decide) (up_nx (by decide) (up_nx (by decide) (up_nx (by decide) (up_nx (by decide) (va_up_self _ _ _))))) inX12 rfl 17 (by decide) tyX12 tyX12_ok nmX12 w_866 rfl (v := .int 0) (fs' := [.ref (ad 88), .ref (ad 89), .ref (ad 90), .ref (ad 91), .int la, .ref (ad 92), .ref (ad 93), .ref (ad 94), .int dr, .int go, .int lo, .int ma, .ref (ad 95), .ref (ad 96), .ref (ad 97), .ref (ad 98), .int pa, .int 0, .ref (ad 99), .ref (ad 100), .ref (ad 101), .ref (ad 102), .ref (ad 103), .ref (ad 104), .int su, .ref (ad 105), .ref (ad 106), .ref (ad 107)]) rfl rfl (Nat.le_of_ble_eq_true rfl) rfl dX12_turning_95 ?_
      refine gj_setf ((up_comm (by decide)).trans (up_un ((up_comm (by decide)).trans (up_un ((up_comm (by decide)).trans (up_un ((up_comm (by decide)).trans (up_un (bx_uu _ _ _ _))))))))) ?_
      refine gj_iconst C (v := 0) (by decide) dX12_turning_98 ?_
      refine gj_istore_n C (lv' := [(3, .int 0), (2, .int (mSp ro (1 : Int32) 8)), (1, .int (mSp ro (0 : Int32) 8)), (0, .ref (ad 87))]) 3 dX12_turning_99 rfl (by decide) rfl ?_
      refine gj_iload_n C 3 dX12_turning_100 rfl 0 rfl ?_
      refine gj_iconst C (v := 3) (by decide) dX12_turning_101 ?_
      refine gj_icmp_ge C 165 dX12_turning_102 (by decide) (fun c_5 => absurd c_5 (by decide)) (fun c_5 => ?_)
      refine gj_aload_n C 0 dX12_turning_105 rfl 3 rfl ?_
      refine gj_get C 87 (by decide) (up_nx (by decide) (up_nx (by decide) (up_nx (by decide) (up_nx (by decide) (va_up_self _ _ _))))) inX12 rfl 20 (by decide) w_869 (v := .ref (ad 101)) rfl dX12_turning_106 ?_
      refine gj_iload_n C 3 dX12_turning_109 rfl 0 rfl ?_
      refine gj_lconst C (v := 0) rfl dX12_turning_110 ?_
      refine gj_last C 101 (by decide) (up_nx (by decide) (va_up_self _ _ _)) (by unfold vp_in; decide) dX12_turning_111 ?_
      refine gj_setf ((up_comm (by decide)).trans (up_un (bx_uu _ _ _ _))) ?_
      refine gj_setf (g := va_up (va_up (va_up (va_up (va_up f 87 (.inr (11, [.ref (ad 88), .ref (ad 89), .ref (ad 90), .ref (ad 91), .int la, .ref (ad 92), .ref (ad 93), .ref (ad 94), .int dr, .int go, .int lo, .int ma, .ref (ad 95), .ref (ad 96), .ref (ad 97), .ref (ad 98), .int pa, .int 0, .ref (ad 99), .ref (ad 100), .ref (ad 101), .ref (ad 102), .ref (ad 103), .ref (ad 104), .int su, .ref (ad 105), .ref (ad 106), .ref (ad 107)]))) 100 (.inl (ca 1, 9, .inr (.inl (mSPA di ro spa))))) 99 (.inl (ca 1, 9, .inr (.inl (mSTA di so ro sta))))) 101 (.inl (ca 1, 3, .inr (.inl (vp_updL sf 0 0))))) 102 (.inl (ca 0, 36, .inl pl))) rfl ?_
      refine gj_iconst C (v := 0) (by decide) dX12_turning_112 ?_
      refine gj_istore C (lv' := [(4, .int 0), (3, .int 0), (2, .int (mSp ro (1 : Int32) 8)), (1, .int (mSp ro (0 : Int32) 8)), (0, .ref (ad 87))]) dX12_turning_113 (by decide) rfl ?_
      refine gj_iload C dX12_turning_115 0 rfl ?_
      refine gj_iconst C (v := 3) (by decide) dX12_turning_117 ?_
      refine gj_icmp_ge C 159 dX12_turning_118 (by decide) (fun c_6 => absurd c_6 (by decide)) (fun c_6 => ?_)
      refine gj_aload_n C 0 dX12_turning_121 rfl 4 rfl ?_
      refine gj_get C 87 (by decide) (up_nx (by decide) (up_nx (by decide) (up_nx (by decide) (up_nx (by decide) (va_up_self _ _ _))))) inX12 rfl 20 (by decide) w_869 (v := .ref (ad 101)) rfl dX12_turning_122 ?_
      refine gj_iload_n C 3 dX12_turning_125 rfl 1 rfl ?_
      refine gj_dup2_11 C rfl rfl dX12_turning_126 ?_
      refine gj_lald C 101 (by decide) (up_nx (by decide) (va_up_self _ _ _)) (by unfold vp_in; decide) dX12_turning_127 ?_
      refine gj_setl (y := 0) rfl ?_
      refine gj_aload_n C 0 dX12_turning_128 rfl 4 rfl ?_
      refine gj_get C 87 (by decide) (up_nx (by decide) (up_nx (by decide) (up_nx (by decide) (up_nx (by decide) (va_up_self _ _ _))))) inX12 rfl 18 (by decide) w_867 (v := .ref (ad 99)) rfl dX12_turning_129 ?_
      refine gj_iconst C (v := 3) (by decide) dX12_turning_132 ?_
      refine gj_iload_n C 3 dX12_turning_133 rfl 1 rfl ?_
      refine gj_imul C dX12_turning_134 ?_
      refine gj_seti (y := 0) (by decide) ?_
      refine gj_iload C dX12_turning_135 0 rfl ?_
      refine gj_iadd C dX12_turning_137 ?_
      refine gj_seti (y := 0) (by decide) ?_
      refine gj_lald C 99 (by decide) (up_nx (by decide) (up_nx (by decide) (va_up_self _ _ _))) (by unfold vp_in; decide) dX12_turning_138 ?_
      refine gj_setl (y := (mSTA di so ro sta) 0) rfl ?_
      refine gj_aload_n C 0 dX12_turning_139 rfl 4 rfl ?_
      refine gj_get C 87 (by decide) (up_nx (by decide) (up_nx (by decide) (up_nx (by decide) (up_nx (by decide) (va_up_self _ _ _))))) inX12 rfl 18 (by decide) w_867 (v := .ref (ad 99)) rfl dX12_turning_140 ?_
      refine gj_iconst C (v := 3) (by decide) dX12_turning_143 ?_
      refine gj_iload_n C 3 dX12_turning_144 rfl 1 rfl ?_
      refine gj_imul C dX12_turning_145 ?_
      refine gj_seti (y := 0) (by decide) ?_
      refine gj_iload C dX12_turning_146 0 rfl ?_
      refine gj_iadd C dX12_turning_148 ?_
      refine gj_seti (y := 0) (by decide) ?_
      refine gj_lald C 99 (by decide) (up_nx (by decide) (up_nx (by decide) (va_up_self _ _ _))) (by unfold vp_in; decide) dX12_turning_149 ?_
      refine gj_setl (y := (mSTA di so ro sta) 0) rfl ?_
      refine gj_lmul C dX12_turning_150 ?_
      refine gj_ladd C dX12_turning_151 ?_
      refine gj_last C 101 (by decide) (up_nx (by decide) (va_up_self _ _ _)) (by unfold vp_in; decide) dX12_turning_152 ?_
      refine gj_setf ((up_comm (by decide)).trans (up_un (bx_uu _ _ _ _))) ?_
      refine gj_setf (g := va_up (va_up (va_up (va_up (va_up f 87 (.inr (11, [.ref (ad 88), .ref (ad 89), .ref (ad 90), .ref (ad 91), .int la, .ref (ad 92), .ref (ad 93), .ref (ad 94), .int dr, .int go, .int lo, .int ma, .ref (ad 95), .ref (ad 96), .ref (ad 97), .ref (ad 98), .int pa, .int 0, .ref (ad 99), .ref (ad 100), .ref (ad 101), .ref (ad 102), .ref (ad 103), .ref (ad 104), .int su, .ref (ad 105), .ref (ad 106), .ref (ad 107)]))) 100 (.inl (ca 1, 9, .inr (.inl (mSPA di ro spa))))) 99 (.inl (ca 1, 9, .inr (.inl (mSTA di so ro sta))))) 101 (.inl (ca 1, 3, .inr (.inl (vp_updL (vp_updL sf 0 0) 0 (0 + (((mSTA di so ro sta) 0) * ((mSTA di so ro sta) 0)))))))) 102 (.inl (ca 0, 36, .inl pl))) rfl ?_
      refine gj_setf (g := va_up (va_up (va_up (va_up (va_up f 87 (.inr (11, [.ref (ad 88), .ref (ad 89), .ref (ad 90), .ref (ad 91), .int la, .ref (ad 92), .ref (ad 93), .ref (ad 94), .int dr, .int go, .int lo, .int ma, .ref (ad 95), .ref (ad 96), .ref (ad 97), .ref (ad 98), .int pa, .int 0, .ref (ad 99), .ref (ad 100), .ref (ad 101), .ref (ad 102), .ref (ad 103), .ref (ad 104), .int su, .ref (ad 105), .ref (ad 106), .ref (ad 107)]))) 100 (.inl (ca 1, 9, .inr (.inl (mSPA di ro spa))))) 99 (.inl (ca 1, 9, .inr (.inl (mSTA di so ro sta))))) 101 (.inl (ca 1, 3, .inr (.inl (vp_updL sf 0 (0 + (((mSTA di so ro sta) 0) * ((mSTA di so ro sta) 0)))))))) 102 (.inl (ca 0, 36, .inl pl))) (by rw [vuu]) ?_
      refine gj_iinc C (v := 1) (lv' := [(4, .int 1), (3, .int 0), (2, .int (mSp ro (1 : Int32) 8)), (1, .int (mSp ro (0 : Int32) 8)), (0, .ref (ad 87))]) dX12_turning_153 0 rfl (by decide) (by decide) rfl ?_
      refine gj_goto C 115 dX12_turning_156 (by decide) ?_
      refine gj_iload C dX12_turning_115 0 rfl ?_
      refine gj_iconst C (v := 3) (by decide) dX12_turning_117 ?_
      refine gj_icmp_ge C 159 dX12_turning_118 (by decide) (fun c_7 => absurd c_7 (by decide)) (fun c_7 => ?_)
      refine gj_aload_n C 0 dX12_turning_121 rfl 4 rfl ?_
      refine gj_get C 87 (by decide) (up_nx (by decide) (up_nx (by decide) (up_nx (by decide) (up_nx (by decide) (va_up_self _ _ _))))) inX12 rfl 20 (by decide) w_869 (v := .ref (ad 101)) rfl dX12_turning_122 ?_
      refine gj_iload_n C 3 dX12_turning_125 rfl 1 rfl ?_
      refine gj_dup2_11 C rfl rfl dX12_turning_126 ?_
      refine gj_lald C 101 (by decide) (up_nx (by decide) (va_up_self _ _ _)) (by unfold vp_in; decide) dX12_turning_127 ?_
      refine gj_setl (y := 0 + (((mSTA di so ro sta) 0) * ((mSTA di so ro sta) 0))) rfl ?_
      refine gj_aload_n C 0 dX12_turning_128 rfl 4 rfl ?_
      refine gj_get C 87 (by decide) (up_nx (by decide) (up_nx (by decide) (up_nx (by decide) (up_nx (by decide) (va_up_self _ _ _))))) inX12 rfl 18 (by decide) w_867 (v := .ref (ad 99)) rfl dX12_turning_129 ?_
      refine gj_iconst C (v := 3) (by decide) dX12_turning_132 ?_
      refine gj_iload_n C 3 dX12_turning_133 rfl 1 rfl ?_
      refine gj_imul C dX12_turning_134 ?_
      refine gj_seti (y := 0) (by decide) ?_
      refine gj_iload C dX12_turning_135 0 rfl ?_
      refine gj_iadd C dX12_turning_137 ?_
      refine gj_seti (y := 1) (by decide) ?_
      refine gj_lald C 99 (by decide) (up_nx (by decide) (up_nx (by decide) (va_up_self _ _ _))) (by unfold vp_in; decide) dX12_turning_138 ?_
      refine gj_setl (y := (mSTA di so ro sta) 1) rfl ?_
      refine gj_aload_n C 0 dX12_turning_139 rfl 4 rfl ?_
      refine gj_get C 87 (by decide) (up_nx (by decide) (up_nx (by decide) (up_nx (by decide) (up_nx (by decide) (va_up_self _ _ _))))) inX12 rfl 18 (by decide) w_867 (v := .ref (ad 99)) rfl dX12_turning_140 ?_
      refine gj_iconst C (v := 3) (by decide) dX12_turning_143 ?_
      refine gj_iload_n C 3 dX12_turning_144 rfl 1 rfl ?_
      refine gj_imul C dX12_turning_145 ?_
      refine gj_seti (y := 0) (by decide) ?_
      refine gj_iload C dX12_turning_146 0 rfl ?_
      refine gj_iadd C dX12_turning_148 ?_
      refine gj_seti (y := 1) (by decide) ?_
      refine gj_lald C 99 (by decide) (up_nx (by decide) (up_nx (by decide) (va_up_self _ _ _))) (by unfold vp_in; decide) dX12_turning_149 ?_
      refine gj_setl (y := (mSTA di so ro sta) 1) rfl ?_
      refine gj_lmul C dX12_turning_150 ?_
      refine gj_ladd C dX12_turning_151 ?_
      refine gj_last C 101 (by decide) (up_nx (by decide) (va_up_self _ _ _)) (by unfold vp_in; decide) dX12_turning_152 ?_
      refine gj_setf ((up_comm (by decide)).trans (up_un (bx_uu _ _ _ _))) ?_
      refine gj_setf (g := va_up (va_up (va_up (va_up (va_up f 87 (.inr (11, [.ref (ad 88), .ref (ad 89), .ref (ad 90), .ref (ad 91), .int la, .ref (ad 92), .ref (ad 93), .ref (ad 94), .int dr, .int go, .int lo, .int ma, .ref (ad 95), .ref (ad 96), .ref (ad 97), .ref (ad 98), .int pa, .int 0, .ref (ad 99), .ref (ad 100), .ref (ad 101), .ref (ad 102), .ref (ad 103), .ref (ad 104), .int su, .ref (ad 105), .ref (ad 106), .ref (ad 107)]))) 100 (.inl (ca 1, 9, .inr (.inl (mSPA di ro spa))))) 99 (.inl (ca 1, 9, .inr (.inl (mSTA di so ro sta))))) 101 (.inl (ca 1, 3, .inr (.inl (vp_updL (vp_updL sf 0 (0 + (((mSTA di so ro sta) 0) * ((mSTA di so ro sta) 0)))) 0 ((0 + (((mSTA di so ro sta) 0) * ((mSTA di so ro sta) 0))) + (((mSTA di so ro sta) 1) * ((mSTA di so ro sta) 1)))))))) 102 (.inl (ca 0, 36, .inl pl))) rfl ?_
      refine gj_setf (g := va_up (va_up (va_up (va_up (va_up f 87 (.inr (11, [.ref (ad 88), .ref (ad 89), .ref (ad 90), .ref (ad 91), .int la, .ref (ad 92), .ref (ad 93), .ref (ad 94), .int dr, .int go, .int lo, .int ma, .ref (ad 95), .ref (ad 96), .ref (ad 97), .ref (ad 98), .int pa, .int 0, .ref (ad 99), .ref (ad 100), .ref (ad 101), .ref (ad 102), .ref (ad 103), .ref (ad 104), .int su, .ref (ad 105), .ref (ad 106), .ref (ad 107)]))) 100 (.inl (ca 1, 9, .inr (.inl (mSPA di ro spa))))) 99 (.inl (ca 1, 9, .inr (.inl (mSTA di so ro sta))))) 101 (.inl (ca 1, 3, .inr (.inl (vp_updL sf 0 ((0 + (((mSTA di so ro sta) 0) * ((mSTA di so ro sta) 0))) + (((mSTA di so ro sta) 1) * ((mSTA di so ro sta) 1)))))))) 102 (.inl (ca 0, 36, .inl pl))) (by rw [vuu]) ?_
      refine gj_iinc C (v := 2) (lv' := [(4, .int 2), (3, .int 0), (2, .int (mSp ro (1 : Int32) 8)), (1, .int (mSp ro (0 : Int32) 8)), (0, .ref (ad 87))]) dX12_turning_153 0 rfl (by decide) (by decide) rfl ?_
      refine gj_goto C 115 dX12_turning_156 (by decide) ?_
      refine gj_iload C dX12_turning_115 0 rfl ?_
      refine gj_iconst C (v := 3) (by decide) dX12_turning_117 ?_
      refine gj_icmp_ge C 159 dX12_turning_118 (by decide) (fun c_8 => absurd c_8 (by decide)) (fun c_8 => ?_)
      refine gj_aload_n C 0 dX12_turning_121 rfl 4 rfl ?_
      refine gj_get C 87 (by decide) (up_nx (by decide) (up_nx (by decide) (up_nx (by decide) (up_nx (by decide) (va_up_self _ _ _))))) inX12 rfl 20 (by decide) w_869 (v := .ref (ad 101)) rfl dX12_turning_122 ?_
      refine gj_iload_n C 3 dX12_turning_125 rfl 1 rfl ?_
      refine gj_dup2_11 C rfl rfl dX12_turning_126 ?_
      refine gj_lald C 101 (by decide) (up_nx (by decide) (va_up_self _ _ _)) (by unfold vp_in; decide) dX12_turning_127 ?_
      refine gj_setl (y := (0 + (((mSTA di so ro sta) 0) * ((mSTA di so ro sta) 0))) + (((mSTA di so ro sta) 1) * ((mSTA di so ro sta) 1))) rfl ?_
      refine gj_aload_n C 0 dX12_turning_128 rfl 4 rfl ?_
      refine gj_get C 87 (by decide) (up_nx (by decide) (up_nx (by decide) (up_nx (by decide) (up_nx (by decide) (va_up_self _ _ _))))) inX12 rfl 18 (by decide) w_867 (v := .ref (ad 99)) rfl dX12_turning_129 ?_
      refine gj_iconst C (v := 3) (by decide) dX12_turning_132 ?_
      refine gj_iload_n C 3 dX12_turning_133 rfl 1 rfl ?_
      refine gj_imul C dX12_turning_134 ?_
      refine gj_seti (y := 0) (by decide) ?_
      refine gj_iload C dX12_turning_135 0 rfl ?_
      refine gj_iadd C dX12_turning_137 ?_
      refine gj_seti (y := 2) (by decide) ?_
      refine gj_lald C 99 (by decide) (up_nx (by decide) (up_nx (by decide) (va_up_self _ _ _))) (by unfold vp_in; decide) dX12_turning_138 ?_
      refine gj_setl (y := (mSTA di so ro sta) 2) rfl ?_
      refine gj_aload_n C 0 dX12_turning_139 rfl 4 rfl ?_
      refine gj_get C 87 (by decide) (up_nx (by decide) (up_nx (by decide) (up_nx (by decide) (up_nx (by decide) (va_up_self _ _ _))))) inX12 rfl 18 (by decide) w_867 (v := .ref (ad 99)) rfl dX12_turning_140 ?_
      refine gj_iconst C (v := 3) (by decide) dX12_turning_143 ?_
      refine gj_iload_n C 3 dX12_turning_144 rfl 1 rfl ?_
      refine gj_imul C dX12_turning_145 ?_
      refine gj_seti (y := 0) (by decide) ?_
      refine gj_iload C dX12_turning_146 0 rfl ?_
      refine gj_iadd C dX12_turning_148 ?_
      refine gj_seti (y := 2) (by decide) ?_
      refine gj_lald C 99 (by decide) (up_nx (by decide) (up_nx (by decide) (va_up_self _ _ _))) (by unfold vp_in; decide) dX12_turning_149 ?_
      refine gj_setl (y := (mSTA di so ro sta) 2) rfl ?_
      refine gj_lmul C dX12_turning_150 ?_
      refine gj_ladd C dX12_turning_151 ?_
      refine gj_last C 101 (by decide) (up_nx (by decide) (va_up_self _ _ _)) (by unfold vp_in; decide) dX12_turning_152 ?_
      refine gj_setf ((up_comm (by decide)).trans (up_un (bx_uu _ _ _ _))) ?_
      refine gj_setf (g := va_up (va_up (va_up (va_up (va_up f 87 (.inr (11, [.ref (ad 88), .ref (ad 89), .ref (ad 90), .ref (ad 91), .int la, .ref (ad 92), .ref (ad 93), .ref (ad 94), .int dr, .int go, .int lo, .int ma, .ref (ad 95), .ref (ad 96), .ref (ad 97), .ref (ad 98), .int pa, .int 0, .ref (ad 99), .ref (ad 100), .ref (ad 101), .ref (ad 102), .ref (ad 103), .ref (ad 104), .int su, .ref (ad 105), .ref (ad 106), .ref (ad 107)]))) 100 (.inl (ca 1, 9, .inr (.inl (mSPA di ro spa))))) 99 (.inl (ca 1, 9, .inr (.inl (mSTA di so ro sta))))) 101 (.inl (ca 1, 3, .inr (.inl (vp_updL (vp_updL sf 0 ((0 + (((mSTA di so ro sta) 0) * ((mSTA di so ro sta) 0))) + (((mSTA di so ro sta) 1) * ((mSTA di so ro sta) 1)))) 0 (((0 + (((mSTA di so ro sta) 0) * ((mSTA di so ro sta) 0))) + (((mSTA di so ro sta) 1) * ((mSTA di so ro sta) 1))) + (((mSTA di so ro sta) 2) * ((mSTA di so ro sta) 2)))))))) 102 (.inl (ca 0, 36, .inl pl))) rfl ?_
      refine gj_setf (g := va_up (va_up (va_up (va_up (va_up f 87 (.inr (11, [.ref (ad 88), .ref (ad 89), .ref (ad 90), .ref (ad 91), .int la, .ref (ad 92), .ref (ad 93), .ref (ad 94), .int dr, .int go, .int lo, .int ma, .ref (ad 95), .ref (ad 96), .ref (ad 97), .ref (ad 98), .int pa, .int 0, .ref (ad 99), .ref (ad 100), .ref (ad 101), .ref (ad 102), .ref (ad 103), .ref (ad 104), .int su, .ref (ad 105), .ref (ad 106), .ref (ad 107)]))) 100 (.inl (ca 1, 9, .inr (.inl (mSPA di ro spa))))) 99 (.inl (ca 1, 9, .inr (.inl (mSTA di so ro sta))))) 101 (.inl (ca 1, 3, .inr (.inl (vp_updL sf 0 (((0 + (((mSTA di so ro sta) 0) * ((mSTA di so ro sta) 0))) + (((mSTA di so ro sta) 1) * ((mSTA di so ro sta) 1))) + (((mSTA di so ro sta) 2) * ((mSTA di so ro sta) 2)))))))) 102 (.inl (ca 0, 36, .inl pl))) (by rw [vuu]) ?_
      refine gj_iinc C (v := 3) (lv' := [(4, .int 3), (3, .int 0), (2, .int (mSp ro (1 : Int32) 8)), (1, .int (mSp ro (0 : Int32) 8)), (0, .ref (ad 87))]) dX12_turning_153 0 rfl (by decide) (by decide) rfl ?_
      refine gj_goto C 115 dX12_turning_156 (by decide) ?_
      refine gj_iload C dX12_turning_115 0 rfl ?_
      refine gj_iconst C (v := 3) (by decide) dX12_turning_117 ?_
      refine gj_icmp_ge C 159 dX12_turning_118 (by decide) (fun c_9 => ?_) (fun c_9 => absurd (by decide) c_9)
      refine gj_iinc C (v := 1) (lv' := [(3, .int 1), (4, .int 3), (2, .int (mSp ro (1 : Int32) 8)), (1, .int (mSp ro (0 : Int32) 8)), (0, .ref (ad 87))]) dX12_turning_159 1 rfl (by decide) (by decide) rfl ?_
      refine gj_goto C 100 dX12_turning_162 (by decide) ?_
      refine gj_iload_n C 3 dX12_turning_100 rfl 0 rfl ?_
      refine gj_iconst C (v := 3) (by decide) dX12_turning_101 ?_
      refine gj_icmp_ge C 165 dX12_turning_102 (by decide) (fun c_10 => absurd c_10 (by decide)) (fun c_10 => ?_)
      refine gj_aload_n C 0 dX12_turning_105 rfl 4 rfl ?_
      refine gj_get C 87 (by decide) (up_nx (by decide) (up_nx (by decide) (up_nx (by decide) (up_nx (by decide) (va_up_self _ _ _))))) inX12 rfl 20 (by decide) w_869 (v := .ref (ad 101)) rfl dX12_turning_106 ?_
      refine gj_iload_n C 3 dX12_turning_109 rfl 0 rfl ?_
      refine gj_lconst C (v := 0) rfl dX12_turning_110 ?_
      refine gj_last C 101 (by decide) (up_nx (by decide) (va_up_self _ _ _)) (by unfold vp_in; decide) dX12_turning_111 ?_
      refine gj_setf ((up_comm (by decide)).trans (up_un (bx_uu _ _ _ _))) ?_
      refine gj_setf (g := va_up (va_up (va_up (va_up (va_up f 87 (.inr (11, [.ref (ad 88), .ref (ad 89), .ref (ad 90), .ref (ad 91), .int la, .ref (ad 92), .ref (ad 93), .ref (ad 94), .int dr, .int go, .int lo, .int ma, .ref (ad 95), .ref (ad 96), .ref (ad 97), .ref (ad 98), .int pa, .int 0, .ref (ad 99), .ref (ad 100), .ref (ad 101), .ref (ad 102), .ref (ad 103), .ref (ad 104), .int su, .ref (ad 105), .ref (ad 106), .ref (ad 107)]))) 100 (.inl (ca 1, 9, .inr (.inl (mSPA di ro spa))))) 99 (.inl (ca 1, 9, .inr (.inl (mSTA di so ro sta))))) 101 (.inl (ca 1, 3, .inr (.inl (vp_updL (vp_updL sf 0 (((0 + (((mSTA di so ro sta) 0) * ((mSTA di so ro sta) 0))) + (((mSTA di so ro sta) 1) * ((mSTA di so ro sta) 1))) + (((mSTA di so ro sta) 2) * ((mSTA di so ro sta) 2)))) 1 0))))) 102 (.inl (ca 0, 36, .inl pl))) rfl ?_
      refine gj_iconst C (v := 0) (by decide) dX12_turning_112 ?_
      refine gj_istore C (lv' := [(4, .int 0), (3, .int 1), (2, .int (mSp ro (1 : Int32) 8)), (1, .int (mSp ro (0 : Int32) 8)), (0, .ref (ad 87))]) dX12_turning_113 (by decide) rfl ?_
      refine gj_iload C dX12_turning_115 0 rfl ?_
      refine gj_iconst C (v := 3) (by decide) dX12_turning_117 ?_
      refine gj_icmp_ge C 159 dX12_turning_118 (by decide) (fun c_11 => absurd c_11 (by decide)) (fun c_11 => ?_)
      refine gj_aload_n C 0 dX12_turning_121 rfl 4 rfl ?_
      refine gj_get C 87 (by decide) (up_nx (by decide) (up_nx (by decide) (up_nx (by decide) (up_nx (by decide) (va_up_self _ _ _))))) inX12 rfl 20 (by decide) w_869 (v := .ref (ad 101)) rfl dX12_turning_122 ?_
      refine gj_iload_n C 3 dX12_turning_125 rfl 1 rfl ?_
      refine gj_dup2_11 C rfl rfl dX12_turning_126 ?_
      refine gj_lald C 101 (by decide) (up_nx (by decide) (va_up_self _ _ _)) (by unfold vp_in; decide) dX12_turning_127 ?_
      refine gj_setl (y := 0) rfl ?_
      refine gj_aload_n C 0 dX12_turning_128 rfl 4 rfl ?_
      refine gj_get C 87 (by decide) (up_nx (by decide) (up_nx (by decide) (up_nx (by decide) (up_nx (by decide) (va_up_self _ _ _))))) inX12 rfl 18 (by decide) w_867 (v := .ref (ad 99)) rfl dX12_turning_129 ?_
      refine gj_iconst C (v := 3) (by decide) dX12_turning_132 ?_
      refine gj_iload_n C 3 dX12_turning_133 rfl 1 rfl ?_
      refine gj_imul C dX12_turning_134 ?_
      refine gj_seti (y := 3) (by decide) ?_
      refine gj_iload C dX12_turning_135 0 rfl ?_
      refine gj_iadd C dX12_turning_137 ?_
      refine gj_seti (y := 3) (by decide) ?_
      refine gj_lald C 99 (by decide) (up_nx (by decide) (up_nx (by decide) (va_up_self _ _ _))) (by unfold vp_in; decide) dX12_turning_138 ?_
      refine gj_setl (y := (mSTA di so ro sta) 3) rfl ?_
      refine gj_aload_n C 0 dX12_turning_139 rfl 4 rfl ?_
      refine gj_get C 87 (by decide) (up_nx (by decide) (up_nx (by decide) (up_nx (by decide) (up_nx (by decide) (va_up_self _ _ _))))) inX12 rfl 18 (by decide) w_867 (v := .ref (ad 99)) rfl dX12_turning_140 ?_
      refine gj_iconst C (v := 3) (by decide) dX12_turning_143 ?_
      refine gj_iload_n C 3 dX12_turning_144 rfl 1 rfl ?_
      refine gj_imul C dX12_turning_145 ?_
      refine gj_seti (y := 3) (by decide) ?_
      refine gj_iload C dX12_turning_146 0 rfl ?_
      refine gj_iadd C dX12_turning_148 ?_
      refine gj_seti (y := 3) (by decide) ?_
      refine gj_lald C 99 (by decide) (up_nx (by decide) (up_nx (by decide) (va_up_self _ _ _))) (by unfold vp_in; decide) dX12_turning_149 ?_
      refine gj_setl (y := (mSTA di so ro sta) 3) rfl ?_
      refine gj_lmul C dX12_turning_150 ?_
      refine gj_ladd C dX12_turning_151 ?_
      refine gj_last C 101 (by decide) (up_nx (by decide) (va_up_self _ _ _)) (by unfold vp_in; decide) dX12_turning_152 ?_
      refine gj_setf ((up_comm (by decide)).trans (up_un (bx_uu _ _ _ _))) ?_
      refine gj_setf (g := va_up (va_up (va_up (va_up (va_up f 87 (.inr (11, [.ref (ad 88), .ref (ad 89), .ref (ad 90), .ref (ad 91), .int la, .ref (ad 92), .ref (ad 93), .ref (ad 94), .int dr, .int go, .int lo, .int ma, .ref (ad 95), .ref (ad 96), .ref (ad 97), .ref (ad 98), .int pa, .int 0, .ref (ad 99), .ref (ad 100), .ref (ad 101), .ref (ad 102), .ref (ad 103), .ref (ad 104), .int su, .ref (ad 105), .ref (ad 106), .ref (ad 107)]))) 100 (.inl (ca 1, 9, .inr (.inl (mSPA di ro spa))))) 99 (.inl (ca 1, 9, .inr (.inl (mSTA di so ro sta))))) 101 (.inl (ca 1, 3, .inr (.inl (vp_updL (vp_updL (vp_updL sf 0 (((0 + (((mSTA di so ro sta) 0) * ((mSTA di so ro sta) 0))) + (((mSTA di so ro sta) 1) * ((mSTA di so ro sta) 1))) + (((mSTA di so ro sta) 2) * ((mSTA di so ro sta) 2)))) 1 0) 1 (0 + (((mSTA di so ro sta) 3) * ((mSTA di so ro sta) 3)))))))) 102 (.inl (ca 0, 36, .inl pl))) rfl ?_
      refine gj_setf (g := va_up (va_up (va_up (va_up (va_up f 87 (.inr (11, [.ref (ad 88), .ref (ad 89), .ref (ad 90), .ref (ad 91), .int la, .ref (ad 92), .ref (ad 93), .ref (ad 94), .int dr, .int go, .int lo, .int ma, .ref (ad 95), .ref (ad 96), .ref (ad 97), .ref (ad 98), .int pa, .int 0, .ref (ad 99), .ref (ad 100), .ref (ad 101), .ref (ad 102), .ref (ad 103), .ref (ad 104), .int su, .ref (ad 105), .ref (ad 106), .ref (ad 107)]))) 100 (.inl (ca 1, 9, .inr (.inl (mSPA di ro spa))))) 99 (.inl (ca 1, 9, .inr (.inl (mSTA di so ro sta))))) 101 (.inl (ca 1, 3, .inr (.inl (vp_updL (vp_updL sf 0 (((0 + (((mSTA di so ro sta) 0) * ((mSTA di so ro sta) 0))) + (((mSTA di so ro sta) 1) * ((mSTA di so ro sta) 1))) + (((mSTA di so ro sta) 2) * ((mSTA di so ro sta) 2)))) 1 (0 + (((mSTA di so ro sta) 3) * ((mSTA di so ro sta) 3)))))))) 102 (.inl (ca 0, 36, .inl pl))) (by rw [vuu]) ?_
      refine gj_iinc C (v := 1) (lv' := [(4, .int 1), (3, .int 1), (2, .int (mSp ro (1 : Int32) 8)), (1, .int (mSp ro (0 : Int32) 8)), (0, .ref (ad 87))]) dX12_turning_153 0 rfl (by decide) (by decide) rfl ?_
      refine gj_goto C 115 dX12_turning_156 (by decide) ?_
      refine gj_iload C dX12_turning_115 0 rfl ?_
      refine gj_iconst C (v := 3) (by decide) dX12_turning_117 ?_
      refine gj_icmp_ge C 159 dX12_turning_118 (by decide) (fun c_12 => absurd c_12 (by decide)) (fun c_12 => ?_)
      refine gj_aload_n C 0 dX12_turning_121 rfl 4 rfl ?_
      refine gj_get C 87 (by decide) (up_nx (by decide) (up_nx (by decide) (up_nx (by decide) (up_nx (by decide) (va_up_self _ _ _))))) inX12 rfl 20 (by decide) w_869 (v := .ref (ad 101)) rfl dX12_turning_122 ?_
      refine gj_iload_n C 3 dX12_turning_125 rfl 1 rfl ?_
      refine gj_dup2_11 C rfl rfl dX12_turning_126 ?_
      refine gj_lald C 101 (by decide) (up_nx (by decide) (va_up_self _ _ _)) (by unfold vp_in; decide) dX12_turning_127 ?_
      refine gj_setl (y := 0 + (((mSTA di so ro sta) 3) * ((mSTA di so ro sta) 3))) rfl ?_
      refine gj_aload_n C 0 dX12_turning_128 rfl 4 rfl ?_
      refine gj_get C 87 (by decide) (up_nx (by decide) (up_nx (by decide) (up_nx (by decide) (up_nx (by decide) (va_up_self _ _ _))))) inX12 rfl 18 (by decide) w_867 (v := .ref (ad 99)) rfl dX12_turning_129 ?_
      refine gj_iconst C (v := 3) (by decide) dX12_turning_132 ?_
      refine gj_iload_n C 3 dX12_turning_133 rfl 1 rfl ?_
      refine gj_imul C dX12_turning_134 ?_
      refine gj_seti (y := 3) (by decide) ?_
      refine gj_iload C dX12_turning_135 0 rfl ?_
      refine gj_iadd C dX12_turning_137 ?_
      refine gj_seti (y := 4) (by decide) ?_
      refine gj_lald C 99 (by decide) (up_nx (by decide) (up_nx (by decide) (va_up_self _ _ _))) (by unfold vp_in; decide) dX12_turning_138 ?_
      refine gj_setl (y := (mSTA di so ro sta) 4) rfl ?_
      refine gj_aload_n C 0 dX12_turning_139 rfl 4 rfl ?_
      refine gj_get C 87 (by decide) (up_nx (by decide) (up_nx (by decide) (up_nx (by decide) (up_nx (by decide) (va_up_self _ _ _))))) inX12 rfl 18 (by decide) w_867 (v := .ref (ad 99)) rfl dX12_turning_140 ?_
      refine gj_iconst C (v := 3) (by decide) dX12_turning_143 ?_
      refine gj_iload_n C 3 dX12_turning_144 rfl 1 rfl ?_
      refine gj_imul C dX12_turning_145 ?_
      refine gj_seti (y := 3) (by decide) ?_
      refine gj_iload C dX12_turning_146 0 rfl ?_
      refine gj_iadd C dX12_turning_148 ?_
      refine gj_seti (y := 4) (by decide) ?_
      refine gj_lald C 99 (by decide) (up_nx (by decide) (up_nx (by decide) (va_up_self _ _ _))) (by unfold vp_in; decide) dX12_turning_149 ?_
      refine gj_setl (y := (mSTA di so ro sta) 4) rfl ?_
      refine gj_lmul C dX12_turning_150 ?_
      refine gj_ladd C dX12_turning_151 ?_
      refine gj_last C 101 (by decide) (up_nx (by decide) (va_up_self _ _ _)) (by unfold vp_in; decide) dX12_turning_152 ?_
      refine gj_setf ((up_comm (by decide)).trans (up_un (bx_uu _ _ _ _))) ?_
      refine gj_setf (g := va_up (va_up (va_up (va_up (va_up f 87 (.inr (11, [.ref (ad 88), .ref (ad 89), .ref (ad 90), .ref (ad 91), .int la, .ref (ad 92), .ref (ad 93), .ref (ad 94), .int dr, .int go, .int lo, .int ma, .ref (ad 95), .ref (ad 96), .ref (ad 97), .ref (ad 98), .int pa, .int 0, .ref (ad 99), .ref (ad 100), .ref (ad 101), .ref (ad 102), .ref (ad 103), .ref (ad 104), .int su, .ref (ad 105), .ref (ad 106), .ref (ad 107)]))) 100 (.inl (ca 1, 9, .inr (.inl (mSPA di ro spa))))) 99 (.inl (ca 1, 9, .inr (.inl (mSTA di so ro sta))))) 101 (.inl (ca 1, 3, .inr (.inl (vp_updL (vp_updL (vp_updL sf 0 (((0 + (((mSTA di so ro sta) 0) * ((mSTA di so ro sta) 0))) + (((mSTA di so ro sta) 1) * ((mSTA di so ro sta) 1))) + (((mSTA di so ro sta) 2) * ((mSTA di so ro sta) 2)))) 1 (0 + (((mSTA di so ro sta) 3) * ((mSTA di so ro sta) 3)))) 1 ((0 + (((mSTA di so ro sta) 3) * ((mSTA di so ro sta) 3))) + (((mSTA di so ro sta) 4) * ((mSTA di so ro sta) 4)))))))) 102 (.inl (ca 0, 36, .inl pl))) rfl ?_
      refine gj_setf (g := va_up (va_up (va_up (va_up (va_up f 87 (.inr (11, [.ref (ad 88), .ref (ad 89), .ref (ad 90), .ref (ad 91), .int la, .ref (ad 92), .ref (ad 93), .ref (ad 94), .int dr, .int go, .int lo, .int ma, .ref (ad 95), .ref (ad 96), .ref (ad 97), .ref (ad 98), .int pa, .int 0, .ref (ad 99), .ref (ad 100), .ref (ad 101), .ref (ad 102), .ref (ad 103), .ref (ad 104), .int su, .ref (ad 105), .ref (ad 106), .ref (ad 107)]))) 100 (.inl (ca 1, 9, .inr (.inl (mSPA di ro spa))))) 99 (.inl (ca 1, 9, .inr (.inl (mSTA di so ro sta))))) 101 (.inl (ca 1, 3, .inr (.inl (vp_updL (vp_updL sf 0 (((0 + (((mSTA di so ro sta) 0) * ((mSTA di so ro sta) 0))) + (((mSTA di so ro sta) 1) * ((mSTA di so ro sta) 1))) + (((mSTA di so ro sta) 2) * ((mSTA di so ro sta) 2)))) 1 ((0 + (((mSTA di so ro sta) 3) * ((mSTA di so ro sta) 3))) + (((mSTA di so ro sta) 4) * ((mSTA di so ro sta) 4)))))))) 102 (.inl (ca 0, 36, .inl pl))) (by rw [vuu]) ?_
      refine gj_iinc C (v := 2) (lv' := [(4, .int 2), (3, .int 1), (2, .int (mSp ro (1 : Int32) 8)), (1, .int (mSp ro (0 : Int32) 8)), (0, .ref (ad 87))]) dX12_turning_153 0 rfl (by decide) (by decide) rfl ?_
      refine gj_goto C 115 dX12_turning_156 (by decide) ?_
      refine gj_iload C dX12_turning_115 0 rfl ?_
      refine gj_iconst C (v := 3) (by decide) dX12_turning_117 ?_
      refine gj_icmp_ge C 159 dX12_turning_118 (by decide) (fun c_13 => absurd c_13 (by decide)) (fun c_13 => ?_)
      refine gj_aload_n C 0 dX12_turning_121 rfl 4 rfl ?_
      refine gj_get C 87 (by decide) (up_nx (by decide) (up_nx (by decide) (up_nx (by decide) (up_nx (by decide) (va_up_self _ _ _))))) inX12 rfl 20 (by decide) w_869 (v := .ref (ad 101)) rfl dX12_turning_122 ?_
      refine gj_iload_n C 3 dX12_turning_125 rfl 1 rfl ?_
      refine gj_dup2_11 C rfl rfl dX12_turning_126 ?_
      refine gj_lald C 101 (by decide) (up_nx (by decide) (va_up_self _ _ _)) (by unfold vp_in; decide) dX12_turning_127 ?_
      refine gj_setl (y := (0 + (((mSTA di so ro sta) 3) * ((mSTA di so ro sta) 3))) + (((mSTA di so ro sta) 4) * ((mSTA di so ro sta) 4))) rfl ?_
      refine gj_aload_n C 0 dX12_turning_128 rfl 4 rfl ?_
      refine gj_get C 87 (by decide) (up_nx (by decide) (up_nx (by decide) (up_nx (by decide) (up_nx (by decide) (va_up_self _ _ _))))) inX12 rfl 18 (by decide) w_867 (v := .ref (ad 99)) rfl dX12_turning_129 ?_
      refine gj_iconst C (v := 3) (by decide) dX12_turning_132 ?_
      refine gj_iload_n C 3 dX12_turning_133 rfl 1 rfl ?_
      refine gj_imul C dX12_turning_134 ?_
      refine gj_seti (y := 3) (by decide) ?_
      refine gj_iload C dX12_turning_135 0 rfl ?_
      refine gj_iadd C dX12_turning_137 ?_
      refine gj_seti (y := 5) (by decide) ?_
      refine gj_lald C 99 (by decide) (up_nx (by decide) (up_nx (by decide) (va_up_self _ _ _))) (by unfold vp_in; decide) dX12_turning_138 ?_
      refine gj_setl (y := (mSTA di so ro sta) 5) rfl ?_
      refine gj_aload_n C 0 dX12_turning_139 rfl 4 rfl ?_
      refine gj_get C 87 (by decide) (up_nx (by decide) (up_nx (by decide) (up_nx (by decide) (up_nx (by decide) (va_up_self _ _ _))))) inX12 rfl 18 (by decide) w_867 (v := .ref (ad 99)) rfl dX12_turning_140 ?_
      refine gj_iconst C (v := 3) (by decide) dX12_turning_143 ?_
      refine gj_iload_n C 3 dX12_turning_144 rfl 1 rfl ?_
      refine gj_imul C dX12_turning_145 ?_
      refine gj_seti (y := 3) (by decide) ?_
      refine gj_iload C dX12_turning_146 0 rfl ?_
      refine gj_iadd C dX12_turning_148 ?_
      refine gj_seti (y := 5) (by decide) ?_
      refine gj_lald C 99 (by decide) (up_nx (by decide) (up_nx (by decide) (va_up_self _ _ _))) (by unfold vp_in; decide) dX12_turning_149 ?_
      refine gj_setl (y := (mSTA di so ro sta) 5) rfl ?_
      refine gj_lmul C dX12_turning_150 ?_
      refine gj_ladd C dX12_turning_151 ?_
      refine gj_last C 101 (by decide) (up_nx (by decide) (va_up_self _ _ _)) (by unfold vp_in; decide) dX12_turning_152 ?_
      refine gj_setf ((up_comm (by decide)).trans (up_un (bx_uu _ _ _ _))) ?_
      refine gj_setf (g := va_up (va_up (va_up (va_up (va_up f 87 (.inr (11, [.ref (ad 88), .ref (ad 89), .ref (ad 90), .ref (ad 91), .int la, .ref (ad 92), .ref (ad 93), .ref (ad 94), .int dr, .int go, .int lo, .int ma, .ref (ad 95), .ref (ad 96), .ref (ad 97), .ref (ad 98), .int pa, .int 0, .ref (ad 99), .ref (ad 100), .ref (ad 101), .ref (ad 102), .ref (ad 103), .ref (ad 104), .int su, .ref (ad 105), .ref (ad 106), .ref (ad 107)]))) 100 (.inl (ca 1, 9, .inr (.inl (mSPA di ro spa))))) 99 (.inl (ca 1, 9, .inr (.inl (mSTA di so ro sta))))) 101 (.inl (ca 1, 3, .inr (.inl (vp_updL (vp_updL (vp_updL sf 0 (((0 + (((mSTA di so ro sta) 0) * ((mSTA di so ro sta) 0))) + (((mSTA di so ro sta) 1) * ((mSTA di so ro sta) 1))) + (((mSTA di so ro sta) 2) * ((mSTA di so ro sta) 2)))) 1 ((0 + (((mSTA di so ro sta) 3) * ((mSTA di so ro sta) 3))) + (((mSTA di so ro sta) 4) * ((mSTA di so ro sta) 4)))) 1 (((0 + (((mSTA di so ro sta) 3) * ((mSTA di so ro sta) 3))) + (((mSTA di so ro sta) 4) * ((mSTA di so ro sta) 4))) + (((mSTA di so ro sta) 5) * ((mSTA di so ro sta) 5)))))))) 102 (.inl (ca 0, 36, .inl pl))) rfl ?_
      refine gj_setf (g := va_up (va_up (va_up (va_up (va_up f 87 (.inr (11, [.ref (ad 88), .ref (ad 89), .ref (ad 90), .ref (ad 91), .int la, .ref (ad 92), .ref (ad 93), .ref (ad 94), .int dr, .int go, .int lo, .int ma, .ref (ad 95), .ref (ad 96), .ref (ad 97), .ref (ad 98), .int pa, .int 0, .ref (ad 99), .ref (ad 100), .ref (ad 101), .ref (ad 102), .ref (ad 103), .ref (ad 104), .int su, .ref (ad 105), .ref (ad 106), .ref (ad 107)]))) 100 (.inl (ca 1, 9, .inr (.inl (mSPA di ro spa))))) 99 (.inl (ca 1, 9, .inr (.inl (mSTA di so ro sta))))) 101 (.inl (ca 1, 3, .inr (.inl (vp_updL (vp_updL sf 0 (((0 + (((mSTA di so ro sta) 0) * ((mSTA di so ro sta) 0))) + (((mSTA di so ro sta) 1) * ((mSTA di so ro sta) 1))) + (((mSTA di so ro sta) 2) * ((mSTA di so ro sta) 2)))) 1 (((0 + (((mSTA di so ro sta) 3) * ((mSTA di so ro sta) 3))) + (((mSTA di so ro sta) 4) * ((mSTA di so ro sta) 4))) + (((mSTA di so ro sta) 5) * ((mSTA di so ro sta) 5)))))))) 102 (.inl (ca 0, 36, .inl pl))) (by rw [vuu]) ?_
      refine gj_iinc C (v := 3) (lv' := [(4, .int 3), (3, .int 1), (2, .int (mSp ro (1 : Int32) 8)), (1, .int (mSp ro (0 : Int32) 8)), (0, .ref (ad 87))]) dX12_turning_153 0 rfl (by decide) (by decide) rfl ?_
      refine gj_goto C 115 dX12_turning_156 (by decide) ?_
      refine gj_iload C dX12_turning_115 0 rfl ?_
      refine gj_iconst C (v := 3) (by decide) dX12_turning_117 ?_
      refine gj_icmp_ge C 159 dX12_turning_118 (by decide) (fun c_14 => ?_) (fun c_14 => absurd (by decide) c_14)
      refine gj_iinc C (v := 2) (lv' := [(3, .int 2), (4, .int 3), (2, .int (mSp ro (1 : Int32) 8)), (1, .int (mSp ro (0 : Int32) 8)), (0, .ref (ad 87))]) dX12_turning_159 1 rfl (by decide) (by decide) rfl ?_
      refine gj_goto C 100 dX12_turning_162 (by decide) ?_
      refine gj_iload_n C 3 dX12_turning_100 rfl 0 rfl ?_
      refine gj_iconst C (v := 3) (by decide) dX12_turning_101 ?_
      refine gj_icmp_ge C 165 dX12_turning_102 (by decide) (fun c_15 => absurd c_15 (by decide)) (fun c_15 => ?_)
      refine gj_aload_n C 0 dX12_turning_105 rfl 4 rfl ?_
      refine gj_get C 87 (by decide) (up_nx (by decide) (up_nx (by decide) (up_nx (by decide) (up_nx (by decide) (va_up_self _ _ _))))) inX12 rfl 20 (by decide) w_869 (v := .ref (ad 101)) rfl dX12_turning_106 ?_
      refine gj_iload_n C 3 dX12_turning_109 rfl 0 rfl ?_
      refine gj_lconst C (v := 0) rfl dX12_turning_110 ?_
      refine gj_last C 101 (by decide) (up_nx (by decide) (va_up_self _ _ _)) (by unfold vp_in; decide) dX12_turning_111 ?_
      refine gj_setf ((up_comm (by decide)).trans (up_un (bx_uu _ _ _ _))) ?_
      refine gj_setf (g := va_up (va_up (va_up (va_up (va_up f 87 (.inr (11, [.ref (ad 88), .ref (ad 89), .ref (ad 90), .ref (ad 91), .int la, .ref (ad 92), .ref (ad 93), .ref (ad 94), .int dr, .int go, .int lo, .int ma, .ref (ad 95), .ref (ad 96), .ref (ad 97), .ref (ad 98), .int pa, .int 0, .ref (ad 99), .ref (ad 100), .ref (ad 101), .ref (ad 102), .ref (ad 103), .ref (ad 104), .int su, .ref (ad 105), .ref (ad 106), .ref (ad 107)]))) 100 (.inl (ca 1, 9, .inr (.inl (mSPA di ro spa))))) 99 (.inl (ca 1, 9, .inr (.inl (mSTA di so ro sta))))) 101 (.inl (ca 1, 3, .inr (.inl (vp_updL (vp_updL (vp_updL sf 0 (((0 + (((mSTA di so ro sta) 0) * ((mSTA di so ro sta) 0))) + (((mSTA di so ro sta) 1) * ((mSTA di so ro sta) 1))) + (((mSTA di so ro sta) 2) * ((mSTA di so ro sta) 2)))) 1 (((0 + (((mSTA di so ro sta) 3) * ((mSTA di so ro sta) 3))) + (((mSTA di so ro sta) 4) * ((mSTA di so ro sta) 4))) + (((mSTA di so ro sta) 5) * ((mSTA di so ro sta) 5)))) 2 0))))) 102 (.inl (ca 0, 36, .inl pl))) rfl ?_
      refine gj_iconst C (v := 0) (by decide) dX12_turning_112 ?_
      refine gj_istore C (lv' := [(4, .int 0), (3, .int 2), (2, .int (mSp ro (1 : Int32) 8)), (1, .int (mSp ro (0 : Int32) 8)), (0, .ref (ad 87))]) dX12_turning_113 (by decide) rfl ?_
      refine gj_iload C dX12_turning_115 0 rfl ?_
      refine gj_iconst C (v := 3) (by decide) dX12_turning_117 ?_
      refine gj_icmp_ge C 159 dX12_turning_118 (by decide) (fun c_16 => absurd c_16 (by decide)) (fun c_16 => ?_)
      refine gj_aload_n C 0 dX12_turning_121 rfl 4 rfl ?_
      refine gj_get C 87 (by decide) (up_nx (by decide) (up_nx (by decide) (up_nx (by decide) (up_nx (by decide) (va_up_self _ _ _))))) inX12 rfl 20 (by decide) w_869 (v := .ref (ad 101)) rfl dX12_turning_122 ?_
      refine gj_iload_n C 3 dX12_turning_125 rfl 1 rfl ?_
      refine gj_dup2_11 C rfl rfl dX12_turning_126 ?_
      refine gj_lald C 101 (by decide) (up_nx (by decide) (va_up_self _ _ _)) (by unfold vp_in; decide) dX12_turning_127 ?_
      refine gj_setl (y := 0) rfl ?_
      refine gj_aload_n C 0 dX12_turning_128 rfl 4 rfl ?_
      refine gj_get C 87 (by decide) (up_nx (by decide) (up_nx (by decide) (up_nx (by decide) (up_nx (by decide) (va_up_self _ _ _))))) inX12 rfl 18 (by decide) w_867 (v := .ref (ad 99)) rfl dX12_turning_129 ?_
      refine gj_iconst C (v := 3) (by decide) dX12_turning_132 ?_
      refine gj_iload_n C 3 dX12_turning_133 rfl 1 rfl ?_
      refine gj_imul C dX12_turning_134 ?_
      refine gj_seti (y := 6) (by decide) ?_
      refine gj_iload C dX12_turning_135 0 rfl ?_
      refine gj_iadd C dX12_turning_137 ?_
      refine gj_seti (y := 6) (by decide) ?_
      refine gj_lald C 99 (by decide) (up_nx (by decide) (up_nx (by decide) (va_up_self _ _ _))) (by unfold vp_in; decide) dX12_turning_138 ?_
      refine gj_setl (y := (mSTA di so ro sta) 6) rfl ?_
      refine gj_aload_n C 0 dX12_turning_139 rfl 4 rfl ?_
      refine gj_get C 87 (by decide) (up_nx (by decide) (up_nx (by decide) (up_nx (by decide) (up_nx (by decide) (va_up_self _ _ _))))) inX12 rfl 18 (by decide) w_867 (v := .ref (ad 99)) rfl dX12_turning_140 ?_
      refine gj_iconst C (v := 3) (by decide) dX12_turning_143 ?_
      refine gj_iload_n C 3 dX12_turning_144 rfl 1 rfl ?_
      refine gj_imul C dX12_turning_145 ?_
      refine gj_seti (y := 6) (by decide) ?_
      refine gj_iload C dX12_turning_146 0 rfl ?_
      refine gj_iadd C dX12_turning_148 ?_
      refine gj_seti (y := 6) (by decide) ?_
      refine gj_lald C 99 (by decide) (up_nx (by decide) (up_nx (by decide) (va_up_self _ _ _))) (by unfold vp_in; decide) dX12_turning_149 ?_
      refine gj_setl (y := (mSTA di so ro sta) 6) rfl ?_
      refine gj_lmul C dX12_turning_150 ?_
      refine gj_ladd C dX12_turning_151 ?_
      refine gj_last C 101 (by decide) (up_nx (by decide) (va_up_self _ _ _)) (by unfold vp_in; decide) dX12_turning_152 ?_
      refine gj_setf ((up_comm (by decide)).trans (up_un (bx_uu _ _ _ _))) ?_
      refine gj_setf (g := va_up (va_up (va_up (va_up (va_up f 87 (.inr (11, [.ref (ad 88), .ref (ad 89), .ref (ad 90), .ref (ad 91), .int la, .ref (ad 92), .ref (ad 93), .ref (ad 94), .int dr, .int go, .int lo, .int ma, .ref (ad 95), .ref (ad 96), .ref (ad 97), .ref (ad 98), .int pa, .int 0, .ref (ad 99), .ref (ad 100), .ref (ad 101), .ref (ad 102), .ref (ad 103), .ref (ad 104), .int su, .ref (ad 105), .ref (ad 106), .ref (ad 107)]))) 100 (.inl (ca 1, 9, .inr (.inl (mSPA di ro spa))))) 99 (.inl (ca 1, 9, .inr (.inl (mSTA di so ro sta))))) 101 (.inl (ca 1, 3, .inr (.inl (vp_updL (vp_updL (vp_updL (vp_updL sf 0 (((0 + (((mSTA di so ro sta) 0) * ((mSTA di so ro sta) 0))) + (((mSTA di so ro sta) 1) * ((mSTA di so ro sta) 1))) + (((mSTA di so ro sta) 2) * ((mSTA di so ro sta) 2)))) 1 (((0 + (((mSTA di so ro sta) 3) * ((mSTA di so ro sta) 3))) + (((mSTA di so ro sta) 4) * ((mSTA di so ro sta) 4))) + (((mSTA di so ro sta) 5) * ((mSTA di so ro sta) 5)))) 2 0) 2 (0 + (((mSTA di so ro sta) 6) * ((mSTA di so ro sta) 6)))))))) 102 (.inl (ca 0, 36, .inl pl))) rfl ?_
      refine gj_setf (g := va_up (va_up (va_up (va_up (va_up f 87 (.inr (11, [.ref (ad 88), .ref (ad 89), .ref (ad 90), .ref (ad 91), .int la, .ref (ad 92), .ref (ad 93), .ref (ad 94), .int dr, .int go, .int lo, .int ma, .ref (ad 95), .ref (ad 96), .ref (ad 97), .ref (ad 98), .int pa, .int 0, .ref (ad 99), .ref (ad 100), .ref (ad 101), .ref (ad 102), .ref (ad 103), .ref (ad 104), .int su, .ref (ad 105), .ref (ad 106), .ref (ad 107)]))) 100 (.inl (ca 1, 9, .inr (.inl (mSPA di ro spa))))) 99 (.inl (ca 1, 9, .inr (.inl (mSTA di so ro sta))))) 101 (.inl (ca 1, 3, .inr (.inl (vp_updL (vp_updL (vp_updL sf 0 (((0 + (((mSTA di so ro sta) 0) * ((mSTA di so ro sta) 0))) + (((mSTA di so ro sta) 1) * ((mSTA di so ro sta) 1))) + (((mSTA di so ro sta) 2) * ((mSTA di so ro sta) 2)))) 1 (((0 + (((mSTA di so ro sta) 3) * ((mSTA di so ro sta) 3))) + (((mSTA di so ro sta) 4) * ((mSTA di so ro sta) 4))) + (((mSTA di so ro sta) 5) * ((mSTA di so ro sta) 5)))) 2 (0 + (((mSTA di so ro sta) 6) * ((mSTA di so ro sta) 6)))))))) 102 (.inl (ca 0, 36, .inl pl))) (by rw [vuu]) ?_
      refine gj_iinc C (v := 1) (lv' := [(4, .int 1), (3, .int 2), (2, .int (mSp ro (1 : Int32) 8)), (1, .int (mSp ro (0 : Int32) 8)), (0, .ref (ad 87))]) dX12_turning_153 0 rfl (by decide) (by decide) rfl ?_
      refine gj_goto C 115 dX12_turning_156 (by decide) ?_
      refine gj_iload C dX12_turning_115 0 rfl ?_
      refine gj_iconst C (v := 3) (by decide) dX12_turning_117 ?_
      refine gj_icmp_ge C 159 dX12_turning_118 (by decide) (fun c_17 => absurd c_17 (by decide)) (fun c_17 => ?_)
      refine gj_aload_n C 0 dX12_turning_121 rfl 4 rfl ?_
      refine gj_get C 87 (by decide) (up_nx (by decide) (up_nx (by decide) (up_nx (by decide) (up_nx (by decide) (va_up_self _ _ _))))) inX12 rfl 20 (by decide) w_869 (v := .ref (ad 101)) rfl dX12_turning_122 ?_
      refine gj_iload_n C 3 dX12_turning_125 rfl 1 rfl ?_
      refine gj_dup2_11 C rfl rfl dX12_turning_126 ?_
      refine gj_lald C 101 (by decide) (up_nx (by decide) (va_up_self _ _ _)) (by unfold vp_in; decide) dX12_turning_127 ?_
      refine gj_setl (y := 0 + (((mSTA di so ro sta) 6) * ((mSTA di so ro sta) 6))) rfl ?_
      refine gj_aload_n C 0 dX12_turning_128 rfl 4 rfl ?_
      refine gj_get C 87 (by decide) (up_nx (by decide) (up_nx (by decide) (up_nx (by decide) (up_nx (by decide) (va_up_self _ _ _))))) inX12 rfl 18 (by decide) w_867 (v := .ref (ad 99)) rfl dX12_turning_129 ?_
      refine gj_iconst C (v := 3) (by decide) dX12_turning_132 ?_
      refine gj_iload_n C 3 dX12_turning_133 rfl 1 rfl ?_
      refine gj_imul C dX12_turning_134 ?_
      refine gj_seti (y := 6) (by decide) ?_
      refine gj_iload C dX12_turning_135 0 rfl ?_
      refine gj_iadd C dX12_turning_137 ?_
      refine gj_seti (y := 7) (by decide) ?_
      refine gj_lald C 99 (by decide) (up_nx (by decide) (up_nx (by decide) (va_up_self _ _ _))) (by unfold vp_in; decide) dX12_turning_138 ?_
      refine gj_setl (y := (mSTA di so ro sta) 7) rfl ?_
      refine gj_aload_n C 0 dX12_turning_139 rfl 4 rfl ?_
      refine gj_get C 87 (by decide) (up_nx (by decide) (up_nx (by decide) (up_nx (by decide) (up_nx (by decide) (va_up_self _ _ _))))) inX12 rfl 18 (by decide) w_867 (v := .ref (ad 99)) rfl dX12_turning_140 ?_
      refine gj_iconst C (v := 3) (by decide) dX12_turning_143 ?_
      refine gj_iload_n C 3 dX12_turning_144 rfl 1 rfl ?_
      refine gj_imul C dX12_turning_145 ?_
      refine gj_seti (y := 6) (by decide) ?_
      refine gj_iload C dX12_turning_146 0 rfl ?_
      refine gj_iadd C dX12_turning_148 ?_
      refine gj_seti (y := 7) (by decide) ?_
      refine gj_lald C 99 (by decide) (up_nx (by decide) (up_nx (by decide) (va_up_self _ _ _))) (by unfold vp_in; decide) dX12_turning_149 ?_
      refine gj_setl (y := (mSTA di so ro sta) 7) rfl ?_
      refine gj_lmul C dX12_turning_150 ?_
      refine gj_ladd C dX12_turning_151 ?_
      refine gj_last C 101 (by decide) (up_nx (by decide) (va_up_self _ _ _)) (by unfold vp_in; decide) dX12_turning_152 ?_
      refine gj_setf ((up_comm (by decide)).trans (up_un (bx_uu _ _ _ _))) ?_
      refine gj_setf (g := va_up (va_up (va_up (va_up (va_up f 87 (.inr (11, [.ref (ad 88), .ref (ad 89), .ref (ad 90), .ref (ad 91), .int la, .ref (ad 92), .ref (ad 93), .ref (ad 94), .int dr, .int go, .int lo, .int ma, .ref (ad 95), .ref (ad 96), .ref (ad 97), .ref (ad 98), .int pa, .int 0, .ref (ad 99), .ref (ad 100), .ref (ad 101), .ref (ad 102), .ref (ad 103), .ref (ad 104), .int su, .ref (ad 105), .ref (ad 106), .ref (ad 107)]))) 100 (.inl (ca 1, 9, .inr (.inl (mSPA di ro spa))))) 99 (.inl (ca 1, 9, .inr (.inl (mSTA di so ro sta))))) 101 (.inl (ca 1, 3, .inr (.inl (vp_updL (vp_updL (vp_updL (vp_updL sf 0 (((0 + (((mSTA di so ro sta) 0) * ((mSTA di so ro sta) 0))) + (((mSTA di so ro sta) 1) * ((mSTA di so ro sta) 1))) + (((mSTA di so ro sta) 2) * ((mSTA di so ro sta) 2)))) 1 (((0 + (((mSTA di so ro sta) 3) * ((mSTA di so ro sta) 3))) + (((mSTA di so ro sta) 4) * ((mSTA di so ro sta) 4))) + (((mSTA di so ro sta) 5) * ((mSTA di so ro sta) 5)))) 2 (0 + (((mSTA di so ro sta) 6) * ((mSTA di so ro sta) 6)))) 2 ((0 + (((mSTA di so ro sta) 6) * ((mSTA di so ro sta) 6))) + (((mSTA di so ro sta) 7) * ((mSTA di so ro sta) 7)))))))) 102 (.inl (ca 0, 36, .inl pl))) rfl ?_
      refine gj_setf (g := va_up (va_up (va_up (va_up (va_up f 87 (.inr (11, [.ref (ad 88), .ref (ad 89), .ref (ad 90), .ref (ad 91), .int la, .ref (ad 92), .ref (ad 93), .ref (ad 94), .int dr, .int go, .int lo, .int ma, .ref (ad 95), .ref (ad 96), .ref (ad 97), .ref (ad 98), .int pa, .int 0, .ref (ad 99), .ref (ad 100), .ref (ad 101), .ref (ad 102), .ref (ad 103), .ref (ad 104), .int su, .ref (ad 105), .ref (ad 106), .ref (ad 107)]))) 100 (.inl (ca 1, 9, .inr (.inl (mSPA di ro spa))))) 99 (.inl (ca 1, 9, .inr (.inl (mSTA di so ro sta))))) 101 (.inl (ca 1, 3, .inr (.inl (vp_updL (vp_updL (vp_updL sf 0 (((0 + (((mSTA di so ro sta) 0) * ((mSTA di so ro sta) 0))) + (((mSTA di so ro sta) 1) * ((mSTA di so ro sta) 1))) + (((mSTA di so ro sta) 2) * ((mSTA di so ro sta) 2)))) 1 (((0 + (((mSTA di so ro sta) 3) * ((mSTA di so ro sta) 3))) + (((mSTA di so ro sta) 4) * ((mSTA di so ro sta) 4))) + (((mSTA di so ro sta) 5) * ((mSTA di so ro sta) 5)))) 2 ((0 + (((mSTA di so ro sta) 6) * ((mSTA di so ro sta) 6))) + (((mSTA di so ro sta) 7) * ((mSTA di so ro sta) 7)))))))) 102 (.inl (ca 0, 36, .inl pl))) (by rw [vuu]) ?_
      refine gj_iinc C (v := 2) (lv' := [(4, .int 2), (3, .int 2), (2, .int (mSp ro (1 : Int32) 8)), (1, .int (mSp ro (0 : Int32) 8)), (0, .ref (ad 87))]) dX12_turning_153 0 rfl (by decide) (by decide) rfl ?_
      refine gj_goto C 115 dX12_turning_156 (by decide) ?_
      refine gj_iload C dX12_turning_115 0 rfl ?_
      refine gj_iconst C (v := 3) (by decide) dX12_turning_117 ?_
      refine gj_icmp_ge C 159 dX12_turning_118 (by decide) (fun c_18 => absurd c_18 (by decide)) (fun c_18 => ?_)
      refine gj_aload_n C 0 dX12_turning_121 rfl 4 rfl ?_
      refine gj_get C 87 (by decide) (up_nx (by decide) (up_nx (by decide) (up_nx (by decide) (up_nx (by decide) (va_up_self _ _ _))))) inX12 rfl 20 (by decide) w_869 (v := .ref (ad 101)) rfl dX12_turning_122 ?_
      refine gj_iload_n C 3 dX12_turning_125 rfl 1 rfl ?_
      refine gj_dup2_11 C rfl rfl dX12_turning_126 ?_
      refine gj_lald C 101 (by decide) (up_nx (by decide) (va_up_self _ _ _)) (by unfold vp_in; decide) dX12_turning_127 ?_
      refine gj_setl (y := (0 + (((mSTA di so ro sta) 6) * ((mSTA di so ro sta) 6))) + (((mSTA di so ro sta) 7) * ((mSTA di so ro sta) 7))) rfl ?_
      refine gj_aload_n C 0 dX12_turning_128 rfl 4 rfl ?_
      refine gj_get C 87 (by decide) (up_nx (by decide) (up_nx (by decide) (up_nx (by decide) (up_nx (by decide) (va_up_self _ _ _))))) inX12 rfl 18 (by decide) w_867 (v := .ref (ad 99)) rfl dX12_turning_129 ?_
      refine gj_iconst C (v := 3) (by decide) dX12_turning_132 ?_
      refine gj_iload_n C 3 dX12_turning_133 rfl 1 rfl ?_
      refine gj_imul C dX12_turning_134 ?_
      refine gj_seti (y := 6) (by decide) ?_
      refine gj_iload C dX12_turning_135 0 rfl ?_
      refine gj_iadd C dX12_turning_137 ?_
      refine gj_seti (y := 8) (by decide) ?_
      refine gj_lald C 99 (by decide) (up_nx (by decide) (up_nx (by decide) (va_up_self _ _ _))) (by unfold vp_in; decide) dX12_turning_138 ?_
      refine gj_setl (y := (mSTA di so ro sta) 8) rfl ?_
      refine gj_aload_n C 0 dX12_turning_139 rfl 4 rfl ?_
      refine gj_get C 87 (by decide) (up_nx (by decide) (up_nx (by decide) (up_nx (by decide) (up_nx (by decide) (va_up_self _ _ _))))) inX12 rfl 18 (by decide) w_867 (v := .ref (ad 99)) rfl dX12_turning_140 ?_
      refine gj_iconst C (v := 3) (by decide) dX12_turning_143 ?_
      refine gj_iload_n C 3 dX12_turning_144 rfl 1 rfl ?_
      refine gj_imul C dX12_turning_145 ?_
      refine gj_seti (y := 6) (by decide) ?_
      refine gj_iload C dX12_turning_146 0 rfl ?_
      refine gj_iadd C dX12_turning_148 ?_
      refine gj_seti (y := 8) (by decide) ?_
      refine gj_lald C 99 (by decide) (up_nx (by decide) (up_nx (by decide) (va_up_self _ _ _))) (by unfold vp_in; decide) dX12_turning_149 ?_
      refine gj_setl (y := (mSTA di so ro sta) 8) rfl ?_
      refine gj_lmul C dX12_turning_150 ?_
      refine gj_ladd C dX12_turning_151 ?_
      refine gj_last C 101 (by decide) (up_nx (by decide) (va_up_self _ _ _)) (by unfold vp_in; decide) dX12_turning_152 ?_
      refine gj_setf ((up_comm (by decide)).trans (up_un (bx_uu _ _ _ _))) ?_
      refine gj_setf (g := va_up (va_up (va_up (va_up (va_up f 87 (.inr (11, [.ref (ad 88), .ref (ad 89), .ref (ad 90), .ref (ad 91), .int la, .ref (ad 92), .ref (ad 93), .ref (ad 94), .int dr, .int go, .int lo, .int ma, .ref (ad 95), .ref (ad 96), .ref (ad 97), .ref (ad 98), .int pa, .int 0, .ref (ad 99), .ref (ad 100), .ref (ad 101), .ref (ad 102), .ref (ad 103), .ref (ad 104), .int su, .ref (ad 105), .ref (ad 106), .ref (ad 107)]))) 100 (.inl (ca 1, 9, .inr (.inl (mSPA di ro spa))))) 99 (.inl (ca 1, 9, .inr (.inl (mSTA di so ro sta))))) 101 (.inl (ca 1, 3, .inr (.inl (vp_updL (vp_updL (vp_updL (vp_updL sf 0 (((0 + (((mSTA di so ro sta) 0) * ((mSTA di so ro sta) 0))) + (((mSTA di so ro sta) 1) * ((mSTA di so ro sta) 1))) + (((mSTA di so ro sta) 2) * ((mSTA di so ro sta) 2)))) 1 (((0 + (((mSTA di so ro sta) 3) * ((mSTA di so ro sta) 3))) + (((mSTA di so ro sta) 4) * ((mSTA di so ro sta) 4))) + (((mSTA di so ro sta) 5) * ((mSTA di so ro sta) 5)))) 2 ((0 + (((mSTA di so ro sta) 6) * ((mSTA di so ro sta) 6))) + (((mSTA di so ro sta) 7) * ((mSTA di so ro sta) 7)))) 2 (((0 + (((mSTA di so ro sta) 6) * ((mSTA di so ro sta) 6))) + (((mSTA di so ro sta) 7) * ((mSTA di so ro sta) 7))) + (((mSTA di so ro sta) 8) * ((mSTA di so ro sta) 8)))))))) 102 (.inl (ca 0, 36, .inl pl))) rfl ?_
      refine gj_setf (g := va_up (va_up (va_up (va_up (va_up f 87 (.inr (11, [.ref (ad 88), .ref (ad 89), .ref (ad 90), .ref (ad 91), .int la, .ref (ad 92), .ref (ad 93), .ref (ad 94), .int dr, .int go, .int lo, .int ma, .ref (ad 95), .ref (ad 96), .ref (ad 97), .ref (ad 98), .int pa, .int 0, .ref (ad 99), .ref (ad 100), .ref (ad 101), .ref (ad 102), .ref (ad 103), .ref (ad 104), .int su, .ref (ad 105), .ref (ad 106), .ref (ad 107)]))) 100 (.inl (ca 1, 9, .inr (.inl (mSPA di ro spa))))) 99 (.inl (ca 1, 9, .inr (.inl (mSTA di so ro sta))))) 101 (.inl (ca 1, 3, .inr (.inl (vp_updL (vp_updL (vp_updL sf 0 (((0 + (((mSTA di so ro sta) 0) * ((mSTA di so ro sta) 0))) + (((mSTA di so ro sta) 1) * ((mSTA di so ro sta) 1))) + (((mSTA di so ro sta) 2) * ((mSTA di so ro sta) 2)))) 1 (((0 + (((mSTA di so ro sta) 3) * ((mSTA di so ro sta) 3))) + (((mSTA di so ro sta) 4) * ((mSTA di so ro sta) 4))) + (((mSTA di so ro sta) 5) * ((mSTA di so ro sta) 5)))) 2 (((0 + (((mSTA di so ro sta) 6) * ((mSTA di so ro sta) 6))) + (((mSTA di so ro sta) 7) * ((mSTA di so ro sta) 7))) + (((mSTA di so ro sta) 8) * ((mSTA di so ro sta) 8)))))))) 102 (.inl (ca 0, 36, .inl pl))) (by rw [vuu]) ?_
      refine gj_iinc C (v := 3) (lv' := [(4, .int 3), (3, .int 2), (2, .int (mSp ro (1 : Int32) 8)), (1, .int (mSp ro (0 : Int32) 8)), (0, .ref (ad 87))]) dX12_turning_153 0 rfl (by decide) (by decide) rfl ?_
      refine gj_goto C 115 dX12_turning_156 (by decide) ?_
      refine gj_iload C dX12_turning_115 0 rfl ?_
      refine gj_iconst C (v := 3) (by decide) dX12_turning_117 ?_
      refine gj_icmp_ge C 159 dX12_turning_118 (by decide) (fun c_19 => ?_) (fun c_19 => absurd (by decide) c_19)
      refine gj_iinc C (v := 3) (lv' := [(3, .int 3), (4, .int 3), (2, .int (mSp ro (1 : Int32) 8)), (1, .int (mSp ro (0 : Int32) 8)), (0, .ref (ad 87))]) dX12_turning_159 1 rfl (by decide) (by decide) rfl ?_
      refine gj_goto C 100 dX12_turning_162 (by decide) ?_
      refine gj_iload_n C 3 dX12_turning_100 rfl 0 rfl ?_
      refine gj_iconst C (v := 3) (by decide) dX12_turning_101 ?_
      refine gj_icmp_ge C 165 dX12_turning_102 (by decide) (fun c_20 => ?_) (fun c_20 => absurd (by decide) c_20)
      refine gj_setf (g := va_up (va_up (va_up (va_up (va_up f 87 (.inr (11, [.ref (ad 88), .ref (ad 89), .ref (ad 90), .ref (ad 91), .int la, .ref (ad 92), .ref (ad 93), .ref (ad 94), .int dr, .int go, .int lo, .int ma, .ref (ad 95), .ref (ad 96), .ref (ad 97), .ref (ad 98), .int pa, .int 0, .ref (ad 99), .ref (ad 100), .ref (ad 101), .ref (ad 102), .ref (ad 103), .ref (ad 104), .int su, .ref (ad 105), .ref (ad 106), .ref (ad 107)]))) 100 (.inl (ca 1, 9, .inr (.inl (mSPA di ro spa))))) 99 (.inl (ca 1, 9, .inr (.inl (mSTA di so ro sta))))) 101 (.inl (ca 1, 3, .inr (.inl (selfF sf (mSTA di so ro sta)))))) 102 (.inl (ca 0, 36, .inl pl))) rfl ?_
      refine gj_iconst C (v := 0) (by decide) dX12_turning_165 ?_
      refine gj_istore_n C (lv' := [(3, .int 0), (4, .int 3), (2, .int (mSp ro (1 : Int32) 8)), (1, .int (mSp ro (0 : Int32) 8)), (0, .ref (ad 87))]) 3 dX12_turning_166 rfl (by decide) rfl ?_
      refine gj_iload_n C 3 dX12_turning_167 rfl 0 rfl ?_
      refine gj_iconst C (v := 3) (by decide) dX12_turning_168 ?_
      refine gj_aload_n C 0 dX12_turning_169 rfl 4 rfl ?_
      refine gj_get C 87 (by decide) (up_nx (by decide) (up_nx (by decide) (up_nx (by decide) (up_nx (by decide) (va_up_self _ _ _))))) inX12 rfl 6 (by decide) w_855 (v := .ref (ad 93)) rfl dX12_turning_170 ?_
      refine gj_iconst C (v := 0) (by decide) dX12_turning_173 ?_
      refine gj_iald C 93 (by decide) (up_nx (by decide) (up_nx (by decide) (up_nx (by decide) (up_nx (by decide) (up_nx (by decide) (hc2)))))) (by unfold vp_in; decide) dX12_turning_174 ?_
      refine gj_seti h0 ?_
      refine gj_imul C dX12_turning_175 ?_
      refine gj_seti (y := nI (3 * n0)) (pk_mul 3 n0) ?_
      refine gj_icmp_ge C 208 dX12_turning_176 (by decide) (fun c_21 => ?_) (fun c_21 => ?_)
      · exact RT _ _ _ (by rw [show (mTurn di so ro n0 pa spa sta sf pl) = (0, mSPA di ro spa, mSTA di so ro sta, selfF sf (mSTA di so ro sta), pl) from (if_neg c_1).trans ((if_neg c_4).trans (rfl))]) dX12_turning_208
      · refine gj_aload_n C 0 dX12_turning_179 rfl 4 rfl ?_
        refine gj_get C 87 (by decide) (up_nx (by decide) (up_nx (by decide) (up_nx (by decide) (up_nx (by decide) (va_up_self _ _ _))))) inX12 rfl 17 (by decide) w_866 (v := .int 0) rfl dX12_turning_180 ?_
        refine gj_if_eq C 208 dX12_turning_183 (by decide) (fun c_22 => ?_) (fun c_22 => absurd (by decide) c_22)
        exact RT _ _ _ (by rw [show (mTurn di so ro n0 pa spa sta sf pl) = (0, mSPA di ro spa, mSTA di so ro sta, selfF sf (mSTA di so ro sta), pl) from (if_neg c_1).trans ((if_neg c_4).trans (rfl))]) dX12_turning_208
    · refine gj_aload_n C 0 dX12_turning_80 rfl 2 rfl ?_
      refine gj_get C 87 (by decide) (up_nx (by decide) (up_nx (by decide) (up_nx (by decide) (up_nx (by decide) (va_up_self _ _ _))))) inX12 rfl 18 (by decide) w_867 (v := .ref (ad 99)) rfl dX12_turning_81 ?_
      refine gj_callSi C w_1116 w_1115 (c_X12_isNone 99 (mSTA di so ro sta) (up_nx (by decide) (up_nx (by decide) (va_up_self _ _ _))) (by decide)) mc_X12_isNone ⟨Nat.le_of_ble_eq_true rfl, Nat.le_of_ble_eq_true rfl⟩ (rest := [.ref (ad 87)]) rfl (Nat.le_of_ble_eq_true rfl) dX12_turning_84 (fun r u h => ?_)
      obtain ⟨rfl, rfl⟩ := h
      refine gj_if_ne C 94 dX12_turning_87 (by decide) (fun c_23 => ?_) (fun c_23 => ?_)
      · refine gj_iconst C (v := 0) (by decide) dX12_turning_94 ?_
        refine gj_putS C 87 (by decide) (up_nx (by decide) (up_nx (by decide) (up_nx (by decide) (up_nx (by decide) (va_up_self _ _ _))))) inX12 rfl 17 (by decide) tyX12 tyX12_ok nmX12 w_866 rfl (v := .int 0) (fs' := [.ref (ad 88), .ref (ad 89), .ref (ad 90), .ref (ad 91), .int la, .ref (ad 92), .ref (ad 93), .ref (ad 94), .int dr, .int go, .int lo, .int ma, .ref (ad 95), .ref (ad 96), .ref (ad 97), .ref (ad 98), .int pa, .int 0, .ref (ad 99), .ref (ad 100), .ref (ad 101), .ref (ad 102), .ref (ad 103), .ref (ad 104), .int su, .ref (ad 105), .ref (ad 106), .ref (ad 107)]) rfl rfl (Nat.le_of_ble_eq_true rfl) rfl dX12_turning_95 ?_
        refine gj_setf ((up_comm (by decide)).trans (up_un ((up_comm (by decide)).trans (up_un ((up_comm (by decide)).trans (up_un ((up_comm (by decide)).trans (up_un (bx_uu _ _ _ _))))))))) ?_
        refine gj_iconst C (v := 0) (by decide) dX12_turning_98 ?_
        refine gj_istore_n C (lv' := [(3, .int 0), (2, .int (mSp ro (1 : Int32) 8)), (1, .int (mSp ro (0 : Int32) 8)), (0, .ref (ad 87))]) 3 dX12_turning_99 rfl (by decide) rfl ?_
        refine gj_iload_n C 3 dX12_turning_100 rfl 0 rfl ?_
        refine gj_iconst C (v := 3) (by decide) dX12_turning_101 ?_
        refine gj_icmp_ge C 165 dX12_turning_102 (by decide) (fun c_24 => absurd c_24 (by decide)) (fun c_24 => ?_)
        refine gj_aload_n C 0 dX12_turning_105 rfl 3 rfl ?_
        refine gj_get C 87 (by decide) (up_nx (by decide) (up_nx (by decide) (up_nx (by decide) (up_nx (by decide) (va_up_self _ _ _))))) inX12 rfl 20 (by decide) w_869 (v := .ref (ad 101)) rfl dX12_turning_106 ?_
        refine gj_iload_n C 3 dX12_turning_109 rfl 0 rfl ?_
        refine gj_lconst C (v := 0) rfl dX12_turning_110 ?_
        refine gj_last C 101 (by decide) (up_nx (by decide) (va_up_self _ _ _)) (by unfold vp_in; decide) dX12_turning_111 ?_
        refine gj_setf ((up_comm (by decide)).trans (up_un (bx_uu _ _ _ _))) ?_
        refine gj_setf (g := va_up (va_up (va_up (va_up (va_up f 87 (.inr (11, [.ref (ad 88), .ref (ad 89), .ref (ad 90), .ref (ad 91), .int la, .ref (ad 92), .ref (ad 93), .ref (ad 94), .int dr, .int go, .int lo, .int ma, .ref (ad 95), .ref (ad 96), .ref (ad 97), .ref (ad 98), .int pa, .int 0, .ref (ad 99), .ref (ad 100), .ref (ad 101), .ref (ad 102), .ref (ad 103), .ref (ad 104), .int su, .ref (ad 105), .ref (ad 106), .ref (ad 107)]))) 100 (.inl (ca 1, 9, .inr (.inl (mSPA di ro spa))))) 99 (.inl (ca 1, 9, .inr (.inl (mSTA di so ro sta))))) 101 (.inl (ca 1, 3, .inr (.inl (vp_updL sf 0 0))))) 102 (.inl (ca 0, 36, .inl pl))) rfl ?_
        refine gj_iconst C (v := 0) (by decide) dX12_turning_112 ?_
        refine gj_istore C (lv' := [(4, .int 0), (3, .int 0), (2, .int (mSp ro (1 : Int32) 8)), (1, .int (mSp ro (0 : Int32) 8)), (0, .ref (ad 87))]) dX12_turning_113 (by decide) rfl ?_
        refine gj_iload C dX12_turning_115 0 rfl ?_
        refine gj_iconst C (v := 3) (by decide) dX12_turning_117 ?_
        refine gj_icmp_ge C 159 dX12_turning_118 (by decide) (fun c_25 => absurd c_25 (by decide)) (fun c_25 => ?_)
        refine gj_aload_n C 0 dX12_turning_121 rfl 4 rfl ?_
        refine gj_get C 87 (by decide) (up_nx (by decide) (up_nx (by decide) (up_nx (by decide) (up_nx (by decide) (va_up_self _ _ _))))) inX12 rfl 20 (by decide) w_869 (v := .ref (ad 101)) rfl dX12_turning_122 ?_
        refine gj_iload_n C 3 dX12_turning_125 rfl 1 rfl ?_
        refine gj_dup2_11 C rfl rfl dX12_turning_126 ?_
        refine gj_lald C 101 (by decide) (up_nx (by decide) (va_up_self _ _ _)) (by unfold vp_in; decide) dX12_turning_127 ?_
        refine gj_setl (y := 0) rfl ?_
        refine gj_aload_n C 0 dX12_turning_128 rfl 4 rfl ?_
        refine gj_get C 87 (by decide) (up_nx (by decide) (up_nx (by decide) (up_nx (by decide) (up_nx (by decide) (va_up_self _ _ _))))) inX12 rfl 18 (by decide) w_867 (v := .ref (ad 99)) rfl dX12_turning_129 ?_
        refine gj_iconst C (v := 3) (by decide) dX12_turning_132 ?_
        refine gj_iload_n C 3 dX12_turning_133 rfl 1 rfl ?_
        refine gj_imul C dX12_turning_134 ?_
        refine gj_seti (y := 0) (by decide) ?_
        refine gj_iload C dX12_turning_135 0 rfl ?_
        refine gj_iadd C dX12_turning_137 ?_
        refine gj_seti (y := 0) (by decide) ?_
        refine gj_lald C 99 (by decide) (up_nx (by decide) (up_nx (by decide) (va_up_self _ _ _))) (by unfold vp_in; decide) dX12_turning_138 ?_
        refine gj_setl (y := (mSTA di so ro sta) 0) rfl ?_
        refine gj_aload_n C 0 dX12_turning_139 rfl 4 rfl ?_
        refine gj_get C 87 (by decide) (up_nx (by decide) (up_nx (by decide) (up_nx (by decide) (up_nx (by decide) (va_up_self _ _ _))))) inX12 rfl 18 (by decide) w_867 (v := .ref (ad 99)) rfl dX12_turning_140 ?_
        refine gj_iconst C (v := 3) (by decide) dX12_turning_143 ?_
        refine gj_iload_n C 3 dX12_turning_144 rfl 1 rfl ?_
        refine gj_imul C dX12_turning_145 ?_
        refine gj_seti (y := 0) (by decide) ?_
        refine gj_iload C dX12_turning_146 0 rfl ?_
        refine gj_iadd C dX12_turning_148 ?_
        refine gj_seti (y := 0) (by decide) ?_
        refine gj_lald C 99 (by decide) (up_nx (by decide) (up_nx (by decide) (va_up_self _ _ _))) (by unfold vp_in; decide) dX12_turning_149 ?_
        refine gj_setl (y := (mSTA di so ro sta) 0) rfl ?_
        refine gj_lmul C dX12_turning_150 ?_
        refine gj_ladd C dX12_turning_151 ?_
        refine gj_last C 101 (by decide) (up_nx (by decide) (va_up_self _ _ _)) (by unfold vp_in; decide) dX12_turning_152 ?_
        refine gj_setf ((up_comm (by decide)).trans (up_un (bx_uu _ _ _ _))) ?_
        refine gj_setf (g := va_up (va_up (va_up (va_up (va_up f 87 (.inr (11, [.ref (ad 88), .ref (ad 89), .ref (ad 90), .ref (ad 91), .int la, .ref (ad 92), .ref (ad 93), .ref (ad 94), .int dr, .int go, .int lo, .int ma, .ref (ad 95), .ref (ad 96), .ref (ad 97), .ref (ad 98), .int pa, .int 0, .ref (ad 99), .ref (ad 100), .ref (ad 101), .ref (ad 102), .ref (ad 103), .ref (ad 104), .int su, .ref (ad 105), .ref (ad 106), .ref (ad 107)]))) 100 (.inl (ca 1, 9, .inr (.inl (mSPA di ro spa))))) 99 (.inl (ca 1, 9, .inr (.inl (mSTA di so ro sta))))) 101 (.inl (ca 1, 3, .inr (.inl (vp_updL (vp_updL sf 0 0) 0 (0 + (((mSTA di so ro sta) 0) * ((mSTA di so ro sta) 0)))))))) 102 (.inl (ca 0, 36, .inl pl))) rfl ?_
        refine gj_setf (g := va_up (va_up (va_up (va_up (va_up f 87 (.inr (11, [.ref (ad 88), .ref (ad 89), .ref (ad 90), .ref (ad 91), .int la, .ref (ad 92), .ref (ad 93), .ref (ad 94), .int dr, .int go, .int lo, .int ma, .ref (ad 95), .ref (ad 96), .ref (ad 97), .ref (ad 98), .int pa, .int 0, .ref (ad 99), .ref (ad 100), .ref (ad 101), .ref (ad 102), .ref (ad 103), .ref (ad 104), .int su, .ref (ad 105), .ref (ad 106), .ref (ad 107)]))) 100 (.inl (ca 1, 9, .inr (.inl (mSPA di ro spa))))) 99 (.inl (ca 1, 9, .inr (.inl (mSTA di so ro sta))))) 101 (.inl (ca 1, 3, .inr (.inl (vp_updL sf 0 (0 + (((mSTA di so ro sta) 0) * ((mSTA di so ro sta) 0)))))))) 102 (.inl (ca 0, 36, .inl pl))) (by rw [vuu]) ?_
        refine gj_iinc C (v := 1) (lv' := [(4, .int 1), (3, .int 0), (2, .int (mSp ro (1 : Int32) 8)), (1, .int (mSp ro (0 : Int32) 8)), (0, .ref (ad 87))]) dX12_turning_153 0 rfl (by decide) (by decide) rfl ?_
        refine gj_goto C 115 dX12_turning_156 (by decide) ?_
        refine gj_iload C dX12_turning_115 0 rfl ?_
        refine gj_iconst C (v := 3) (by decide) dX12_turning_117 ?_
        refine gj_icmp_ge C 159 dX12_turning_118 (by decide) (fun c_26 => absurd c_26 (by decide)) (fun c_26 => ?_)
        refine gj_aload_n C 0 dX12_turning_121 rfl 4 rfl ?_
        refine gj_get C 87 (by decide) (up_nx (by decide) (up_nx (by decide) (up_nx (by decide) (up_nx (by decide) (va_up_self _ _ _))))) inX12 rfl 20 (by decide) w_869 (v := .ref (ad 101)) rfl dX12_turning_122 ?_
        refine gj_iload_n C 3 dX12_turning_125 rfl 1 rfl ?_
        refine gj_dup2_11 C rfl rfl dX12_turning_126 ?_
        refine gj_lald C 101 (by decide) (up_nx (by decide) (va_up_self _ _ _)) (by unfold vp_in; decide) dX12_turning_127 ?_
        refine gj_setl (y := 0 + (((mSTA di so ro sta) 0) * ((mSTA di so ro sta) 0))) rfl ?_
        refine gj_aload_n C 0 dX12_turning_128 rfl 4 rfl ?_
        refine gj_get C 87 (by decide) (up_nx (by decide) (up_nx (by decide) (up_nx (by decide) (up_nx (by decide) (va_up_self _ _ _))))) inX12 rfl 18 (by decide) w_867 (v := .ref (ad 99)) rfl dX12_turning_129 ?_
        refine gj_iconst C (v := 3) (by decide) dX12_turning_132 ?_
        refine gj_iload_n C 3 dX12_turning_133 rfl 1 rfl ?_
        refine gj_imul C dX12_turning_134 ?_
        refine gj_seti (y := 0) (by decide) ?_
        refine gj_iload C dX12_turning_135 0 rfl ?_
        refine gj_iadd C dX12_turning_137 ?_
        refine gj_seti (y := 1) (by decide) ?_
        refine gj_lald C 99 (by decide) (up_nx (by decide) (up_nx (by decide) (va_up_self _ _ _))) (by unfold vp_in; decide) dX12_turning_138 ?_
        refine gj_setl (y := (mSTA di so ro sta) 1) rfl ?_
        refine gj_aload_n C 0 dX12_turning_139 rfl 4 rfl ?_
        refine gj_get C 87 (by decide) (up_nx (by decide) (up_nx (by decide) (up_nx (by decide) (up_nx (by decide) (va_up_self _ _ _))))) inX12 rfl 18 (by decide) w_867 (v := .ref (ad 99)) rfl dX12_turning_140 ?_
        refine gj_iconst C (v := 3) (by decide) dX12_turning_143 ?_
        refine gj_iload_n C 3 dX12_turning_144 rfl 1 rfl ?_
        refine gj_imul C dX12_turning_145 ?_
        refine gj_seti (y := 0) (by decide) ?_
        refine gj_iload C dX12_turning_146 0 rfl ?_
        refine gj_iadd C dX12_turning_148 ?_
        refine gj_seti (y := 1) (by decide) ?_
        refine gj_lald C 99 (by decide) (up_nx (by decide) (up_nx (by decide) (va_up_self _ _ _))) (by unfold vp_in; decide) dX12_turning_149 ?_
        refine gj_setl (y := (mSTA di so ro sta) 1) rfl ?_
        refine gj_lmul C dX12_turning_150 ?_
        refine gj_ladd C dX12_turning_151 ?_
        refine gj_last C 101 (by decide) (up_nx (by decide) (va_up_self _ _ _)) (by unfold vp_in; decide) dX12_turning_152 ?_
        refine gj_setf ((up_comm (by decide)).trans (up_un (bx_uu _ _ _ _))) ?_
        refine gj_setf (g := va_up (va_up (va_up (va_up (va_up f 87 (.inr (11, [.ref (ad 88), .ref (ad 89), .ref (ad 90), .ref (ad 91), .int la, .ref (ad 92), .ref (ad 93), .ref (ad 94), .int dr, .int go, .int lo, .int ma, .ref (ad 95), .ref (ad 96), .ref (ad 97), .ref (ad 98), .int pa, .int 0, .ref (ad 99), .ref (ad 100), .ref (ad 101), .ref (ad 102), .ref (ad 103), .ref (ad 104), .int su, .ref (ad 105), .ref (ad 106), .ref (ad 107)]))) 100 (.inl (ca 1, 9, .inr (.inl (mSPA di ro spa))))) 99 (.inl (ca 1, 9, .inr (.inl (mSTA di so ro sta))))) 101 (.inl (ca 1, 3, .inr (.inl (vp_updL (vp_updL sf 0 (0 + (((mSTA di so ro sta) 0) * ((mSTA di so ro sta) 0)))) 0 ((0 + (((mSTA di so ro sta) 0) * ((mSTA di so ro sta) 0))) + (((mSTA di so ro sta) 1) * ((mSTA di so ro sta) 1)))))))) 102 (.inl (ca 0, 36, .inl pl))) rfl ?_
        refine gj_setf (g := va_up (va_up (va_up (va_up (va_up f 87 (.inr (11, [.ref (ad 88), .ref (ad 89), .ref (ad 90), .ref (ad 91), .int la, .ref (ad 92), .ref (ad 93), .ref (ad 94), .int dr, .int go, .int lo, .int ma, .ref (ad 95), .ref (ad 96), .ref (ad 97), .ref (ad 98), .int pa, .int 0, .ref (ad 99), .ref (ad 100), .ref (ad 101), .ref (ad 102), .ref (ad 103), .ref (ad 104), .int su, .ref (ad 105), .ref (ad 106), .ref (ad 107)]))) 100 (.inl (ca 1, 9, .inr (.inl (mSPA di ro spa))))) 99 (.inl (ca 1, 9, .inr (.inl (mSTA di so ro sta))))) 101 (.inl (ca 1, 3, .inr (.inl (vp_updL sf 0 ((0 + (((mSTA di so ro sta) 0) * ((mSTA di so ro sta) 0))) + (((mSTA di so ro sta) 1) * ((mSTA di so ro sta) 1)))))))) 102 (.inl (ca 0, 36, .inl pl))) (by rw [vuu]) ?_
        refine gj_iinc C (v := 2) (lv' := [(4, .int 2), (3, .int 0), (2, .int (mSp ro (1 : Int32) 8)), (1, .int (mSp ro (0 : Int32) 8)), (0, .ref (ad 87))]) dX12_turning_153 0 rfl (by decide) (by decide) rfl ?_
        refine gj_goto C 115 dX12_turning_156 (by decide) ?_
        refine gj_iload C dX12_turning_115 0 rfl ?_
        refine gj_iconst C (v := 3) (by decide) dX12_turning_117 ?_
        refine gj_icmp_ge C 159 dX12_turning_118 (by decide) (fun c_27 => absurd c_27 (by decide)) (fun c_27 => ?_)
        refine gj_aload_n C 0 dX12_turning_121 rfl 4 rfl ?_
        refine gj_get C 87 (by decide) (up_nx (by decide) (up_nx (by decide) (up_nx (by decide) (up_nx (by decide) (va_up_self _ _ _))))) inX12 rfl 20 (by decide) w_869 (v := .ref (ad 101)) rfl dX12_turning_122 ?_
        refine gj_iload_n C 3 dX12_turning_125 rfl 1 rfl ?_
        refine gj_dup2_11 C rfl rfl dX12_turning_126 ?_
        refine gj_lald C 101 (by decide) (up_nx (by decide) (va_up_self _ _ _)) (by unfold vp_in; decide) dX12_turning_127 ?_
        refine gj_setl (y := (0 + (((mSTA di so ro sta) 0) * ((mSTA di so ro sta) 0))) + (((mSTA di so ro sta) 1) * ((mSTA di so ro sta) 1))) rfl ?_
        refine gj_aload_n C 0 dX12_turning_128 rfl 4 rfl ?_
        refine gj_get C 87 (by decide) (up_nx (by decide) (up_nx (by decide) (up_nx (by decide) (up_nx (by decide) (va_up_self _ _ _))))) inX12 rfl 18 (by decide) w_867 (v := .ref (ad 99)) rfl dX12_turning_129 ?_
        refine gj_iconst C (v := 3) (by decide) dX12_turning_132 ?_
        refine gj_iload_n C 3 dX12_turning_133 rfl 1 rfl ?_
        refine gj_imul C dX12_turning_134 ?_
        refine gj_seti (y := 0) (by decide) ?_
        refine gj_iload C dX12_turning_135 0 rfl ?_
        refine gj_iadd C dX12_turning_137 ?_
        refine gj_seti (y := 2) (by decide) ?_
        refine gj_lald C 99 (by decide) (up_nx (by decide) (up_nx (by decide) (va_up_self _ _ _))) (by unfold vp_in; decide) dX12_turning_138 ?_
        refine gj_setl (y := (mSTA di so ro sta) 2) rfl ?_
        refine gj_aload_n C 0 dX12_turning_139 rfl 4 rfl ?_
        refine gj_get C 87 (by decide) (up_nx (by decide) (up_nx (by decide) (up_nx (by decide) (up_nx (by decide) (va_up_self _ _ _))))) inX12 rfl 18 (by decide) w_867 (v := .ref (ad 99)) rfl dX12_turning_140 ?_
        refine gj_iconst C (v := 3) (by decide) dX12_turning_143 ?_
        refine gj_iload_n C 3 dX12_turning_144 rfl 1 rfl ?_
        refine gj_imul C dX12_turning_145 ?_
        refine gj_seti (y := 0) (by decide) ?_
        refine gj_iload C dX12_turning_146 0 rfl ?_
        refine gj_iadd C dX12_turning_148 ?_
        refine gj_seti (y := 2) (by decide) ?_
        refine gj_lald C 99 (by decide) (up_nx (by decide) (up_nx (by decide) (va_up_self _ _ _))) (by unfold vp_in; decide) dX12_turning_149 ?_
        refine gj_setl (y := (mSTA di so ro sta) 2) rfl ?_
        refine gj_lmul C dX12_turning_150 ?_
        refine gj_ladd C dX12_turning_151 ?_
        refine gj_last C 101 (by decide) (up_nx (by decide) (va_up_self _ _ _)) (by unfold vp_in; decide) dX12_turning_152 ?_
        refine gj_setf ((up_comm (by decide)).trans (up_un (bx_uu _ _ _ _))) ?_
        refine gj_setf (g := va_up (va_up (va_up (va_up (va_up f 87 (.inr (11, [.ref (ad 88), .ref (ad 89), .ref (ad 90), .ref (ad 91), .int la, .ref (ad 92), .ref (ad 93), .ref (ad 94), .int dr, .int go, .int lo, .int ma, .ref (ad 95), .ref (ad 96), .ref (ad 97), .ref (ad 98), .int pa, .int 0, .ref (ad 99), .ref (ad 100), .ref (ad 101), .ref (ad 102), .ref (ad 103), .ref (ad 104), .int su, .ref (ad 105), .ref (ad 106), .ref (ad 107)]))) 100 (.inl (ca 1, 9, .inr (.inl (mSPA di ro spa))))) 99 (.inl (ca 1, 9, .inr (.inl (mSTA di so ro sta))))) 101 (.inl (ca 1, 3, .inr (.inl (vp_updL (vp_updL sf 0 ((0 + (((mSTA di so ro sta) 0) * ((mSTA di so ro sta) 0))) + (((mSTA di so ro sta) 1) * ((mSTA di so ro sta) 1)))) 0 (((0 + (((mSTA di so ro sta) 0) * ((mSTA di so ro sta) 0))) + (((mSTA di so ro sta) 1) * ((mSTA di so ro sta) 1))) + (((mSTA di so ro sta) 2) * ((mSTA di so ro sta) 2)))))))) 102 (.inl (ca 0, 36, .inl pl))) rfl ?_
        refine gj_setf (g := va_up (va_up (va_up (va_up (va_up f 87 (.inr (11, [.ref (ad 88), .ref (ad 89), .ref (ad 90), .ref (ad 91), .int la, .ref (ad 92), .ref (ad 93), .ref (ad 94), .int dr, .int go, .int lo, .int ma, .ref (ad 95), .ref (ad 96), .ref (ad 97), .ref (ad 98), .int pa, .int 0, .ref (ad 99), .ref (ad 100), .ref (ad 101), .ref (ad 102), .ref (ad 103), .ref (ad 104), .int su, .ref (ad 105), .ref (ad 106), .ref (ad 107)]))) 100 (.inl (ca 1, 9, .inr (.inl (mSPA di ro spa))))) 99 (.inl (ca 1, 9, .inr (.inl (mSTA di so ro sta))))) 101 (.inl (ca 1, 3, .inr (.inl (vp_updL sf 0 (((0 + (((mSTA di so ro sta) 0) * ((mSTA di so ro sta) 0))) + (((mSTA di so ro sta) 1) * ((mSTA di so ro sta) 1))) + (((mSTA di so ro sta) 2) * ((mSTA di so ro sta) 2)))))))) 102 (.inl (ca 0, 36, .inl pl))) (by rw [vuu]) ?_
        refine gj_iinc C (v := 3) (lv' := [(4, .int 3), (3, .int 0), (2, .int (mSp ro (1 : Int32) 8)), (1, .int (mSp ro (0 : Int32) 8)), (0, .ref (ad 87))]) dX12_turning_153 0 rfl (by decide) (by decide) rfl ?_
        refine gj_goto C 115 dX12_turning_156 (by decide) ?_
        refine gj_iload C dX12_turning_115 0 rfl ?_
        refine gj_iconst C (v := 3) (by decide) dX12_turning_117 ?_
        refine gj_icmp_ge C 159 dX12_turning_118 (by decide) (fun c_28 => ?_) (fun c_28 => absurd (by decide) c_28)
        refine gj_iinc C (v := 1) (lv' := [(3, .int 1), (4, .int 3), (2, .int (mSp ro (1 : Int32) 8)), (1, .int (mSp ro (0 : Int32) 8)), (0, .ref (ad 87))]) dX12_turning_159 1 rfl (by decide) (by decide) rfl ?_
        refine gj_goto C 100 dX12_turning_162 (by decide) ?_
        refine gj_iload_n C 3 dX12_turning_100 rfl 0 rfl ?_
        refine gj_iconst C (v := 3) (by decide) dX12_turning_101 ?_
        refine gj_icmp_ge C 165 dX12_turning_102 (by decide) (fun c_29 => absurd c_29 (by decide)) (fun c_29 => ?_)
        refine gj_aload_n C 0 dX12_turning_105 rfl 4 rfl ?_
        refine gj_get C 87 (by decide) (up_nx (by decide) (up_nx (by decide) (up_nx (by decide) (up_nx (by decide) (va_up_self _ _ _))))) inX12 rfl 20 (by decide) w_869 (v := .ref (ad 101)) rfl dX12_turning_106 ?_
        refine gj_iload_n C 3 dX12_turning_109 rfl 0 rfl ?_
        refine gj_lconst C (v := 0) rfl dX12_turning_110 ?_
        refine gj_last C 101 (by decide) (up_nx (by decide) (va_up_self _ _ _)) (by unfold vp_in; decide) dX12_turning_111 ?_
        refine gj_setf ((up_comm (by decide)).trans (up_un (bx_uu _ _ _ _))) ?_
        refine gj_setf (g := va_up (va_up (va_up (va_up (va_up f 87 (.inr (11, [.ref (ad 88), .ref (ad 89), .ref (ad 90), .ref (ad 91), .int la, .ref (ad 92), .ref (ad 93), .ref (ad 94), .int dr, .int go, .int lo, .int ma, .ref (ad 95), .ref (ad 96), .ref (ad 97), .ref (ad 98), .int pa, .int 0, .ref (ad 99), .ref (ad 100), .ref (ad 101), .ref (ad 102), .ref (ad 103), .ref (ad 104), .int su, .ref (ad 105), .ref (ad 106), .ref (ad 107)]))) 100 (.inl (ca 1, 9, .inr (.inl (mSPA di ro spa))))) 99 (.inl (ca 1, 9, .inr (.inl (mSTA di so ro sta))))) 101 (.inl (ca 1, 3, .inr (.inl (vp_updL (vp_updL sf 0 (((0 + (((mSTA di so ro sta) 0) * ((mSTA di so ro sta) 0))) + (((mSTA di so ro sta) 1) * ((mSTA di so ro sta) 1))) + (((mSTA di so ro sta) 2) * ((mSTA di so ro sta) 2)))) 1 0))))) 102 (.inl (ca 0, 36, .inl pl))) rfl ?_
        refine gj_iconst C (v := 0) (by decide) dX12_turning_112 ?_
        refine gj_istore C (lv' := [(4, .int 0), (3, .int 1), (2, .int (mSp ro (1 : Int32) 8)), (1, .int (mSp ro (0 : Int32) 8)), (0, .ref (ad 87))]) dX12_turning_113 (by decide) rfl ?_
        refine gj_iload C dX12_turning_115 0 rfl ?_
        refine gj_iconst C (v := 3) (by decide) dX12_turning_117 ?_
        refine gj_icmp_ge C 159 dX12_turning_118 (by decide) (fun c_30 => absurd c_30 (by decide)) (fun c_30 => ?_)
        refine gj_aload_n C 0 dX12_turning_121 rfl 4 rfl ?_
        refine gj_get C 87 (by decide) (up_nx (by decide) (up_nx (by decide) (up_nx (by decide) (up_nx (by decide) (va_up_self _ _ _))))) inX12 rfl 20 (by decide) w_869 (v := .ref (ad 101)) rfl dX12_turning_122 ?_
        refine gj_iload_n C 3 dX12_turning_125 rfl 1 rfl ?_
        refine gj_dup2_11 C rfl rfl dX12_turning_126 ?_
        refine gj_lald C 101 (by decide) (up_nx (by decide) (va_up_self _ _ _)) (by unfold vp_in; decide) dX12_turning_127 ?_
        refine gj_setl (y := 0) rfl ?_
        refine gj_aload_n C 0 dX12_turning_128 rfl 4 rfl ?_
        refine gj_get C 87 (by decide) (up_nx (by decide) (up_nx (by decide) (up_nx (by decide) (up_nx (by decide) (va_up_self _ _ _))))) inX12 rfl 18 (by decide) w_867 (v := .ref (ad 99)) rfl dX12_turning_129 ?_
        refine gj_iconst C (v := 3) (by decide) dX12_turning_132 ?_
        refine gj_iload_n C 3 dX12_turning_133 rfl 1 rfl ?_
        refine gj_imul C dX12_turning_134 ?_
        refine gj_seti (y := 3) (by decide) ?_
        refine gj_iload C dX12_turning_135 0 rfl ?_
        refine gj_iadd C dX12_turning_137 ?_
        refine gj_seti (y := 3) (by decide) ?_
        refine gj_lald C 99 (by decide) (up_nx (by decide) (up_nx (by decide) (va_up_self _ _ _))) (by unfold vp_in; decide) dX12_turning_138 ?_
        refine gj_setl (y := (mSTA di so ro sta) 3) rfl ?_
        refine gj_aload_n C 0 dX12_turning_139 rfl 4 rfl ?_
        refine gj_get C 87 (by decide) (up_nx (by decide) (up_nx (by decide) (up_nx (by decide) (up_nx (by decide) (va_up_self _ _ _))))) inX12 rfl 18 (by decide) w_867 (v := .ref (ad 99)) rfl dX12_turning_140 ?_
        refine gj_iconst C (v := 3) (by decide) dX12_turning_143 ?_
        refine gj_iload_n C 3 dX12_turning_144 rfl 1 rfl ?_
        refine gj_imul C dX12_turning_145 ?_
        refine gj_seti (y := 3) (by decide) ?_
        refine gj_iload C dX12_turning_146 0 rfl ?_
        refine gj_iadd C dX12_turning_148 ?_
        refine gj_seti (y := 3) (by decide) ?_
        refine gj_lald C 99 (by decide) (up_nx (by decide) (up_nx (by decide) (va_up_self _ _ _))) (by unfold vp_in; decide) dX12_turning_149 ?_
        refine gj_setl (y := (mSTA di so ro sta) 3) rfl ?_
        refine gj_lmul C dX12_turning_150 ?_
        refine gj_ladd C dX12_turning_151 ?_
        refine gj_last C 101 (by decide) (up_nx (by decide) (va_up_self _ _ _)) (by unfold vp_in; decide) dX12_turning_152 ?_
        refine gj_setf ((up_comm (by decide)).trans (up_un (bx_uu _ _ _ _))) ?_
        refine gj_setf (g := va_up (va_up (va_up (va_up (va_up f 87 (.inr (11, [.ref (ad 88), .ref (ad 89), .ref (ad 90), .ref (ad 91), .int la, .ref (ad 92), .ref (ad 93), .ref (ad 94), .int dr, .int go, .int lo, .int ma, .ref (ad 95), .ref (ad 96), .ref (ad 97), .ref (ad 98), .int pa, .int 0, .ref (ad 99), .ref (ad 100), .ref (ad 101), .ref (ad 102), .ref (ad 103), .ref (ad 104), .int su, .ref (ad 105), .ref (ad 106), .ref (ad 107)]))) 100 (.inl (ca 1, 9, .inr (.inl (mSPA di ro spa))))) 99 (.inl (ca 1, 9, .inr (.inl (mSTA di so ro sta))))) 101 (.inl (ca 1, 3, .inr (.inl (vp_updL (vp_updL (vp_updL sf 0 (((0 + (((mSTA di so ro sta) 0) * ((mSTA di so ro sta) 0))) + (((mSTA di so ro sta) 1) * ((mSTA di so ro sta) 1))) + (((mSTA di so ro sta) 2) * ((mSTA di so ro sta) 2)))) 1 0) 1 (0 + (((mSTA di so ro sta) 3) * ((mSTA di so ro sta) 3)))))))) 102 (.inl (ca 0, 36, .inl pl))) rfl ?_
        refine gj_setf (g := va_up (va_up (va_up (va_up (va_up f 87 (.inr (11, [.ref (ad 88), .ref (ad 89), .ref (ad 90), .ref (ad 91), .int la, .ref (ad 92), .ref (ad 93), .ref (ad 94), .int dr, .int go, .int lo, .int ma, .ref (ad 95), .ref (ad 96), .ref (ad 97), .ref (ad 98), .int pa, .int 0, .ref (ad 99), .ref (ad 100), .ref (ad 101), .ref (ad 102), .ref (ad 103), .ref (ad 104), .int su, .ref (ad 105), .ref (ad 106), .ref (ad 107)]))) 100 (.inl (ca 1, 9, .inr (.inl (mSPA di ro spa))))) 99 (.inl (ca 1, 9, .inr (.inl (mSTA di so ro sta))))) 101 (.inl (ca 1, 3, .inr (.inl (vp_updL (vp_updL sf 0 (((0 + (((mSTA di so ro sta) 0) * ((mSTA di so ro sta) 0))) + (((mSTA di so ro sta) 1) * ((mSTA di so ro sta) 1))) + (((mSTA di so ro sta) 2) * ((mSTA di so ro sta) 2)))) 1 (0 + (((mSTA di so ro sta) 3) * ((mSTA di so ro sta) 3)))))))) 102 (.inl (ca 0, 36, .inl pl))) (by rw [vuu]) ?_
        refine gj_iinc C (v := 1) (lv' := [(4, .int 1), (3, .int 1), (2, .int (mSp ro (1 : Int32) 8)), (1, .int (mSp ro (0 : Int32) 8)), (0, .ref (ad 87))]) dX12_turning_153 0 rfl (by decide) (by decide) rfl ?_
        refine gj_goto C 115 dX12_turning_156 (by decide) ?_
        refine gj_iload C dX12_turning_115 0 rfl ?_
        refine gj_iconst C (v := 3) (by decide) dX12_turning_117 ?_
        refine gj_icmp_ge C 159 dX12_turning_118 (by decide) (fun c_31 => absurd c_31 (by decide)) (fun c_31 => ?_)
        refine gj_aload_n C 0 dX12_turning_121 rfl 4 rfl ?_
        refine gj_get C 87 (by decide) (up_nx (by decide) (up_nx (by decide) (up_nx (by decide) (up_nx (by decide) (va_up_self _ _ _))))) inX12 rfl 20 (by decide) w_869 (v := .ref (ad 101)) rfl dX12_turning_122 ?_
        refine gj_iload_n C 3 dX12_turning_125 rfl 1 rfl ?_
        refine gj_dup2_11 C rfl rfl dX12_turning_126 ?_
        refine gj_lald C 101 (by decide) (up_nx (by decide) (va_up_self _ _ _)) (by unfold vp_in; decide) dX12_turning_127 ?_
        refine gj_setl (y := 0 + (((mSTA di so ro sta) 3) * ((mSTA di so ro sta) 3))) rfl ?_
        refine gj_aload_n C 0 dX12_turning_128 rfl 4 rfl ?_
        refine gj_get C 87 (by decide) (up_nx (by decide) (up_nx (by decide) (up_nx (by decide) (up_nx (by decide) (va_up_self _ _ _))))) inX12 rfl 18 (by decide) w_867 (v := .ref (ad 99)) rfl dX12_turning_129 ?_
        refine gj_iconst C (v := 3) (by decide) dX12_turning_132 ?_
        refine gj_iload_n C 3 dX12_turning_133 rfl 1 rfl ?_
        refine gj_imul C dX12_turning_134 ?_
        refine gj_seti (y := 3) (by decide) ?_
        refine gj_iload C dX12_turning_135 0 rfl ?_
        refine gj_iadd C dX12_turning_137 ?_
        refine gj_seti (y := 4) (by decide) ?_
        refine gj_lald C 99 (by decide) (up_nx (by decide) (up_nx (by decide) (va_up_self _ _ _))) (by unfold vp_in; decide) dX12_turning_138 ?_
        refine gj_setl (y := (mSTA di so ro sta) 4) rfl ?_
        refine gj_aload_n C 0 dX12_turning_139 rfl 4 rfl ?_
        refine gj_get C 87 (by decide) (up_nx (by decide) (up_nx (by decide) (up_nx (by decide) (up_nx (by decide) (va_up_self _ _ _))))) inX12 rfl 18 (by decide) w_867 (v := .ref (ad 99)) rfl dX12_turning_140 ?_
        refine gj_iconst C (v := 3) (by decide) dX12_turning_143 ?_
        refine gj_iload_n C 3 dX12_turning_144 rfl 1 rfl ?_
        refine gj_imul C dX12_turning_145 ?_
        refine gj_seti (y := 3) (by decide) ?_
        refine gj_iload C dX12_turning_146 0 rfl ?_
        refine gj_iadd C dX12_turning_148 ?_
        refine gj_seti (y := 4) (by decide) ?_
        refine gj_lald C 99 (by decide) (up_nx (by decide) (up_nx (by decide) (va_up_self _ _ _))) (by unfold vp_in; decide) dX12_turning_149 ?_
        refine gj_setl (y := (mSTA di so ro sta) 4) rfl ?_
        refine gj_lmul C dX12_turning_150 ?_
        refine gj_ladd C dX12_turning_151 ?_
        refine gj_last C 101 (by decide) (up_nx (by decide) (va_up_self _ _ _)) (by unfold vp_in; decide) dX12_turning_152 ?_
        refine gj_setf ((up_comm (by decide)).trans (up_un (bx_uu _ _ _ _))) ?_
        refine gj_setf (g := va_up (va_up (va_up (va_up (va_up f 87 (.inr (11, [.ref (ad 88), .ref (ad 89), .ref (ad 90), .ref (ad 91), .int la, .ref (ad 92), .ref (ad 93), .ref (ad 94), .int dr, .int go, .int lo, .int ma, .ref (ad 95), .ref (ad 96), .ref (ad 97), .ref (ad 98), .int pa, .int 0, .ref (ad 99), .ref (ad 100), .ref (ad 101), .ref (ad 102), .ref (ad 103), .ref (ad 104), .int su, .ref (ad 105), .ref (ad 106), .ref (ad 107)]))) 100 (.inl (ca 1, 9, .inr (.inl (mSPA di ro spa))))) 99 (.inl (ca 1, 9, .inr (.inl (mSTA di so ro sta))))) 101 (.inl (ca 1, 3, .inr (.inl (vp_updL (vp_updL (vp_updL sf 0 (((0 + (((mSTA di so ro sta) 0) * ((mSTA di so ro sta) 0))) + (((mSTA di so ro sta) 1) * ((mSTA di so ro sta) 1))) + (((mSTA di so ro sta) 2) * ((mSTA di so ro sta) 2)))) 1 (0 + (((mSTA di so ro sta) 3) * ((mSTA di so ro sta) 3)))) 1 ((0 + (((mSTA di so ro sta) 3) * ((mSTA di so ro sta) 3))) + (((mSTA di so ro sta) 4) * ((mSTA di so ro sta) 4)))))))) 102 (.inl (ca 0, 36, .inl pl))) rfl ?_
        refine gj_setf (g := va_up (va_up (va_up (va_up (va_up f 87 (.inr (11, [.ref (ad 88), .ref (ad 89), .ref (ad 90), .ref (ad 91), .int la, .ref (ad 92), .ref (ad 93), .ref (ad 94), .int dr, .int go, .int lo, .int ma, .ref (ad 95), .ref (ad 96), .ref (ad 97), .ref (ad 98), .int pa, .int 0, .ref (ad 99), .ref (ad 100), .ref (ad 101), .ref (ad 102), .ref (ad 103), .ref (ad 104), .int su, .ref (ad 105), .ref (ad 106), .ref (ad 107)]))) 100 (.inl (ca 1, 9, .inr (.inl (mSPA di ro spa))))) 99 (.inl (ca 1, 9, .inr (.inl (mSTA di so ro sta))))) 101 (.inl (ca 1, 3, .inr (.inl (vp_updL (vp_updL sf 0 (((0 + (((mSTA di so ro sta) 0) * ((mSTA di so ro sta) 0))) + (((mSTA di so ro sta) 1) * ((mSTA di so ro sta) 1))) + (((mSTA di so ro sta) 2) * ((mSTA di so ro sta) 2)))) 1 ((0 + (((mSTA di so ro sta) 3) * ((mSTA di so ro sta) 3))) + (((mSTA di so ro sta) 4) * ((mSTA di so ro sta) 4)))))))) 102 (.inl (ca 0, 36, .inl pl))) (by rw [vuu]) ?_
        refine gj_iinc C (v := 2) (lv' := [(4, .int 2), (3, .int 1), (2, .int (mSp ro (1 : Int32) 8)), (1, .int (mSp ro (0 : Int32) 8)), (0, .ref (ad 87))]) dX12_turning_153 0 rfl (by decide) (by decide) rfl ?_
        refine gj_goto C 115 dX12_turning_156 (by decide) ?_
        refine gj_iload C dX12_turning_115 0 rfl ?_
        refine gj_iconst C (v := 3) (by decide) dX12_turning_117 ?_
        refine gj_icmp_ge C 159 dX12_turning_118 (by decide) (fun c_32 => absurd c_32 (by decide)) (fun c_32 => ?_)
        refine gj_aload_n C 0 dX12_turning_121 rfl 4 rfl ?_
        refine gj_get C 87 (by decide) (up_nx (by decide) (up_nx (by decide) (up_nx (by decide) (up_nx (by decide) (va_up_self _ _ _))))) inX12 rfl 20 (by decide) w_869 (v := .ref (ad 101)) rfl dX12_turning_122 ?_
        refine gj_iload_n C 3 dX12_turning_125 rfl 1 rfl ?_
        refine gj_dup2_11 C rfl rfl dX12_turning_126 ?_
        refine gj_lald C 101 (by decide) (up_nx (by decide) (va_up_self _ _ _)) (by unfold vp_in; decide) dX12_turning_127 ?_
        refine gj_setl (y := (0 + (((mSTA di so ro sta) 3) * ((mSTA di so ro sta) 3))) + (((mSTA di so ro sta) 4) * ((mSTA di so ro sta) 4))) rfl ?_
        refine gj_aload_n C 0 dX12_turning_128 rfl 4 rfl ?_
        refine gj_get C 87 (by decide) (up_nx (by decide) (up_nx (by decide) (up_nx (by decide) (up_nx (by decide) (va_up_self _ _ _))))) inX12 rfl 18 (by decide) w_867 (v := .ref (ad 99)) rfl dX12_turning_129 ?_
        refine gj_iconst C (v := 3) (by decide) dX12_turning_132 ?_
        refine gj_iload_n C 3 dX12_turning_133 rfl 1 rfl ?_
        refine gj_imul C dX12_turning_134 ?_
        refine gj_seti (y := 3) (by decide) ?_
        refine gj_iload C dX12_turning_135 0 rfl ?_
        refine gj_iadd C dX12_turning_137 ?_
        refine gj_seti (y := 5) (by decide) ?_
        refine gj_lald C 99 (by decide) (up_nx (by decide) (up_nx (by decide) (va_up_self _ _ _))) (by unfold vp_in; decide) dX12_turning_138 ?_
        refine gj_setl (y := (mSTA di so ro sta) 5) rfl ?_
        refine gj_aload_n C 0 dX12_turning_139 rfl 4 rfl ?_
        refine gj_get C 87 (by decide) (up_nx (by decide) (up_nx (by decide) (up_nx (by decide) (up_nx (by decide) (va_up_self _ _ _))))) inX12 rfl 18 (by decide) w_867 (v := .ref (ad 99)) rfl dX12_turning_140 ?_
        refine gj_iconst C (v := 3) (by decide) dX12_turning_143 ?_
        refine gj_iload_n C 3 dX12_turning_144 rfl 1 rfl ?_
        refine gj_imul C dX12_turning_145 ?_
        refine gj_seti (y := 3) (by decide) ?_
        refine gj_iload C dX12_turning_146 0 rfl ?_
        refine gj_iadd C dX12_turning_148 ?_
        refine gj_seti (y := 5) (by decide) ?_
        refine gj_lald C 99 (by decide) (up_nx (by decide) (up_nx (by decide) (va_up_self _ _ _))) (by unfold vp_in; decide) dX12_turning_149 ?_
        refine gj_setl (y := (mSTA di so ro sta) 5) rfl ?_
        refine gj_lmul C dX12_turning_150 ?_
        refine gj_ladd C dX12_turning_151 ?_
        refine gj_last C 101 (by decide) (up_nx (by decide) (va_up_self _ _ _)) (by unfold vp_in; decide) dX12_turning_152 ?_
        refine gj_setf ((up_comm (by decide)).trans (up_un (bx_uu _ _ _ _))) ?_
        refine gj_setf (g := va_up (va_up (va_up (va_up (va_up f 87 (.inr (11, [.ref (ad 88), .ref (ad 89), .ref (ad 90), .ref (ad 91), .int la, .ref (ad 92), .ref (ad 93), .ref (ad 94), .int dr, .int go, .int lo, .int ma, .ref (ad 95), .ref (ad 96), .ref (ad 97), .ref (ad 98), .int pa, .int 0, .ref (ad 99), .ref (ad 100), .ref (ad 101), .ref (ad 102), .ref (ad 103), .ref (ad 104), .int su, .ref (ad 105), .ref (ad 106), .ref (ad 107)]))) 100 (.inl (ca 1, 9, .inr (.inl (mSPA di ro spa))))) 99 (.inl (ca 1, 9, .inr (.inl (mSTA di so ro sta))))) 101 (.inl (ca 1, 3, .inr (.inl (vp_updL (vp_updL (vp_updL sf 0 (((0 + (((mSTA di so ro sta) 0) * ((mSTA di so ro sta) 0))) + (((mSTA di so ro sta) 1) * ((mSTA di so ro sta) 1))) + (((mSTA di so ro sta) 2) * ((mSTA di so ro sta) 2)))) 1 ((0 + (((mSTA di so ro sta) 3) * ((mSTA di so ro sta) 3))) + (((mSTA di so ro sta) 4) * ((mSTA di so ro sta) 4)))) 1 (((0 + (((mSTA di so ro sta) 3) * ((mSTA di so ro sta) 3))) + (((mSTA di so ro sta) 4) * ((mSTA di so ro sta) 4))) + (((mSTA di so ro sta) 5) * ((mSTA di so ro sta) 5)))))))) 102 (.inl (ca 0, 36, .inl pl))) rfl ?_
        refine gj_setf (g := va_up (va_up (va_up (va_up (va_up f 87 (.inr (11, [.ref (ad 88), .ref (ad 89), .ref (ad 90), .ref (ad 91), .int la, .ref (ad 92), .ref (ad 93), .ref (ad 94), .int dr, .int go, .int lo, .int ma, .ref (ad 95), .ref (ad 96), .ref (ad 97), .ref (ad 98), .int pa, .int 0, .ref (ad 99), .ref (ad 100), .ref (ad 101), .ref (ad 102), .ref (ad 103), .ref (ad 104), .int su, .ref (ad 105), .ref (ad 106), .ref (ad 107)]))) 100 (.inl (ca 1, 9, .inr (.inl (mSPA di ro spa))))) 99 (.inl (ca 1, 9, .inr (.inl (mSTA di so ro sta))))) 101 (.inl (ca 1, 3, .inr (.inl (vp_updL (vp_updL sf 0 (((0 + (((mSTA di so ro sta) 0) * ((mSTA di so ro sta) 0))) + (((mSTA di so ro sta) 1) * ((mSTA di so ro sta) 1))) + (((mSTA di so ro sta) 2) * ((mSTA di so ro sta) 2)))) 1 (((0 + (((mSTA di so ro sta) 3) * ((mSTA di so ro sta) 3))) + (((mSTA di so ro sta) 4) * ((mSTA di so ro sta) 4))) + (((mSTA di so ro sta) 5) * ((mSTA di so ro sta) 5)))))))) 102 (.inl (ca 0, 36, .inl pl))) (by rw [vuu]) ?_
        refine gj_iinc C (v := 3) (lv' := [(4, .int 3), (3, .int 1), (2, .int (mSp ro (1 : Int32) 8)), (1, .int (mSp ro (0 : Int32) 8)), (0, .ref (ad 87))]) dX12_turning_153 0 rfl (by decide) (by decide) rfl ?_
        refine gj_goto C 115 dX12_turning_156 (by decide) ?_
        refine gj_iload C dX12_turning_115 0 rfl ?_
        refine gj_iconst C (v := 3) (by decide) dX12_turning_117 ?_
        refine gj_icmp_ge C 159 dX12_turning_118 (by decide) (fun c_33 => ?_) (fun c_33 => absurd (by decide) c_33)
        refine gj_iinc C (v := 2) (lv' := [(3, .int 2), (4, .int 3), (2, .int (mSp ro (1 : Int32) 8)), (1, .int (mSp ro (0 : Int32) 8)), (0, .ref (ad 87))]) dX12_turning_159 1 rfl (by decide) (by decide) rfl ?_
        refine gj_goto C 100 dX12_turning_162 (by decide) ?_
        refine gj_iload_n C 3 dX12_turning_100 rfl 0 rfl ?_
        refine gj_iconst C (v := 3) (by decide) dX12_turning_101 ?_
        refine gj_icmp_ge C 165 dX12_turning_102 (by decide) (fun c_34 => absurd c_34 (by decide)) (fun c_34 => ?_)
        refine gj_aload_n C 0 dX12_turning_105 rfl 4 rfl ?_
        refine gj_get C 87 (by decide) (up_nx (by decide) (up_nx (by decide) (up_nx (by decide) (up_nx (by decide) (va_up_self _ _ _))))) inX12 rfl 20 (by decide) w_869 (v := .ref (ad 101)) rfl dX12_turning_106 ?_
        refine gj_iload_n C 3 dX12_turning_109 rfl 0 rfl ?_
        refine gj_lconst C (v := 0) rfl dX12_turning_110 ?_
        refine gj_last C 101 (by decide) (up_nx (by decide) (va_up_self _ _ _)) (by unfold vp_in; decide) dX12_turning_111 ?_
        refine gj_setf ((up_comm (by decide)).trans (up_un (bx_uu _ _ _ _))) ?_
        refine gj_setf (g := va_up (va_up (va_up (va_up (va_up f 87 (.inr (11, [.ref (ad 88), .ref (ad 89), .ref (ad 90), .ref (ad 91), .int la, .ref (ad 92), .ref (ad 93), .ref (ad 94), .int dr, .int go, .int lo, .int ma, .ref (ad 95), .ref (ad 96), .ref (ad 97), .ref (ad 98), .int pa, .int 0, .ref (ad 99), .ref (ad 100), .ref (ad 101), .ref (ad 102), .ref (ad 103), .ref (ad 104), .int su, .ref (ad 105), .ref (ad 106), .ref (ad 107)]))) 100 (.inl (ca 1, 9, .inr (.inl (mSPA di ro spa))))) 99 (.inl (ca 1, 9, .inr (.inl (mSTA di so ro sta))))) 101 (.inl (ca 1, 3, .inr (.inl (vp_updL (vp_updL (vp_updL sf 0 (((0 + (((mSTA di so ro sta) 0) * ((mSTA di so ro sta) 0))) + (((mSTA di so ro sta) 1) * ((mSTA di so ro sta) 1))) + (((mSTA di so ro sta) 2) * ((mSTA di so ro sta) 2)))) 1 (((0 + (((mSTA di so ro sta) 3) * ((mSTA di so ro sta) 3))) + (((mSTA di so ro sta) 4) * ((mSTA di so ro sta) 4))) + (((mSTA di so ro sta) 5) * ((mSTA di so ro sta) 5)))) 2 0))))) 102 (.inl (ca 0, 36, .inl pl))) rfl ?_
        refine gj_iconst C (v := 0) (by decide) dX12_turning_112 ?_
        refine gj_istore C (lv' := [(4, .int 0), (3, .int 2), (2, .int (mSp ro (1 : Int32) 8)), (1, .int (mSp ro (0 : Int32) 8)), (0, .ref (ad 87))]) dX12_turning_113 (by decide) rfl ?_
        refine gj_iload C dX12_turning_115 0 rfl ?_
        refine gj_iconst C (v := 3) (by decide) dX12_turning_117 ?_
        refine gj_icmp_ge C 159 dX12_turning_118 (by decide) (fun c_35 => absurd c_35 (by decide)) (fun c_35 => ?_)
        refine gj_aload_n C 0 dX12_turning_121 rfl 4 rfl ?_
        refine gj_get C 87 (by decide) (up_nx (by decide) (up_nx (by decide) (up_nx (by decide) (up_nx (by decide) (va_up_self _ _ _))))) inX12 rfl 20 (by decide) w_869 (v := .ref (ad 101)) rfl dX12_turning_122 ?_
        refine gj_iload_n C 3 dX12_turning_125 rfl 1 rfl ?_
        refine gj_dup2_11 C rfl rfl dX12_turning_126 ?_
        refine gj_lald C 101 (by decide) (up_nx (by decide) (va_up_self _ _ _)) (by unfold vp_in; decide) dX12_turning_127 ?_
        refine gj_setl (y := 0) rfl ?_
        refine gj_aload_n C 0 dX12_turning_128 rfl 4 rfl ?_
        refine gj_get C 87 (by decide) (up_nx (by decide) (up_nx (by decide) (up_nx (by decide) (up_nx (by decide) (va_up_self _ _ _))))) inX12 rfl 18 (by decide) w_867 (v := .ref (ad 99)) rfl dX12_turning_129 ?_
        refine gj_iconst C (v := 3) (by decide) dX12_turning_132 ?_
        refine gj_iload_n C 3 dX12_turning_133 rfl 1 rfl ?_
        refine gj_imul C dX12_turning_134 ?_
        refine gj_seti (y := 6) (by decide) ?_
        refine gj_iload C dX12_turning_135 0 rfl ?_
        refine gj_iadd C dX12_turning_137 ?_
        refine gj_seti (y := 6) (by decide) ?_
        refine gj_lald C 99 (by decide) (up_nx (by decide) (up_nx (by decide) (va_up_self _ _ _))) (by unfold vp_in; decide) dX12_turning_138 ?_
        refine gj_setl (y := (mSTA di so ro sta) 6) rfl ?_
        refine gj_aload_n C 0 dX12_turning_139 rfl 4 rfl ?_
        refine gj_get C 87 (by decide) (up_nx (by decide) (up_nx (by decide) (up_nx (by decide) (up_nx (by decide) (va_up_self _ _ _))))) inX12 rfl 18 (by decide) w_867 (v := .ref (ad 99)) rfl dX12_turning_140 ?_
        refine gj_iconst C (v := 3) (by decide) dX12_turning_143 ?_
        refine gj_iload_n C 3 dX12_turning_144 rfl 1 rfl ?_
        refine gj_imul C dX12_turning_145 ?_
        refine gj_seti (y := 6) (by decide) ?_
        refine gj_iload C dX12_turning_146 0 rfl ?_
        refine gj_iadd C dX12_turning_148 ?_
        refine gj_seti (y := 6) (by decide) ?_
        refine gj_lald C 99 (by decide) (up_nx (by decide) (up_nx (by decide) (va_up_self _ _ _))) (by unfold vp_in; decide) dX12_turning_149 ?_
        refine gj_setl (y := (mSTA di so ro sta) 6) rfl ?_
        refine gj_lmul C dX12_turning_150 ?_
        refine gj_ladd C dX12_turning_151 ?_
        refine gj_last C 101 (by decide) (up_nx (by decide) (va_up_self _ _ _)) (by unfold vp_in; decide) dX12_turning_152 ?_
        refine gj_setf ((up_comm (by decide)).trans (up_un (bx_uu _ _ _ _))) ?_
        refine gj_setf (g := va_up (va_up (va_up (va_up (va_up f 87 (.inr (11, [.ref (ad 88), .ref (ad 89), .ref (ad 90), .ref (ad 91), .int la, .ref (ad 92), .ref (ad 93), .ref (ad 94), .int dr, .int go, .int lo, .int ma, .ref (ad 95), .ref (ad 96), .ref (ad 97), .ref (ad 98), .int pa, .int 0, .ref (ad 99), .ref (ad 100), .ref (ad 101), .ref (ad 102), .ref (ad 103), .ref (ad 104), .int su, .ref (ad 105), .ref (ad 106), .ref (ad 107)]))) 100 (.inl (ca 1, 9, .inr (.inl (mSPA di ro spa))))) 99 (.inl (ca 1, 9, .inr (.inl (mSTA di so ro sta))))) 101 (.inl (ca 1, 3, .inr (.inl (vp_updL (vp_updL (vp_updL (vp_updL sf 0 (((0 + (((mSTA di so ro sta) 0) * ((mSTA di so ro sta) 0))) + (((mSTA di so ro sta) 1) * ((mSTA di so ro sta) 1))) + (((mSTA di so ro sta) 2) * ((mSTA di so ro sta) 2)))) 1 (((0 + (((mSTA di so ro sta) 3) * ((mSTA di so ro sta) 3))) + (((mSTA di so ro sta) 4) * ((mSTA di so ro sta) 4))) + (((mSTA di so ro sta) 5) * ((mSTA di so ro sta) 5)))) 2 0) 2 (0 + (((mSTA di so ro sta) 6) * ((mSTA di so ro sta) 6)))))))) 102 (.inl (ca 0, 36, .inl pl))) rfl ?_
        refine gj_setf (g := va_up (va_up (va_up (va_up (va_up f 87 (.inr (11, [.ref (ad 88), .ref (ad 89), .ref (ad 90), .ref (ad 91), .int la, .ref (ad 92), .ref (ad 93), .ref (ad 94), .int dr, .int go, .int lo, .int ma, .ref (ad 95), .ref (ad 96), .ref (ad 97), .ref (ad 98), .int pa, .int 0, .ref (ad 99), .ref (ad 100), .ref (ad 101), .ref (ad 102), .ref (ad 103), .ref (ad 104), .int su, .ref (ad 105), .ref (ad 106), .ref (ad 107)]))) 100 (.inl (ca 1, 9, .inr (.inl (mSPA di ro spa))))) 99 (.inl (ca 1, 9, .inr (.inl (mSTA di so ro sta))))) 101 (.inl (ca 1, 3, .inr (.inl (vp_updL (vp_updL (vp_updL sf 0 (((0 + (((mSTA di so ro sta) 0) * ((mSTA di so ro sta) 0))) + (((mSTA di so ro sta) 1) * ((mSTA di so ro sta) 1))) + (((mSTA di so ro sta) 2) * ((mSTA di so ro sta) 2)))) 1 (((0 + (((mSTA di so ro sta) 3) * ((mSTA di so ro sta) 3))) + (((mSTA di so ro sta) 4) * ((mSTA di so ro sta) 4))) + (((mSTA di so ro sta) 5) * ((mSTA di so ro sta) 5)))) 2 (0 + (((mSTA di so ro sta) 6) * ((mSTA di so ro sta) 6)))))))) 102 (.inl (ca 0, 36, .inl pl))) (by rw [vuu]) ?_
        refine gj_iinc C (v := 1) (lv' := [(4, .int 1), (3, .int 2), (2, .int (mSp ro (1 : Int32) 8)), (1, .int (mSp ro (0 : Int32) 8)), (0, .ref (ad 87))]) dX12_turning_153 0 rfl (by decide) (by decide) rfl ?_
        refine gj_goto C 115 dX12_turning_156 (by decide) ?_
        refine gj_iload C dX12_turning_115 0 rfl ?_
        refine gj_iconst C (v := 3) (by decide) dX12_turning_117 ?_
        refine gj_icmp_ge C 159 dX12_turning_118 (by decide) (fun c_36 => absurd c_36 (by decide)) (fun c_36 => ?_)
        refine gj_aload_n C 0 dX12_turning_121 rfl 4 rfl ?_
        refine gj_get C 87 (by decide) (up_nx (by decide) (up_nx (by decide) (up_nx (by decide) (up_nx (by decide) (va_up_self _ _ _))))) inX12 rfl 20 (by decide) w_869 (v := .ref (ad 101)) rfl dX12_turning_122 ?_
        refine gj_iload_n C 3 dX12_turning_125 rfl 1 rfl ?_
        refine gj_dup2_11 C rfl rfl dX12_turning_126 ?_
        refine gj_lald C 101 (by decide) (up_nx (by decide) (va_up_self _ _ _)) (by unfold vp_in; decide) dX12_turning_127 ?_
        refine gj_setl (y := 0 + (((mSTA di so ro sta) 6) * ((mSTA di so ro sta) 6))) rfl ?_
        refine gj_aload_n C 0 dX12_turning_128 rfl 4 rfl ?_
        refine gj_get C 87 (by decide) (up_nx (by decide) (up_nx (by decide) (up_nx (by decide) (up_nx (by decide) (va_up_self _ _ _))))) inX12 rfl 18 (by decide) w_867 (v := .ref (ad 99)) rfl dX12_turning_129 ?_
        refine gj_iconst C (v := 3) (by decide) dX12_turning_132 ?_
        refine gj_iload_n C 3 dX12_turning_133 rfl 1 rfl ?_
        refine gj_imul C dX12_turning_134 ?_
        refine gj_seti (y := 6) (by decide) ?_
        refine gj_iload C dX12_turning_135 0 rfl ?_
        refine gj_iadd C dX12_turning_137 ?_
        refine gj_seti (y := 7) (by decide) ?_
        refine gj_lald C 99 (by decide) (up_nx (by decide) (up_nx (by decide) (va_up_self _ _ _))) (by unfold vp_in; decide) dX12_turning_138 ?_
        refine gj_setl (y := (mSTA di so ro sta) 7) rfl ?_
        refine gj_aload_n C 0 dX12_turning_139 rfl 4 rfl ?_
        refine gj_get C 87 (by decide) (up_nx (by decide) (up_nx (by decide) (up_nx (by decide) (up_nx (by decide) (va_up_self _ _ _))))) inX12 rfl 18 (by decide) w_867 (v := .ref (ad 99)) rfl dX12_turning_140 ?_
        refine gj_iconst C (v := 3) (by decide) dX12_turning_143 ?_
        refine gj_iload_n C 3 dX12_turning_144 rfl 1 rfl ?_
        refine gj_imul C dX12_turning_145 ?_
        refine gj_seti (y := 6) (by decide) ?_
        refine gj_iload C dX12_turning_146 0 rfl ?_
        refine gj_iadd C dX12_turning_148 ?_
        refine gj_seti (y := 7) (by decide) ?_
        refine gj_lald C 99 (by decide) (up_nx (by decide) (up_nx (by decide) (va_up_self _ _ _))) (by unfold vp_in; decide) dX12_turning_149 ?_
        refine gj_setl (y := (mSTA di so ro sta) 7) rfl ?_
        refine gj_lmul C dX12_turning_150 ?_
        refine gj_ladd C dX12_turning_151 ?_
        refine gj_last C 101 (by decide) (up_nx (by decide) (va_up_self _ _ _)) (by unfold vp_in; decide) dX12_turning_152 ?_
        refine gj_setf ((up_comm (by decide)).trans (up_un (bx_uu _ _ _ _))) ?_
        refine gj_setf (g := va_up (va_up (va_up (va_up (va_up f 87 (.inr (11, [.ref (ad 88), .ref (ad 89), .ref (ad 90), .ref (ad 91), .int la, .ref (ad 92), .ref (ad 93), .ref (ad 94), .int dr, .int go, .int lo, .int ma, .ref (ad 95), .ref (ad 96), .ref (ad 97), .ref (ad 98), .int pa, .int 0, .ref (ad 99), .ref (ad 100), .ref (ad 101), .ref (ad 102), .ref (ad 103), .ref (ad 104), .int su, .ref (ad 105), .ref (ad 106), .ref (ad 107)]))) 100 (.inl (ca 1, 9, .inr (.inl (mSPA di ro spa))))) 99 (.inl (ca 1, 9, .inr (.inl (mSTA di so ro sta))))) 101 (.inl (ca 1, 3, .inr (.inl (vp_updL (vp_updL (vp_updL (vp_updL sf 0 (((0 + (((mSTA di so ro sta) 0) * ((mSTA di so ro sta) 0))) + (((mSTA di so ro sta) 1) * ((mSTA di so ro sta) 1))) + (((mSTA di so ro sta) 2) * ((mSTA di so ro sta) 2)))) 1 (((0 + (((mSTA di so ro sta) 3) * ((mSTA di so ro sta) 3))) + (((mSTA di so ro sta) 4) * ((mSTA di so ro sta) 4))) + (((mSTA di so ro sta) 5) * ((mSTA di so ro sta) 5)))) 2 (0 + (((mSTA di so ro sta) 6) * ((mSTA di so ro sta) 6)))) 2 ((0 + (((mSTA di so ro sta) 6) * ((mSTA di so ro sta) 6))) + (((mSTA di so ro sta) 7) * ((mSTA di so ro sta) 7)))))))) 102 (.inl (ca 0, 36, .inl pl))) rfl ?_
        refine gj_setf (g := va_up (va_up (va_up (va_up (va_up f 87 (.inr (11, [.ref (ad 88), .ref (ad 89), .ref (ad 90), .ref (ad 91), .int la, .ref (ad 92), .ref (ad 93), .ref (ad 94), .int dr, .int go, .int lo, .int ma, .ref (ad 95), .ref (ad 96), .ref (ad 97), .ref (ad 98), .int pa, .int 0, .ref (ad 99), .ref (ad 100), .ref (ad 101), .ref (ad 102), .ref (ad 103), .ref (ad 104), .int su, .ref (ad 105), .ref (ad 106), .ref (ad 107)]))) 100 (.inl (ca 1, 9, .inr (.inl (mSPA di ro spa))))) 99 (.inl (ca 1, 9, .inr (.inl (mSTA di so ro sta))))) 101 (.inl (ca 1, 3, .inr (.inl (vp_updL (vp_updL (vp_updL sf 0 (((0 + (((mSTA di so ro sta) 0) * ((mSTA di so ro sta) 0))) + (((mSTA di so ro sta) 1) * ((mSTA di so ro sta) 1))) + (((mSTA di so ro sta) 2) * ((mSTA di so ro sta) 2)))) 1 (((0 + (((mSTA di so ro sta) 3) * ((mSTA di so ro sta) 3))) + (((mSTA di so ro sta) 4) * ((mSTA di so ro sta) 4))) + (((mSTA di so ro sta) 5) * ((mSTA di so ro sta) 5)))) 2 ((0 + (((mSTA di so ro sta) 6) * ((mSTA di so ro sta) 6))) + (((mSTA di so ro sta) 7) * ((mSTA di so ro sta) 7)))))))) 102 (.inl (ca 0, 36, .inl pl))) (by rw [vuu]) ?_
        refine gj_iinc C (v := 2) (lv' := [(4, .int 2), (3, .int 2), (2, .int (mSp ro (1 : Int32) 8)), (1, .int (mSp ro (0 : Int32) 8)), (0, .ref (ad 87))]) dX12_turning_153 0 rfl (by decide) (by decide) rfl ?_
        refine gj_goto C 115 dX12_turning_156 (by decide) ?_
        refine gj_iload C dX12_turning_115 0 rfl ?_
        refine gj_iconst C (v := 3) (by decide) dX12_turning_117 ?_
        refine gj_icmp_ge C 159 dX12_turning_118 (by decide) (fun c_37 => absurd c_37 (by decide)) (fun c_37 => ?_)
        refine gj_aload_n C 0 dX12_turning_121 rfl 4 rfl ?_
        refine gj_get C 87 (by decide) (up_nx (by decide) (up_nx (by decide) (up_nx (by decide) (up_nx (by decide) (va_up_self _ _ _))))) inX12 rfl 20 (by decide) w_869 (v := .ref (ad 101)) rfl dX12_turning_122 ?_
        refine gj_iload_n C 3 dX12_turning_125 rfl 1 rfl ?_
        refine gj_dup2_11 C rfl rfl dX12_turning_126 ?_
        refine gj_lald C 101 (by decide) (up_nx (by decide) (va_up_self _ _ _)) (by unfold vp_in; decide) dX12_turning_127 ?_
        refine gj_setl (y := (0 + (((mSTA di so ro sta) 6) * ((mSTA di so ro sta) 6))) + (((mSTA di so ro sta) 7) * ((mSTA di so ro sta) 7))) rfl ?_
        refine gj_aload_n C 0 dX12_turning_128 rfl 4 rfl ?_
        refine gj_get C 87 (by decide) (up_nx (by decide) (up_nx (by decide) (up_nx (by decide) (up_nx (by decide) (va_up_self _ _ _))))) inX12 rfl 18 (by decide) w_867 (v := .ref (ad 99)) rfl dX12_turning_129 ?_
        refine gj_iconst C (v := 3) (by decide) dX12_turning_132 ?_
        refine gj_iload_n C 3 dX12_turning_133 rfl 1 rfl ?_
        refine gj_imul C dX12_turning_134 ?_
        refine gj_seti (y := 6) (by decide) ?_
        refine gj_iload C dX12_turning_135 0 rfl ?_
        refine gj_iadd C dX12_turning_137 ?_
        refine gj_seti (y := 8) (by decide) ?_
        refine gj_lald C 99 (by decide) (up_nx (by decide) (up_nx (by decide) (va_up_self _ _ _))) (by unfold vp_in; decide) dX12_turning_138 ?_
        refine gj_setl (y := (mSTA di so ro sta) 8) rfl ?_
        refine gj_aload_n C 0 dX12_turning_139 rfl 4 rfl ?_
        refine gj_get C 87 (by decide) (up_nx (by decide) (up_nx (by decide) (up_nx (by decide) (up_nx (by decide) (va_up_self _ _ _))))) inX12 rfl 18 (by decide) w_867 (v := .ref (ad 99)) rfl dX12_turning_140 ?_
        refine gj_iconst C (v := 3) (by decide) dX12_turning_143 ?_
        refine gj_iload_n C 3 dX12_turning_144 rfl 1 rfl ?_
        refine gj_imul C dX12_turning_145 ?_
        refine gj_seti (y := 6) (by decide) ?_
        refine gj_iload C dX12_turning_146 0 rfl ?_
        refine gj_iadd C dX12_turning_148 ?_
        refine gj_seti (y := 8) (by decide) ?_
        refine gj_lald C 99 (by decide) (up_nx (by decide) (up_nx (by decide) (va_up_self _ _ _))) (by unfold vp_in; decide) dX12_turning_149 ?_
        refine gj_setl (y := (mSTA di so ro sta) 8) rfl ?_
        refine gj_lmul C dX12_turning_150 ?_
        refine gj_ladd C dX12_turning_151 ?_
        refine gj_last C 101 (by decide) (up_nx (by decide) (va_up_self _ _ _)) (by unfold vp_in; decide) dX12_turning_152 ?_
        refine gj_setf ((up_comm (by decide)).trans (up_un (bx_uu _ _ _ _))) ?_
        refine gj_setf (g := va_up (va_up (va_up (va_up (va_up f 87 (.inr (11, [.ref (ad 88), .ref (ad 89), .ref (ad 90), .ref (ad 91), .int la, .ref (ad 92), .ref (ad 93), .ref (ad 94), .int dr, .int go, .int lo, .int ma, .ref (ad 95), .ref (ad 96), .ref (ad 97), .ref (ad 98), .int pa, .int 0, .ref (ad 99), .ref (ad 100), .ref (ad 101), .ref (ad 102), .ref (ad 103), .ref (ad 104), .int su, .ref (ad 105), .ref (ad 106), .ref (ad 107)]))) 100 (.inl (ca 1, 9, .inr (.inl (mSPA di ro spa))))) 99 (.inl (ca 1, 9, .inr (.inl (mSTA di so ro sta))))) 101 (.inl (ca 1, 3, .inr (.inl (vp_updL (vp_updL (vp_updL (vp_updL sf 0 (((0 + (((mSTA di so ro sta) 0) * ((mSTA di so ro sta) 0))) + (((mSTA di so ro sta) 1) * ((mSTA di so ro sta) 1))) + (((mSTA di so ro sta) 2) * ((mSTA di so ro sta) 2)))) 1 (((0 + (((mSTA di so ro sta) 3) * ((mSTA di so ro sta) 3))) + (((mSTA di so ro sta) 4) * ((mSTA di so ro sta) 4))) + (((mSTA di so ro sta) 5) * ((mSTA di so ro sta) 5)))) 2 ((0 + (((mSTA di so ro sta) 6) * ((mSTA di so ro sta) 6))) + (((mSTA di so ro sta) 7) * ((mSTA di so ro sta) 7)))) 2 (((0 + (((mSTA di so ro sta) 6) * ((mSTA di so ro sta) 6))) + (((mSTA di so ro sta) 7) * ((mSTA di so ro sta) 7))) + (((mSTA di so ro sta) 8) * ((mSTA di so ro sta) 8)))))))) 102 (.inl (ca 0, 36, .inl pl))) rfl ?_
        refine gj_setf (g := va_up (va_up (va_up (va_up (va_up f 87 (.inr (11, [.ref (ad 88), .ref (ad 89), .ref (ad 90), .ref (ad 91), .int la, .ref (ad 92), .ref (ad 93), .ref (ad 94), .int dr, .int go, .int lo, .int ma, .ref (ad 95), .ref (ad 96), .ref (ad 97), .ref (ad 98), .int pa, .int 0, .ref (ad 99), .ref (ad 100), .ref (ad 101), .ref (ad 102), .ref (ad 103), .ref (ad 104), .int su, .ref (ad 105), .ref (ad 106), .ref (ad 107)]))) 100 (.inl (ca 1, 9, .inr (.inl (mSPA di ro spa))))) 99 (.inl (ca 1, 9, .inr (.inl (mSTA di so ro sta))))) 101 (.inl (ca 1, 3, .inr (.inl (vp_updL (vp_updL (vp_updL sf 0 (((0 + (((mSTA di so ro sta) 0) * ((mSTA di so ro sta) 0))) + (((mSTA di so ro sta) 1) * ((mSTA di so ro sta) 1))) + (((mSTA di so ro sta) 2) * ((mSTA di so ro sta) 2)))) 1 (((0 + (((mSTA di so ro sta) 3) * ((mSTA di so ro sta) 3))) + (((mSTA di so ro sta) 4) * ((mSTA di so ro sta) 4))) + (((mSTA di so ro sta) 5) * ((mSTA di so ro sta) 5)))) 2 (((0 + (((mSTA di so ro sta) 6) * ((mSTA di so ro sta) 6))) + (((mSTA di so ro sta) 7) * ((mSTA di so ro sta) 7))) + (((mSTA di so ro sta) 8) * ((mSTA di so ro sta) 8)))))))) 102 (.inl (ca 0, 36, .inl pl))) (by rw [vuu]) ?_
        refine gj_iinc C (v := 3) (lv' := [(4, .int 3), (3, .int 2), (2, .int (mSp ro (1 : Int32) 8)), (1, .int (mSp ro (0 : Int32) 8)), (0, .ref (ad 87))]) dX12_turning_153 0 rfl (by decide) (by decide) rfl ?_
        refine gj_goto C 115 dX12_turning_156 (by decide) ?_
        refine gj_iload C dX12_turning_115 0 rfl ?_
        refine gj_iconst C (v := 3) (by decide) dX12_turning_117 ?_
        refine gj_icmp_ge C 159 dX12_turning_118 (by decide) (fun c_38 => ?_) (fun c_38 => absurd (by decide) c_38)
        refine gj_iinc C (v := 3) (lv' := [(3, .int 3), (4, .int 3), (2, .int (mSp ro (1 : Int32) 8)), (1, .int (mSp ro (0 : Int32) 8)), (0, .ref (ad 87))]) dX12_turning_159 1 rfl (by decide) (by decide) rfl ?_
        refine gj_goto C 100 dX12_turning_162 (by decide) ?_
        refine gj_iload_n C 3 dX12_turning_100 rfl 0 rfl ?_
        refine gj_iconst C (v := 3) (by decide) dX12_turning_101 ?_
        refine gj_icmp_ge C 165 dX12_turning_102 (by decide) (fun c_39 => ?_) (fun c_39 => absurd (by decide) c_39)
        refine gj_setf (g := va_up (va_up (va_up (va_up (va_up f 87 (.inr (11, [.ref (ad 88), .ref (ad 89), .ref (ad 90), .ref (ad 91), .int la, .ref (ad 92), .ref (ad 93), .ref (ad 94), .int dr, .int go, .int lo, .int ma, .ref (ad 95), .ref (ad 96), .ref (ad 97), .ref (ad 98), .int pa, .int 0, .ref (ad 99), .ref (ad 100), .ref (ad 101), .ref (ad 102), .ref (ad 103), .ref (ad 104), .int su, .ref (ad 105), .ref (ad 106), .ref (ad 107)]))) 100 (.inl (ca 1, 9, .inr (.inl (mSPA di ro spa))))) 99 (.inl (ca 1, 9, .inr (.inl (mSTA di so ro sta))))) 101 (.inl (ca 1, 3, .inr (.inl (selfF sf (mSTA di so ro sta)))))) 102 (.inl (ca 0, 36, .inl pl))) rfl ?_
        refine gj_iconst C (v := 0) (by decide) dX12_turning_165 ?_
        refine gj_istore_n C (lv' := [(3, .int 0), (4, .int 3), (2, .int (mSp ro (1 : Int32) 8)), (1, .int (mSp ro (0 : Int32) 8)), (0, .ref (ad 87))]) 3 dX12_turning_166 rfl (by decide) rfl ?_
        refine gj_iload_n C 3 dX12_turning_167 rfl 0 rfl ?_
        refine gj_iconst C (v := 3) (by decide) dX12_turning_168 ?_
        refine gj_aload_n C 0 dX12_turning_169 rfl 4 rfl ?_
        refine gj_get C 87 (by decide) (up_nx (by decide) (up_nx (by decide) (up_nx (by decide) (up_nx (by decide) (va_up_self _ _ _))))) inX12 rfl 6 (by decide) w_855 (v := .ref (ad 93)) rfl dX12_turning_170 ?_
        refine gj_iconst C (v := 0) (by decide) dX12_turning_173 ?_
        refine gj_iald C 93 (by decide) (up_nx (by decide) (up_nx (by decide) (up_nx (by decide) (up_nx (by decide) (up_nx (by decide) (hc2)))))) (by unfold vp_in; decide) dX12_turning_174 ?_
        refine gj_seti h0 ?_
        refine gj_imul C dX12_turning_175 ?_
        refine gj_seti (y := nI (3 * n0)) (pk_mul 3 n0) ?_
        refine gj_icmp_ge C 208 dX12_turning_176 (by decide) (fun c_40 => ?_) (fun c_40 => ?_)
        · exact RT _ _ _ (by rw [show (mTurn di so ro n0 pa spa sta sf pl) = (0, mSPA di ro spa, mSTA di so ro sta, selfF sf (mSTA di so ro sta), pl) from (if_neg c_1).trans ((if_pos c_4).trans ((if_neg c_23).trans (rfl)))]) dX12_turning_208
        · refine gj_aload_n C 0 dX12_turning_179 rfl 4 rfl ?_
          refine gj_get C 87 (by decide) (up_nx (by decide) (up_nx (by decide) (up_nx (by decide) (up_nx (by decide) (va_up_self _ _ _))))) inX12 rfl 17 (by decide) w_866 (v := .int 0) rfl dX12_turning_180 ?_
          refine gj_if_eq C 208 dX12_turning_183 (by decide) (fun c_41 => ?_) (fun c_41 => absurd (by decide) c_41)
          exact RT _ _ _ (by rw [show (mTurn di so ro n0 pa spa sta sf pl) = (0, mSPA di ro spa, mSTA di so ro sta, selfF sf (mSTA di so ro sta), pl) from (if_neg c_1).trans ((if_pos c_4).trans ((if_neg c_23).trans (rfl)))]) dX12_turning_208
      · refine gj_iconst C (v := 1) (by decide) dX12_turning_90 ?_
        refine gj_goto C 95 dX12_turning_91 (by decide) ?_
        refine gj_putS C 87 (by decide) (up_nx (by decide) (up_nx (by decide) (up_nx (by decide) (up_nx (by decide) (va_up_self _ _ _))))) inX12 rfl 17 (by decide) tyX12 tyX12_ok nmX12 w_866 rfl (v := .int 1) (fs' := [.ref (ad 88), .ref (ad 89), .ref (ad 90), .ref (ad 91), .int la, .ref (ad 92), .ref (ad 93), .ref (ad 94), .int dr, .int go, .int lo, .int ma, .ref (ad 95), .ref (ad 96), .ref (ad 97), .ref (ad 98), .int pa, .int 1, .ref (ad 99), .ref (ad 100), .ref (ad 101), .ref (ad 102), .ref (ad 103), .ref (ad 104), .int su, .ref (ad 105), .ref (ad 106), .ref (ad 107)]) rfl rfl (Nat.le_of_ble_eq_true rfl) rfl dX12_turning_95 ?_
        refine gj_setf ((up_comm (by decide)).trans (up_un ((up_comm (by decide)).trans (up_un ((up_comm (by decide)).trans (up_un ((up_comm (by decide)).trans (up_un (bx_uu _ _ _ _))))))))) ?_
        refine gj_iconst C (v := 0) (by decide) dX12_turning_98 ?_
        refine gj_istore_n C (lv' := [(3, .int 0), (2, .int (mSp ro (1 : Int32) 8)), (1, .int (mSp ro (0 : Int32) 8)), (0, .ref (ad 87))]) 3 dX12_turning_99 rfl (by decide) rfl ?_
        refine gj_iload_n C 3 dX12_turning_100 rfl 0 rfl ?_
        refine gj_iconst C (v := 3) (by decide) dX12_turning_101 ?_
        refine gj_icmp_ge C 165 dX12_turning_102 (by decide) (fun c_42 => absurd c_42 (by decide)) (fun c_42 => ?_)
        refine gj_aload_n C 0 dX12_turning_105 rfl 3 rfl ?_
        refine gj_get C 87 (by decide) (up_nx (by decide) (up_nx (by decide) (up_nx (by decide) (up_nx (by decide) (va_up_self _ _ _))))) inX12 rfl 20 (by decide) w_869 (v := .ref (ad 101)) rfl dX12_turning_106 ?_
        refine gj_iload_n C 3 dX12_turning_109 rfl 0 rfl ?_
        refine gj_lconst C (v := 0) rfl dX12_turning_110 ?_
        refine gj_last C 101 (by decide) (up_nx (by decide) (va_up_self _ _ _)) (by unfold vp_in; decide) dX12_turning_111 ?_
        refine gj_setf ((up_comm (by decide)).trans (up_un (bx_uu _ _ _ _))) ?_
        refine gj_setf (g := va_up (va_up (va_up (va_up (va_up f 87 (.inr (11, [.ref (ad 88), .ref (ad 89), .ref (ad 90), .ref (ad 91), .int la, .ref (ad 92), .ref (ad 93), .ref (ad 94), .int dr, .int go, .int lo, .int ma, .ref (ad 95), .ref (ad 96), .ref (ad 97), .ref (ad 98), .int pa, .int 1, .ref (ad 99), .ref (ad 100), .ref (ad 101), .ref (ad 102), .ref (ad 103), .ref (ad 104), .int su, .ref (ad 105), .ref (ad 106), .ref (ad 107)]))) 100 (.inl (ca 1, 9, .inr (.inl (mSPA di ro spa))))) 99 (.inl (ca 1, 9, .inr (.inl (mSTA di so ro sta))))) 101 (.inl (ca 1, 3, .inr (.inl (vp_updL sf 0 0))))) 102 (.inl (ca 0, 36, .inl pl))) rfl ?_
        refine gj_iconst C (v := 0) (by decide) dX12_turning_112 ?_
        refine gj_istore C (lv' := [(4, .int 0), (3, .int 0), (2, .int (mSp ro (1 : Int32) 8)), (1, .int (mSp ro (0 : Int32) 8)), (0, .ref (ad 87))]) dX12_turning_113 (by decide) rfl ?_
        refine gj_iload C dX12_turning_115 0 rfl ?_
        refine gj_iconst C (v := 3) (by decide) dX12_turning_117 ?_
        refine gj_icmp_ge C 159 dX12_turning_118 (by decide) (fun c_43 => absurd c_43 (by decide)) (fun c_43 => ?_)
        refine gj_aload_n C 0 dX12_turning_121 rfl 4 rfl ?_
        refine gj_get C 87 (by decide) (up_nx (by decide) (up_nx (by decide) (up_nx (by decide) (up_nx (by decide) (va_up_self _ _ _))))) inX12 rfl 20 (by decide) w_869 (v := .ref (ad 101)) rfl dX12_turning_122 ?_
        refine gj_iload_n C 3 dX12_turning_125 rfl 1 rfl ?_
        refine gj_dup2_11 C rfl rfl dX12_turning_126 ?_
        refine gj_lald C 101 (by decide) (up_nx (by decide) (va_up_self _ _ _)) (by unfold vp_in; decide) dX12_turning_127 ?_
        refine gj_setl (y := 0) rfl ?_
        refine gj_aload_n C 0 dX12_turning_128 rfl 4 rfl ?_
        refine gj_get C 87 (by decide) (up_nx (by decide) (up_nx (by decide) (up_nx (by decide) (up_nx (by decide) (va_up_self _ _ _))))) inX12 rfl 18 (by decide) w_867 (v := .ref (ad 99)) rfl dX12_turning_129 ?_
        refine gj_iconst C (v := 3) (by decide) dX12_turning_132 ?_
        refine gj_iload_n C 3 dX12_turning_133 rfl 1 rfl ?_
        refine gj_imul C dX12_turning_134 ?_
        refine gj_seti (y := 0) (by decide) ?_
        refine gj_iload C dX12_turning_135 0 rfl ?_
        refine gj_iadd C dX12_turning_137 ?_
        refine gj_seti (y := 0) (by decide) ?_
        refine gj_lald C 99 (by decide) (up_nx (by decide) (up_nx (by decide) (va_up_self _ _ _))) (by unfold vp_in; decide) dX12_turning_138 ?_
        refine gj_setl (y := (mSTA di so ro sta) 0) rfl ?_
        refine gj_aload_n C 0 dX12_turning_139 rfl 4 rfl ?_
        refine gj_get C 87 (by decide) (up_nx (by decide) (up_nx (by decide) (up_nx (by decide) (up_nx (by decide) (va_up_self _ _ _))))) inX12 rfl 18 (by decide) w_867 (v := .ref (ad 99)) rfl dX12_turning_140 ?_
        refine gj_iconst C (v := 3) (by decide) dX12_turning_143 ?_
        refine gj_iload_n C 3 dX12_turning_144 rfl 1 rfl ?_
        refine gj_imul C dX12_turning_145 ?_
        refine gj_seti (y := 0) (by decide) ?_
        refine gj_iload C dX12_turning_146 0 rfl ?_
        refine gj_iadd C dX12_turning_148 ?_
        refine gj_seti (y := 0) (by decide) ?_
        refine gj_lald C 99 (by decide) (up_nx (by decide) (up_nx (by decide) (va_up_self _ _ _))) (by unfold vp_in; decide) dX12_turning_149 ?_
        refine gj_setl (y := (mSTA di so ro sta) 0) rfl ?_
        refine gj_lmul C dX12_turning_150 ?_
        refine gj_ladd C dX12_turning_151 ?_
        refine gj_last C 101 (by decide) (up_nx (by decide) (va_up_self _ _ _)) (by unfold vp_in; decide) dX12_turning_152 ?_
        refine gj_setf ((up_comm (by decide)).trans (up_un (bx_uu _ _ _ _))) ?_
        refine gj_setf (g := va_up (va_up (va_up (va_up (va_up f 87 (.inr (11, [.ref (ad 88), .ref (ad 89), .ref (ad 90), .ref (ad 91), .int la, .ref (ad 92), .ref (ad 93), .ref (ad 94), .int dr, .int go, .int lo, .int ma, .ref (ad 95), .ref (ad 96), .ref (ad 97), .ref (ad 98), .int pa, .int 1, .ref (ad 99), .ref (ad 100), .ref (ad 101), .ref (ad 102), .ref (ad 103), .ref (ad 104), .int su, .ref (ad 105), .ref (ad 106), .ref (ad 107)]))) 100 (.inl (ca 1, 9, .inr (.inl (mSPA di ro spa))))) 99 (.inl (ca 1, 9, .inr (.inl (mSTA di so ro sta))))) 101 (.inl (ca 1, 3, .inr (.inl (vp_updL (vp_updL sf 0 0) 0 (0 + (((mSTA di so ro sta) 0) * ((mSTA di so ro sta) 0)))))))) 102 (.inl (ca 0, 36, .inl pl))) rfl ?_
        refine gj_setf (g := va_up (va_up (va_up (va_up (va_up f 87 (.inr (11, [.ref (ad 88), .ref (ad 89), .ref (ad 90), .ref (ad 91), .int la, .ref (ad 92), .ref (ad 93), .ref (ad 94), .int dr, .int go, .int lo, .int ma, .ref (ad 95), .ref (ad 96), .ref (ad 97), .ref (ad 98), .int pa, .int 1, .ref (ad 99), .ref (ad 100), .ref (ad 101), .ref (ad 102), .ref (ad 103), .ref (ad 104), .int su, .ref (ad 105), .ref (ad 106), .ref (ad 107)]))) 100 (.inl (ca 1, 9, .inr (.inl (mSPA di ro spa))))) 99 (.inl (ca 1, 9, .inr (.inl (mSTA di so ro sta))))) 101 (.inl (ca 1, 3, .inr (.inl (vp_updL sf 0 (0 + (((mSTA di so ro sta) 0) * ((mSTA di so ro sta) 0)))))))) 102 (.inl (ca 0, 36, .inl pl))) (by rw [vuu]) ?_
        refine gj_iinc C (v := 1) (lv' := [(4, .int 1), (3, .int 0), (2, .int (mSp ro (1 : Int32) 8)), (1, .int (mSp ro (0 : Int32) 8)), (0, .ref (ad 87))]) dX12_turning_153 0 rfl (by decide) (by decide) rfl ?_
        refine gj_goto C 115 dX12_turning_156 (by decide) ?_
        refine gj_iload C dX12_turning_115 0 rfl ?_
        refine gj_iconst C (v := 3) (by decide) dX12_turning_117 ?_
        refine gj_icmp_ge C 159 dX12_turning_118 (by decide) (fun c_44 => absurd c_44 (by decide)) (fun c_44 => ?_)
        refine gj_aload_n C 0 dX12_turning_121 rfl 4 rfl ?_
        refine gj_get C 87 (by decide) (up_nx (by decide) (up_nx (by decide) (up_nx (by decide) (up_nx (by decide) (va_up_self _ _ _))))) inX12 rfl 20 (by decide) w_869 (v := .ref (ad 101)) rfl dX12_turning_122 ?_
        refine gj_iload_n C 3 dX12_turning_125 rfl 1 rfl ?_
        refine gj_dup2_11 C rfl rfl dX12_turning_126 ?_
        refine gj_lald C 101 (by decide) (up_nx (by decide) (va_up_self _ _ _)) (by unfold vp_in; decide) dX12_turning_127 ?_
        refine gj_setl (y := 0 + (((mSTA di so ro sta) 0) * ((mSTA di so ro sta) 0))) rfl ?_
        refine gj_aload_n C 0 dX12_turning_128 rfl 4 rfl ?_
        refine gj_get C 87 (by decide) (up_nx (by decide) (up_nx (by decide) (up_nx (by decide) (up_nx (by decide) (va_up_self _ _ _))))) inX12 rfl 18 (by decide) w_867 (v := .ref (ad 99)) rfl dX12_turning_129 ?_
        refine gj_iconst C (v := 3) (by decide) dX12_turning_132 ?_
        refine gj_iload_n C 3 dX12_turning_133 rfl 1 rfl ?_
        refine gj_imul C dX12_turning_134 ?_
        refine gj_seti (y := 0) (by decide) ?_
        refine gj_iload C dX12_turning_135 0 rfl ?_
        refine gj_iadd C dX12_turning_137 ?_
        refine gj_seti (y := 1) (by decide) ?_
        refine gj_lald C 99 (by decide) (up_nx (by decide) (up_nx (by decide) (va_up_self _ _ _))) (by unfold vp_in; decide) dX12_turning_138 ?_
        refine gj_setl (y := (mSTA di so ro sta) 1) rfl ?_
        refine gj_aload_n C 0 dX12_turning_139 rfl 4 rfl ?_
        refine gj_get C 87 (by decide) (up_nx (by decide) (up_nx (by decide) (up_nx (by decide) (up_nx (by decide) (va_up_self _ _ _))))) inX12 rfl 18 (by decide) w_867 (v := .ref (ad 99)) rfl dX12_turning_140 ?_
        refine gj_iconst C (v := 3) (by decide) dX12_turning_143 ?_
        refine gj_iload_n C 3 dX12_turning_144 rfl 1 rfl ?_
        refine gj_imul C dX12_turning_145 ?_
        refine gj_seti (y := 0) (by decide) ?_
        refine gj_iload C dX12_turning_146 0 rfl ?_
        refine gj_iadd C dX12_turning_148 ?_
        refine gj_seti (y := 1) (by decide) ?_
        refine gj_lald C 99 (by decide) (up_nx (by decide) (up_nx (by decide) (va_up_self _ _ _))) (by unfold vp_in; decide) dX12_turning_149 ?_
        refine gj_setl (y := (mSTA di so ro sta) 1) rfl ?_
        refine gj_lmul C dX12_turning_150 ?_
        refine gj_ladd C dX12_turning_151 ?_
        refine gj_last C 101 (by decide) (up_nx (by decide) (va_up_self _ _ _)) (by unfold vp_in; decide) dX12_turning_152 ?_
        refine gj_setf ((up_comm (by decide)).trans (up_un (bx_uu _ _ _ _))) ?_
        refine gj_setf (g := va_up (va_up (va_up (va_up (va_up f 87 (.inr (11, [.ref (ad 88), .ref (ad 89), .ref (ad 90), .ref (ad 91), .int la, .ref (ad 92), .ref (ad 93), .ref (ad 94), .int dr, .int go, .int lo, .int ma, .ref (ad 95), .ref (ad 96), .ref (ad 97), .ref (ad 98), .int pa, .int 1, .ref (ad 99), .ref (ad 100), .ref (ad 101), .ref (ad 102), .ref (ad 103), .ref (ad 104), .int su, .ref (ad 105), .ref (ad 106), .ref (ad 107)]))) 100 (.inl (ca 1, 9, .inr (.inl (mSPA di ro spa))))) 99 (.inl (ca 1, 9, .inr (.inl (mSTA di so ro sta))))) 101 (.inl (ca 1, 3, .inr (.inl (vp_updL (vp_updL sf 0 (0 + (((mSTA di so ro sta) 0) * ((mSTA di so ro sta) 0)))) 0 ((0 + (((mSTA di so ro sta) 0) * ((mSTA di so ro sta) 0))) + (((mSTA di so ro sta) 1) * ((mSTA di so ro sta) 1)))))))) 102 (.inl (ca 0, 36, .inl pl))) rfl ?_
        refine gj_setf (g := va_up (va_up (va_up (va_up (va_up f 87 (.inr (11, [.ref (ad 88), .ref (ad 89), .ref (ad 90), .ref (ad 91), .int la, .ref (ad 92), .ref (ad 93), .ref (ad 94), .int dr, .int go, .int lo, .int ma, .ref (ad 95), .ref (ad 96), .ref (ad 97), .ref (ad 98), .int pa, .int 1, .ref (ad 99), .ref (ad 100), .ref (ad 101), .ref (ad 102), .ref (ad 103), .ref (ad 104), .int su, .ref (ad 105), .ref (ad 106), .ref (ad 107)]))) 100 (.inl (ca 1, 9, .inr (.inl (mSPA di ro spa))))) 99 (.inl (ca 1, 9, .inr (.inl (mSTA di so ro sta))))) 101 (.inl (ca 1, 3, .inr (.inl (vp_updL sf 0 ((0 + (((mSTA di so ro sta) 0) * ((mSTA di so ro sta) 0))) + (((mSTA di so ro sta) 1) * ((mSTA di so ro sta) 1)))))))) 102 (.inl (ca 0, 36, .inl pl))) (by rw [vuu]) ?_
        refine gj_iinc C (v := 2) (lv' := [(4, .int 2), (3, .int 0), (2, .int (mSp ro (1 : Int32) 8)), (1, .int (mSp ro (0 : Int32) 8)), (0, .ref (ad 87))]) dX12_turning_153 0 rfl (by decide) (by decide) rfl ?_
        refine gj_goto C 115 dX12_turning_156 (by decide) ?_
        refine gj_iload C dX12_turning_115 0 rfl ?_
        refine gj_iconst C (v := 3) (by decide) dX12_turning_117 ?_
        refine gj_icmp_ge C 159 dX12_turning_118 (by decide) (fun c_45 => absurd c_45 (by decide)) (fun c_45 => ?_)
        refine gj_aload_n C 0 dX12_turning_121 rfl 4 rfl ?_
        refine gj_get C 87 (by decide) (up_nx (by decide) (up_nx (by decide) (up_nx (by decide) (up_nx (by decide) (va_up_self _ _ _))))) inX12 rfl 20 (by decide) w_869 (v := .ref (ad 101)) rfl dX12_turning_122 ?_
        refine gj_iload_n C 3 dX12_turning_125 rfl 1 rfl ?_
        refine gj_dup2_11 C rfl rfl dX12_turning_126 ?_
        refine gj_lald C 101 (by decide) (up_nx (by decide) (va_up_self _ _ _)) (by unfold vp_in; decide) dX12_turning_127 ?_
        refine gj_setl (y := (0 + (((mSTA di so ro sta) 0) * ((mSTA di so ro sta) 0))) + (((mSTA di so ro sta) 1) * ((mSTA di so ro sta) 1))) rfl ?_
        refine gj_aload_n C 0 dX12_turning_128 rfl 4 rfl ?_
        refine gj_get C 87 (by decide) (up_nx (by decide) (up_nx (by decide) (up_nx (by decide) (up_nx (by decide) (va_up_self _ _ _))))) inX12 rfl 18 (by decide) w_867 (v := .ref (ad 99)) rfl dX12_turning_129 ?_
        refine gj_iconst C (v := 3) (by decide) dX12_turning_132 ?_
        refine gj_iload_n C 3 dX12_turning_133 rfl 1 rfl ?_
        refine gj_imul C dX12_turning_134 ?_
        refine gj_seti (y := 0) (by decide) ?_
        refine gj_iload C dX12_turning_135 0 rfl ?_
        refine gj_iadd C dX12_turning_137 ?_
        refine gj_seti (y := 2) (by decide) ?_
        refine gj_lald C 99 (by decide) (up_nx (by decide) (up_nx (by decide) (va_up_self _ _ _))) (by unfold vp_in; decide) dX12_turning_138 ?_
        refine gj_setl (y := (mSTA di so ro sta) 2) rfl ?_
        refine gj_aload_n C 0 dX12_turning_139 rfl 4 rfl ?_
        refine gj_get C 87 (by decide) (up_nx (by decide) (up_nx (by decide) (up_nx (by decide) (up_nx (by decide) (va_up_self _ _ _))))) inX12 rfl 18 (by decide) w_867 (v := .ref (ad 99)) rfl dX12_turning_140 ?_
        refine gj_iconst C (v := 3) (by decide) dX12_turning_143 ?_
        refine gj_iload_n C 3 dX12_turning_144 rfl 1 rfl ?_
        refine gj_imul C dX12_turning_145 ?_
        refine gj_seti (y := 0) (by decide) ?_
        refine gj_iload C dX12_turning_146 0 rfl ?_
        refine gj_iadd C dX12_turning_148 ?_
        refine gj_seti (y := 2) (by decide) ?_
        refine gj_lald C 99 (by decide) (up_nx (by decide) (up_nx (by decide) (va_up_self _ _ _))) (by unfold vp_in; decide) dX12_turning_149 ?_
        refine gj_setl (y := (mSTA di so ro sta) 2) rfl ?_
        refine gj_lmul C dX12_turning_150 ?_
        refine gj_ladd C dX12_turning_151 ?_
        refine gj_last C 101 (by decide) (up_nx (by decide) (va_up_self _ _ _)) (by unfold vp_in; decide) dX12_turning_152 ?_
        refine gj_setf ((up_comm (by decide)).trans (up_un (bx_uu _ _ _ _))) ?_
        refine gj_setf (g := va_up (va_up (va_up (va_up (va_up f 87 (.inr (11, [.ref (ad 88), .ref (ad 89), .ref (ad 90), .ref (ad 91), .int la, .ref (ad 92), .ref (ad 93), .ref (ad 94), .int dr, .int go, .int lo, .int ma, .ref (ad 95), .ref (ad 96), .ref (ad 97), .ref (ad 98), .int pa, .int 1, .ref (ad 99), .ref (ad 100), .ref (ad 101), .ref (ad 102), .ref (ad 103), .ref (ad 104), .int su, .ref (ad 105), .ref (ad 106), .ref (ad 107)]))) 100 (.inl (ca 1, 9, .inr (.inl (mSPA di ro spa))))) 99 (.inl (ca 1, 9, .inr (.inl (mSTA di so ro sta))))) 101 (.inl (ca 1, 3, .inr (.inl (vp_updL (vp_updL sf 0 ((0 + (((mSTA di so ro sta) 0) * ((mSTA di so ro sta) 0))) + (((mSTA di so ro sta) 1) * ((mSTA di so ro sta) 1)))) 0 (((0 + (((mSTA di so ro sta) 0) * ((mSTA di so ro sta) 0))) + (((mSTA di so ro sta) 1) * ((mSTA di so ro sta) 1))) + (((mSTA di so ro sta) 2) * ((mSTA di so ro sta) 2)))))))) 102 (.inl (ca 0, 36, .inl pl))) rfl ?_
        refine gj_setf (g := va_up (va_up (va_up (va_up (va_up f 87 (.inr (11, [.ref (ad 88), .ref (ad 89), .ref (ad 90), .ref (ad 91), .int la, .ref (ad 92), .ref (ad 93), .ref (ad 94), .int dr, .int go, .int lo, .int ma, .ref (ad 95), .ref (ad 96), .ref (ad 97), .ref (ad 98), .int pa, .int 1, .ref (ad 99), .ref (ad 100), .ref (ad 101), .ref (ad 102), .ref (ad 103), .ref (ad 104), .int su, .ref (ad 105), .ref (ad 106), .ref (ad 107)]))) 100 (.inl (ca 1, 9, .inr (.inl (mSPA di ro spa))))) 99 (.inl (ca 1, 9, .inr (.inl (mSTA di so ro sta))))) 101 (.inl (ca 1, 3, .inr (.inl (vp_updL sf 0 (((0 + (((mSTA di so ro sta) 0) * ((mSTA di so ro sta) 0))) + (((mSTA di so ro sta) 1) * ((mSTA di so ro sta) 1))) + (((mSTA di so ro sta) 2) * ((mSTA di so ro sta) 2)))))))) 102 (.inl (ca 0, 36, .inl pl))) (by rw [vuu]) ?_
        refine gj_iinc C (v := 3) (lv' := [(4, .int 3), (3, .int 0), (2, .int (mSp ro (1 : Int32) 8)), (1, .int (mSp ro (0 : Int32) 8)), (0, .ref (ad 87))]) dX12_turning_153 0 rfl (by decide) (by decide) rfl ?_
        refine gj_goto C 115 dX12_turning_156 (by decide) ?_
        refine gj_iload C dX12_turning_115 0 rfl ?_
        refine gj_iconst C (v := 3) (by decide) dX12_turning_117 ?_
        refine gj_icmp_ge C 159 dX12_turning_118 (by decide) (fun c_46 => ?_) (fun c_46 => absurd (by decide) c_46)
        refine gj_iinc C (v := 1) (lv' := [(3, .int 1), (4, .int 3), (2, .int (mSp ro (1 : Int32) 8)), (1, .int (mSp ro (0 : Int32) 8)), (0, .ref (ad 87))]) dX12_turning_159 1 rfl (by decide) (by decide) rfl ?_
        refine gj_goto C 100 dX12_turning_162 (by decide) ?_
        refine gj_iload_n C 3 dX12_turning_100 rfl 0 rfl ?_
        refine gj_iconst C (v := 3) (by decide) dX12_turning_101 ?_
        refine gj_icmp_ge C 165 dX12_turning_102 (by decide) (fun c_47 => absurd c_47 (by decide)) (fun c_47 => ?_)
        refine gj_aload_n C 0 dX12_turning_105 rfl 4 rfl ?_
        refine gj_get C 87 (by decide) (up_nx (by decide) (up_nx (by decide) (up_nx (by decide) (up_nx (by decide) (va_up_self _ _ _))))) inX12 rfl 20 (by decide) w_869 (v := .ref (ad 101)) rfl dX12_turning_106 ?_
        refine gj_iload_n C 3 dX12_turning_109 rfl 0 rfl ?_
        refine gj_lconst C (v := 0) rfl dX12_turning_110 ?_
        refine gj_last C 101 (by decide) (up_nx (by decide) (va_up_self _ _ _)) (by unfold vp_in; decide) dX12_turning_111 ?_
        refine gj_setf ((up_comm (by decide)).trans (up_un (bx_uu _ _ _ _))) ?_
        refine gj_setf (g := va_up (va_up (va_up (va_up (va_up f 87 (.inr (11, [.ref (ad 88), .ref (ad 89), .ref (ad 90), .ref (ad 91), .int la, .ref (ad 92), .ref (ad 93), .ref (ad 94), .int dr, .int go, .int lo, .int ma, .ref (ad 95), .ref (ad 96), .ref (ad 97), .ref (ad 98), .int pa, .int 1, .ref (ad 99), .ref (ad 100), .ref (ad 101), .ref (ad 102), .ref (ad 103), .ref (ad 104), .int su, .ref (ad 105), .ref (ad 106), .ref (ad 107)]))) 100 (.inl (ca 1, 9, .inr (.inl (mSPA di ro spa))))) 99 (.inl (ca 1, 9, .inr (.inl (mSTA di so ro sta))))) 101 (.inl (ca 1, 3, .inr (.inl (vp_updL (vp_updL sf 0 (((0 + (((mSTA di so ro sta) 0) * ((mSTA di so ro sta) 0))) + (((mSTA di so ro sta) 1) * ((mSTA di so ro sta) 1))) + (((mSTA di so ro sta) 2) * ((mSTA di so ro sta) 2)))) 1 0))))) 102 (.inl (ca 0, 36, .inl pl))) rfl ?_
        refine gj_iconst C (v := 0) (by decide) dX12_turning_112 ?_
        refine gj_istore C (lv' := [(4, .int 0), (3, .int 1), (2, .int (mSp ro (1 : Int32) 8)), (1, .int (mSp ro (0 : Int32) 8)), (0, .ref (ad 87))]) dX12_turning_113 (by decide) rfl ?_
        refine gj_iload C dX12_turning_115 0 rfl ?_
        refine gj_iconst C (v := 3) (by decide) dX12_turning_117 ?_
        refine gj_icmp_ge C 159 dX12_turning_118 (by decide) (fun c_48 => absurd c_48 (by decide)) (fun c_48 => ?_)
        refine gj_aload_n C 0 dX12_turning_121 rfl 4 rfl ?_
        refine gj_get C 87 (by decide) (up_nx (by decide) (up_nx (by decide) (up_nx (by decide) (up_nx (by decide) (va_up_self _ _ _))))) inX12 rfl 20 (by decide) w_869 (v := .ref (ad 101)) rfl dX12_turning_122 ?_
        refine gj_iload_n C 3 dX12_turning_125 rfl 1 rfl ?_
        refine gj_dup2_11 C rfl rfl dX12_turning_126 ?_
        refine gj_lald C 101 (by decide) (up_nx (by decide) (va_up_self _ _ _)) (by unfold vp_in; decide) dX12_turning_127 ?_
        refine gj_setl (y := 0) rfl ?_
        refine gj_aload_n C 0 dX12_turning_128 rfl 4 rfl ?_
        refine gj_get C 87 (by decide) (up_nx (by decide) (up_nx (by decide) (up_nx (by decide) (up_nx (by decide) (va_up_self _ _ _))))) inX12 rfl 18 (by decide) w_867 (v := .ref (ad 99)) rfl dX12_turning_129 ?_
        refine gj_iconst C (v := 3) (by decide) dX12_turning_132 ?_
        refine gj_iload_n C 3 dX12_turning_133 rfl 1 rfl ?_
        refine gj_imul C dX12_turning_134 ?_
        refine gj_seti (y := 3) (by decide) ?_
        refine gj_iload C dX12_turning_135 0 rfl ?_
        refine gj_iadd C dX12_turning_137 ?_
        refine gj_seti (y := 3) (by decide) ?_
        refine gj_lald C 99 (by decide) (up_nx (by decide) (up_nx (by decide) (va_up_self _ _ _))) (by unfold vp_in; decide) dX12_turning_138 ?_
        refine gj_setl (y := (mSTA di so ro sta) 3) rfl ?_
        refine gj_aload_n C 0 dX12_turning_139 rfl 4 rfl ?_
        refine gj_get C 87 (by decide) (up_nx (by decide) (up_nx (by decide) (up_nx (by decide) (up_nx (by decide) (va_up_self _ _ _))))) inX12 rfl 18 (by decide) w_867 (v := .ref (ad 99)) rfl dX12_turning_140 ?_
        refine gj_iconst C (v := 3) (by decide) dX12_turning_143 ?_
        refine gj_iload_n C 3 dX12_turning_144 rfl 1 rfl ?_
        refine gj_imul C dX12_turning_145 ?_
        refine gj_seti (y := 3) (by decide) ?_
        refine gj_iload C dX12_turning_146 0 rfl ?_
        refine gj_iadd C dX12_turning_148 ?_
        refine gj_seti (y := 3) (by decide) ?_
        refine gj_lald C 99 (by decide) (up_nx (by decide) (up_nx (by decide) (va_up_self _ _ _))) (by unfold vp_in; decide) dX12_turning_149 ?_
        refine gj_setl (y := (mSTA di so ro sta) 3) rfl ?_
        refine gj_lmul C dX12_turning_150 ?_
        refine gj_ladd C dX12_turning_151 ?_
        refine gj_last C 101 (by decide) (up_nx (by decide) (va_up_self _ _ _)) (by unfold vp_in; decide) dX12_turning_152 ?_
        refine gj_setf ((up_comm (by decide)).trans (up_un (bx_uu _ _ _ _))) ?_
        refine gj_setf (g := va_up (va_up (va_up (va_up (va_up f 87 (.inr (11, [.ref (ad 88), .ref (ad 89), .ref (ad 90), .ref (ad 91), .int la, .ref (ad 92), .ref (ad 93), .ref (ad 94), .int dr, .int go, .int lo, .int ma, .ref (ad 95), .ref (ad 96), .ref (ad 97), .ref (ad 98), .int pa, .int 1, .ref (ad 99), .ref (ad 100), .ref (ad 101), .ref (ad 102), .ref (ad 103), .ref (ad 104), .int su, .ref (ad 105), .ref (ad 106), .ref (ad 107)]))) 100 (.inl (ca 1, 9, .inr (.inl (mSPA di ro spa))))) 99 (.inl (ca 1, 9, .inr (.inl (mSTA di so ro sta))))) 101 (.inl (ca 1, 3, .inr (.inl (vp_updL (vp_updL (vp_updL sf 0 (((0 + (((mSTA di so ro sta) 0) * ((mSTA di so ro sta) 0))) + (((mSTA di so ro sta) 1) * ((mSTA di so ro sta) 1))) + (((mSTA di so ro sta) 2) * ((mSTA di so ro sta) 2)))) 1 0) 1 (0 + (((mSTA di so ro sta) 3) * ((mSTA di so ro sta) 3)))))))) 102 (.inl (ca 0, 36, .inl pl))) rfl ?_
        refine gj_setf (g := va_up (va_up (va_up (va_up (va_up f 87 (.inr (11, [.ref (ad 88), .ref (ad 89), .ref (ad 90), .ref (ad 91), .int la, .ref (ad 92), .ref (ad 93), .ref (ad 94), .int dr, .int go, .int lo, .int ma, .ref (ad 95), .ref (ad 96), .ref (ad 97), .ref (ad 98), .int pa, .int 1, .ref (ad 99), .ref (ad 100), .ref (ad 101), .ref (ad 102), .ref (ad 103), .ref (ad 104), .int su, .ref (ad 105), .ref (ad 106), .ref (ad 107)]))) 100 (.inl (ca 1, 9, .inr (.inl (mSPA di ro spa))))) 99 (.inl (ca 1, 9, .inr (.inl (mSTA di so ro sta))))) 101 (.inl (ca 1, 3, .inr (.inl (vp_updL (vp_updL sf 0 (((0 + (((mSTA di so ro sta) 0) * ((mSTA di so ro sta) 0))) + (((mSTA di so ro sta) 1) * ((mSTA di so ro sta) 1))) + (((mSTA di so ro sta) 2) * ((mSTA di so ro sta) 2)))) 1 (0 + (((mSTA di so ro sta) 3) * ((mSTA di so ro sta) 3)))))))) 102 (.inl (ca 0, 36, .inl pl))) (by rw [vuu]) ?_
        refine gj_iinc C (v := 1) (lv' := [(4, .int 1), (3, .int 1), (2, .int (mSp ro (1 : Int32) 8)), (1, .int (mSp ro (0 : Int32) 8)), (0, .ref (ad 87))]) dX12_turning_153 0 rfl (by decide) (by decide) rfl ?_
        refine gj_goto C 115 dX12_turning_156 (by decide) ?_
        refine gj_iload C dX12_turning_115 0 rfl ?_
        refine gj_iconst C (v := 3) (by decide) dX12_turning_117 ?_
        refine gj_icmp_ge C 159 dX12_turning_118 (by decide) (fun c_49 => absurd c_49 (by decide)) (fun c_49 => ?_)
        refine gj_aload_n C 0 dX12_turning_121 rfl 4 rfl ?_
        refine gj_get C 87 (by decide) (up_nx (by decide) (up_nx (by decide) (up_nx (by decide) (up_nx (by decide) (va_up_self _ _ _))))) inX12 rfl 20 (by decide) w_869 (v := .ref (ad 101)) rfl dX12_turning_122 ?_
        refine gj_iload_n C 3 dX12_turning_125 rfl 1 rfl ?_
        refine gj_dup2_11 C rfl rfl dX12_turning_126 ?_
        refine gj_lald C 101 (by decide) (up_nx (by decide) (va_up_self _ _ _)) (by unfold vp_in; decide) dX12_turning_127 ?_
        refine gj_setl (y := 0 + (((mSTA di so ro sta) 3) * ((mSTA di so ro sta) 3))) rfl ?_
        refine gj_aload_n C 0 dX12_turning_128 rfl 4 rfl ?_
        refine gj_get C 87 (by decide) (up_nx (by decide) (up_nx (by decide) (up_nx (by decide) (up_nx (by decide) (va_up_self _ _ _))))) inX12 rfl 18 (by decide) w_867 (v := .ref (ad 99)) rfl dX12_turning_129 ?_
        refine gj_iconst C (v := 3) (by decide) dX12_turning_132 ?_
        refine gj_iload_n C 3 dX12_turning_133 rfl 1 rfl ?_
        refine gj_imul C dX12_turning_134 ?_
        refine gj_seti (y := 3) (by decide) ?_
        refine gj_iload C dX12_turning_135 0 rfl ?_
        refine gj_iadd C dX12_turning_137 ?_
        refine gj_seti (y := 4) (by decide) ?_
        refine gj_lald C 99 (by decide) (up_nx (by decide) (up_nx (by decide) (va_up_self _ _ _))) (by unfold vp_in; decide) dX12_turning_138 ?_
        refine gj_setl (y := (mSTA di so ro sta) 4) rfl ?_
        refine gj_aload_n C 0 dX12_turning_139 rfl 4 rfl ?_
        refine gj_get C 87 (by decide) (up_nx (by decide) (up_nx (by decide) (up_nx (by decide) (up_nx (by decide) (va_up_self _ _ _))))) inX12 rfl 18 (by decide) w_867 (v := .ref (ad 99)) rfl dX12_turning_140 ?_
        refine gj_iconst C (v := 3) (by decide) dX12_turning_143 ?_
        refine gj_iload_n C 3 dX12_turning_144 rfl 1 rfl ?_
        refine gj_imul C dX12_turning_145 ?_
        refine gj_seti (y := 3) (by decide) ?_
        refine gj_iload C dX12_turning_146 0 rfl ?_
        refine gj_iadd C dX12_turning_148 ?_
        refine gj_seti (y := 4) (by decide) ?_
        refine gj_lald C 99 (by decide) (up_nx (by decide) (up_nx (by decide) (va_up_self _ _ _))) (by unfold vp_in; decide) dX12_turning_149 ?_
        refine gj_setl (y := (mSTA di so ro sta) 4) rfl ?_
        refine gj_lmul C dX12_turning_150 ?_
        refine gj_ladd C dX12_turning_151 ?_
        refine gj_last C 101 (by decide) (up_nx (by decide) (va_up_self _ _ _)) (by unfold vp_in; decide) dX12_turning_152 ?_
        refine gj_setf ((up_comm (by decide)).trans (up_un (bx_uu _ _ _ _))) ?_
        refine gj_setf (g := va_up (va_up (va_up (va_up (va_up f 87 (.inr (11, [.ref (ad 88), .ref (ad 89), .ref (ad 90), .ref (ad 91), .int la, .ref (ad 92), .ref (ad 93), .ref (ad 94), .int dr, .int go, .int lo, .int ma, .ref (ad 95), .ref (ad 96), .ref (ad 97), .ref (ad 98), .int pa, .int 1, .ref (ad 99), .ref (ad 100), .ref (ad 101), .ref (ad 102), .ref (ad 103), .ref (ad 104), .int su, .ref (ad 105), .ref (ad 106), .ref (ad 107)]))) 100 (.inl (ca 1, 9, .inr (.inl (mSPA di ro spa))))) 99 (.inl (ca 1, 9, .inr (.inl (mSTA di so ro sta))))) 101 (.inl (ca 1, 3, .inr (.inl (vp_updL (vp_updL (vp_updL sf 0 (((0 + (((mSTA di so ro sta) 0) * ((mSTA di so ro sta) 0))) + (((mSTA di so ro sta) 1) * ((mSTA di so ro sta) 1))) + (((mSTA di so ro sta) 2) * ((mSTA di so ro sta) 2)))) 1 (0 + (((mSTA di so ro sta) 3) * ((mSTA di so ro sta) 3)))) 1 ((0 + (((mSTA di so ro sta) 3) * ((mSTA di so ro sta) 3))) + (((mSTA di so ro sta) 4) * ((mSTA di so ro sta) 4)))))))) 102 (.inl (ca 0, 36, .inl pl))) rfl ?_
        refine gj_setf (g := va_up (va_up (va_up (va_up (va_up f 87 (.inr (11, [.ref (ad 88), .ref (ad 89), .ref (ad 90), .ref (ad 91), .int la, .ref (ad 92), .ref (ad 93), .ref (ad 94), .int dr, .int go, .int lo, .int ma, .ref (ad 95), .ref (ad 96), .ref (ad 97), .ref (ad 98), .int pa, .int 1, .ref (ad 99), .ref (ad 100), .ref (ad 101), .ref (ad 102), .ref (ad 103), .ref (ad 104), .int su, .ref (ad 105), .ref (ad 106), .ref (ad 107)]))) 100 (.inl (ca 1, 9, .inr (.inl (mSPA di ro spa))))) 99 (.inl (ca 1, 9, .inr (.inl (mSTA di so ro sta))))) 101 (.inl (ca 1, 3, .inr (.inl (vp_updL (vp_updL sf 0 (((0 + (((mSTA di so ro sta) 0) * ((mSTA di so ro sta) 0))) + (((mSTA di so ro sta) 1) * ((mSTA di so ro sta) 1))) + (((mSTA di so ro sta) 2) * ((mSTA di so ro sta) 2)))) 1 ((0 + (((mSTA di so ro sta) 3) * ((mSTA di so ro sta) 3))) + (((mSTA di so ro sta) 4) * ((mSTA di so ro sta) 4)))))))) 102 (.inl (ca 0, 36, .inl pl))) (by rw [vuu]) ?_
        refine gj_iinc C (v := 2) (lv' := [(4, .int 2), (3, .int 1), (2, .int (mSp ro (1 : Int32) 8)), (1, .int (mSp ro (0 : Int32) 8)), (0, .ref (ad 87))]) dX12_turning_153 0 rfl (by decide) (by decide) rfl ?_
        refine gj_goto C 115 dX12_turning_156 (by decide) ?_
        refine gj_iload C dX12_turning_115 0 rfl ?_
        refine gj_iconst C (v := 3) (by decide) dX12_turning_117 ?_
        refine gj_icmp_ge C 159 dX12_turning_118 (by decide) (fun c_50 => absurd c_50 (by decide)) (fun c_50 => ?_)
        refine gj_aload_n C 0 dX12_turning_121 rfl 4 rfl ?_
        refine gj_get C 87 (by decide) (up_nx (by decide) (up_nx (by decide) (up_nx (by decide) (up_nx (by decide) (va_up_self _ _ _))))) inX12 rfl 20 (by decide) w_869 (v := .ref (ad 101)) rfl dX12_turning_122 ?_
        refine gj_iload_n C 3 dX12_turning_125 rfl 1 rfl ?_
        refine gj_dup2_11 C rfl rfl dX12_turning_126 ?_
        refine gj_lald C 101 (by decide) (up_nx (by decide) (va_up_self _ _ _)) (by unfold vp_in; decide) dX12_turning_127 ?_
        refine gj_setl (y := (0 + (((mSTA di so ro sta) 3) * ((mSTA di so ro sta) 3))) + (((mSTA di so ro sta) 4) * ((mSTA di so ro sta) 4))) rfl ?_
        refine gj_aload_n C 0 dX12_turning_128 rfl 4 rfl ?_
        refine gj_get C 87 (by decide) (up_nx (by decide) (up_nx (by decide) (up_nx (by decide) (up_nx (by decide) (va_up_self _ _ _))))) inX12 rfl 18 (by decide) w_867 (v := .ref (ad 99)) rfl dX12_turning_129 ?_
        refine gj_iconst C (v := 3) (by decide) dX12_turning_132 ?_
        refine gj_iload_n C 3 dX12_turning_133 rfl 1 rfl ?_
        refine gj_imul C dX12_turning_134 ?_
        refine gj_seti (y := 3) (by decide) ?_
        refine gj_iload C dX12_turning_135 0 rfl ?_
        refine gj_iadd C dX12_turning_137 ?_
        refine gj_seti (y := 5) (by decide) ?_
        refine gj_lald C 99 (by decide) (up_nx (by decide) (up_nx (by decide) (va_up_self _ _ _))) (by unfold vp_in; decide) dX12_turning_138 ?_
        refine gj_setl (y := (mSTA di so ro sta) 5) rfl ?_
        refine gj_aload_n C 0 dX12_turning_139 rfl 4 rfl ?_
        refine gj_get C 87 (by decide) (up_nx (by decide) (up_nx (by decide) (up_nx (by decide) (up_nx (by decide) (va_up_self _ _ _))))) inX12 rfl 18 (by decide) w_867 (v := .ref (ad 99)) rfl dX12_turning_140 ?_
        refine gj_iconst C (v := 3) (by decide) dX12_turning_143 ?_
        refine gj_iload_n C 3 dX12_turning_144 rfl 1 rfl ?_
        refine gj_imul C dX12_turning_145 ?_
        refine gj_seti (y := 3) (by decide) ?_
        refine gj_iload C dX12_turning_146 0 rfl ?_
        refine gj_iadd C dX12_turning_148 ?_
        refine gj_seti (y := 5) (by decide) ?_
        refine gj_lald C 99 (by decide) (up_nx (by decide) (up_nx (by decide) (va_up_self _ _ _))) (by unfold vp_in; decide) dX12_turning_149 ?_
        refine gj_setl (y := (mSTA di so ro sta) 5) rfl ?_
        refine gj_lmul C dX12_turning_150 ?_
        refine gj_ladd C dX12_turning_151 ?_
        refine gj_last C 101 (by decide) (up_nx (by decide) (va_up_self _ _ _)) (by unfold vp_in; decide) dX12_turning_152 ?_
        refine gj_setf ((up_comm (by decide)).trans (up_un (bx_uu _ _ _ _))) ?_
        refine gj_setf (g := va_up (va_up (va_up (va_up (va_up f 87 (.inr (11, [.ref (ad 88), .ref (ad 89), .ref (ad 90), .ref (ad 91), .int la, .ref (ad 92), .ref (ad 93), .ref (ad 94), .int dr, .int go, .int lo, .int ma, .ref (ad 95), .ref (ad 96), .ref (ad 97), .ref (ad 98), .int pa, .int 1, .ref (ad 99), .ref (ad 100), .ref (ad 101), .ref (ad 102), .ref (ad 103), .ref (ad 104), .int su, .ref (ad 105), .ref (ad 106), .ref (ad 107)]))) 100 (.inl (ca 1, 9, .inr (.inl (mSPA di ro spa))))) 99 (.inl (ca 1, 9, .inr (.inl (mSTA di so ro sta))))) 101 (.inl (ca 1, 3, .inr (.inl (vp_updL (vp_updL (vp_updL sf 0 (((0 + (((mSTA di so ro sta) 0) * ((mSTA di so ro sta) 0))) + (((mSTA di so ro sta) 1) * ((mSTA di so ro sta) 1))) + (((mSTA di so ro sta) 2) * ((mSTA di so ro sta) 2)))) 1 ((0 + (((mSTA di so ro sta) 3) * ((mSTA di so ro sta) 3))) + (((mSTA di so ro sta) 4) * ((mSTA di so ro sta) 4)))) 1 (((0 + (((mSTA di so ro sta) 3) * ((mSTA di so ro sta) 3))) + (((mSTA di so ro sta) 4) * ((mSTA di so ro sta) 4))) + (((mSTA di so ro sta) 5) * ((mSTA di so ro sta) 5)))))))) 102 (.inl (ca 0, 36, .inl pl))) rfl ?_
        refine gj_setf (g := va_up (va_up (va_up (va_up (va_up f 87 (.inr (11, [.ref (ad 88), .ref (ad 89), .ref (ad 90), .ref (ad 91), .int la, .ref (ad 92), .ref (ad 93), .ref (ad 94), .int dr, .int go, .int lo, .int ma, .ref (ad 95), .ref (ad 96), .ref (ad 97), .ref (ad 98), .int pa, .int 1, .ref (ad 99), .ref (ad 100), .ref (ad 101), .ref (ad 102), .ref (ad 103), .ref (ad 104), .int su, .ref (ad 105), .ref (ad 106), .ref (ad 107)]))) 100 (.inl (ca 1, 9, .inr (.inl (mSPA di ro spa))))) 99 (.inl (ca 1, 9, .inr (.inl (mSTA di so ro sta))))) 101 (.inl (ca 1, 3, .inr (.inl (vp_updL (vp_updL sf 0 (((0 + (((mSTA di so ro sta) 0) * ((mSTA di so ro sta) 0))) + (((mSTA di so ro sta) 1) * ((mSTA di so ro sta) 1))) + (((mSTA di so ro sta) 2) * ((mSTA di so ro sta) 2)))) 1 (((0 + (((mSTA di so ro sta) 3) * ((mSTA di so ro sta) 3))) + (((mSTA di so ro sta) 4) * ((mSTA di so ro sta) 4))) + (((mSTA di so ro sta) 5) * ((mSTA di so ro sta) 5)))))))) 102 (.inl (ca 0, 36, .inl pl))) (by rw [vuu]) ?_
        refine gj_iinc C (v := 3) (lv' := [(4, .int 3), (3, .int 1), (2, .int (mSp ro (1 : Int32) 8)), (1, .int (mSp ro (0 : Int32) 8)), (0, .ref (ad 87))]) dX12_turning_153 0 rfl (by decide) (by decide) rfl ?_
        refine gj_goto C 115 dX12_turning_156 (by decide) ?_
        refine gj_iload C dX12_turning_115 0 rfl ?_
        refine gj_iconst C (v := 3) (by decide) dX12_turning_117 ?_
        refine gj_icmp_ge C 159 dX12_turning_118 (by decide) (fun c_51 => ?_) (fun c_51 => absurd (by decide) c_51)
        refine gj_iinc C (v := 2) (lv' := [(3, .int 2), (4, .int 3), (2, .int (mSp ro (1 : Int32) 8)), (1, .int (mSp ro (0 : Int32) 8)), (0, .ref (ad 87))]) dX12_turning_159 1 rfl (by decide) (by decide) rfl ?_
        refine gj_goto C 100 dX12_turning_162 (by decide) ?_
        refine gj_iload_n C 3 dX12_turning_100 rfl 0 rfl ?_
        refine gj_iconst C (v := 3) (by decide) dX12_turning_101 ?_
        refine gj_icmp_ge C 165 dX12_turning_102 (by decide) (fun c_52 => absurd c_52 (by decide)) (fun c_52 => ?_)
        refine gj_aload_n C 0 dX12_turning_105 rfl 4 rfl ?_
        refine gj_get C 87 (by decide) (up_nx (by decide) (up_nx (by decide) (up_nx (by decide) (up_nx (by decide) (va_up_self _ _ _))))) inX12 rfl 20 (by decide) w_869 (v := .ref (ad 101)) rfl dX12_turning_106 ?_
        refine gj_iload_n C 3 dX12_turning_109 rfl 0 rfl ?_
        refine gj_lconst C (v := 0) rfl dX12_turning_110 ?_
        refine gj_last C 101 (by decide) (up_nx (by decide) (va_up_self _ _ _)) (by unfold vp_in; decide) dX12_turning_111 ?_
        refine gj_setf ((up_comm (by decide)).trans (up_un (bx_uu _ _ _ _))) ?_
        refine gj_setf (g := va_up (va_up (va_up (va_up (va_up f 87 (.inr (11, [.ref (ad 88), .ref (ad 89), .ref (ad 90), .ref (ad 91), .int la, .ref (ad 92), .ref (ad 93), .ref (ad 94), .int dr, .int go, .int lo, .int ma, .ref (ad 95), .ref (ad 96), .ref (ad 97), .ref (ad 98), .int pa, .int 1, .ref (ad 99), .ref (ad 100), .ref (ad 101), .ref (ad 102), .ref (ad 103), .ref (ad 104), .int su, .ref (ad 105), .ref (ad 106), .ref (ad 107)]))) 100 (.inl (ca 1, 9, .inr (.inl (mSPA di ro spa))))) 99 (.inl (ca 1, 9, .inr (.inl (mSTA di so ro sta))))) 101 (.inl (ca 1, 3, .inr (.inl (vp_updL (vp_updL (vp_updL sf 0 (((0 + (((mSTA di so ro sta) 0) * ((mSTA di so ro sta) 0))) + (((mSTA di so ro sta) 1) * ((mSTA di so ro sta) 1))) + (((mSTA di so ro sta) 2) * ((mSTA di so ro sta) 2)))) 1 (((0 + (((mSTA di so ro sta) 3) * ((mSTA di so ro sta) 3))) + (((mSTA di so ro sta) 4) * ((mSTA di so ro sta) 4))) + (((mSTA di so ro sta) 5) * ((mSTA di so ro sta) 5)))) 2 0))))) 102 (.inl (ca 0, 36, .inl pl))) rfl ?_
        refine gj_iconst C (v := 0) (by decide) dX12_turning_112 ?_
        refine gj_istore C (lv' := [(4, .int 0), (3, .int 2), (2, .int (mSp ro (1 : Int32) 8)), (1, .int (mSp ro (0 : Int32) 8)), (0, .ref (ad 87))]) dX12_turning_113 (by decide) rfl ?_
        refine gj_iload C dX12_turning_115 0 rfl ?_
        refine gj_iconst C (v := 3) (by decide) dX12_turning_117 ?_
        refine gj_icmp_ge C 159 dX12_turning_118 (by decide) (fun c_53 => absurd c_53 (by decide)) (fun c_53 => ?_)
        refine gj_aload_n C 0 dX12_turning_121 rfl 4 rfl ?_
        refine gj_get C 87 (by decide) (up_nx (by decide) (up_nx (by decide) (up_nx (by decide) (up_nx (by decide) (va_up_self _ _ _))))) inX12 rfl 20 (by decide) w_869 (v := .ref (ad 101)) rfl dX12_turning_122 ?_
        refine gj_iload_n C 3 dX12_turning_125 rfl 1 rfl ?_
        refine gj_dup2_11 C rfl rfl dX12_turning_126 ?_
        refine gj_lald C 101 (by decide) (up_nx (by decide) (va_up_self _ _ _)) (by unfold vp_in; decide) dX12_turning_127 ?_
        refine gj_setl (y := 0) rfl ?_
        refine gj_aload_n C 0 dX12_turning_128 rfl 4 rfl ?_
        refine gj_get C 87 (by decide) (up_nx (by decide) (up_nx (by decide) (up_nx (by decide) (up_nx (by decide) (va_up_self _ _ _))))) inX12 rfl 18 (by decide) w_867 (v := .ref (ad 99)) rfl dX12_turning_129 ?_
        refine gj_iconst C (v := 3) (by decide) dX12_turning_132 ?_
        refine gj_iload_n C 3 dX12_turning_133 rfl 1 rfl ?_
        refine gj_imul C dX12_turning_134 ?_
        refine gj_seti (y := 6) (by decide) ?_
        refine gj_iload C dX12_turning_135 0 rfl ?_
        refine gj_iadd C dX12_turning_137 ?_
        refine gj_seti (y := 6) (by decide) ?_
        refine gj_lald C 99 (by decide) (up_nx (by decide) (up_nx (by decide) (va_up_self _ _ _))) (by unfold vp_in; decide) dX12_turning_138 ?_
        refine gj_setl (y := (mSTA di so ro sta) 6) rfl ?_
        refine gj_aload_n C 0 dX12_turning_139 rfl 4 rfl ?_
        refine gj_get C 87 (by decide) (up_nx (by decide) (up_nx (by decide) (up_nx (by decide) (up_nx (by decide) (va_up_self _ _ _))))) inX12 rfl 18 (by decide) w_867 (v := .ref (ad 99)) rfl dX12_turning_140 ?_
        refine gj_iconst C (v := 3) (by decide) dX12_turning_143 ?_
        refine gj_iload_n C 3 dX12_turning_144 rfl 1 rfl ?_
        refine gj_imul C dX12_turning_145 ?_
        refine gj_seti (y := 6) (by decide) ?_
        refine gj_iload C dX12_turning_146 0 rfl ?_
        refine gj_iadd C dX12_turning_148 ?_
        refine gj_seti (y := 6) (by decide) ?_
        refine gj_lald C 99 (by decide) (up_nx (by decide) (up_nx (by decide) (va_up_self _ _ _))) (by unfold vp_in; decide) dX12_turning_149 ?_
        refine gj_setl (y := (mSTA di so ro sta) 6) rfl ?_
        refine gj_lmul C dX12_turning_150 ?_
        refine gj_ladd C dX12_turning_151 ?_
        refine gj_last C 101 (by decide) (up_nx (by decide) (va_up_self _ _ _)) (by unfold vp_in; decide) dX12_turning_152 ?_
        refine gj_setf ((up_comm (by decide)).trans (up_un (bx_uu _ _ _ _))) ?_
        refine gj_setf (g := va_up (va_up (va_up (va_up (va_up f 87 (.inr (11, [.ref (ad 88), .ref (ad 89), .ref (ad 90), .ref (ad 91), .int la, .ref (ad 92), .ref (ad 93), .ref (ad 94), .int dr, .int go, .int lo, .int ma, .ref (ad 95), .ref (ad 96), .ref (ad 97), .ref (ad 98), .int pa, .int 1, .ref (ad 99), .ref (ad 100), .ref (ad 101), .ref (ad 102), .ref (ad 103), .ref (ad 104), .int su, .ref (ad 105), .ref (ad 106), .ref (ad 107)]))) 100 (.inl (ca 1, 9, .inr (.inl (mSPA di ro spa))))) 99 (.inl (ca 1, 9, .inr (.inl (mSTA di so ro sta))))) 101 (.inl (ca 1, 3, .inr (.inl (vp_updL (vp_updL (vp_updL (vp_updL sf 0 (((0 + (((mSTA di so ro sta) 0) * ((mSTA di so ro sta) 0))) + (((mSTA di so ro sta) 1) * ((mSTA di so ro sta) 1))) + (((mSTA di so ro sta) 2) * ((mSTA di so ro sta) 2)))) 1 (((0 + (((mSTA di so ro sta) 3) * ((mSTA di so ro sta) 3))) + (((mSTA di so ro sta) 4) * ((mSTA di so ro sta) 4))) + (((mSTA di so ro sta) 5) * ((mSTA di so ro sta) 5)))) 2 0) 2 (0 + (((mSTA di so ro sta) 6) * ((mSTA di so ro sta) 6)))))))) 102 (.inl (ca 0, 36, .inl pl))) rfl ?_
        refine gj_setf (g := va_up (va_up (va_up (va_up (va_up f 87 (.inr (11, [.ref (ad 88), .ref (ad 89), .ref (ad 90), .ref (ad 91), .int la, .ref (ad 92), .ref (ad 93), .ref (ad 94), .int dr, .int go, .int lo, .int ma, .ref (ad 95), .ref (ad 96), .ref (ad 97), .ref (ad 98), .int pa, .int 1, .ref (ad 99), .ref (ad 100), .ref (ad 101), .ref (ad 102), .ref (ad 103), .ref (ad 104), .int su, .ref (ad 105), .ref (ad 106), .ref (ad 107)]))) 100 (.inl (ca 1, 9, .inr (.inl (mSPA di ro spa))))) 99 (.inl (ca 1, 9, .inr (.inl (mSTA di so ro sta))))) 101 (.inl (ca 1, 3, .inr (.inl (vp_updL (vp_updL (vp_updL sf 0 (((0 + (((mSTA di so ro sta) 0) * ((mSTA di so ro sta) 0))) + (((mSTA di so ro sta) 1) * ((mSTA di so ro sta) 1))) + (((mSTA di so ro sta) 2) * ((mSTA di so ro sta) 2)))) 1 (((0 + (((mSTA di so ro sta) 3) * ((mSTA di so ro sta) 3))) + (((mSTA di so ro sta) 4) * ((mSTA di so ro sta) 4))) + (((mSTA di so ro sta) 5) * ((mSTA di so ro sta) 5)))) 2 (0 + (((mSTA di so ro sta) 6) * ((mSTA di so ro sta) 6)))))))) 102 (.inl (ca 0, 36, .inl pl))) (by rw [vuu]) ?_
        refine gj_iinc C (v := 1) (lv' := [(4, .int 1), (3, .int 2), (2, .int (mSp ro (1 : Int32) 8)), (1, .int (mSp ro (0 : Int32) 8)), (0, .ref (ad 87))]) dX12_turning_153 0 rfl (by decide) (by decide) rfl ?_
        refine gj_goto C 115 dX12_turning_156 (by decide) ?_
        refine gj_iload C dX12_turning_115 0 rfl ?_
        refine gj_iconst C (v := 3) (by decide) dX12_turning_117 ?_
        refine gj_icmp_ge C 159 dX12_turning_118 (by decide) (fun c_54 => absurd c_54 (by decide)) (fun c_54 => ?_)
        refine gj_aload_n C 0 dX12_turning_121 rfl 4 rfl ?_
        refine gj_get C 87 (by decide) (up_nx (by decide) (up_nx (by decide) (up_nx (by decide) (up_nx (by decide) (va_up_self _ _ _))))) inX12 rfl 20 (by decide) w_869 (v := .ref (ad 101)) rfl dX12_turning_122 ?_
        refine gj_iload_n C 3 dX12_turning_125 rfl 1 rfl ?_
        refine gj_dup2_11 C rfl rfl dX12_turning_126 ?_
        refine gj_lald C 101 (by decide) (up_nx (by decide) (va_up_self _ _ _)) (by unfold vp_in; decide) dX12_turning_127 ?_
        refine gj_setl (y := 0 + (((mSTA di so ro sta) 6) * ((mSTA di so ro sta) 6))) rfl ?_
        refine gj_aload_n C 0 dX12_turning_128 rfl 4 rfl ?_
        refine gj_get C 87 (by decide) (up_nx (by decide) (up_nx (by decide) (up_nx (by decide) (up_nx (by decide) (va_up_self _ _ _))))) inX12 rfl 18 (by decide) w_867 (v := .ref (ad 99)) rfl dX12_turning_129 ?_
        refine gj_iconst C (v := 3) (by decide) dX12_turning_132 ?_
        refine gj_iload_n C 3 dX12_turning_133 rfl 1 rfl ?_
        refine gj_imul C dX12_turning_134 ?_
        refine gj_seti (y := 6) (by decide) ?_
        refine gj_iload C dX12_turning_135 0 rfl ?_
        refine gj_iadd C dX12_turning_137 ?_
        refine gj_seti (y := 7) (by decide) ?_
        refine gj_lald C 99 (by decide) (up_nx (by decide) (up_nx (by decide) (va_up_self _ _ _))) (by unfold vp_in; decide) dX12_turning_138 ?_
        refine gj_setl (y := (mSTA di so ro sta) 7) rfl ?_
        refine gj_aload_n C 0 dX12_turning_139 rfl 4 rfl ?_
        refine gj_get C 87 (by decide) (up_nx (by decide) (up_nx (by decide) (up_nx (by decide) (up_nx (by decide) (va_up_self _ _ _))))) inX12 rfl 18 (by decide) w_867 (v := .ref (ad 99)) rfl dX12_turning_140 ?_
        refine gj_iconst C (v := 3) (by decide) dX12_turning_143 ?_
        refine gj_iload_n C 3 dX12_turning_144 rfl 1 rfl ?_
        refine gj_imul C dX12_turning_145 ?_
        refine gj_seti (y := 6) (by decide) ?_
        refine gj_iload C dX12_turning_146 0 rfl ?_
        refine gj_iadd C dX12_turning_148 ?_
        refine gj_seti (y := 7) (by decide) ?_
        refine gj_lald C 99 (by decide) (up_nx (by decide) (up_nx (by decide) (va_up_self _ _ _))) (by unfold vp_in; decide) dX12_turning_149 ?_
        refine gj_setl (y := (mSTA di so ro sta) 7) rfl ?_
        refine gj_lmul C dX12_turning_150 ?_
        refine gj_ladd C dX12_turning_151 ?_
        refine gj_last C 101 (by decide) (up_nx (by decide) (va_up_self _ _ _)) (by unfold vp_in; decide) dX12_turning_152 ?_
        refine gj_setf ((up_comm (by decide)).trans (up_un (bx_uu _ _ _ _))) ?_
        refine gj_setf (g := va_up (va_up (va_up (va_up (va_up f 87 (.inr (11, [.ref (ad 88), .ref (ad 89), .ref (ad 90), .ref (ad 91), .int la, .ref (ad 92), .ref (ad 93), .ref (ad 94), .int dr, .int go, .int lo, .int ma, .ref (ad 95), .ref (ad 96), .ref (ad 97), .ref (ad 98), .int pa, .int 1, .ref (ad 99), .ref (ad 100), .ref (ad 101), .ref (ad 102), .ref (ad 103), .ref (ad 104), .int su, .ref (ad 105), .ref (ad 106), .ref (ad 107)]))) 100 (.inl (ca 1, 9, .inr (.inl (mSPA di ro spa))))) 99 (.inl (ca 1, 9, .inr (.inl (mSTA di so ro sta))))) 101 (.inl (ca 1, 3, .inr (.inl (vp_updL (vp_updL (vp_updL (vp_updL sf 0 (((0 + (((mSTA di so ro sta) 0) * ((mSTA di so ro sta) 0))) + (((mSTA di so ro sta) 1) * ((mSTA di so ro sta) 1))) + (((mSTA di so ro sta) 2) * ((mSTA di so ro sta) 2)))) 1 (((0 + (((mSTA di so ro sta) 3) * ((mSTA di so ro sta) 3))) + (((mSTA di so ro sta) 4) * ((mSTA di so ro sta) 4))) + (((mSTA di so ro sta) 5) * ((mSTA di so ro sta) 5)))) 2 (0 + (((mSTA di so ro sta) 6) * ((mSTA di so ro sta) 6)))) 2 ((0 + (((mSTA di so ro sta) 6) * ((mSTA di so ro sta) 6))) + (((mSTA di so ro sta) 7) * ((mSTA di so ro sta) 7)))))))) 102 (.inl (ca 0, 36, .inl pl))) rfl ?_
        refine gj_setf (g := va_up (va_up (va_up (va_up (va_up f 87 (.inr (11, [.ref (ad 88), .ref (ad 89), .ref (ad 90), .ref (ad 91), .int la, .ref (ad 92), .ref (ad 93), .ref (ad 94), .int dr, .int go, .int lo, .int ma, .ref (ad 95), .ref (ad 96), .ref (ad 97), .ref (ad 98), .int pa, .int 1, .ref (ad 99), .ref (ad 100), .ref (ad 101), .ref (ad 102), .ref (ad 103), .ref (ad 104), .int su, .ref (ad 105), .ref (ad 106), .ref (ad 107)]))) 100 (.inl (ca 1, 9, .inr (.inl (mSPA di ro spa))))) 99 (.inl (ca 1, 9, .inr (.inl (mSTA di so ro sta))))) 101 (.inl (ca 1, 3, .inr (.inl (vp_updL (vp_updL (vp_updL sf 0 (((0 + (((mSTA di so ro sta) 0) * ((mSTA di so ro sta) 0))) + (((mSTA di so ro sta) 1) * ((mSTA di so ro sta) 1))) + (((mSTA di so ro sta) 2) * ((mSTA di so ro sta) 2)))) 1 (((0 + (((mSTA di so ro sta) 3) * ((mSTA di so ro sta) 3))) + (((mSTA di so ro sta) 4) * ((mSTA di so ro sta) 4))) + (((mSTA di so ro sta) 5) * ((mSTA di so ro sta) 5)))) 2 ((0 + (((mSTA di so ro sta) 6) * ((mSTA di so ro sta) 6))) + (((mSTA di so ro sta) 7) * ((mSTA di so ro sta) 7)))))))) 102 (.inl (ca 0, 36, .inl pl))) (by rw [vuu]) ?_
        refine gj_iinc C (v := 2) (lv' := [(4, .int 2), (3, .int 2), (2, .int (mSp ro (1 : Int32) 8)), (1, .int (mSp ro (0 : Int32) 8)), (0, .ref (ad 87))]) dX12_turning_153 0 rfl (by decide) (by decide) rfl ?_
        refine gj_goto C 115 dX12_turning_156 (by decide) ?_
        refine gj_iload C dX12_turning_115 0 rfl ?_
        refine gj_iconst C (v := 3) (by decide) dX12_turning_117 ?_
        refine gj_icmp_ge C 159 dX12_turning_118 (by decide) (fun c_55 => absurd c_55 (by decide)) (fun c_55 => ?_)
        refine gj_aload_n C 0 dX12_turning_121 rfl 4 rfl ?_
        refine gj_get C 87 (by decide) (up_nx (by decide) (up_nx (by decide) (up_nx (by decide) (up_nx (by decide) (va_up_self _ _ _))))) inX12 rfl 20 (by decide) w_869 (v := .ref (ad 101)) rfl dX12_turning_122 ?_
        refine gj_iload_n C 3 dX12_turning_125 rfl 1 rfl ?_
        refine gj_dup2_11 C rfl rfl dX12_turning_126 ?_
        refine gj_lald C 101 (by decide) (up_nx (by decide) (va_up_self _ _ _)) (by unfold vp_in; decide) dX12_turning_127 ?_
        refine gj_setl (y := (0 + (((mSTA di so ro sta) 6) * ((mSTA di so ro sta) 6))) + (((mSTA di so ro sta) 7) * ((mSTA di so ro sta) 7))) rfl ?_
        refine gj_aload_n C 0 dX12_turning_128 rfl 4 rfl ?_
        refine gj_get C 87 (by decide) (up_nx (by decide) (up_nx (by decide) (up_nx (by decide) (up_nx (by decide) (va_up_self _ _ _))))) inX12 rfl 18 (by decide) w_867 (v := .ref (ad 99)) rfl dX12_turning_129 ?_
        refine gj_iconst C (v := 3) (by decide) dX12_turning_132 ?_
        refine gj_iload_n C 3 dX12_turning_133 rfl 1 rfl ?_
        refine gj_imul C dX12_turning_134 ?_
        refine gj_seti (y := 6) (by decide) ?_
        refine gj_iload C dX12_turning_135 0 rfl ?_
        refine gj_iadd C dX12_turning_137 ?_
        refine gj_seti (y := 8) (by decide) ?_
        refine gj_lald C 99 (by decide) (up_nx (by decide) (up_nx (by decide) (va_up_self _ _ _))) (by unfold vp_in; decide) dX12_turning_138 ?_
        refine gj_setl (y := (mSTA di so ro sta) 8) rfl ?_
        refine gj_aload_n C 0 dX12_turning_139 rfl 4 rfl ?_
        refine gj_get C 87 (by decide) (up_nx (by decide) (up_nx (by decide) (up_nx (by decide) (up_nx (by decide) (va_up_self _ _ _))))) inX12 rfl 18 (by decide) w_867 (v := .ref (ad 99)) rfl dX12_turning_140 ?_
        refine gj_iconst C (v := 3) (by decide) dX12_turning_143 ?_
        refine gj_iload_n C 3 dX12_turning_144 rfl 1 rfl ?_
        refine gj_imul C dX12_turning_145 ?_
        refine gj_seti (y := 6) (by decide) ?_
        refine gj_iload C dX12_turning_146 0 rfl ?_
        refine gj_iadd C dX12_turning_148 ?_
        refine gj_seti (y := 8) (by decide) ?_
        refine gj_lald C 99 (by decide) (up_nx (by decide) (up_nx (by decide) (va_up_self _ _ _))) (by unfold vp_in; decide) dX12_turning_149 ?_
        refine gj_setl (y := (mSTA di so ro sta) 8) rfl ?_
        refine gj_lmul C dX12_turning_150 ?_
        refine gj_ladd C dX12_turning_151 ?_
        refine gj_last C 101 (by decide) (up_nx (by decide) (va_up_self _ _ _)) (by unfold vp_in; decide) dX12_turning_152 ?_
        refine gj_setf ((up_comm (by decide)).trans (up_un (bx_uu _ _ _ _))) ?_
        refine gj_setf (g := va_up (va_up (va_up (va_up (va_up f 87 (.inr (11, [.ref (ad 88), .ref (ad 89), .ref (ad 90), .ref (ad 91), .int la, .ref (ad 92), .ref (ad 93), .ref (ad 94), .int dr, .int go, .int lo, .int ma, .ref (ad 95), .ref (ad 96), .ref (ad 97), .ref (ad 98), .int pa, .int 1, .ref (ad 99), .ref (ad 100), .ref (ad 101), .ref (ad 102), .ref (ad 103), .ref (ad 104), .int su, .ref (ad 105), .ref (ad 106), .ref (ad 107)]))) 100 (.inl (ca 1, 9, .inr (.inl (mSPA di ro spa))))) 99 (.inl (ca 1, 9, .inr (.inl (mSTA di so ro sta))))) 101 (.inl (ca 1, 3, .inr (.inl (vp_updL (vp_updL (vp_updL (vp_updL sf 0 (((0 + (((mSTA di so ro sta) 0) * ((mSTA di so ro sta) 0))) + (((mSTA di so ro sta) 1) * ((mSTA di so ro sta) 1))) + (((mSTA di so ro sta) 2) * ((mSTA di so ro sta) 2)))) 1 (((0 + (((mSTA di so ro sta) 3) * ((mSTA di so ro sta) 3))) + (((mSTA di so ro sta) 4) * ((mSTA di so ro sta) 4))) + (((mSTA di so ro sta) 5) * ((mSTA di so ro sta) 5)))) 2 ((0 + (((mSTA di so ro sta) 6) * ((mSTA di so ro sta) 6))) + (((mSTA di so ro sta) 7) * ((mSTA di so ro sta) 7)))) 2 (((0 + (((mSTA di so ro sta) 6) * ((mSTA di so ro sta) 6))) + (((mSTA di so ro sta) 7) * ((mSTA di so ro sta) 7))) + (((mSTA di so ro sta) 8) * ((mSTA di so ro sta) 8)))))))) 102 (.inl (ca 0, 36, .inl pl))) rfl ?_
        refine gj_setf (g := va_up (va_up (va_up (va_up (va_up f 87 (.inr (11, [.ref (ad 88), .ref (ad 89), .ref (ad 90), .ref (ad 91), .int la, .ref (ad 92), .ref (ad 93), .ref (ad 94), .int dr, .int go, .int lo, .int ma, .ref (ad 95), .ref (ad 96), .ref (ad 97), .ref (ad 98), .int pa, .int 1, .ref (ad 99), .ref (ad 100), .ref (ad 101), .ref (ad 102), .ref (ad 103), .ref (ad 104), .int su, .ref (ad 105), .ref (ad 106), .ref (ad 107)]))) 100 (.inl (ca 1, 9, .inr (.inl (mSPA di ro spa))))) 99 (.inl (ca 1, 9, .inr (.inl (mSTA di so ro sta))))) 101 (.inl (ca 1, 3, .inr (.inl (vp_updL (vp_updL (vp_updL sf 0 (((0 + (((mSTA di so ro sta) 0) * ((mSTA di so ro sta) 0))) + (((mSTA di so ro sta) 1) * ((mSTA di so ro sta) 1))) + (((mSTA di so ro sta) 2) * ((mSTA di so ro sta) 2)))) 1 (((0 + (((mSTA di so ro sta) 3) * ((mSTA di so ro sta) 3))) + (((mSTA di so ro sta) 4) * ((mSTA di so ro sta) 4))) + (((mSTA di so ro sta) 5) * ((mSTA di so ro sta) 5)))) 2 (((0 + (((mSTA di so ro sta) 6) * ((mSTA di so ro sta) 6))) + (((mSTA di so ro sta) 7) * ((mSTA di so ro sta) 7))) + (((mSTA di so ro sta) 8) * ((mSTA di so ro sta) 8)))))))) 102 (.inl (ca 0, 36, .inl pl))) (by rw [vuu]) ?_
        refine gj_iinc C (v := 3) (lv' := [(4, .int 3), (3, .int 2), (2, .int (mSp ro (1 : Int32) 8)), (1, .int (mSp ro (0 : Int32) 8)), (0, .ref (ad 87))]) dX12_turning_153 0 rfl (by decide) (by decide) rfl ?_
        refine gj_goto C 115 dX12_turning_156 (by decide) ?_
        refine gj_iload C dX12_turning_115 0 rfl ?_
        refine gj_iconst C (v := 3) (by decide) dX12_turning_117 ?_
        refine gj_icmp_ge C 159 dX12_turning_118 (by decide) (fun c_56 => ?_) (fun c_56 => absurd (by decide) c_56)
        refine gj_iinc C (v := 3) (lv' := [(3, .int 3), (4, .int 3), (2, .int (mSp ro (1 : Int32) 8)), (1, .int (mSp ro (0 : Int32) 8)), (0, .ref (ad 87))]) dX12_turning_159 1 rfl (by decide) (by decide) rfl ?_
        refine gj_goto C 100 dX12_turning_162 (by decide) ?_
        refine gj_iload_n C 3 dX12_turning_100 rfl 0 rfl ?_
        refine gj_iconst C (v := 3) (by decide) dX12_turning_101 ?_
        refine gj_icmp_ge C 165 dX12_turning_102 (by decide) (fun c_57 => ?_) (fun c_57 => absurd (by decide) c_57)
        refine gj_setf (g := va_up (va_up (va_up (va_up (va_up f 87 (.inr (11, [.ref (ad 88), .ref (ad 89), .ref (ad 90), .ref (ad 91), .int la, .ref (ad 92), .ref (ad 93), .ref (ad 94), .int dr, .int go, .int lo, .int ma, .ref (ad 95), .ref (ad 96), .ref (ad 97), .ref (ad 98), .int pa, .int 1, .ref (ad 99), .ref (ad 100), .ref (ad 101), .ref (ad 102), .ref (ad 103), .ref (ad 104), .int su, .ref (ad 105), .ref (ad 106), .ref (ad 107)]))) 100 (.inl (ca 1, 9, .inr (.inl (mSPA di ro spa))))) 99 (.inl (ca 1, 9, .inr (.inl (mSTA di so ro sta))))) 101 (.inl (ca 1, 3, .inr (.inl (selfF sf (mSTA di so ro sta)))))) 102 (.inl (ca 0, 36, .inl pl))) rfl ?_
        refine gj_iconst C (v := 0) (by decide) dX12_turning_165 ?_
        refine gj_seti (y := nI 0) rfl ?_
        refine gj_istore_n C (lv' := [(3, .int (nI 0)), (4, .int 3), (2, .int (mSp ro (1 : Int32) 8)), (1, .int (mSp ro (0 : Int32) 8)), (0, .ref (ad 87))]) 3 dX12_turning_166 rfl (by decide) rfl ?_
        refine gj_setf (g := va_up (va_up (va_up (va_up (va_up f 87 (.inr (11, [.ref (ad 88), .ref (ad 89), .ref (ad 90), .ref (ad 91), .int la, .ref (ad 92), .ref (ad 93), .ref (ad 94), .int dr, .int go, .int lo, .int ma, .ref (ad 95), .ref (ad 96), .ref (ad 97), .ref (ad 98), .int pa, .int 1, .ref (ad 99), .ref (ad 100), .ref (ad 101), .ref (ad 102), .ref (ad 103), .ref (ad 104), .int su, .ref (ad 105), .ref (ad 106), .ref (ad 107)]))) 100 (.inl (ca 1, 9, .inr (.inl (mSPA di ro spa))))) 99 (.inl (ca 1, 9, .inr (.inl (mSTA di so ro sta))))) 101 (.inl (ca 1, 3, .inr (.inl (selfF sf (mSTA di so ro sta)))))) 102 (.inl (ca 0, 36, .inl (plF di (mSTA di so ro sta) (mSPA di ro spa) (selfF sf (mSTA di so ro sta)) pl 0)))) (by rw [plF_0]) ?_
        have loop_58 : ∀ (m0 t0 : Nat), t0 + m0 = (3 * n0) → gJ pT l eT (Rm 2) sT mT aT below meth cT AT QT D ad 108 5 (va_up (va_up (va_up (va_up (va_up f 87 (.inr (11, [.ref (ad 88), .ref (ad 89), .ref (ad 90), .ref (ad 91), .int la, .ref (ad 92), .ref (ad 93), .ref (ad 94), .int dr, .int go, .int lo, .int ma, .ref (ad 95), .ref (ad 96), .ref (ad 97), .ref (ad 98), .int pa, .int 1, .ref (ad 99), .ref (ad 100), .ref (ad 101), .ref (ad 102), .ref (ad 103), .ref (ad 104), .int su, .ref (ad 105), .ref (ad 106), .ref (ad 107)]))) 100 (.inl (ca 1, 9, .inr (.inl (mSPA di ro spa))))) 99 (.inl (ca 1, 9, .inr (.inl (mSTA di so ro sta))))) 101 (.inl (ca 1, 3, .inr (.inl (selfF sf (mSTA di so ro sta)))))) 102 (.inl (ca 0, 36, .inl (plF di (mSTA di so ro sta) (mSPA di ro spa) (selfF sf (mSTA di so ro sta)) pl t0)))) [(3, .int (nI t0)), (0, .ref (ad 87))] 167 [] := by
          intro m0
          induction m0 with
          | zero =>
            intro t0 hk_t0 
            obtain rfl : t0 = (3 * n0) := (by omega)
            refine gj_iload_n C 3 dX12_turning_167 rfl 0 rfl ?_
            refine gj_iconst C (v := 3) (by decide) dX12_turning_168 ?_
            refine gj_aload_n C 0 dX12_turning_169 rfl 1 rfl ?_
            refine gj_get C 87 (by decide) (up_nx (by decide) (up_nx (by decide) (up_nx (by decide) (up_nx (by decide) (va_up_self _ _ _))))) inX12 rfl 6 (by decide) w_855 (v := .ref (ad 93)) rfl dX12_turning_170 ?_
            refine gj_iconst C (v := 0) (by decide) dX12_turning_173 ?_
            refine gj_iald C 93 (by decide) (up_nx (by decide) (up_nx (by decide) (up_nx (by decide) (up_nx (by decide) (up_nx (by decide) (hc2)))))) (by unfold vp_in; decide) dX12_turning_174 ?_
            refine gj_seti h0 ?_
            refine gj_imul C dX12_turning_175 ?_
            refine gj_seti (y := nI (3 * n0)) (pk_mul 3 n0) ?_
            refine gj_icmp_ge C 208 dX12_turning_176 (by decide) (fun c_60 => ?_) (fun c_60 => absurd (Int32.le_refl _) c_60)
            exact RT _ _ _ (by rw [show (mTurn di so ro n0 pa spa sta sf pl) = (1, mSPA di ro spa, mSTA di so ro sta, selfF sf (mSTA di so ro sta), plF di (mSTA di so ro sta) (mSPA di ro spa) (selfF sf (mSTA di so ro sta)) pl (3 * n0)) from (if_neg c_1).trans ((if_pos c_4).trans ((if_pos c_23).trans (rfl)))]) dX12_turning_208
          | succ m0 ih_59 =>
            intro t0 hk_t0 
            refine gj_iload_n C 3 dX12_turning_167 rfl 0 rfl ?_
            refine gj_iconst C (v := 3) (by decide) dX12_turning_168 ?_
            refine gj_aload_n C 0 dX12_turning_169 rfl 1 rfl ?_
            refine gj_get C 87 (by decide) (up_nx (by decide) (up_nx (by decide) (up_nx (by decide) (up_nx (by decide) (va_up_self _ _ _))))) inX12 rfl 6 (by decide) w_855 (v := .ref (ad 93)) rfl dX12_turning_170 ?_
            refine gj_iconst C (v := 0) (by decide) dX12_turning_173 ?_
            refine gj_iald C 93 (by decide) (up_nx (by decide) (up_nx (by decide) (up_nx (by decide) (up_nx (by decide) (up_nx (by decide) (hc2)))))) (by unfold vp_in; decide) dX12_turning_174 ?_
            refine gj_seti h0 ?_
            refine gj_imul C dX12_turning_175 ?_
            refine gj_seti (y := nI (3 * n0)) (pk_mul 3 n0) ?_
            refine gj_icmp_ge C 208 dX12_turning_176 (by decide) (fun c_61 => absurd c_61 (nI_ge (by omega) (by omega))) (fun c_61 => ?_)
            refine gj_aload_n C 0 dX12_turning_179 rfl 1 rfl ?_
            refine gj_get C 87 (by decide) (up_nx (by decide) (up_nx (by decide) (up_nx (by decide) (up_nx (by decide) (va_up_self _ _ _))))) inX12 rfl 17 (by decide) w_866 (v := .int 1) rfl dX12_turning_180 ?_
            refine gj_if_eq C 208 dX12_turning_183 (by decide) (fun c_62 => absurd c_62 (by decide)) (fun c_62 => ?_)
            refine gj_aload_n C 0 dX12_turning_186 rfl 1 rfl ?_
            refine gj_get C 87 (by decide) (up_nx (by decide) (up_nx (by decide) (up_nx (by decide) (up_nx (by decide) (va_up_self _ _ _))))) inX12 rfl 21 (by decide) w_870 (v := .ref (ad 102)) rfl dX12_turning_187 ?_
            refine gj_iload_n C 3 dX12_turning_190 rfl 0 rfl ?_
            refine gj_aload_n C 0 dX12_turning_191 rfl 1 rfl ?_
            refine gj_iload_n C 3 dX12_turning_192 rfl 0 rfl ?_
            refine gj_iconst C (v := 3) (by decide) dX12_turning_193 ?_
            refine gj_idiv C (by decide) dX12_turning_194 ?_
            refine gj_seti (y := nI (t0 / 3)) (dv3 (by omega)) ?_
            refine gj_iload_n C 3 dX12_turning_195 rfl 0 rfl ?_
            refine gj_iconst C (v := 3) (by decide) dX12_turning_196 ?_
            refine gj_irem C (by decide) dX12_turning_197 ?_
            refine gj_seti (y := nI (t0 % 3)) (rm3 (by omega)) ?_
            refine gj_callVi C mi_X12_coordinate w_1118 87 (by decide) (up_nx (by decide) (up_nx (by decide) (up_nx (by decide) (up_nx (by decide) (va_up_self _ _ _))))) rfl (c_X12_coordinate (t0 / 3) (t0 % 3) la dr go lo ma pa (1 : Int32) su di (mSTA di so ro sta) (mSPA di ro spa) (selfF sf (mSTA di so ro sta)) (up_nx (by decide) (up_nx (by decide) (up_nx (by decide) (up_nx (by decide) (va_up_self _ _ _))))) (up_nx (by decide) (up_nx (by decide) (up_nx (by decide) (up_nx (by decide) (up_nx (by decide) (hc1)))))) (up_nx (by decide) (up_nx (by decide) (va_up_self _ _ _))) (up_nx (by decide) (up_nx (by decide) (up_nx (by decide) (va_up_self _ _ _)))) (up_nx (by decide) (va_up_self _ _ _)) (by omega) (by omega) (hZ c_1 c_23)) mc_X12_coordinate ⟨Nat.le_of_ble_eq_true rfl, Nat.le_of_ble_eq_true rfl⟩ (rest := [.int (nI t0), .ref (ad 102)]) rfl (Nat.le_of_ble_eq_true rfl) dX12_turning_198 (fun r u h => ?_)
            obtain ⟨rfl, rfl⟩ := h
            refine gj_iast C 102 (by decide) (va_up_self _ _ _) (vp_in_nI (by omega) (by omega)) dX12_turning_201 ?_
            refine gj_setf (bx_uu _ _ _ _) ?_
            refine gj_setf (g := va_up (va_up (va_up (va_up (va_up f 87 (.inr (11, [.ref (ad 88), .ref (ad 89), .ref (ad 90), .ref (ad 91), .int la, .ref (ad 92), .ref (ad 93), .ref (ad 94), .int dr, .int go, .int lo, .int ma, .ref (ad 95), .ref (ad 96), .ref (ad 97), .ref (ad 98), .int pa, .int 1, .ref (ad 99), .ref (ad 100), .ref (ad 101), .ref (ad 102), .ref (ad 103), .ref (ad 104), .int su, .ref (ad 105), .ref (ad 106), .ref (ad 107)]))) 100 (.inl (ca 1, 9, .inr (.inl (mSPA di ro spa))))) 99 (.inl (ca 1, 9, .inr (.inl (mSTA di so ro sta))))) 101 (.inl (ca 1, 3, .inr (.inl (selfF sf (mSTA di so ro sta)))))) 102 (.inl (ca 0, 36, .inl (plF di (mSTA di so ro sta) (mSPA di ro spa) (selfF sf (mSTA di so ro sta)) pl (t0 + 1))))) (by rw [plF_s di (mSTA di so ro sta) (mSPA di ro spa) (selfF sf (mSTA di so ro sta)) pl (show t0 < 2 ^ 31 by omega)]) ?_
            refine gj_iinc C (v := nI (t0 + 1)) (lv' := [(3, .int (nI (t0 + 1))), (0, .ref (ad 87))]) dX12_turning_202 0 rfl (nI_1 _) (by decide) rfl ?_
            refine gj_goto C 167 dX12_turning_205 (by decide) ?_
            refine gj_lv [0, 1] rfl ?_
            exact ih_59 (t0 + 1) (by omega)
        refine gj_lv [0, 4] rfl ?_
        exact loop_58 ((3 * n0) - 0) 0 (by omega)
