/-! what a finding is, of the directions, the settings, how many there are, which spot is gone: nothing of what lay there before -/
def rT (di se : Nat → Int32) (n n1 : Nat) (go : Int32) : mTS := mTake (mVotes di se n n1 go).1 (se 2)
def rSPA (di se : Nat → Int32) (n n1 : Nat) (go : Int32) : Nat → Int64 := mSPA di (rT di se n n1 go).2.1 kL
def rSTA (di se : Nat → Int32) (n n1 : Nat) (go : Int32) : Nat → Int64 := mSTA di (rT di se n n1 go).1 (rT di se n n1 go).2.1 kL
def rU (di se : Nat → Int32) (n n1 : Nat) (go : Int32) : Int32 := if (rT di se n n1 go).2.2.2 ≤ 1 then 0 else if s_X12_isNone (rSPA di se n n1 go) = 0 then (if s_X12_isNone (rSTA di se n n1 go) = 0 then 1 else 0) else 0
def rP (di se : Nat → Int32) (n n1 : Nat) (go : Int32) : Nat → Int32 := fun j => s_X12_coordinate (j / 3) (j % 3) di (rSTA di se n n1 go) (rSPA di se n n1 go) (selfF kL (rSTA di se n n1 go))
def rC (di se : Nat → Int32) (n n1 : Nat) (go : Int32) : mCS := mConf di (rP di se n n1 go) (se 3) (rU di se n n1 go) go n n1
theorem armF_k (g v w : Nat → Int64) {j : Nat} (h : j < 9) : armF g v w j = armF kL v w j := by
  unfold armF
  by_cases h1 : j < 3
  · rw [if_pos h1, if_pos h1]
  · rw [if_neg h1, if_neg h1]
    by_cases h2 : j < 6
    · rw [if_pos h2, if_pos h2]
    · rw [if_neg h2, if_neg h2, if_pos h, if_pos h]
theorem none_k (g v w : Nat → Int64) : s_X12_isNone (armF g v w) = s_X12_isNone (armF kL v w) := rfl
theorem coord_c {i w : Nat} {di : Nat → Int32} {sta sta' spa spa' sf sf' : Nat → Int64} (h1 : ∀ j, j < 9 → sta j = sta' j) (h2 : ∀ j, j < 9 → spa j = spa' j) (h3 : ∀ j, j < 3 → sf j = sf' j) (hw : w < 3) : s_X12_coordinate i w di sta spa sf = s_X12_coordinate i w di sta' spa' sf' := by
  unfold s_X12_coordinate
  rw [h1 0 (by omega), h1 1 (by omega), h1 2 (by omega), h1 3 (by omega), h1 4 (by omega), h1 5 (by omega), h1 6 (by omega), h1 7 (by omega), h1 8 (by omega), h2 (0 + w) (by omega), h2 (3 + w) (by omega), h2 (6 + w) (by omega), h3 0 (by omega), h3 1 (by omega), h3 2 (by omega)]
theorem self_k (sf g v w : Nat → Int64) {j : Nat} (h : j < 3) : selfF sf (armF g v w) j = selfF kL (armF kL v w) j := by
  rcases (show j = 0 ∨ j = 1 ∨ j = 2 by omega) with rfl | rfl | rfl <;> rfl
theorem turn_eq (di se : Nat → Int32) (n n1 : Nat) (go : Int32) (spa sta sf : Nat → Int64) (pl : Nat → Int32) : (mTurn di (rT di se n n1 go).1 (rT di se n n1 go).2.1 n (rT di se n n1 go).2.2.2 spa sta sf pl).1 = rU di se n n1 go ∧ (rU di se n n1 go = 1 → ∀ j, j < 3 * n → (mTurn di (rT di se n n1 go).1 (rT di se n n1 go).2.1 n (rT di se n n1 go).2.2.2 spa sta sf pl).2.2.2.2 j = rP di se n n1 go j) := by
  have n1e : s_X12_isNone (mSPA di (rT di se n n1 go).2.1 spa) = s_X12_isNone (rSPA di se n n1 go) := none_k _ _ _
  have n2e : s_X12_isNone (mSTA di (rT di se n n1 go).1 (rT di se n n1 go).2.1 sta) = s_X12_isNone (rSTA di se n n1 go) := none_k _ _ _
  unfold mTurn
  rw [n1e, n2e]
  unfold rU
  by_cases h1 : (rT di se n n1 go).2.2.2 ≤ 1
  · rw [if_pos h1, if_pos h1]
    exact ⟨rfl, fun q => absurd q (by decide)⟩
  · rw [if_neg h1, if_neg h1]
    by_cases h2 : s_X12_isNone (rSPA di se n n1 go) = 0
    · rw [if_pos h2, if_pos h2]
      by_cases h3 : s_X12_isNone (rSTA di se n n1 go) = 0
      · rw [if_pos h3, if_pos h3]
        refine ⟨rfl, fun _ j hj => ?_⟩
        show plF di _ _ _ pl (3 * n) j = _
        unfold plF rP
        rw [if_pos hj]
        exact coord_c (fun j hj => armF_k _ _ _ hj) (fun j hj => armF_k _ _ _ hj) (fun j hj => self_k _ _ _ _ hj) (by omega)
      · rw [if_neg h3, if_neg h3]
        exact ⟨rfl, fun q => absurd q (by decide)⟩
    · rw [if_neg h2, if_neg h2]
      exact ⟨rfl, fun q => absurd q (by decide)⟩
theorem far_c {p i n : Nat} {di pl pl' : Nat → Int32} (h : ∀ j, j < 3 * n → pl j = pl' j) (hi : i < n) : s_X12_farOf p i di pl = s_X12_farOf p i di pl' := by
  unfold s_X12_farOf
  rw [h (3 * i + 0) (by omega), h (3 * i + 1) (by omega), h (3 * i + 2) (by omega)]
theorem mC1_c {di pl pl' us : Nat → Int32} {ne : Int32} {p n : Nat} (h : ∀ j, j < 3 * n → pl j = pl' j) : ∀ k, k ≤ n → mC1 di pl us ne p k = mC1 di pl' us ne p k
  | 0, _ => rfl
  | k + 1, hk => by
    show (if us k = 0 then (if ne < s_X12_farOf p k di pl then mC1 di pl us ne p k else (if (mC1 di pl us ne p k).1 = -1 then (nI k, s_X12_farOf p k di pl) else (if (mC1 di pl us ne p k).2 ≤ s_X12_farOf p k di pl then mC1 di pl us ne p k else (nI k, s_X12_farOf p k di pl)))) else mC1 di pl us ne p k) = _
    rw [far_c h (show k < n by omega), mC1_c h k (by omega)]
    rfl
theorem mCs_c {di pl pl' : Nat → Int32} {ne tu go : Int32} {n n1 p : Nat} {X : mCS} (h : tu = 0 ∨ ∀ j, j < 3 * n → pl j = pl' j) : mCs di pl ne tu go n n1 p X = mCs di pl' ne tu go n n1 p X := by
  have e : mCf di pl X.1 ne tu go n n1 p = mCf di pl' X.1 ne tu go n n1 p := by
    unfold mCf
    rcases h with h | h
    · rw [if_pos h, if_pos h]
    · rw [mC1_c h n (Nat.le_refl _)]
  unfold mCs
  rw [e]
theorem mCn_c {di pl pl' : Nat → Int32} {ne tu go : Int32} {n n1 : Nat} {X : mCS} (h : tu = 0 ∨ ∀ j, j < 3 * n → pl j = pl' j) : ∀ k, mCn di pl ne tu go n n1 X k = mCn di pl' ne tu go n n1 X k
  | 0 => rfl
  | k + 1 => by
    show mCs di pl ne tu go n n1 k (mCn di pl ne tu go n n1 X k) = mCs di pl' ne tu go n n1 k (mCn di pl' ne tu go n n1 X k)
    rw [mCn_c h k, mCs_c h]
theorem rU_01 (di se : Nat → Int32) (n n1 : Nat) (go : Int32) : rU di se n n1 go = 0 ∨ rU di se n n1 go = 1 := by
  unfold rU
  repeat' split
  all_goals first | exact Or.inl rfl | exact Or.inr rfl
theorem conf_eq (di se : Nat → Int32) (n n1 : Nat) (go : Int32) {pl : Nat → Int32} (h : rU di se n n1 go = 1 → ∀ j, j < 3 * n → pl j = rP di se n n1 go j) : mConf di pl (se 3) (rU di se n n1 go) go n n1 = rC di se n n1 go := by
  unfold mConf rC mConf
  refine mCn_c ?_ 8
  rcases rU_01 di se n n1 go with q | q
  · exact Or.inl q
  · exact Or.inr (h q)
theorem rT_hT (di se : Nat → Int32) (n n1 : Nat) (go : Int32) : ¬ (rT di se n n1 go).2.2.2 ≤ 1 → dIn (1 : Int32) (mSp (rT di se n n1 go).2.1 (0 : Int32) 8) ∧ dIn (1 : Int32) (mSp (rT di se n n1 go).2.1 (1 : Int32) 8) ∧ dIn (0 : Int32) ((rT di se n n1 go).1 (mSp (rT di se n n1 go).2.1 (0 : Int32) 8).toNatClampNeg) ∧ dIn (0 : Int32) ((rT di se n n1 go).1 (mSp (rT di se n n1 go).2.1 (1 : Int32) 8).toNatClampNeg) := by
  unfold rT
  exact mTake_hT (mVotes di se n n1 go).1 (se 2)
theorem find_hZ {di se : Nat → Int32} (hd : dOk di) (n n1 : Nat) (go : Int32) (hp : ¬ (rT di se n n1 go).2.2.2 ≤ 1) (sta sf : Nat → Int64) : s_X12_isNone (mSTA di (rT di se n n1 go).1 (rT di se n n1 go).2.1 sta) = 0 → ¬ 2 * (selfF sf (mSTA di (rT di se n n1 go).1 (rT di se n n1 go).2.1 sta)) 2 = 0 := by
  obtain ⟨-, -, h1, h2⟩ := rT_hT di se n n1 go hp
  exact self_nz (ofL_bd hd h1) (ofL_bd hd h2)

set_option maxHeartbeats 400000 in
set_option maxRecDepth 100000 in
theorem c_X12_find {l : Launch} {D : va_G} {ca ss ad : Nat → Nat} {f : Nat → va_E}   (la : Int32) (dr : Int32) (go : Int32) (lo : Int32) (ma : Int32) (pa : Int32) (tu : Int32) (su : Int32) (di : Nat → Int32) (mn : Nat → Int32) (se : Nat → Int32) (vo : Nat → Int32) (so : Nat → Int32) (ro : Nat → Int32) (us : Nat → Int32) (sta : Nat → Int64) (spa : Nat → Int64) (sf : Nat → Int64) (pl : Nat → Int32) (su_ : Nat → Int32) (fa : Nat → Int32) (n0 : Nat) (n1 : Nat) (hc0 : f 87 = .inr (11, mF ad la dr go lo ma pa tu su)) (hc1 : f 92 = .inl (ca 0, 60, .inl di)) (hc2 : f 93 = .inl (ca 0, 2, .inl mn)) (hc3 : f 94 = .inl (ca 0, 4, .inl se)) (hc4 : f 95 = .inl (ca 0, 96, .inl vo)) (hc5 : f 96 = .inl (ca 0, 8, .inl so)) (hc6 : f 97 = .inl (ca 0, 8, .inl ro)) (hc7 : f 98 = .inl (ca 2, 12, .inl us)) (hc8 : f 99 = .inl (ca 1, 9, .inr (.inl sta))) (hc9 : f 100 = .inl (ca 1, 9, .inr (.inl spa))) (hc10 : f 101 = .inl (ca 1, 3, .inr (.inl sf))) (hc11 : f 102 = .inl (ca 0, 36, .inl pl)) (hc12 : f 103 = .inl (ca 0, 8, .inl su_)) (hc13 : f 104 = .inl (ca 0, 8, .inl fa)) (h0 : mn 0 = nI n0) (h1 : mn 1 = nI n1) (hn : n0 ≤ 12) (hn1 : n1 ≤ 8) (hz : ¬ se 0 = 0) (hd : dOk di) : gMv l D ca ss ad 108 yX12_find cX12_find 1 none 7 f [.ref (ad 87)] (fun u => ∃ (spaX staX sfX : Nat → Int64) (plX : Nat → Int32), (rU di se n0 n1 go = 1 → ∀ j, j < 3 * n0 → plX j = rP di se n0 n1 go j) ∧ u = va_up (va_up (va_up (va_up (va_up (va_up (va_up (va_up (va_up (va_up (va_up f 87 (.inr (11, mF ad la dr go ((mVotes di se n0 n1 go).2.2) ((mVotes di se n0 n1 go).2.1) ((rT di se n0 n1 go).2.2.2) (rU di se n0 n1 go) ((rC di se n0 n1 go).2.2.2)))) 95 (.inl (ca 0, 96, .inl ((mVotes di se n0 n1 go).1)))) 96 (.inl (ca 0, 8, .inl ((rT di se n0 n1 go).1)))) 97 (.inl (ca 0, 8, .inl ((rT di se n0 n1 go).2.1)))) 98 (.inl (ca 2, 12, .inl ((rC di se n0 n1 go).1)))) 100 (.inl (ca 1, 9, .inr (.inl spaX)))) 99 (.inl (ca 1, 9, .inr (.inl staX)))) 101 (.inl (ca 1, 3, .inr (.inl sfX)))) 102 (.inl (ca 0, 36, .inl plX))) 103 (.inl (ca 0, 8, .inl ((rC di se n0 n1 go).2.1)))) 104 (.inl (ca 0, 8, .inl ((rC di se n0 n1 go).2.2.1)))) := by
  refine gMv_ofK (by decide +kernel) (Nat.le_of_ble_eq_true rfl) (lv0 := [(0, .ref (ad 87))]) rfl (fun pT eT sT mT aT below meth cT AT QT C RT => ?_)
  have C : gX pT sT mT aT meth cT AT D ca ss 1 RX12 cX12_find none := C
  refine gj_aload_n C 0 dX12_find_0 rfl 0 rfl ?_
  refine gj_callVv C mi_X12_votesAll w_1073 87 (by decide) hc0 rfl (c_X12_votesAll la dr go lo ma pa tu su di mn se vo n0 n1 hc0 hc1 hc2 hc3 hc4 h0 h1 hn hn1 hz) mc_X12_votesAll ⟨Nat.le_of_ble_eq_true rfl, Nat.le_of_ble_eq_true rfl⟩ (rest := []) rfl (Nat.le_of_ble_eq_true rfl) dX12_find_1 (fun u h => ?_)
  subst h
  refine gj_aload_n C 0 dX12_find_4 rfl 0 rfl ?_
  refine gj_callVv C mi_X12_takes w_1096 87 (by decide) (up_nx (by decide) (va_up_self _ _ _)) rfl (c_X12_takes la dr go ((mVotes di se n0 n1 go).2.2) ((mVotes di se n0 n1 go).2.1) pa tu su se ((mVotes di se n0 n1 go).1) so ro us (up_nx (by decide) (va_up_self _ _ _)) (up_nx (by decide) (up_nx (by decide) (hc3))) (va_up_self _ _ _) (up_nx (by decide) (up_nx (by decide) (hc5))) (up_nx (by decide) (up_nx (by decide) (hc6))) (up_nx (by decide) (up_nx (by decide) (hc7)))) mc_X12_takes ⟨Nat.le_of_ble_eq_true rfl, Nat.le_of_ble_eq_true rfl⟩ (rest := []) rfl (Nat.le_of_ble_eq_true rfl) dX12_find_5 (fun u h => ?_)
  subst h
  refine gj_setf (up_un (up_un (up_un ((up_comm (by decide)).trans (up_un (bx_uu _ _ _ _)))))) ?_
  refine gj_setf (g := va_up (va_up (va_up (va_up (va_up f 87 (.inr (11, mF ad la dr go ((mVotes di se n0 n1 go).2.2) ((mVotes di se n0 n1 go).2.1) ((rT di se n0 n1 go).2.2.2) tu su))) 95 (.inl (ca 0, 96, .inl ((mVotes di se n0 n1 go).1)))) 96 (.inl (ca 0, 8, .inl ((rT di se n0 n1 go).1)))) 97 (.inl (ca 0, 8, .inl ((rT di se n0 n1 go).2.1)))) 98 (.inl (ca 2, 12, .inl ((rT di se n0 n1 go).2.2.1)))) (by unfold rT; rfl) ?_
  refine gj_aload_n C 0 dX12_find_8 rfl 0 rfl ?_
  refine gj_callVv C mi_X12_turning w_1100 87 (by decide) (up_nx (by decide) (up_nx (by decide) (up_nx (by decide) (up_nx (by decide) (va_up_self _ _ _))))) rfl (c_X12_turning la dr go ((mVotes di se n0 n1 go).2.2) ((mVotes di se n0 n1 go).2.1) ((rT di se n0 n1 go).2.2.2) tu su di mn ((rT di se n0 n1 go).1) ((rT di se n0 n1 go).2.1) sta spa sf pl n0 (up_nx (by decide) (up_nx (by decide) (up_nx (by decide) (up_nx (by decide) (va_up_self _ _ _))))) (up_nx (by decide) (up_nx (by decide) (up_nx (by decide) (up_nx (by decide) (up_nx (by decide) (hc1)))))) (up_nx (by decide) (up_nx (by decide) (up_nx (by decide) (up_nx (by decide) (up_nx (by decide) (hc2)))))) (up_nx (by decide) (up_nx (by decide) (va_up_self _ _ _))) (up_nx (by decide) (va_up_self _ _ _)) (up_nx (by decide) (up_nx (by decide) (up_nx (by decide) (up_nx (by decide) (up_nx (by decide) (hc8)))))) (up_nx (by decide) (up_nx (by decide) (up_nx (by decide) (up_nx (by decide) (up_nx (by decide) (hc9)))))) (up_nx (by decide) (up_nx (by decide) (up_nx (by decide) (up_nx (by decide) (up_nx (by decide) (hc10)))))) (up_nx (by decide) (up_nx (by decide) (up_nx (by decide) (up_nx (by decide) (up_nx (by decide) (hc11)))))) h0 hn (rT_hT di se n0 n1 go) (fun hp q => find_hZ hd n0 n1 go hp sta sf q)) mc_X12_turning ⟨Nat.le_of_ble_eq_true rfl, Nat.le_of_ble_eq_true rfl⟩ (rest := []) rfl (Nat.le_of_ble_eq_true rfl) dX12_find_9 (fun u h => ?_)
  subst h
  refine gj_setf (up_un (up_un (up_un (up_un ((up_comm (by decide)).trans (up_un ((up_comm (by decide)).trans (up_un ((up_comm (by decide)).trans (up_un ((up_comm (by decide)).trans (up_un (bx_uu _ _ _ _))))))))))))) ?_
  obtain ⟨hU, hPL⟩ := turn_eq di se n0 n1 go spa sta sf pl
  refine gj_setf (g := va_up (va_up (va_up (va_up (va_up (va_up (va_up (va_up (va_up f 87 (.inr (11, mF ad la dr go ((mVotes di se n0 n1 go).2.2) ((mVotes di se n0 n1 go).2.1) ((rT di se n0 n1 go).2.2.2) (rU di se n0 n1 go) su))) 95 (.inl (ca 0, 96, .inl ((mVotes di se n0 n1 go).1)))) 96 (.inl (ca 0, 8, .inl ((rT di se n0 n1 go).1)))) 97 (.inl (ca 0, 8, .inl ((rT di se n0 n1 go).2.1)))) 98 (.inl (ca 2, 12, .inl ((rT di se n0 n1 go).2.2.1)))) 100 (.inl (ca 1, 9, .inr (.inl ((mTurn di ((rT di se n0 n1 go).1) ((rT di se n0 n1 go).2.1) n0 ((rT di se n0 n1 go).2.2.2) spa sta sf pl).2.1))))) 99 (.inl (ca 1, 9, .inr (.inl ((mTurn di ((rT di se n0 n1 go).1) ((rT di se n0 n1 go).2.1) n0 ((rT di se n0 n1 go).2.2.2) spa sta sf pl).2.2.1))))) 101 (.inl (ca 1, 3, .inr (.inl ((mTurn di ((rT di se n0 n1 go).1) ((rT di se n0 n1 go).2.1) n0 ((rT di se n0 n1 go).2.2.2) spa sta sf pl).2.2.2.1))))) 102 (.inl (ca 0, 36, .inl ((mTurn di ((rT di se n0 n1 go).1) ((rT di se n0 n1 go).2.1) n0 ((rT di se n0 n1 go).2.2.2) spa sta sf pl).2.2.2.2)))) (by rw [hU]) ?_
  refine gj_aload_n C 0 dX12_find_12 rfl 0 rfl ?_
  refine gj_callVv C mi_X12_confirms w_1125 87 (by decide) (up_nx (by decide) (up_nx (by decide) (up_nx (by decide) (up_nx (by decide) (up_nx (by decide) (up_nx (by decide) (up_nx (by decide) (up_nx (by decide) (va_up_self _ _ _))))))))) rfl (c_X12_confirms la dr go ((mVotes di se n0 n1 go).2.2) ((mVotes di se n0 n1 go).2.1) ((rT di se n0 n1 go).2.2.2) (rU di se n0 n1 go) su di mn se ((rT di se n0 n1 go).2.2.1) ((mTurn di ((rT di se n0 n1 go).1) ((rT di se n0 n1 go).2.1) n0 ((rT di se n0 n1 go).2.2.2) spa sta sf pl).2.2.2.2) su_ fa n0 n1 (up_nx (by decide) (up_nx (by decide) (up_nx (by decide) (up_nx (by decide) (up_nx (by decide) (up_nx (by decide) (up_nx (by decide) (up_nx (by decide) (va_up_self _ _ _))))))))) (up_nx (by decide) (up_nx (by decide) (up_nx (by decide) (up_nx (by decide) (up_nx (by decide) (up_nx (by decide) (up_nx (by decide) (up_nx (by decide) (up_nx (by decide) (hc1)))))))))) (up_nx (by decide) (up_nx (by decide) (up_nx (by decide) (up_nx (by decide) (up_nx (by decide) (up_nx (by decide) (up_nx (by decide) (up_nx (by decide) (up_nx (by decide) (hc2)))))))))) (up_nx (by decide) (up_nx (by decide) (up_nx (by decide) (up_nx (by decide) (up_nx (by decide) (up_nx (by decide) (up_nx (by decide) (up_nx (by decide) (up_nx (by decide) (hc3)))))))))) (up_nx (by decide) (up_nx (by decide) (up_nx (by decide) (up_nx (by decide) (va_up_self _ _ _))))) (va_up_self _ _ _) (up_nx (by decide) (up_nx (by decide) (up_nx (by decide) (up_nx (by decide) (up_nx (by decide) (up_nx (by decide) (up_nx (by decide) (up_nx (by decide) (up_nx (by decide) (hc12)))))))))) (up_nx (by decide) (up_nx (by decide) (up_nx (by decide) (up_nx (by decide) (up_nx (by decide) (up_nx (by decide) (up_nx (by decide) (up_nx (by decide) (up_nx (by decide) (hc13)))))))))) h0 h1 hn hn1) mc_X12_confirms ⟨Nat.le_of_ble_eq_true rfl, Nat.le_of_ble_eq_true rfl⟩ (rest := []) rfl (Nat.le_of_ble_eq_true rfl) dX12_find_13 (fun u h => ?_)
  subst h
  refine gj_setf (up_un (up_un ((up_un ((up_comm (by decide)).trans (up_un ((up_comm (by decide)).trans (up_un ((up_comm (by decide)).trans (up_un ((up_comm (by decide)).trans (up_un ((up_comm (by decide)).trans (up_un ((up_comm (by decide)).trans (up_un ((up_comm (by decide)).trans (up_un ((up_comm (by decide)).trans (up_un (bx_uu _ _ _ _)))))))))))))))))).trans ((up_comm (by decide)).trans (up_un ((up_comm (by decide)).trans (up_un ((up_comm (by decide)).trans (up_un ((up_comm (by decide)).trans (up_un (bx_uu _ _ _ _)))))))))))) ?_
  refine gj_setf (g := va_up (va_up (va_up (va_up (va_up (va_up (va_up (va_up (va_up (va_up (va_up f 87 (.inr (11, mF ad la dr go ((mVotes di se n0 n1 go).2.2) ((mVotes di se n0 n1 go).2.1) ((rT di se n0 n1 go).2.2.2) (rU di se n0 n1 go) ((rC di se n0 n1 go).2.2.2)))) 95 (.inl (ca 0, 96, .inl ((mVotes di se n0 n1 go).1)))) 96 (.inl (ca 0, 8, .inl ((rT di se n0 n1 go).1)))) 97 (.inl (ca 0, 8, .inl ((rT di se n0 n1 go).2.1)))) 98 (.inl (ca 2, 12, .inl ((rC di se n0 n1 go).1)))) 100 (.inl (ca 1, 9, .inr (.inl ((mTurn di ((rT di se n0 n1 go).1) ((rT di se n0 n1 go).2.1) n0 ((rT di se n0 n1 go).2.2.2) spa sta sf pl).2.1))))) 99 (.inl (ca 1, 9, .inr (.inl ((mTurn di ((rT di se n0 n1 go).1) ((rT di se n0 n1 go).2.1) n0 ((rT di se n0 n1 go).2.2.2) spa sta sf pl).2.2.1))))) 101 (.inl (ca 1, 3, .inr (.inl ((mTurn di ((rT di se n0 n1 go).1) ((rT di se n0 n1 go).2.1) n0 ((rT di se n0 n1 go).2.2.2) spa sta sf pl).2.2.2.1))))) 102 (.inl (ca 0, 36, .inl ((mTurn di ((rT di se n0 n1 go).1) ((rT di se n0 n1 go).2.1) n0 ((rT di se n0 n1 go).2.2.2) spa sta sf pl).2.2.2.2)))) 103 (.inl (ca 0, 8, .inl ((rC di se n0 n1 go).2.1)))) 104 (.inl (ca 0, 8, .inl ((rC di se n0 n1 go).2.2.1)))) (by rw [conf_eq di se n0 n1 go hPL]) ?_
  exact RT _ _ _ ⟨_, _, _, _, hPL, rfl⟩ dX12_find_16
