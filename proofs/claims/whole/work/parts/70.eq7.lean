/-! the confirmed spots -/
theorem updSm {g : Nat → Int32} {p : Nat} {v : Int32} (h : g p = v) : upd g p v = g := by
  funext j
  by_cases e : j = p
  · subst e; rw [pk_us]; exact h.symm
  · rw [pk_un e]
def cOkC (X : cCS) (Y : mCS) (p : Nat) : Prop := (∀ i, i < 12 → (bt X.1 i = false ↔ Y.1 i = 0)) ∧ (∀ j, j < 8 → X.2.1 j = Y.2.1 j ∧ X.2.2.1 j = Y.2.2.1 j) ∧ X.2.2.2 = Y.2.2.2 ∧ ∀ j, p ≤ j → Y.2.1 j = -1 ∧ Y.2.2.1 j = -1
theorem conf_keep {di pl : Nat → Int32} {ne tu go : Int32} {n n1 p : Nat} {X : cCS} {Y : mCS} (h : cOkC X Y p) (e : mCf di pl Y.1 ne tu go n n1 p = (-1, -1)) : mCs di pl ne tu go n n1 p Y = Y ∧ cOkC X Y (p + 1) := by
  obtain ⟨h1, h2, h3, h4⟩ := h
  have q := h4 p (Nat.le_refl _)
  refine ⟨?_, h1, h2, h3, fun j hj => h4 j (by omega)⟩
  rw [mCs_e e rfl, updSm q.1, updSm q.2]
theorem conf_s {n0 n1 : Nat} {gS gP plC pl : Nat → Int32} {ne tu go : Int32} (hd : dOk (dj gS gP)) (hn0 : n0 ≤ 12) (hn1 : n1 ≤ 8) (hne : 0 ≤ ne.toInt ∧ ne.toInt ≤ 300) (ht : ¬ tu = 0) (hc : ∀ j, j < 3 * n0 → plC j = pl j) (hb : ∀ j, j < 3 * n0 → -402010003 ≤ (pl j).toInt ∧ (pl j).toInt ≤ 402010003) {X : cCS} {Y : mCS} {p : Nat} (hp : p < n1) (h : cOkC X Y p) : cOkC (cCs gP n0 n1 plC ne go p X) (mCs (dj gS gP) pl ne tu go n0 n1 p Y) (p + 1) := by
  by_cases g : nI p = go
  · have e : mCf (dj gS gP) pl Y.1 ne tu go n0 n1 p = (-1, -1) := by
      unfold mCf; rw [if_neg ht, if_neg (nI_ge hp (by omega)), if_pos g]
    obtain ⟨k1, k2⟩ := conf_keep h e
    have e2 : cCs gP n0 n1 plC ne go p X = X := if_pos g
    rw [k1, e2]; exact k2
  · have e : mCf (dj gS gP) pl Y.1 ne tu go n0 n1 p = mC1 (dj gS gP) pl Y.1 ne p n0 := by
      unfold mCf; rw [if_neg ht, if_neg (nI_ge hp (by omega)), if_neg g]
    have N := near_eq (gS := gS) (plC := plC) (pl := pl) hd hn1 hne hp h.1 n0 hn0 hc hb
    obtain ⟨q1, q2, q3, q4⟩ := N
    by_cases m : (mC1 (dj gS gP) pl Y.1 ne p n0).1 = -1
    · have e' : mCf (dj gS gP) pl Y.1 ne tu go n0 n1 p = (-1, -1) := by
        rw [e]; exact Prod.ext m (q4 m)
      obtain ⟨k1, k2⟩ := conf_keep h e'
      have e2 : cCs gP n0 n1 plC ne go p X = X := (if_neg g).trans (if_pos (q1.trans m))
      rw [k1, e2]; exact k2
    · have e2 : cCs gP n0 n1 plC ne go p X = _ := (if_neg g).trans (if_neg (fun z => m (q1.symm.trans z)))
      obtain ⟨j3, -⟩ := q3 m
      rcases cC1_in plC X.1 ne (cOf gP n1 (nI p) 0) (cOf gP n1 (nI p) 1) (cOf gP n1 (nI p) 2) n0 with z | ⟨b, b1, b2⟩
      · rw [z] at q1; exact absurd q1.symm m
      · have eb : (mC1 (dj gS gP) pl Y.1 ne p n0).1 = nI b := by rw [← q1, b2]
        have ef : (cFar plC b (cOf gP n1 (nI p) 0) (cOf gP n1 (nI p) 1) (cOf gP n1 (nI p) 2)).toInt32 = (mC1 (dj gS gP) pl Y.1 ne p n0).2 := by
          have : cFar plC b (cOf gP n1 (nI p) 0) (cOf gP n1 (nI p) 1) (cOf gP n1 (nI p) 2) = (mC1 (dj gS gP) pl Y.1 ne p n0).2.toInt64 := by
            rw [← j3, b2]
          rw [this]; exact Int32.toInt32_toInt64 _
        have eM : mCf (dj gS gP) pl Y.1 ne tu go n0 n1 p = (nI b, (mC1 (dj gS gP) pl Y.1 ne p n0).2) := by
          rw [e]; exact Prod.ext eb rfl
        rw [mCs_n eM (nI_m1 (by omega)), e2]
        have en : (cNr gP n0 n1 plC ne p X.1).1 = nI b := by
          show (cC1 plC X.1 ne (cOf gP n1 (nI p) 0) (cOf gP n1 (nI p) 1) (cOf gP n1 (nI p) 2) n0).1 = nI b
          rw [b2]
        rw [en, nI_clamp (by omega), ef]
        obtain ⟨h1, h2, h3, h4⟩ := h
        refine ⟨fun i hi => ?_, fun j hj => ?_, ?_, fun j hj => ?_⟩
        · show bt (X.1 ||| (1 <<< (nI b &&& 31))) i = false ↔ upd Y.1 b (1 &&& 1) i = 0
          rw [bt_or _ (by omega) hi]
          by_cases q : i = b
          · subst q; rw [pk_us]; simp
          · rw [pk_un q, ← h1 i hi]; simp [q]
        · show upd X.2.1 p (nI b) j = upd Y.2.1 p (nI b) j ∧ upd X.2.2.1 p _ j = upd Y.2.2.1 p _ j
          by_cases q : j = p
          · subst q; rw [pk_us, pk_us, pk_us, pk_us]; exact ⟨rfl, rfl⟩
          · rw [pk_un q, pk_un q, pk_un q, pk_un q]; exact h2 j hj
        · show X.2.2.2 + 1 = Y.2.2.2 + 1
          rw [h3]
        · show upd Y.2.1 p (nI b) j = -1 ∧ upd Y.2.2.1 p _ j = -1
          rw [pk_un (by omega), pk_un (by omega)]; exact h4 j (by omega)
theorem conf_n {n0 n1 : Nat} {gS gP plC pl : Nat → Int32} {ne tu go : Int32} (hd : dOk (dj gS gP)) (hn0 : n0 ≤ 12) (hn1 : n1 ≤ 8) (hne : 0 ≤ ne.toInt ∧ ne.toInt ≤ 300) (ht : ¬ tu = 0) (hc : ∀ j, j < 3 * n0 → plC j = pl j) (hb : ∀ j, j < 3 * n0 → -402010003 ≤ (pl j).toInt ∧ (pl j).toInt ≤ 402010003) : ∀ p, p ≤ n1 → cOkC (cCn gP n0 n1 plC ne go (0, kI (-1), kI (-1), 0) p) (mCn (dj gS gP) pl ne tu go n0 n1 (kI 0, kI (-1), kI (-1), 0) p) p
  | 0, _ => ⟨fun i _ => ⟨fun _ => rfl, fun _ => bt_0 i⟩, fun _ _ => ⟨rfl, rfl⟩, rfl, fun _ _ => ⟨rfl, rfl⟩⟩
  | p + 1, h => conf_s hd hn0 hn1 hne ht hc hb (by omega) (conf_n hd hn0 hn1 hne ht hc hb p (by omega))
theorem conf_r {n0 n1 : Nat} {di pl : Nat → Int32} {ne tu go : Int32} (hn1 : n1 ≤ 8) (X : cCS) (h : cOkC X (mCn di pl ne tu go n0 n1 (kI 0, kI (-1), kI (-1), 0) n1) n1) : ∀ m, n1 + m ≤ 8 → cOkC X (mCn di pl ne tu go n0 n1 (kI 0, kI (-1), kI (-1), 0) (n1 + m)) (n1 + m)
  | 0, _ => h
  | m + 1, hm => by
    have ih := conf_r hn1 X h m (by omega)
    have e : mCf di pl (mCn di pl ne tu go n0 n1 (kI 0, kI (-1), kI (-1), 0) (n1 + m)).1 ne tu go n0 n1 (n1 + m) = (-1, -1) := by
      unfold mCf
      split
      · rfl
      · rw [if_pos (nI_le (by omega) (by omega))]
    obtain ⟨k1, k2⟩ := conf_keep ih e
    show cOkC X (mCs di pl ne tu go n0 n1 (n1 + m) (mCn di pl ne tu go n0 n1 (kI 0, kI (-1), kI (-1), 0) (n1 + m))) (n1 + m + 1)
    rw [k1]; exact k2
theorem conf_0 {n0 n1 : Nat} {di pl : Nat → Int32} {ne go : Int32} : ∀ m, mCn di pl ne 0 go n0 n1 (kI 0, kI (-1), kI (-1), 0) m = (kI 0, kI (-1), kI (-1), 0)
  | 0 => rfl
  | m + 1 => by
    show mCs di pl ne 0 go n0 n1 m (mCn di pl ne 0 go n0 n1 (kI 0, kI (-1), kI (-1), 0) m) = _
    rw [conf_0 m, mCs_e (v := -1) (w := -1) (by unfold mCf; exact if_pos rfl) rfl]
    show (kI 0, upd (kI (-1)) m (-1), upd (kI (-1)) m (-1), 0) = _
    rw [updSm (show kI (-1) m = -1 from rfl)]
theorem confs_eq {n0 n1 : Nat} {gS gP plC pl : Nat → Int32} {ne tu go : Int32} (hd : dOk (dj gS gP)) (hn0 : n0 ≤ 12) (hn1 : n1 ≤ 8) (hne : 0 ≤ ne.toInt ∧ ne.toInt ≤ 300) (hc : ¬ tu = 0 → ∀ j, j < 3 * n0 → plC j = pl j) (hb : ¬ tu = 0 → ∀ j, j < 3 * n0 → -402010003 ≤ (pl j).toInt ∧ (pl j).toInt ≤ 402010003) : (∀ p, p < 8 → (cConf gP n0 n1 plC ne go tu).2.1 p = (mConf (dj gS gP) pl ne tu go n0 n1).2.1 p ∧ (cConf gP n0 n1 plC ne go tu).2.2.1 p = (mConf (dj gS gP) pl ne tu go n0 n1).2.2.1 p) ∧ (cConf gP n0 n1 plC ne go tu).2.2.2 = (mConf (dj gS gP) pl ne tu go n0 n1).2.2.2 := by
  by_cases ht : tu = 0
  · subst ht
    have e1 : cConf gP n0 n1 plC ne go 0 = (0, kI (-1), kI (-1), 0) := if_pos rfl
    have e2 : mConf (dj gS gP) pl ne 0 go n0 n1 = (kI 0, kI (-1), kI (-1), 0) := conf_0 8
    rw [e1, e2]
    exact ⟨fun _ _ => ⟨rfl, rfl⟩, rfl⟩
  · have e1 : cConf gP n0 n1 plC ne go tu = cCn gP n0 n1 plC ne go (0, kI (-1), kI (-1), 0) n1 := if_neg ht
    have a := conf_n (go := go) hd hn0 hn1 hne ht (hc ht) (hb ht) n1 (Nat.le_refl _)
    have b := conf_r hn1 _ a (8 - n1) (by omega)
    rw [show n1 + (8 - n1) = 8 by omega] at b
    rw [e1]
    exact ⟨b.2.1, b.2.2.1⟩
/-! no votes outside -/
theorem votes_out {n0 n1 : Nat} {gS gP se : Nat → Int32} (w : wOk n0 n1 gS gP se) (se' : Nat → Int32) (go : Int32) : ∀ p i, p < 8 → i < 12 → (n1 ≤ p ∨ n0 ≤ i) → (mVotes (dj gS gP) se' n0 n1 go).1 (12 * p + i) = 0 := by
  have hn0 := w.1
  have hn1 := w.2.1
  have h := walk_rel (K := Unit) (th := fun s _ _ _ _ => s) (sP := fun _ _ => 0) (sS := fun _ _ => 0) (bk := 0) (n0 := n0) (n1 := n1) (di := dj gS gP) (se := se') (go := go) (st0 := ()) (fun _ st => ∀ p i, p < 8 → i < 12 → (n1 ≤ p ∨ n0 ≤ i) → st.1 (12 * p + i) = 0) hn0 (fun _ _ _ _ _ => rfl)
    (fun p q r i j k X st hpq hqr hr hij hjk hk _ _ _ hR => by
      have one : ∀ (i j k : Nat) (vo : Nat → Int32), i < n0 → j < n0 → k < n0 → (∀ p i, p < 8 → i < 12 → (n1 ≤ p ∨ n0 ≤ i) → vo (12 * p + i) = 0) → ∀ x y, x < 8 → y < 12 → (n1 ≤ x ∨ n0 ≤ y) → t_X12_tries_95 p q r i j k (dj gS gP) se' vo (12 * x + y) = 0 := by
        intro i j k vo hi hj hk hv x y hx hy hxy
        rw [tr95 (by omega) (by omega) (by omega) (by omega) (by omega) (by omega)]
        split
        · exact hv x y hx hy hxy
        · rw [v3_e, hv x y hx hy hxy]
          unfold d3 e1
          rw [nI_clamp (by omega), nI_clamp (by omega), nI_clamp (by omega), if_neg (by omega), if_neg (by omega), if_neg (by omega)]
          rfl
      have s1 := one i j k st.1 (by omega) (by omega) hk hR
      have s2 := one i k j _ (by omega) hk (by omega) s1
      have s3 := one j i k _ (by omega) (by omega) hk s2
      have s4 := one j k i _ (by omega) hk (by omega) s3
      have s5 := one k i j _ hk (by omega) (by omega) s4
      have s6 := one k j i _ hk (by omega) (by omega) s5
      clear s1 s2 s3 s4 s5 one
      intro x y hx hy hxy
      show t_X12_meets_95 p q r i j k (dj gS gP) se' st.1 (12 * x + y) = 0
      unfold t_X12_meets_95
      repeat' split
      · exact hR x y hx hy hxy
      · exact hR x y hx hy hxy
      · exact hR x y hx hy hxy
      · exact s6 x y hx hy hxy)
    (fun _ _ _ _ _ _ _ _ _ _ _ _ _ _ _ hR => hR)
  exact h
/-! the places that are laid -/
theorem cPn_at (sta spa : Nat → Int64) (gS : Nat → Int32) (n0 : Nat) (pl : Nat → Int32) : ∀ n j, j < 3 * n → cPn sta spa gS n0 pl n j = cPv sta spa (cOf gS n0 (nI (j / 3)) 0) (cOf gS n0 (nI (j / 3)) 1) (cOf gS n0 (nI (j / 3)) 2) (j % 3)
  | 0, j, h => absurd h (by omega)
  | n + 1, j, h => by
    show w3 (cPn sta spa gS n0 pl n) n _ _ _ j = _
    unfold w3
    by_cases h0 : j = 3 * n
    · rw [if_pos h0, show j / 3 = n by omega, show j % 3 = 0 by omega]
    · rw [if_neg h0]
      by_cases h1 : j = 3 * n + 1
      · rw [if_pos h1, show j / 3 = n by omega, show j % 3 = 1 by omega]
      · rw [if_neg h1]
        by_cases h2 : j = 3 * n + 2
        · rw [if_pos h2, show j / 3 = n by omega, show j % 3 = 2 by omega]
        · rw [if_neg h2]
          exact cPn_at sta spa gS n0 pl n j (by omega)
