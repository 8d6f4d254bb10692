/-- c at the first k places, g behind them -/
def zF {α : Type} (g : Nat → α) (c : α) (k : Nat) : Nat → α := fun j => if j < k then c else g j
theorem zF_0 {α : Type} (g : Nat → α) (c : α) : zF g c 0 = g := by funext j; simp [zF]
theorem zF_s (g : Nat → Int32) (c : Int32) (k : Nat) : upd (zF g c k) k c = zF g c (k + 1) := by
  funext j
  by_cases h : j = k
  · subst h; rw [pk_us]; simp [zF]
  · rw [pk_un h]; unfold zF
    by_cases h2 : j < k
    · rw [if_pos h2, if_pos (by omega)]
    · rw [if_neg h2, if_neg (by omega)]
theorem zF_i (g : Nat → Int32) (c : Int32) {k : Nat} (h : k < 2 ^ 31) : upd (zF g c k) (nI k).toNatClampNeg c = zF g c (k + 1) := by rw [nI_clamp h, zF_s]
/-! a row's content counts as far as the row goes -/
theorem arrV_ext {c : ClassId} {n : Nat} {f g : Nat → Value} (h : ∀ j, j < n → f j = g j) : arrV c n f = arrV c n g := by
  unfold arrV
  have e : (fun j : Fin n => f j.val) = (fun j : Fin n => g j.val) := funext fun j => h j.val j.isLt
  rw [e]
section GE
variable {p : Program} {l : Launch} {e : Env} {R : Room} {s : State} {m : MethodId} {args : Array Value} {below : List Frame} {meth : Method} {c : Code} {A : Nat → Prop} {Q : State → Prop} {D : va_G} {ca ss ad : Nat → Nat} {N n : Nat} {f : Nat → va_E} {lv : List (Nat × Value)} {pc : Nat} {st : List Value}
theorem gj_at {x : va_E} (i : Nat) (hi : i < N) (h : ∀ (a : Nat) (H : Heap), va_at D vwCl (a, f i) H → va_at D vwCl (a, x) H) (kk : gJ p l e R s m args below meth c A Q D ad N n (va_up f i x) lv pc st) : gJ p l e R s m args below meth c A Q D ad N n f lv pc st := by
  intro H locs ls hP hD hS hl
  refine kk H locs ls ?_ ?_ hS hl
  · intro k q hq
    obtain ⟨hk, rfl⟩ := gWn_inv hq
    by_cases e : k = i
    · subst e
      rw [va_up_self]
      exact h _ _ (hP k _ (gWn_get hk rfl))
    · rw [va_up_ne _ _ e]
      exact hP k _ (gWn_get hk rfl)
  · refine ⟨fun a b x y hx hy hxy => ?_, fun k q hq => ?_⟩
    · obtain ⟨ha, rfl⟩ := gWn_inv hx
      obtain ⟨hb, rfl⟩ := gWn_inv hy
      exact hD.1 a b _ _ (gWn_get ha rfl) (gWn_get hb rfl) hxy
    · obtain ⟨hk, rfl⟩ := gWn_inv hq
      exact hD.2 k (ad k, f k) (gWn_get hk rfl)
theorem gj_extI {g g' : Nat → Int32} {cA : ClassId} {nn : Nat} (i : Nat) (hi : i < N) (hf : f i = .inl (cA, nn, .inl g)) (h : ∀ j, j < nn → g j = g' j) (kk : gJ p l e R s m args below meth c A Q D ad N n (va_up f i (.inl (cA, nn, .inl g'))) lv pc st) : gJ p l e R s m args below meth c A Q D ad N n f lv pc st := by
  refine gj_at i hi (fun a H hat => ?_) kk
  rw [hf] at hat
  have e : vp_cell cA (nn, .inl g) = vp_cell cA (nn, .inl g') := arrV_ext (fun j hj => congrArg Value.int (h j hj))
  show H[a]? = some (vp_cell cA (nn, .inl g'))
  rw [← e]
  exact hat
theorem gj_extL {g g' : Nat → Int64} {cA : ClassId} {nn : Nat} (i : Nat) (hi : i < N) (hf : f i = .inl (cA, nn, .inr (.inl g))) (h : ∀ j, j < nn → g j = g' j) (kk : gJ p l e R s m args below meth c A Q D ad N n (va_up f i (.inl (cA, nn, .inr (.inl g')))) lv pc st) : gJ p l e R s m args below meth c A Q D ad N n f lv pc st := by
  refine gj_at i hi (fun a H hat => ?_) kk
  rw [hf] at hat
  have e : vp_cell cA (nn, .inr (.inl g)) = vp_cell cA (nn, .inr (.inl g')) := arrV_ext (fun j hj => congrArg Value.long (h j hj))
  show H[a]? = some (vp_cell cA (nn, .inr (.inl g')))
  rw [← e]
  exact hat
end GE
/-- the same everywhere -/
def kI (c : Int32) : Nat → Int32 := fun _ => c
def kL : Nat → Int64 := fun _ => 0
theorem zF_k (g : Nat → Int32) (c : Int32) (n : Nat) : ∀ j, j < n → zF g c n j = kI c j := fun _ h => if_pos h
def mVr (di se : Nat → Int32) (n : Nat) (go : Int32) (p q r : Nat) (st : mVS) : mVS := if nI p = go then st else if nI q = go then st else if nI r = go then st else mLook di se n p q r st
def mV3 (di se : Nat → Int32) (n : Nat) (go : Int32) (p q : Nat) (st : mVS) : Nat → mVS := fR (fun r st => mVr di se n go p q r st) st (q + 1)
def mV2 (di se : Nat → Int32) (n n1 : Nat) (go : Int32) (p : Nat) (st : mVS) : Nat → mVS := fR (fun q st => mV3 di se n go p q st (n1 - (q + 1))) st (p + 1)
def mV1 (di se : Nat → Int32) (n n1 : Nat) (go : Int32) (st : mVS) : Nat → mVS := fR (fun p st => mV2 di se n n1 go p st (n1 - (p + 1))) st 0
/-- all votes, matches, what was looked at -/
def mVotes (di se : Nat → Int32) (n n1 : Nat) (go : Int32) : mVS := mV1 di se n n1 go (kI 0, 0, 0) n1
/-- the surest pair of the first k, as its number, or -1 -/
def mB (so us vo : Nat → Int32) (le : Int32) : Nat → Int32
  | 0 => -1
  | c + 1 => if so (c / 12) = -1 then (if us (c % 12) = 0 then (if vo c < le then mB so us vo le c else (if mB so us vo le c = -1 then nI c else (if vo c ≤ vo (mB so us vo le c).toNatClampNeg then mB so us vo le c else nI c))) else mB so us vo le c) else mB so us vo le c
theorem mB_in (so us vo : Nat → Int32) (le : Int32) : ∀ k, mB so us vo le k = -1 ∨ ∃ b, b < k ∧ mB so us vo le k = nI b ∧ so (b / 12) = -1 ∧ us (b % 12) = 0 ∧ ¬ vo b < le
  | 0 => Or.inl rfl
  | c + 1 => by
    have ih := mB_in so us vo le c
    have keep : mB so us vo le (c + 1) = mB so us vo le c → (mB so us vo le (c + 1) = -1 ∨ ∃ b, b < c + 1 ∧ mB so us vo le (c + 1) = nI b ∧ so (b / 12) = -1 ∧ us (b % 12) = 0 ∧ ¬ vo b < le) := by
      intro e
      rw [e]
      rcases ih with h | ⟨b, h1, h2⟩
      · exact Or.inl h
      · exact Or.inr ⟨b, by omega, h2⟩
    by_cases h1 : so (c / 12) = -1
    · by_cases h2 : us (c % 12) = 0
      · by_cases h3 : vo c < le
        · exact keep ((if_pos h1).trans ((if_pos h2).trans (if_pos h3)))
        · by_cases h4 : mB so us vo le c = -1
          · exact Or.inr ⟨c, by omega, (if_pos h1).trans ((if_pos h2).trans ((if_neg h3).trans (if_pos h4))), h1, h2, h3⟩
          · by_cases h5 : vo c ≤ vo (mB so us vo le c).toNatClampNeg
            · exact keep ((if_pos h1).trans ((if_pos h2).trans ((if_neg h3).trans ((if_neg h4).trans (if_pos h5)))))
            · exact Or.inr ⟨c, by omega, (if_pos h1).trans ((if_pos h2).trans ((if_neg h3).trans ((if_neg h4).trans (if_neg h5)))), h1, h2, h3⟩
      · exact keep ((if_pos h1).trans (if_neg h2))
    · exact keep (if_neg h1)
theorem nI_m1 {b : Nat} (h : b < 2 ^ 31) : ¬ nI b = -1 := by
  rw [i32_eq, nI_toInt h]
  have e : (-1 : Int32).toInt = -1 := rfl
  omega
theorem dv12 {c : Nat} (h : c < 96) : nI c / 12 = nI (c / 12) := by
  have e : (12 : Int32) = nI 12 := rfl
  rw [e]; exact pk_div (by omega) (by omega) (by omega)
theorem rm12 {c : Nat} (h : c < 96) : nI c - nI c / 12 * 12 = nI (c % 12) := by
  have e : (12 : Int32) = nI 12 := rfl
  rw [e]; exact pk_rem (by omega) (by omega) (by omega)
theorem dv12_in {c : Nat} (h : c < 96) : vp_in (nI c / 12) 8 := by rw [dv12 h]; exact vp_in_nI (by omega) (by omega)
theorem rm12_in {c : Nat} (h : c < 96) : vp_in (nI c - nI c / 12 * 12) 12 := by rw [rm12 h]; exact vp_in_nI (by omega) (by omega)
theorem dv12_cl {c : Nat} (h : c < 96) : (nI c / 12).toNatClampNeg = c / 12 := by rw [dv12 h]; exact nI_clamp (by omega)
theorem rm12_cl {c : Nat} (h : c < 96) : (nI c - nI c / 12 * 12).toNatClampNeg = c % 12 := by rw [rm12 h]; exact nI_clamp (by omega)
theorem mB_vin {so us vo : Nat → Int32} {le : Int32} {k : Nat} (hk : k ≤ 96) (h : ¬ mB so us vo le k = -1) : vp_in (mB so us vo le k) 96 := by
  rcases mB_in so us vo le k with e | ⟨b, h1, h2, -⟩
  · exact absurd e h
  · rw [h2]; exact vp_in_nI (by omega) (by omega)
theorem mB_dv {so us vo : Nat → Int32} {le : Int32} (h : ¬ mB so us vo le 96 = -1) : vp_in (mB so us vo le 96 / 12) 8 := by
  rcases mB_in so us vo le 96 with e | ⟨b, h1, h2, -⟩
  · exact absurd e h
  · rw [h2]; exact dv12_in h1
theorem mB_rm {so us vo : Nat → Int32} {le : Int32} (h : ¬ mB so us vo le 96 = -1) : vp_in (mB so us vo le 96 - mB so us vo le 96 / 12 * 12) 12 := by
  rcases mB_in so us vo le 96 with e | ⟨b, h1, h2, -⟩
  · exact absurd e h
  · rw [h2]; exact rm12_in h1
abbrev mTS : Type := (Nat → Int32) × (Nat → Int32) × (Nat → Int32) × Int32
abbrev mTb (vo : Nat → Int32) (le : Int32) (T : mTS) : Int32 := mB T.1 T.2.2.1 vo le 96
def mTk (vo : Nat → Int32) (le : Int32) (T : mTS) : mTS := if mTb vo le T = -1 then T else (upd T.1 (mTb vo le T / 12).toNatClampNeg (mTb vo le T - mTb vo le T / 12 * 12), upd T.2.1 (mTb vo le T / 12).toNatClampNeg T.2.2.2, upd T.2.2.1 (mTb vo le T - mTb vo le T / 12 * 12).toNatClampNeg (1 &&& 1), T.2.2.2 + 1)
def mTn (vo : Nat → Int32) (le : Int32) (T : mTS) : Nat → mTS
  | 0 => T
  | k + 1 => mTk vo le (mTn vo le T k)
/-- what the variable 'best' is ahead of turn k -/
def mTv (vo : Nat → Int32) (le : Int32) (T : mTS) : Nat → Int32
  | 0 => 0
  | k + 1 => mTb vo le (mTn vo le T k)
theorem mTk_id {vo : Nat → Int32} {le : Int32} {T : mTS} (h : mTb vo le T = -1) : mTk vo le T = T := if_pos h
theorem mTn_stay {vo : Nat → Int32} {le : Int32} {T : mTS} {k : Nat} (h : mTb vo le (mTn vo le T k) = -1) : ∀ m, mTn vo le T (k + m) = mTn vo le T k
  | 0 => rfl
  | m + 1 => by
    show mTk vo le (mTn vo le T (k + m)) = _
    rw [mTn_stay h m, mTk_id h]
theorem mTv_stay {vo : Nat → Int32} {le : Int32} {T : mTS} {k : Nat} (hk : k ≤ 9) (h : mTv vo le T k = -1) : mTn vo le T k = mTn vo le T 9 := by
  match k, h with
  | 0, h => exact absurd h (by show ¬ (0 : Int32) = -1; decide)
  | k + 1, h =>
    have h1 := mTn_stay (T := T) (k := k) h
    have a := h1 1
    have b := h1 (9 - k)
    rw [show k + (9 - k) = 9 by omega] at b
    rw [a, b]
/-- how many of the first n spots are free -/
def mFree (so : Nat → Int32) : Nat → Nat
  | 0 => 0
  | n + 1 => mFree so n + (if so n = -1 then 1 else 0)
theorem mFree_le (so : Nat → Int32) : ∀ n, mFree so n ≤ n
  | 0 => Nat.le_refl 0
  | n + 1 => by
    have := mFree_le so n
    unfold mFree
    split <;> omega
theorem mFree_upd (so : Nat → Int32) {i : Nat} {v : Int32} (hs : so i = -1) (hv : ¬ v = -1) : ∀ n, mFree (upd so i v) n + (if i < n then 1 else 0) = mFree so n
  | 0 => by simp [mFree]
  | n + 1 => by
    have ih := mFree_upd so hs hv n
    unfold mFree
    by_cases h : n = i
    · subst h
      rw [pk_us, if_neg hv, hs, if_pos rfl, if_pos (by omega)]
      rw [if_neg (by omega)] at ih
      omega
    · rw [pk_un h]
      by_cases h2 : i < n
      · rw [if_pos h2] at ih; rw [if_pos (show i < n + 1 by omega)]; omega
      · rw [if_neg h2] at ih; rw [if_neg (show ¬ i < n + 1 by omega)]; omega
theorem mFree_pos {so : Nat → Int32} {i n : Nat} (hi : i < n) (hs : so i = -1) : 0 < mFree so n := by
  induction n with
  | zero => omega
  | succ n ih =>
    unfold mFree
    by_cases h : i = n
    · subst h; rw [if_pos hs]; omega
    · have := ih (by omega); omega
theorem mTk_free {vo : Nat → Int32} {le : Int32} {T : mTS} (h : ¬ mTb vo le T = -1) : mFree (mTk vo le T).1 8 + 1 = mFree T.1 8 := by
  have e : mTk vo le T = _ := if_neg h
  rw [e]
  rcases mB_in T.1 T.2.2.1 vo le 96 with q | ⟨b, h1, h2, h3, -⟩
  · exact absurd q h
  · have hb : mTb vo le T = nI b := h2
    show mFree (upd T.1 (mTb vo le T / 12).toNatClampNeg (mTb vo le T - mTb vo le T / 12 * 12)) 8 + 1 = _
    rw [hb, dv12_cl h1, rm12 h1]
    have := mFree_upd T.1 (i := b / 12) (v := nI (b % 12)) h3 (nI_m1 (by omega)) 8
    rw [if_pos (by omega)] at this
    exact this
theorem mTn_free {vo : Nat → Int32} {le : Int32} {T : mTS} : ∀ k, ¬ mTv vo le T (k + 1) = -1 → mFree (mTn vo le T (k + 1)).1 8 + (k + 1) ≤ 8
  | 0, h => by
    have := mTk_free (T := T) h
    have := mFree_le T.1 8
    show mFree (mTk vo le T).1 8 + 1 ≤ 8
    omega
  | k + 1, h => by
    have h0 : ¬ mTv vo le T (k + 1) = -1 := by
      intro q
      have s1 := mTn_stay (T := T) (k := k) q 1
      apply h
      show mTb vo le (mTn vo le T (k + 1)) = -1
      rw [s1]; exact q
    have ih := mTn_free k h0
    have := mTk_free (T := mTn vo le T (k + 1)) h
    show mFree (mTk vo le (mTn vo le T (k + 1))).1 8 + (k + 2) ≤ 8
    omega
theorem mTv_9 (vo : Nat → Int32) (le : Int32) (T : mTS) : mTv vo le T 9 = -1 := by
  apply Decidable.byContradiction
  intro h
  have := mTn_free (T := T) 8 h
  omega
def mTake (vo : Nat → Int32) (le : Int32) : mTS := mTn vo le (kI (-1), kI (-1), kI 0, 0) 9

set_option maxHeartbeats 1000000 in
set_option maxRecDepth 100000 in
theorem c_X12_votesAll {l : Launch} {D : va_G} {ca ss ad : Nat → Nat} {f : Nat → va_E}   (la : Int32) (dr : Int32) (go : Int32) (lo : Int32) (ma : Int32) (pa : Int32) (tu : Int32) (su : Int32) (di : Nat → Int32) (mn : Nat → Int32) (se : Nat → Int32) (vo : Nat → Int32) (n0 : Nat) (n1 : Nat) (hc0 : f 87 = .inr (11, mF ad la dr go lo ma pa tu su)) (hc1 : f 92 = .inl (ca 0, 60, .inl di)) (hc2 : f 93 = .inl (ca 0, 2, .inl mn)) (hc3 : f 94 = .inl (ca 0, 4, .inl se)) (hc4 : f 95 = .inl (ca 0, 96, .inl vo)) (h0 : mn 0 = nI n0) (h1 : mn 1 = nI n1) (hn : n0 ≤ 12) (hn1 : n1 ≤ 8) (hz : ¬ se 0 = 0) : gMv l D ca ss ad 108 yX12_votesAll cX12_votesAll 4 none 6 f [.ref (ad 87)] (fun u => u = va_up (va_up f 87 (.inr (11, mF ad la dr go ((mVotes di se n0 n1 go).2.2) ((mVotes di se n0 n1 go).2.1) pa tu su))) 95 (.inl (ca 0, 96, .inl ((mVotes di se n0 n1 go).1)))) := by
  refine gMv_ofK (by decide +kernel) (Nat.le_of_ble_eq_true rfl) (lv0 := [(0, .ref (ad 87))]) rfl (fun pT eT sT mT aT below meth cT AT QT C RT => ?_)
  have C : gX pT sT mT aT meth cT AT D ca ss 4 RX12 cX12_votesAll none := C
  refine gj_setf (up_id hc0).symm ?_
  refine gj_setf (up_id (up_nx (by decide) (hc4))).symm ?_
  refine gj_aload_n C 0 dX12_votesAll_0 rfl 0 rfl ?_
  refine gj_iconst C (v := 0) (by decide) dX12_votesAll_1 ?_
  refine gj_putS C 87 (by decide) (up_nx (by decide) (va_up_self _ _ _)) inX12 rfl 10 (by decide) tyX12 tyX12_ok nmX12 w_859 rfl (v := .int 0) (fs' := [.ref (ad 88), .ref (ad 89), .ref (ad 90), .ref (ad 91), .int la, .ref (ad 92), .ref (ad 93), .ref (ad 94), .int dr, .int go, .int 0, .int ma, .ref (ad 95), .ref (ad 96), .ref (ad 97), .ref (ad 98), .int pa, .int tu, .ref (ad 99), .ref (ad 100), .ref (ad 101), .ref (ad 102), .ref (ad 103), .ref (ad 104), .int su, .ref (ad 105), .ref (ad 106), .ref (ad 107)]) rfl rfl (Nat.le_of_ble_eq_true rfl) rfl dX12_votesAll_2 ?_
  refine gj_setf ((up_comm (by decide)).trans (up_un (bx_uu _ _ _ _))) ?_
  refine gj_aload_n C 0 dX12_votesAll_5 rfl 0 rfl ?_
  refine gj_iconst C (v := 0) (by decide) dX12_votesAll_6 ?_
  refine gj_putS C 87 (by decide) (up_nx (by decide) (va_up_self _ _ _)) inX12 rfl 11 (by decide) tyX12 tyX12_ok nmX12 w_860 rfl (v := .int 0) (fs' := [.ref (ad 88), .ref (ad 89), .ref (ad 90), .ref (ad 91), .int la, .ref (ad 92), .ref (ad 93), .ref (ad 94), .int dr, .int go, .int 0, .int 0, .ref (ad 95), .ref (ad 96), .ref (ad 97), .ref (ad 98), .int pa, .int tu, .ref (ad 99), .ref (ad 100), .ref (ad 101), .ref (ad 102), .ref (ad 103), .ref (ad 104), .int su, .ref (ad 105), .ref (ad 106), .ref (ad 107)]) rfl rfl (Nat.le_of_ble_eq_true rfl) rfl dX12_votesAll_7 ?_
  refine gj_setf ((up_comm (by decide)).trans (up_un (bx_uu _ _ _ _))) ?_
  refine gj_iconst C (v := 0) (by decide) dX12_votesAll_10 ?_
  refine gj_seti (y := nI 0) rfl ?_
  refine gj_istore_n C (lv' := [(1, .int (nI 0)), (0, .ref (ad 87))]) 1 dX12_votesAll_11 rfl (by decide) rfl ?_
  refine gj_setf (g := va_up (va_up f 87 (.inr (11, [.ref (ad 88), .ref (ad 89), .ref (ad 90), .ref (ad 91), .int la, .ref (ad 92), .ref (ad 93), .ref (ad 94), .int dr, .int go, .int 0, .int 0, .ref (ad 95), .ref (ad 96), .ref (ad 97), .ref (ad 98), .int pa, .int tu, .ref (ad 99), .ref (ad 100), .ref (ad 101), .ref (ad 102), .ref (ad 103), .ref (ad 104), .int su, .ref (ad 105), .ref (ad 106), .ref (ad 107)]))) 95 (.inl (ca 0, 96, .inl (zF vo 0 0)))) (by rw [zF_0]) ?_
  have loop_1 : ∀ (m0 t0 : Nat), t0 + m0 = 96 → gJ pT l eT (Rm 6) sT mT aT below meth cT AT QT D ad 108 4 (va_up (va_up f 87 (.inr (11, [.ref (ad 88), .ref (ad 89), .ref (ad 90), .ref (ad 91), .int la, .ref (ad 92), .ref (ad 93), .ref (ad 94), .int dr, .int go, .int 0, .int 0, .ref (ad 95), .ref (ad 96), .ref (ad 97), .ref (ad 98), .int pa, .int tu, .ref (ad 99), .ref (ad 100), .ref (ad 101), .ref (ad 102), .ref (ad 103), .ref (ad 104), .int su, .ref (ad 105), .ref (ad 106), .ref (ad 107)]))) 95 (.inl (ca 0, 96, .inl (zF vo 0 t0)))) [(1, .int (nI t0)), (0, .ref (ad 87))] 12 [] := by
    intro m0
    induction m0 with
    | zero =>
      intro t0 hk_t0 
      obtain rfl : t0 = 96 := (by omega)
      refine gj_iload_n C 1 dX12_votesAll_12 rfl 0 rfl ?_
      refine gj_bipush C (v := 96) (by decide) dX12_votesAll_13 ?_
      refine gj_icmp_ge C 31 dX12_votesAll_15 (by decide) (fun c_3 => ?_) (fun c_3 => absurd (Int32.le_refl _) c_3)
      refine gj_iconst C (v := 0) (by decide) dX12_votesAll_31 ?_
      refine gj_seti (y := nI (0 + 0)) rfl ?_
      refine gj_istore_n C (lv' := [(1, .int (nI (0 + 0))), (0, .ref (ad 87))]) 1 dX12_votesAll_32 rfl (by decide) rfl ?_
      refine gj_extI (g' := kI 0) 95 (by decide) (va_up_self _ _ _) (zF_k vo 0 96) ?_
      refine gj_setf (bx_uu _ _ _ _) ?_
      refine gj_setf (g := va_up (va_up f 87 (.inr (11, mF ad la dr go (((mV1 di se n0 n1 go (kI 0, 0, 0) 0)).2.2) (((mV1 di se n0 n1 go (kI 0, 0, 0) 0)).2.1) pa tu su))) 95 (.inl (ca 0, 96, .inl (((mV1 di se n0 n1 go (kI 0, 0, 0) 0)).1)))) rfl ?_
      have loop_4 : ∀ (m1 t1 : Nat), t1 + m1 = n1 → gJ pT l eT (Rm 6) sT mT aT below meth cT AT QT D ad 108 4 (va_up (va_up f 87 (.inr (11, mF ad la dr go (((mV1 di se n0 n1 go (kI 0, 0, 0) t1)).2.2) (((mV1 di se n0 n1 go (kI 0, 0, 0) t1)).2.1) pa tu su))) 95 (.inl (ca 0, 96, .inl (((mV1 di se n0 n1 go (kI 0, 0, 0) t1)).1)))) [(1, .int (nI (0 + t1))), (0, .ref (ad 87))] 33 [] := by
        intro m1
        induction m1 with
        | zero =>
          intro t1 hk_t1 
          refine gj_iload_n C 1 dX12_votesAll_33 rfl 0 rfl ?_
          refine gj_aload_n C 0 dX12_votesAll_34 rfl 1 rfl ?_
          refine gj_get C 87 (by decide) (up_nx (by decide) (va_up_self _ _ _)) inX12 rfl 6 (by decide) w_855 (v := .ref (ad 93)) rfl dX12_votesAll_35 ?_
          refine gj_iconst C (v := 1) (by decide) dX12_votesAll_38 ?_
          refine gj_iald C 93 (by decide) (up_nx (by decide) (up_nx (by decide) (hc2))) (by unfold vp_in; decide) dX12_votesAll_39 ?_
          refine gj_seti h1 ?_
          refine gj_icmp_ge C 120 dX12_votesAll_40 (by decide) (fun c_6 => ?_) (fun c_6 => absurd (nI_le (by omega) (by omega)) c_6)
          exact RT _ _ _ (by obtain rfl : t1 = n1 := (by omega); rfl) dX12_votesAll_120
        | succ m1 ih_5 =>
          intro t1 hk_t1 
          refine gj_iload_n C 1 dX12_votesAll_33 rfl 0 rfl ?_
          refine gj_aload_n C 0 dX12_votesAll_34 rfl 1 rfl ?_
          refine gj_get C 87 (by decide) (up_nx (by decide) (va_up_self _ _ _)) inX12 rfl 6 (by decide) w_855 (v := .ref (ad 93)) rfl dX12_votesAll_35 ?_
          refine gj_iconst C (v := 1) (by decide) dX12_votesAll_38 ?_
          refine gj_iald C 93 (by decide) (up_nx (by decide) (up_nx (by decide) (hc2))) (by unfold vp_in; decide) dX12_votesAll_39 ?_
          refine gj_seti h1 ?_
          refine gj_icmp_ge C 120 dX12_votesAll_40 (by decide) (fun c_7 => absurd c_7 (nI_ge (by omega) (by omega))) (fun c_7 => ?_)
          refine gj_iload_n C 1 dX12_votesAll_43 rfl 0 rfl ?_
          refine gj_iconst C (v := 1) (by decide) dX12_votesAll_44 ?_
          refine gj_iadd C dX12_votesAll_45 ?_
          refine gj_seti (y := nI (0 + t1 + 1 + 0)) (nI_1 _) ?_
          refine gj_istore_n C (lv' := [(2, .int (nI (0 + t1 + 1 + 0))), (1, .int (nI (0 + t1))), (0, .ref (ad 87))]) 2 dX12_votesAll_46 rfl (by decide) rfl ?_
          refine gj_setf (g := va_up (va_up f 87 (.inr (11, mF ad la dr go (((mV2 di se n0 n1 go (0 + t1) (mV1 di se n0 n1 go (kI 0, 0, 0) t1) 0)).2.2) (((mV2 di se n0 n1 go (0 + t1) (mV1 di se n0 n1 go (kI 0, 0, 0) t1) 0)).2.1) pa tu su))) 95 (.inl (ca 0, 96, .inl (((mV2 di se n0 n1 go (0 + t1) (mV1 di se n0 n1 go (kI 0, 0, 0) t1) 0)).1)))) rfl ?_
          have loop_8 : ∀ (m2 t2 : Nat), t2 + m2 = (n1 - (0 + t1 + 1)) → gJ pT l eT (Rm 6) sT mT aT below meth cT AT QT D ad 108 4 (va_up (va_up f 87 (.inr (11, mF ad la dr go (((mV2 di se n0 n1 go (0 + t1) (mV1 di se n0 n1 go (kI 0, 0, 0) t1) t2)).2.2) (((mV2 di se n0 n1 go (0 + t1) (mV1 di se n0 n1 go (kI 0, 0, 0) t1) t2)).2.1) pa tu su))) 95 (.inl (ca 0, 96, .inl (((mV2 di se n0 n1 go (0 + t1) (mV1 di se n0 n1 go (kI 0, 0, 0) t1) t2)).1)))) [(2, .int (nI (0 + t1 + 1 + t2))), (1, .int (nI (0 + t1))), (0, .ref (ad 87))] 47 [] := by
            intro m2
            induction m2 with
            | zero =>
              intro t2 hk_t2 
              refine gj_iload_n C 2 dX12_votesAll_47 rfl 0 rfl ?_
              refine gj_aload_n C 0 dX12_votesAll_48 rfl 2 rfl ?_
              refine gj_get C 87 (by decide) (up_nx (by decide) (va_up_self _ _ _)) inX12 rfl 6 (by decide) w_855 (v := .ref (ad 93)) rfl dX12_votesAll_49 ?_
              refine gj_iconst C (v := 1) (by decide) dX12_votesAll_52 ?_
              refine gj_iald C 93 (by decide) (up_nx (by decide) (up_nx (by decide) (hc2))) (by unfold vp_in; decide) dX12_votesAll_53 ?_
              refine gj_seti h1 ?_
              refine gj_icmp_ge C 114 dX12_votesAll_54 (by decide) (fun c_10 => ?_) (fun c_10 => absurd (nI_le (by omega) (by omega)) c_10)
              refine gj_iinc C (v := nI (0 + (t1 + 1))) (lv' := [(1, .int (nI (0 + (t1 + 1)))), (2, .int (nI (0 + t1 + 1 + t2))), (0, .ref (ad 87))]) dX12_votesAll_114 1 rfl (nI_1 _) (by decide) rfl ?_
              refine gj_goto C 33 dX12_votesAll_117 (by decide) ?_
              refine gj_setf (g := va_up (va_up f 87 (.inr (11, mF ad la dr go (((mV1 di se n0 n1 go (kI 0, 0, 0) (t1 + 1))).2.2) (((mV1 di se n0 n1 go (kI 0, 0, 0) (t1 + 1))).2.1) pa tu su))) 95 (.inl (ca 0, 96, .inl (((mV1 di se n0 n1 go (kI 0, 0, 0) (t1 + 1))).1)))) (by obtain rfl : t2 = n1 - (0 + t1 + 1) := (by omega); rfl) ?_
              refine gj_lv [0, 2] rfl ?_
              exact ih_5 (t1 + 1) (by omega)
            | succ m2 ih_9 =>
              intro t2 hk_t2 
              refine gj_iload_n C 2 dX12_votesAll_47 rfl 0 rfl ?_
              refine gj_aload_n C 0 dX12_votesAll_48 rfl 2 rfl ?_
              refine gj_get C 87 (by decide) (up_nx (by decide) (va_up_self _ _ _)) inX12 rfl 6 (by decide) w_855 (v := .ref (ad 93)) rfl dX12_votesAll_49 ?_
              refine gj_iconst C (v := 1) (by decide) dX12_votesAll_52 ?_
              refine gj_iald C 93 (by decide) (up_nx (by decide) (up_nx (by decide) (hc2))) (by unfold vp_in; decide) dX12_votesAll_53 ?_
              refine gj_seti h1 ?_
              refine gj_icmp_ge C 114 dX12_votesAll_54 (by decide) (fun c_11 => absurd c_11 (nI_ge (by omega) (by omega))) (fun c_11 => ?_)
              refine gj_iload_n C 2 dX12_votesAll_57 rfl 0 rfl ?_
              refine gj_iconst C (v := 1) (by decide) dX12_votesAll_58 ?_
              refine gj_iadd C dX12_votesAll_59 ?_
              refine gj_seti (y := nI (0 + t1 + 1 + t2 + 1 + 0)) (nI_1 _) ?_
              refine gj_istore_n C (lv' := [(3, .int (nI (0 + t1 + 1 + t2 + 1 + 0))), (2, .int (nI (0 + t1 + 1 + t2))), (1, .int (nI (0 + t1))), (0, .ref (ad 87))]) 3 dX12_votesAll_60 rfl (by decide) rfl ?_
              refine gj_setf (g := va_up (va_up f 87 (.inr (11, mF ad la dr go (((mV3 di se n0 go (0 + t1) (0 + t1 + 1 + t2) (mV2 di se n0 n1 go (0 + t1) (mV1 di se n0 n1 go (kI 0, 0, 0) t1) t2) 0)).2.2) (((mV3 di se n0 go (0 + t1) (0 + t1 + 1 + t2) (mV2 di se n0 n1 go (0 + t1) (mV1 di se n0 n1 go (kI 0, 0, 0) t1) t2) 0)).2.1) pa tu su))) 95 (.inl (ca 0, 96, .inl (((mV3 di se n0 go (0 + t1) (0 + t1 + 1 + t2) (mV2 di se n0 n1 go (0 + t1) (mV1 di se n0 n1 go (kI 0, 0, 0) t1) t2) 0)).1)))) rfl ?_
              have loop_12 : ∀ (m3 t3 : Nat), t3 + m3 = (n1 - (0 + t1 + 1 + t2 + 1)) → gJ pT l eT (Rm 6) sT mT aT below meth cT AT QT D ad 108 4 (va_up (va_up f 87 (.inr (11, mF ad la dr go (((mV3 di se n0 go (0 + t1) (0 + t1 + 1 + t2) (mV2 di se n0 n1 go (0 + t1) (mV1 di se n0 n1 go (kI 0, 0, 0) t1) t2) t3)).2.2) (((mV3 di se n0 go (0 + t1) (0 + t1 + 1 + t2) (mV2 di se n0 n1 go (0 + t1) (mV1 di se n0 n1 go (kI 0, 0, 0) t1) t2) t3)).2.1) pa tu su))) 95 (.inl (ca 0, 96, .inl (((mV3 di se n0 go (0 + t1) (0 + t1 + 1 + t2) (mV2 di se n0 n1 go (0 + t1) (mV1 di se n0 n1 go (kI 0, 0, 0) t1) t2) t3)).1)))) [(3, .int (nI (0 + t1 + 1 + t2 + 1 + t3))), (2, .int (nI (0 + t1 + 1 + t2))), (1, .int (nI (0 + t1))), (0, .ref (ad 87))] 61 [] := by
                intro m3
                induction m3 with
                | zero =>
                  intro t3 hk_t3 
                  refine gj_iload_n C 3 dX12_votesAll_61 rfl 0 rfl ?_
                  refine gj_aload_n C 0 dX12_votesAll_62 rfl 3 rfl ?_
                  refine gj_get C 87 (by decide) (up_nx (by decide) (va_up_self _ _ _)) inX12 rfl 6 (by decide) w_855 (v := .ref (ad 93)) rfl dX12_votesAll_63 ?_
                  refine gj_iconst C (v := 1) (by decide) dX12_votesAll_66 ?_
                  refine gj_iald C 93 (by decide) (up_nx (by decide) (up_nx (by decide) (hc2))) (by unfold vp_in; decide) dX12_votesAll_67 ?_
                  refine gj_seti h1 ?_
                  refine gj_icmp_ge C 108 dX12_votesAll_68 (by decide) (fun c_14 => ?_) (fun c_14 => absurd (nI_le (by omega) (by omega)) c_14)
                  refine gj_iinc C (v := nI (0 + t1 + 1 + (t2 + 1))) (lv' := [(2, .int (nI (0 + t1 + 1 + (t2 + 1)))), (3, .int (nI (0 + t1 + 1 + t2 + 1 + t3))), (1, .int (nI (0 + t1))), (0, .ref (ad 87))]) dX12_votesAll_108 1 rfl (nI_1 _) (by decide) rfl ?_
                  refine gj_goto C 47 dX12_votesAll_111 (by decide) ?_
                  refine gj_setf (g := va_up (va_up f 87 (.inr (11, mF ad la dr go (((mV2 di se n0 n1 go (0 + t1) (mV1 di se n0 n1 go (kI 0, 0, 0) t1) (t2 + 1))).2.2) (((mV2 di se n0 n1 go (0 + t1) (mV1 di se n0 n1 go (kI 0, 0, 0) t1) (t2 + 1))).2.1) pa tu su))) 95 (.inl (ca 0, 96, .inl (((mV2 di se n0 n1 go (0 + t1) (mV1 di se n0 n1 go (kI 0, 0, 0) t1) (t2 + 1))).1)))) (by obtain rfl : t3 = n1 - (0 + t1 + 1 + t2 + 1) := (by omega); rfl) ?_
                  refine gj_lv [0, 2, 3] rfl ?_
                  exact ih_9 (t2 + 1) (by omega)
                | succ m3 ih_13 =>
                  intro t3 hk_t3 
                  refine gj_iload_n C 3 dX12_votesAll_61 rfl 0 rfl ?_
                  refine gj_aload_n C 0 dX12_votesAll_62 rfl 3 rfl ?_
                  refine gj_get C 87 (by decide) (up_nx (by decide) (va_up_self _ _ _)) inX12 rfl 6 (by decide) w_855 (v := .ref (ad 93)) rfl dX12_votesAll_63 ?_
                  refine gj_iconst C (v := 1) (by decide) dX12_votesAll_66 ?_
                  refine gj_iald C 93 (by decide) (up_nx (by decide) (up_nx (by decide) (hc2))) (by unfold vp_in; decide) dX12_votesAll_67 ?_
                  refine gj_seti h1 ?_
                  refine gj_icmp_ge C 108 dX12_votesAll_68 (by decide) (fun c_15 => absurd c_15 (nI_ge (by omega) (by omega))) (fun c_15 => ?_)
                  refine gj_iload_n C 1 dX12_votesAll_71 rfl 2 rfl ?_
                  refine gj_aload_n C 0 dX12_votesAll_72 rfl 3 rfl ?_
                  refine gj_get C 87 (by decide) (up_nx (by decide) (va_up_self _ _ _)) inX12 rfl 9 (by decide) w_858 (v := .int go) rfl dX12_votesAll_73 ?_
                  refine gj_icmp_eq C 102 dX12_votesAll_76 (by decide) (fun c_16 => ?_) (fun c_16 => ?_)
                  · refine gj_iinc C (v := nI (0 + t1 + 1 + t2 + 1 + (t3 + 1))) (lv' := [(3, .int (nI (0 + t1 + 1 + t2 + 1 + (t3 + 1)))), (2, .int (nI (0 + t1 + 1 + t2))), (1, .int (nI (0 + t1))), (0, .ref (ad 87))]) dX12_votesAll_102 0 rfl (nI_1 _) (by decide) rfl ?_
                    refine gj_goto C 61 dX12_votesAll_105 (by decide) ?_
                    refine gj_setf (g := va_up (va_up f 87 (.inr (11, mF ad la dr go (((mV3 di se n0 go (0 + t1) (0 + t1 + 1 + t2) (mV2 di se n0 n1 go (0 + t1) (mV1 di se n0 n1 go (kI 0, 0, 0) t1) t2) (t3 + 1))).2.2) (((mV3 di se n0 go (0 + t1) (0 + t1 + 1 + t2) (mV2 di se n0 n1 go (0 + t1) (mV1 di se n0 n1 go (kI 0, 0, 0) t1) t2) (t3 + 1))).2.1) pa tu su))) 95 (.inl (ca 0, 96, .inl (((mV3 di se n0 go (0 + t1) (0 + t1 + 1 + t2) (mV2 di se n0 n1 go (0 + t1) (mV1 di se n0 n1 go (kI 0, 0, 0) t1) t2) (t3 + 1))).1)))) (by rw [show (mV3 di se n0 go (0 + t1) (0 + t1 + 1 + t2) (mV2 di se n0 n1 go (0 + t1) (mV1 di se n0 n1 go (kI 0, 0, 0) t1) t2) (t3 + 1)) = (mV3 di se n0 go (0 + t1) (0 + t1 + 1 + t2) (mV2 di se n0 n1 go (0 + t1) (mV1 di se n0 n1 go (kI 0, 0, 0) t1) t2) t3) from (if_pos c_16).trans (rfl)]) ?_
                    refine gj_lv [0, 1, 2, 3] rfl ?_
                    exact ih_13 (t3 + 1) (by omega)
                  · refine gj_iload_n C 2 dX12_votesAll_79 rfl 1 rfl ?_
                    refine gj_aload_n C 0 dX12_votesAll_80 rfl 3 rfl ?_
                    refine gj_get C 87 (by decide) (up_nx (by decide) (va_up_self _ _ _)) inX12 rfl 9 (by decide) w_858 (v := .int go) rfl dX12_votesAll_81 ?_
                    refine gj_icmp_eq C 102 dX12_votesAll_84 (by decide) (fun c_17 => ?_) (fun c_17 => ?_)
                    · refine gj_iinc C (v := nI (0 + t1 + 1 + t2 + 1 + (t3 + 1))) (lv' := [(3, .int (nI (0 + t1 + 1 + t2 + 1 + (t3 + 1)))), (2, .int (nI (0 + t1 + 1 + t2))), (1, .int (nI (0 + t1))), (0, .ref (ad 87))]) dX12_votesAll_102 0 rfl (nI_1 _) (by decide) rfl ?_
                      refine gj_goto C 61 dX12_votesAll_105 (by decide) ?_
                      refine gj_setf (g := va_up (va_up f 87 (.inr (11, mF ad la dr go (((mV3 di se n0 go (0 + t1) (0 + t1 + 1 + t2) (mV2 di se n0 n1 go (0 + t1) (mV1 di se n0 n1 go (kI 0, 0, 0) t1) t2) (t3 + 1))).2.2) (((mV3 di se n0 go (0 + t1) (0 + t1 + 1 + t2) (mV2 di se n0 n1 go (0 + t1) (mV1 di se n0 n1 go (kI 0, 0, 0) t1) t2) (t3 + 1))).2.1) pa tu su))) 95 (.inl (ca 0, 96, .inl (((mV3 di se n0 go (0 + t1) (0 + t1 + 1 + t2) (mV2 di se n0 n1 go (0 + t1) (mV1 di se n0 n1 go (kI 0, 0, 0) t1) t2) (t3 + 1))).1)))) (by rw [show (mV3 di se n0 go (0 + t1) (0 + t1 + 1 + t2) (mV2 di se n0 n1 go (0 + t1) (mV1 di se n0 n1 go (kI 0, 0, 0) t1) t2) (t3 + 1)) = (mV3 di se n0 go (0 + t1) (0 + t1 + 1 + t2) (mV2 di se n0 n1 go (0 + t1) (mV1 di se n0 n1 go (kI 0, 0, 0) t1) t2) t3) from (if_neg c_16).trans ((if_pos c_17).trans (rfl))]) ?_
                      refine gj_lv [0, 1, 2, 3] rfl ?_
                      exact ih_13 (t3 + 1) (by omega)
                    · refine gj_iload_n C 3 dX12_votesAll_87 rfl 0 rfl ?_
                      refine gj_aload_n C 0 dX12_votesAll_88 rfl 3 rfl ?_
                      refine gj_get C 87 (by decide) (up_nx (by decide) (va_up_self _ _ _)) inX12 rfl 9 (by decide) w_858 (v := .int go) rfl dX12_votesAll_89 ?_
                      refine gj_icmp_eq C 102 dX12_votesAll_92 (by decide) (fun c_18 => ?_) (fun c_18 => ?_)
                      · refine gj_iinc C (v := nI (0 + t1 + 1 + t2 + 1 + (t3 + 1))) (lv' := [(3, .int (nI (0 + t1 + 1 + t2 + 1 + (t3 + 1)))), (2, .int (nI (0 + t1 + 1 + t2))), (1, .int (nI (0 + t1))), (0, .ref (ad 87))]) dX12_votesAll_102 0 rfl (nI_1 _) (by decide) rfl ?_
                        refine gj_goto C 61 dX12_votesAll_105 (by decide) ?_
                        refine gj_setf (g := va_up (va_up f 87 (.inr (11, mF ad la dr go (((mV3 di se n0 go (0 + t1) (0 + t1 + 1 + t2) (mV2 di se n0 n1 go (0 + t1) (mV1 di se n0 n1 go (kI 0, 0, 0) t1) t2) (t3 + 1))).2.2) (((mV3 di se n0 go (0 + t1) (0 + t1 + 1 + t2) (mV2 di se n0 n1 go (0 + t1) (mV1 di se n0 n1 go (kI 0, 0, 0) t1) t2) (t3 + 1))).2.1) pa tu su))) 95 (.inl (ca 0, 96, .inl (((mV3 di se n0 go (0 + t1) (0 + t1 + 1 + t2) (mV2 di se n0 n1 go (0 + t1) (mV1 di se n0 n1 go (kI 0, 0, 0) t1) t2) (t3 + 1))).1)))) (by rw [show (mV3 di se n0 go (0 + t1) (0 + t1 + 1 + t2) (mV2 di se n0 n1 go (0 + t1) (mV1 di se n0 n1 go (kI 0, 0, 0) t1) t2) (t3 + 1)) = (mV3 di se n0 go (0 + t1) (0 + t1 + 1 + t2) (mV2 di se n0 n1 go (0 + t1) (mV1 di se n0 n1 go (kI 0, 0, 0) t1) t2) t3) from (if_neg c_16).trans ((if_neg c_17).trans ((if_pos c_18).trans (rfl)))]) ?_
                        refine gj_lv [0, 1, 2, 3] rfl ?_
                        exact ih_13 (t3 + 1) (by omega)
                      · refine gj_aload_n C 0 dX12_votesAll_95 rfl 3 rfl ?_
                        refine gj_iload_n C 1 dX12_votesAll_96 rfl 2 rfl ?_
                        refine gj_iload_n C 2 dX12_votesAll_97 rfl 1 rfl ?_
                        refine gj_iload_n C 3 dX12_votesAll_98 rfl 0 rfl ?_
                        refine gj_callVv C mi_X12_looksAt w_1077 87 (by decide) (up_nx (by decide) (va_up_self _ _ _)) rfl (c_X12_looksAt (0 + t1) (0 + t1 + 1 + t2) (0 + t1 + 1 + t2 + 1 + t3) la dr go (((mV3 di se n0 go (0 + t1) (0 + t1 + 1 + t2) (mV2 di se n0 n1 go (0 + t1) (mV1 di se n0 n1 go (kI 0, 0, 0) t1) t2) t3)).2.2) (((mV3 di se n0 go (0 + t1) (0 + t1 + 1 + t2) (mV2 di se n0 n1 go (0 + t1) (mV1 di se n0 n1 go (kI 0, 0, 0) t1) t2) t3)).2.1) pa tu su di mn se (((mV3 di se n0 go (0 + t1) (0 + t1 + 1 + t2) (mV2 di se n0 n1 go (0 + t1) (mV1 di se n0 n1 go (kI 0, 0, 0) t1) t2) t3)).1) n0 (up_nx (by decide) (va_up_self _ _ _)) (up_nx (by decide) (up_nx (by decide) (hc1))) (up_nx (by decide) (up_nx (by decide) (hc2))) (up_nx (by decide) (up_nx (by decide) (hc3))) (va_up_self _ _ _) h0 hn (by omega) (by omega) (by omega) hz) mc_X12_looksAt ⟨Nat.le_of_ble_eq_true rfl, Nat.le_of_ble_eq_true rfl⟩ (rest := []) rfl (Nat.le_of_ble_eq_true rfl) dX12_votesAll_99 (fun u h => ?_)
                        subst h
                        refine gj_setf ((up_un ((up_comm (by decide)).trans (up_un (bx_uu _ _ _ _)))).trans (bx_uu _ _ _ _)) ?_
                        refine gj_iinc C (v := nI (0 + t1 + 1 + t2 + 1 + (t3 + 1))) (lv' := [(3, .int (nI (0 + t1 + 1 + t2 + 1 + (t3 + 1)))), (2, .int (nI (0 + t1 + 1 + t2))), (1, .int (nI (0 + t1))), (0, .ref (ad 87))]) dX12_votesAll_102 0 rfl (nI_1 _) (by decide) rfl ?_
                        refine gj_goto C 61 dX12_votesAll_105 (by decide) ?_
                        refine gj_setf (g := va_up (va_up f 87 (.inr (11, mF ad la dr go (((mV3 di se n0 go (0 + t1) (0 + t1 + 1 + t2) (mV2 di se n0 n1 go (0 + t1) (mV1 di se n0 n1 go (kI 0, 0, 0) t1) t2) (t3 + 1))).2.2) (((mV3 di se n0 go (0 + t1) (0 + t1 + 1 + t2) (mV2 di se n0 n1 go (0 + t1) (mV1 di se n0 n1 go (kI 0, 0, 0) t1) t2) (t3 + 1))).2.1) pa tu su))) 95 (.inl (ca 0, 96, .inl (((mV3 di se n0 go (0 + t1) (0 + t1 + 1 + t2) (mV2 di se n0 n1 go (0 + t1) (mV1 di se n0 n1 go (kI 0, 0, 0) t1) t2) (t3 + 1))).1)))) (by rw [show (mV3 di se n0 go (0 + t1) (0 + t1 + 1 + t2) (mV2 di se n0 n1 go (0 + t1) (mV1 di se n0 n1 go (kI 0, 0, 0) t1) t2) (t3 + 1)) = (mLook di se n0 (0 + t1) (0 + t1 + 1 + t2) (0 + t1 + 1 + t2 + 1 + t3) ((((mV3 di se n0 go (0 + t1) (0 + t1 + 1 + t2) (mV2 di se n0 n1 go (0 + t1) (mV1 di se n0 n1 go (kI 0, 0, 0) t1) t2) t3)).1), (((mV3 di se n0 go (0 + t1) (0 + t1 + 1 + t2) (mV2 di se n0 n1 go (0 + t1) (mV1 di se n0 n1 go (kI 0, 0, 0) t1) t2) t3)).2.1), (((mV3 di se n0 go (0 + t1) (0 + t1 + 1 + t2) (mV2 di se n0 n1 go (0 + t1) (mV1 di se n0 n1 go (kI 0, 0, 0) t1) t2) t3)).2.2))) from (if_neg c_16).trans ((if_neg c_17).trans ((if_neg c_18).trans (rfl)))]) ?_
                        refine gj_lv [0, 1, 2, 3] rfl ?_
                        exact ih_13 (t3 + 1) (by omega)
              refine gj_lv [0, 1, 2, 3] rfl ?_
              exact loop_12 ((n1 - (0 + t1 + 1 + t2 + 1)) - 0) 0 (by omega)
          refine gj_lv [0, 1, 2] rfl ?_
          exact loop_8 ((n1 - (0 + t1 + 1)) - 0) 0 (by omega)
      refine gj_lv [0, 1] rfl ?_
      exact loop_4 (n1 - 0) 0 (by omega)
    | succ m0 ih_2 =>
      intro t0 hk_t0 
      refine gj_iload_n C 1 dX12_votesAll_12 rfl 0 rfl ?_
      refine gj_bipush C (v := 96) (by decide) dX12_votesAll_13 ?_
      refine gj_icmp_ge C 31 dX12_votesAll_15 (by decide) (fun c_19 => absurd c_19 (show ¬ (96 : Int32) ≤ nI t0 from nI_ge (b := 96) (by omega) (by omega))) (fun c_19 => ?_)
      refine gj_aload_n C 0 dX12_votesAll_18 rfl 1 rfl ?_
      refine gj_get C 87 (by decide) (up_nx (by decide) (va_up_self _ _ _)) inX12 rfl 12 (by decide) w_861 (v := .ref (ad 95)) rfl dX12_votesAll_19 ?_
      refine gj_iload_n C 1 dX12_votesAll_22 rfl 0 rfl ?_
      refine gj_iconst C (v := 0) (by decide) dX12_votesAll_23 ?_
      refine gj_iast C 95 (by decide) (va_up_self _ _ _) (vp_in_nI (by omega) (by omega)) dX12_votesAll_24 ?_
      refine gj_setf (bx_uu _ _ _ _) ?_
      refine gj_setf (g := va_up (va_up f 87 (.inr (11, [.ref (ad 88), .ref (ad 89), .ref (ad 90), .ref (ad 91), .int la, .ref (ad 92), .ref (ad 93), .ref (ad 94), .int dr, .int go, .int 0, .int 0, .ref (ad 95), .ref (ad 96), .ref (ad 97), .ref (ad 98), .int pa, .int tu, .ref (ad 99), .ref (ad 100), .ref (ad 101), .ref (ad 102), .ref (ad 103), .ref (ad 104), .int su, .ref (ad 105), .ref (ad 106), .ref (ad 107)]))) 95 (.inl (ca 0, 96, .inl (zF vo 0 (t0 + 1))))) (by rw [zF_i vo 0 (show t0 < 2 ^ 31 by omega)]) ?_
      refine gj_iinc C (v := nI (t0 + 1)) (lv' := [(1, .int (nI (t0 + 1))), (0, .ref (ad 87))]) dX12_votesAll_25 0 rfl (nI_1 _) (by decide) rfl ?_
      refine gj_goto C 12 dX12_votesAll_28 (by decide) ?_
      refine gj_lv [0, 1] rfl ?_
      exact ih_2 (t0 + 1) (by omega)
  refine gj_lv [0, 1] rfl ?_
  exact loop_1 (96 - 0) 0 (by omega)
