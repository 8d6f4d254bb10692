theorem nz_1 {q : Int32} (h : 1 ≤ q) : ¬ q = 0 := by
  intro e
  rw [e] at h
  exact absurd h (by decide)
def s_X11_keyNumber (k : Int32) (x : Int32) (y : Int32) (z : Int32) (q : Int32) : Int32 := if k = 0 then (if 1 ≤ q then ((if (if z < y then z else y) < x then (if z < y then z else y) else x) / q) else (0)) else (if k = 2 then (if 1 ≤ q then ((if x < (if y < z then z else y) then (if y < z then z else y) else x) / q) else (0)) else (if 1 ≤ q then (((((x + y) + z) - (if (if z < y then z else y) < x then (if z < y then z else y) else x)) - (if x < (if y < z then z else y) then (if y < z then z else y) else x)) / q) else (0)))
set_option maxHeartbeats 400000 in
set_option maxRecDepth 100000 in
theorem c_X11_keyNumber {l : Launch} {D : va_G} {ca ss ad : Nat → Nat} {f : Nat → va_E}  (k : Int32) (x : Int32) (y : Int32) (z : Int32) (q : Int32)    : gMi l D ca ss ad 108 yX11_keyNumber cX11_keyNumber 8 (some .int) 1 f [.int k, .int x, .int y, .int z, .int q] (fun r u => r = s_X11_keyNumber k x y z q ∧ u = f) := by
  refine gMi_ofK (by decide +kernel) (Nat.le_of_ble_eq_true rfl) (lv0 := [(0, .int k), (1, .int x), (2, .int y), (3, .int z), (4, .int q)]) rfl (fun pT eT sT mT aT below meth cT AT QT C RT => ?_)
  have C : gX pT sT mT aT meth cT AT D ca ss 8 RX11 cX11_keyNumber (some .int) := C
  refine gj_iload_n C 1 dX11_keyNumber_0 rfl 1 rfl ?_
  refine gj_iload_n C 2 dX11_keyNumber_1 rfl 2 rfl ?_
  refine gj_iload_n C 3 dX11_keyNumber_2 rfl 3 rfl ?_
  refine gj_mmin C w_498 w_472 w_57 w_473 ⟨Nat.le_of_ble_eq_true rfl, Nat.le_of_ble_eq_true rfl⟩ (Nat.le_of_ble_eq_true rfl) dX11_keyNumber_3 ?_
  refine gj_mmin C w_498 w_472 w_57 w_473 ⟨Nat.le_of_ble_eq_true rfl, Nat.le_of_ble_eq_true rfl⟩ (Nat.le_of_ble_eq_true rfl) dX11_keyNumber_6 ?_
  refine gj_istore C (lv' := [(5, .int (if (if z < y then z else y) < x then (if z < y then z else y) else x)), (0, .int k), (1, .int x), (2, .int y), (3, .int z), (4, .int q)]) dX11_keyNumber_9 (by decide) rfl ?_
  refine gj_iload_n C 1 dX11_keyNumber_11 rfl 2 rfl ?_
  refine gj_iload_n C 2 dX11_keyNumber_12 rfl 3 rfl ?_
  refine gj_iload_n C 3 dX11_keyNumber_13 rfl 4 rfl ?_
  refine gj_mmax C w_499 w_92 w_57 w_93 ⟨Nat.le_of_ble_eq_true rfl, Nat.le_of_ble_eq_true rfl⟩ (Nat.le_of_ble_eq_true rfl) dX11_keyNumber_14 ?_
  refine gj_mmax C w_499 w_92 w_57 w_93 ⟨Nat.le_of_ble_eq_true rfl, Nat.le_of_ble_eq_true rfl⟩ (Nat.le_of_ble_eq_true rfl) dX11_keyNumber_17 ?_
  refine gj_istore C (lv' := [(6, .int (if x < (if y < z then z else y) then (if y < z then z else y) else x)), (5, .int (if (if z < y then z else y) < x then (if z < y then z else y) else x)), (0, .int k), (1, .int x), (2, .int y), (3, .int z), (4, .int q)]) dX11_keyNumber_20 (by decide) rfl ?_
  refine gj_iload_n C 0 dX11_keyNumber_22 rfl 2 rfl ?_
  refine gj_if_ne C 31 dX11_keyNumber_23 (by decide) (fun c_1 => ?_) (fun c_1 => ?_)
  · refine gj_iload_n C 0 dX11_keyNumber_31 rfl 2 rfl ?_
    refine gj_iconst C (v := 2) (by decide) dX11_keyNumber_32 ?_
    refine gj_icmp_ne C 41 dX11_keyNumber_33 (by decide) (fun c_2 => ?_) (fun c_2 => ?_)
    · refine gj_iload_n C 1 dX11_keyNumber_41 rfl 3 rfl ?_
      refine gj_iload_n C 2 dX11_keyNumber_42 rfl 4 rfl ?_
      refine gj_iadd C dX11_keyNumber_43 ?_
      refine gj_iload_n C 3 dX11_keyNumber_44 rfl 5 rfl ?_
      refine gj_iadd C dX11_keyNumber_45 ?_
      refine gj_iload C dX11_keyNumber_46 1 rfl ?_
      refine gj_isub C dX11_keyNumber_48 ?_
      refine gj_iload C dX11_keyNumber_49 0 rfl ?_
      refine gj_isub C dX11_keyNumber_51 ?_
      refine gj_istore C (lv' := [(7, .int ((((x + y) + z) - (if (if z < y then z else y) < x then (if z < y then z else y) else x)) - (if x < (if y < z then z else y) then (if y < z then z else y) else x))), (6, .int (if x < (if y < z then z else y) then (if y < z then z else y) else x)), (5, .int (if (if z < y then z else y) < x then (if z < y then z else y) else x)), (0, .int k), (1, .int x), (2, .int y), (3, .int z), (4, .int q)]) dX11_keyNumber_52 (by decide) rfl ?_
      refine gj_iload C dX11_keyNumber_54 7 rfl ?_
      refine gj_iconst C (v := 1) (by decide) dX11_keyNumber_56 ?_
      refine gj_icmp_ge C 64 dX11_keyNumber_57 (by decide) (fun c_3 => ?_) (fun c_3 => ?_)
      · refine gj_iload C dX11_keyNumber_64 0 rfl ?_
        refine gj_iload C dX11_keyNumber_66 7 rfl ?_
        refine gj_idiv C (nz_1 c_3) dX11_keyNumber_68 ?_
        exact RT _ _ _ _ ⟨by unfold s_X11_keyNumber; rw [if_neg c_1, if_neg c_2, if_pos c_3], rfl⟩ dX11_keyNumber_69
      · refine gj_iconst C (v := 0) (by decide) dX11_keyNumber_60 ?_
        refine gj_goto C 69 dX11_keyNumber_61 (by decide) ?_
        exact RT _ _ _ _ ⟨by unfold s_X11_keyNumber; rw [if_neg c_1, if_neg c_2, if_neg c_3], rfl⟩ dX11_keyNumber_69
    · refine gj_iload C dX11_keyNumber_36 0 rfl ?_
      refine gj_goto C 52 dX11_keyNumber_38 (by decide) ?_
      refine gj_istore C (lv' := [(7, .int (if x < (if y < z then z else y) then (if y < z then z else y) else x)), (6, .int (if x < (if y < z then z else y) then (if y < z then z else y) else x)), (5, .int (if (if z < y then z else y) < x then (if z < y then z else y) else x)), (0, .int k), (1, .int x), (2, .int y), (3, .int z), (4, .int q)]) dX11_keyNumber_52 (by decide) rfl ?_
      refine gj_iload C dX11_keyNumber_54 7 rfl ?_
      refine gj_iconst C (v := 1) (by decide) dX11_keyNumber_56 ?_
      refine gj_icmp_ge C 64 dX11_keyNumber_57 (by decide) (fun c_4 => ?_) (fun c_4 => ?_)
      · refine gj_iload C dX11_keyNumber_64 0 rfl ?_
        refine gj_iload C dX11_keyNumber_66 7 rfl ?_
        refine gj_idiv C (nz_1 c_4) dX11_keyNumber_68 ?_
        exact RT _ _ _ _ ⟨by unfold s_X11_keyNumber; rw [if_neg c_1, if_pos c_2, if_pos c_4], rfl⟩ dX11_keyNumber_69
      · refine gj_iconst C (v := 0) (by decide) dX11_keyNumber_60 ?_
        refine gj_goto C 69 dX11_keyNumber_61 (by decide) ?_
        exact RT _ _ _ _ ⟨by unfold s_X11_keyNumber; rw [if_neg c_1, if_pos c_2, if_neg c_4], rfl⟩ dX11_keyNumber_69
  · refine gj_iload C dX11_keyNumber_26 1 rfl ?_
    refine gj_goto C 52 dX11_keyNumber_28 (by decide) ?_
    refine gj_istore C (lv' := [(7, .int (if (if z < y then z else y) < x then (if z < y then z else y) else x)), (6, .int (if x < (if y < z then z else y) then (if y < z then z else y) else x)), (5, .int (if (if z < y then z else y) < x then (if z < y then z else y) else x)), (0, .int k), (1, .int x), (2, .int y), (3, .int z), (4, .int q)]) dX11_keyNumber_52 (by decide) rfl ?_
    refine gj_iload C dX11_keyNumber_54 7 rfl ?_
    refine gj_iconst C (v := 1) (by decide) dX11_keyNumber_56 ?_
    refine gj_icmp_ge C 64 dX11_keyNumber_57 (by decide) (fun c_5 => ?_) (fun c_5 => ?_)
    · refine gj_iload C dX11_keyNumber_64 0 rfl ?_
      refine gj_iload C dX11_keyNumber_66 7 rfl ?_
      refine gj_idiv C (nz_1 c_5) dX11_keyNumber_68 ?_
      exact RT _ _ _ _ ⟨by unfold s_X11_keyNumber; rw [if_pos c_1, if_pos c_5], rfl⟩ dX11_keyNumber_69
    · refine gj_iconst C (v := 0) (by decide) dX11_keyNumber_60 ?_
      refine gj_goto C 69 dX11_keyNumber_61 (by decide) ?_
      exact RT _ _ _ _ ⟨by unfold s_X11_keyNumber; rw [if_pos c_1, if_neg c_5], rfl⟩ dX11_keyNumber_69
/-! what is looked at, and the orders that are told -/
abbrev tri : Type := Nat × Nat × Nat
def cAbs (x : Int32) : Int32 := if 0 ≤ x then x else 0 - x
def cKey (sd : Nat → Nat → Int32) (bk w : Int32) (i j k : Nat) : Int32 := s_X11_keyNumber w (sd i j) (sd j k) (sd i k) bk
def cMax (a b : Int32) : Int32 := if a < b then b else a
def cNeed (sP sS : Nat → Nat → Int32) (p q r a b c : Nat) : Int32 := cMax (cMax (cAbs (sP p q - sS a b)) (cAbs (sP q r - sS b c))) (cAbs (sP p r - sS a c))
def cOne {K : Type} (th : K → Int32 → Int32 → Int32 → Int32 → K) (sP sS : Nat → Nat → Int32) (p q r a b c : Nat) (st : K) : K := th st (nI (12 * p + a)) (nI (12 * q + b)) (nI (12 * r + c)) (cNeed sP sS p q r a b c)
def cTell {K : Type} (th : K → Int32 → Int32 → Int32 → Int32 → K) (sP sS : Nat → Nat → Int32) (p q r : Nat) (t : tri) (st : K) : K :=
  cOne th sP sS p q r t.2.2 t.2.1 t.1 (cOne th sP sS p q r t.2.2 t.1 t.2.1 (cOne th sP sS p q r t.2.1 t.2.2 t.1 (cOne th sP sS p q r t.2.1 t.1 t.2.2 (cOne th sP sS p q r t.1 t.2.2 t.2.1 (cOne th sP sS p q r t.1 t.2.1 t.2.2 st)))))
def cLk1 {K : Type} (th : K → Int32 → Int32 → Int32 → Int32 → K) (sP sS : Nat → Nat → Int32) (bk : Int32) (p q r : Nat) (t : tri) (X : Int32 × K) : Int32 × K :=
  if 1 < cAbs (cKey sS bk 0 t.1 t.2.1 t.2.2 - cKey sP bk 0 p q r) then X else if 1 < cAbs (cKey sS bk 1 t.1 t.2.1 t.2.2 - cKey sP bk 1 p q r) then X else if 1 < cAbs (cKey sS bk 2 t.1 t.2.1 t.2.2 - cKey sP bk 2 p q r) then X else (X.1 + 1, cTell th sP sS p q r t X.2)
def tGet (L : List tri) (c : Nat) : tri := L.getD c (0, 0, 0)
def cLkN {K : Type} (th : K → Int32 → Int32 → Int32 → Int32 → K) (sP sS : Nat → Nat → Int32) (bk : Int32) (L : List tri) (p q r : Nat) (X : Int32 × K) : Nat → Int32 × K := fR (fun c X => cLk1 th sP sS bk p q r (tGet L c) X) X 0
def cLook {K : Type} (th : K → Int32 → Int32 → Int32 → Int32 → K) (sP sS : Nat → Nat → Int32) (bk : Int32) (L : List tri) (p q r : Nat) (X : Int32 × K) : Int32 × K := cLkN th sP sS bk L p q r X L.length
def cW3 {K : Type} (th : K → Int32 → Int32 → Int32 → Int32 → K) (sP sS : Nat → Nat → Int32) (bk : Int32) (L : List tri) (p q : Nat) (X : Int32 × K) : Nat → Int32 × K := fR (fun r X => cLook th sP sS bk L p q r X) X (q + 1)
def cW2 {K : Type} (th : K → Int32 → Int32 → Int32 → Int32 → K) (sP sS : Nat → Nat → Int32) (bk : Int32) (L : List tri) (n1 p : Nat) (X : Int32 × K) : Nat → Int32 × K := fR (fun q X => cW3 th sP sS bk L p q X (n1 - (q + 1))) X (p + 1)
def cW1 {K : Type} (th : K → Int32 → Int32 → Int32 → Int32 → K) (sP sS : Nat → Nat → Int32) (bk : Int32) (L : List tri) (n1 : Nat) (X : Int32 × K) : Nat → Int32 × K := fR (fun p X => cW2 th sP sS bk L n1 p X (n1 - (p + 1))) X 0
def tPush (L : List tri) (t : tri) : List tri := if 220 ≤ L.length then L else L ++ [t]
def tL3 (i j : Nat) (L : List tri) : Nat → List tri := fR (fun k L => tPush L (i, j, k)) L (j + 1)
def tL2 (n i : Nat) (L : List tri) : Nat → List tri := fR (fun j L => tL3 i j L (n - (j + 1))) L (i + 1)
def tL1 (n : Nat) : Nat → List tri := fR (fun i L => tL2 n i L (n - (i + 1))) [] 0
def trL (n : Nat) : List tri := tL1 n n
def cWalk {K : Type} (th : K → Int32 → Int32 → Int32 → Int32 → K) (sP sS : Nat → Nat → Int32) (bk : Int32) (n0 n1 : Nat) (st : K) : Int32 × K := cW1 th sP sS bk (trL n0) n1 (0, st) n1
/-- the lists in the rows -/
def triOk (sS : Nat → Nat → Int32) (bk : Int32) (n : Nat) (L : List tri) (tg kg : Nat → Int32) : Prop := L.length ≤ 220 ∧ ∀ c, c < L.length → tg (3 * c) = nI (tGet L c).1 ∧ tg (3 * c + 1) = nI (tGet L c).2.1 ∧ tg (3 * c + 2) = nI (tGet L c).2.2 ∧ kg (3 * c) = cKey sS bk 0 (tGet L c).1 (tGet L c).2.1 (tGet L c).2.2 ∧ kg (3 * c + 1) = cKey sS bk 1 (tGet L c).1 (tGet L c).2.1 (tGet L c).2.2 ∧ kg (3 * c + 2) = cKey sS bk 2 (tGet L c).1 (tGet L c).2.1 (tGet L c).2.2 ∧ (tGet L c).1 < n ∧ (tGet L c).2.1 < n ∧ (tGet L c).2.2 < n
theorem triOk_nil (sS : Nat → Nat → Int32) (bk : Int32) (n : Nat) (tg kg : Nat → Int32) : triOk sS bk n [] tg kg := ⟨Nat.zero_le _, fun c h => absurd h (Nat.not_lt_zero c)⟩
theorem tPush_full {L : List tri} {t : tri} (h : 220 ≤ L.length) : tPush L t = L := if_pos h
theorem tPush_new {L : List tri} {t : tri} (h : ¬ 220 ≤ L.length) : tPush L t = L ++ [t] := if_neg h
theorem tPush_len {L : List tri} {t : tri} (h : ¬ 220 ≤ L.length) : (tPush L t).length = L.length + 1 := by rw [tPush_new h, List.length_append]; rfl
theorem w3_ne (g : Nat → Int32) (i : Nat) (x y z : Int32) {k : Nat} (h : k < 3 * i) : w3 g i x y z k = g k := by
  unfold w3; rw [if_neg (by omega), if_neg (by omega), if_neg (by omega)]
theorem triOk_push {sS : Nat → Nat → Int32} {bk : Int32} {n : Nat} {L : List tri} {tg kg : Nat → Int32} {i j k : Nat} (h : ¬ 220 ≤ L.length) (hT : triOk sS bk n L tg kg) (hi : i < n) (hj : j < n) (hk : k < n) : triOk sS bk n (tPush L (i, j, k)) (w3 tg L.length (nI i) (nI j) (nI k)) (w3 kg L.length (cKey sS bk 0 i j k) (cKey sS bk 1 i j k) (cKey sS bk 2 i j k)) := by
  refine ⟨by rw [tPush_len h]; omega, fun c hc => ?_⟩
  rw [tPush_len h] at hc
  rw [tPush_new h]
  by_cases e : c = L.length
  · subst e
    have g : tGet (L ++ [(i, j, k)]) L.length = (i, j, k) := by
      unfold tGet; rw [List.getD_eq_getElem?_getD, List.getElem?_append_right (Nat.le_refl _), Nat.sub_self]; rfl
    rw [g, w3_0, w3_1, w3_2, w3_0, w3_1, w3_2]
    exact ⟨rfl, rfl, rfl, rfl, rfl, rfl, hi, hj, hk⟩
  · have hc' : c < L.length := by omega
    have g : tGet (L ++ [(i, j, k)]) c = tGet L c := by
      unfold tGet; rw [List.getD_eq_getElem?_getD, List.getElem?_append_left hc', List.getD_eq_getElem?_getD]
    rw [g, w3_ne _ _ _ _ _ (by omega), w3_ne _ _ _ _ _ (by omega), w3_ne _ _ _ _ _ (by omega), w3_ne _ _ _ _ _ (by omega), w3_ne _ _ _ _ _ (by omega), w3_ne _ _ _ _ _ (by omega)]
    exact hT.2 c hc'
theorem pair0 (p : Nat) : s_X11_pairOf (nI p) (0 : Int32) = nI (12 * p) := by
  unfold s_X11_pairOf
  rw [Int32.add_zero, Int32.mul_comm, show (12 : Int32) = nI 12 from rfl, pk_mul]
theorem m_lin {a s i : Nat} : nI s * nI a + nI i = nI (a * s + i) := by rw [pk_mul, nI_add, Nat.mul_comm]
theorem tw5 {l : Launch} {D : va_G} {ca ss ad : Nat → Nat} {K : Type} {tw : K → (Nat → va_E) → Nat → va_E} {th : K → Int32 → Int32 → Int32 → Int32 → K} {T : Nat} (hT : gTal l D ca ss ad tw th T) {st : K} {g : Nat → va_E} {e0 e1 e2 e3 e4 : va_E} : va_up (va_up (va_up (va_up (va_up (tw st g) 7 e0) 8 e1) 9 e2) 10 e3) 11 e4 = tw st (va_up (va_up (va_up (va_up (va_up g 7 e0) 8 e1) 9 e2) 10 e3) 11 e4) := by
  rw [twc hT (show (7 : Nat) < 12 by decide), twc hT (show (8 : Nat) < 12 by decide), twc hT (show (9 : Nat) < 12 by decide), twc hT (show (10 : Nat) < 12 by decide), twc hT (show (11 : Nat) < 12 by decide)]

def s_X3_starSide (i : Nat) (j : Nat) (sg : Nat → Int32) : Int32 := sg (12 * i + j)
set_option maxHeartbeats 400000 in
set_option maxRecDepth 100000 in
theorem c_X3_starSide {l : Launch} {D : va_G} {ca ss ad : Nat → Nat} {f : Nat → va_E}  (i : Nat) (j : Nat) (cnt : Int32) (lk : Int32) (sg : Nat → Int32) (hc0 : f 7 = .inr (3, [.ref (ad 8), .ref (ad 9), .ref (ad 10), .ref (ad 11), .int cnt, .int lk])) (hc1 : f 8 = .inl (ca 0, 144, .inl sg)) (hi : i < 12) (hj : j < 12) : gMi l D ca ss ad 108 yX3_starSide cX3_starSide 3 (some .int) 0 f [.ref (ad 7), .int (nI i), .int (nI j)] (fun r u => r = s_X3_starSide i j sg ∧ u = f) := by
  refine gMi_ofK (by decide +kernel) (Nat.le_of_ble_eq_true rfl) (lv0 := [(0, .ref (ad 7)), (1, .int (nI i)), (2, .int (nI j))]) rfl (fun pT eT sT mT aT below meth cT AT QT C RT => ?_)
  have C : gX pT sT mT aT meth cT AT D ca ss 3 RX3 cX3_starSide (some .int) := C
  refine gj_aload_n C 0 dX3_starSide_0 rfl 0 rfl ?_
  refine gj_get C 7 (by decide) hc0 inX3 rfl 0 (by decide) w_120 (v := .ref (ad 8)) rfl dX3_starSide_1 ?_
  refine gj_iload_n C 1 dX3_starSide_4 rfl 1 rfl ?_
  refine gj_bipush C (v := 12) (by decide) dX3_starSide_5 ?_
  refine gj_imul C dX3_starSide_7 ?_
  refine gj_iload_n C 2 dX3_starSide_8 rfl 2 rfl ?_
  refine gj_iadd C dX3_starSide_9 ?_
  refine gj_seti (y := nI (12 * i + j)) m_lin ?_
  refine gj_iald C 8 (by decide) hc1 (vp_in_nI (by omega) (by omega)) dX3_starSide_10 ?_
  refine gj_seti (y := sg (12 * i + j)) (congrArg _ (nI_clamp (show (12 * i + j) < 2 ^ 31 by omega))) ?_
  exact RT _ _ _ _ ⟨rfl, rfl⟩ dX3_starSide_11
def s_X3_spotSide (i : Nat) (j : Nat) (pg : Nat → Int32) : Int32 := pg (8 * i + j)
set_option maxHeartbeats 400000 in
set_option maxRecDepth 100000 in
theorem c_X3_spotSide {l : Launch} {D : va_G} {ca ss ad : Nat → Nat} {f : Nat → va_E}  (i : Nat) (j : Nat) (cnt : Int32) (lk : Int32) (pg : Nat → Int32) (hc0 : f 7 = .inr (3, [.ref (ad 8), .ref (ad 9), .ref (ad 10), .ref (ad 11), .int cnt, .int lk])) (hc1 : f 9 = .inl (ca 0, 64, .inl pg)) (hi : i < 8) (hj : j < 8) : gMi l D ca ss ad 108 yX3_spotSide cX3_spotSide 3 (some .int) 0 f [.ref (ad 7), .int (nI i), .int (nI j)] (fun r u => r = s_X3_spotSide i j pg ∧ u = f) := by
  refine gMi_ofK (by decide +kernel) (Nat.le_of_ble_eq_true rfl) (lv0 := [(0, .ref (ad 7)), (1, .int (nI i)), (2, .int (nI j))]) rfl (fun pT eT sT mT aT below meth cT AT QT C RT => ?_)
  have C : gX pT sT mT aT meth cT AT D ca ss 3 RX3 cX3_spotSide (some .int) := C
  refine gj_aload_n C 0 dX3_spotSide_0 rfl 0 rfl ?_
  refine gj_get C 7 (by decide) hc0 inX3 rfl 1 (by decide) w_121 (v := .ref (ad 9)) rfl dX3_spotSide_1 ?_
  refine gj_iload_n C 1 dX3_spotSide_4 rfl 1 rfl ?_
  refine gj_bipush C (v := 8) (by decide) dX3_spotSide_5 ?_
  refine gj_imul C dX3_spotSide_7 ?_
  refine gj_iload_n C 2 dX3_spotSide_8 rfl 2 rfl ?_
  refine gj_iadd C dX3_spotSide_9 ?_
  refine gj_seti (y := nI (8 * i + j)) m_lin ?_
  refine gj_iald C 9 (by decide) hc1 (vp_in_nI (by omega) (by omega)) dX3_spotSide_10 ?_
  refine gj_seti (y := pg (8 * i + j)) (congrArg _ (nI_clamp (show (8 * i + j) < 2 ^ 31 by omega))) ?_
  exact RT _ _ _ _ ⟨rfl, rfl⟩ dX3_spotSide_11
theorem lst_ge {n : Nat} (h : ¬ nI n < 220) (hn : n ≤ 220) : 220 ≤ n := Nat.not_lt.mp (fun q => h (nI_lt (b := 220) q (by omega)))
theorem lst_lt {n : Nat} (h : nI n < 220) (hn : n ≤ 220) : ¬ 220 ≤ n := fun q => nI_nlt (b := 220) q (by omega) h
set_option maxHeartbeats 400000 in
set_option maxRecDepth 100000 in
theorem c_X3_listStarTriangle {l : Launch} {D : va_G} {ca ss ad : Nat → Nat} {f : Nat → va_E} (i j k n0 : Nat) (bk lk : Int32) (sg tg kg : Nat → Int32) (sS : Nat → Nat → Int32) (L : List tri) (hc0 : f 7 = .inr (3, [.ref (ad 8), .ref (ad 9), .ref (ad 10), .ref (ad 11), .int (nI L.length), .int lk])) (hc1 : f 8 = .inl (ca 0, 144, .inl sg)) (hc3 : f 10 = .inl (ca 0, 660, .inl tg)) (hc4 : f 11 = .inl (ca 0, 660, .inl kg)) (hn : n0 ≤ 12) (hi : i < n0) (hj : j < n0) (hk : k < n0) (hss : ∀ a b, a < n0 → b < n0 → sg (12 * a + b) = sS a b) (hT : triOk sS bk n0 L tg kg) : gMv l D ca ss ad 108 yX3_listStarTriangle cX3_listStarTriangle 7 none 2 f [.ref (ad 7), .int (nI i), .int (nI j), .int (nI k), .int bk] (fun u => ∃ tgX kgX : Nat → Int32, triOk sS bk n0 (tPush L (i, j, k)) tgX kgX ∧ u = va_up (va_up (va_up f 7 (.inr (3, [.ref (ad 8), .ref (ad 9), .ref (ad 10), .ref (ad 11), .int (nI (tPush L (i, j, k)).length), .int lk]))) 10 (.inl (ca 0, 660, .inl tgX))) 11 (.inl (ca 0, 660, .inl kgX))) := by
  refine gMv_ofK (by decide +kernel) (Nat.le_of_ble_eq_true rfl) (lv0 := [(0, .ref (ad 7)), (1, .int (nI i)), (2, .int (nI j)), (3, .int (nI k)), (4, .int bk)]) rfl (fun pT eT sT mT aT below meth cT AT QT C RT => ?_)
  have C : gX pT sT mT aT meth cT AT D ca ss 7 RX3 cX3_listStarTriangle none := C
  refine gj_setf (up_id hc0).symm ?_
  refine gj_setf (up_id (up_nx (by decide) (hc3))).symm ?_
  refine gj_setf (up_id (up_nx (by decide) (up_nx (by decide) (hc4)))).symm ?_
  refine gj_aload_n C 0 dX3_listStarTriangle_0 rfl 0 rfl ?_
  refine gj_get C 7 (by decide) (up_nx (by decide) (up_nx (by decide) (va_up_self _ _ _))) inX3 rfl 4 (by decide) w_124 (v := .int (nI L.length)) rfl dX3_listStarTriangle_1 ?_
  refine gj_sipush C (v := 220) (by decide) dX3_listStarTriangle_4 ?_
  refine gj_icmp_lt C 11 dX3_listStarTriangle_7 (by decide) (fun c_1 => ?_) (fun c_1 => ?_)
  · have hlt := lst_lt c_1 hT.1
    refine gj_iconst C (v := 3) (by decide) dX3_listStarTriangle_11 ?_
    refine gj_aload_n C 0 dX3_listStarTriangle_12 rfl 0 rfl ?_
    refine gj_get C 7 (by decide) (up_nx (by decide) (up_nx (by decide) (va_up_self _ _ _))) inX3 rfl 4 (by decide) w_124 (v := .int (nI L.length)) rfl dX3_listStarTriangle_13 ?_
    refine gj_imul C dX3_listStarTriangle_16 ?_
    refine gj_seti (y := nI (3 * L.length)) (i3_0 L.length) ?_
    refine gj_istore C (lv' := [(5, .int (nI (3 * L.length))), (0, .ref (ad 7)), (1, .int (nI i)), (2, .int (nI j)), (3, .int (nI k)), (4, .int bk)]) dX3_listStarTriangle_17 (by decide) rfl ?_
    refine gj_aload_n C 0 dX3_listStarTriangle_19 rfl 1 rfl ?_
    refine gj_get C 7 (by decide) (up_nx (by decide) (up_nx (by decide) (va_up_self _ _ _))) inX3 rfl 2 (by decide) w_122 (v := .ref (ad 10)) rfl dX3_listStarTriangle_20 ?_
    refine gj_iload C dX3_listStarTriangle_23 0 rfl ?_
    refine gj_iload_n C 1 dX3_listStarTriangle_25 rfl 2 rfl ?_
    refine gj_iast C 10 (by decide) (up_nx (by decide) (va_up_self _ _ _)) (vp_in_nI (by omega) (by omega)) dX3_listStarTriangle_26 ?_
    refine gj_setf ((up_comm (by decide)).trans (up_un (bx_uu _ _ _ _))) ?_
    refine gj_setf (g := va_up (va_up (va_up f 7 (.inr (3, [.ref (ad 8), .ref (ad 9), .ref (ad 10), .ref (ad 11), .int (nI L.length), .int lk]))) 10 (.inl (ca 0, 660, .inl (upd tg (3 * L.length) (nI i))))) 11 (.inl (ca 0, 660, .inl kg))) (by rw [nI_clamp (show (3 * L.length) < 2 ^ 31 by omega)]) ?_
    refine gj_aload_n C 0 dX3_listStarTriangle_27 rfl 1 rfl ?_
    refine gj_get C 7 (by decide) (up_nx (by decide) (up_nx (by decide) (va_up_self _ _ _))) inX3 rfl 2 (by decide) w_122 (v := .ref (ad 10)) rfl dX3_listStarTriangle_28 ?_
    refine gj_iload C dX3_listStarTriangle_31 0 rfl ?_
    refine gj_iconst C (v := 1) (by decide) dX3_listStarTriangle_33 ?_
    refine gj_iadd C dX3_listStarTriangle_34 ?_
    refine gj_seti (y := nI (3 * L.length + 1)) (nI_add _ 1) ?_
    refine gj_iload_n C 2 dX3_listStarTriangle_35 rfl 3 rfl ?_
    refine gj_iast C 10 (by decide) (up_nx (by decide) (va_up_self _ _ _)) (vp_in_nI (by omega) (by omega)) dX3_listStarTriangle_36 ?_
    refine gj_setf ((up_comm (by decide)).trans (up_un (bx_uu _ _ _ _))) ?_
    refine gj_setf (g := va_up (va_up (va_up f 7 (.inr (3, [.ref (ad 8), .ref (ad 9), .ref (ad 10), .ref (ad 11), .int (nI L.length), .int lk]))) 10 (.inl (ca 0, 660, .inl (upd (upd tg (3 * L.length) (nI i)) (3 * L.length + 1) (nI j))))) 11 (.inl (ca 0, 660, .inl kg))) (by rw [nI_clamp (show (3 * L.length + 1) < 2 ^ 31 by omega)]) ?_
    refine gj_aload_n C 0 dX3_listStarTriangle_37 rfl 1 rfl ?_
    refine gj_get C 7 (by decide) (up_nx (by decide) (up_nx (by decide) (va_up_self _ _ _))) inX3 rfl 2 (by decide) w_122 (v := .ref (ad 10)) rfl dX3_listStarTriangle_38 ?_
    refine gj_iload C dX3_listStarTriangle_41 0 rfl ?_
    refine gj_iconst C (v := 2) (by decide) dX3_listStarTriangle_43 ?_
    refine gj_iadd C dX3_listStarTriangle_44 ?_
    refine gj_seti (y := nI (3 * L.length + 2)) (nI_add _ 2) ?_
    refine gj_iload_n C 3 dX3_listStarTriangle_45 rfl 4 rfl ?_
    refine gj_iast C 10 (by decide) (up_nx (by decide) (va_up_self _ _ _)) (vp_in_nI (by omega) (by omega)) dX3_listStarTriangle_46 ?_
    refine gj_setf ((up_comm (by decide)).trans (up_un (bx_uu _ _ _ _))) ?_
    refine gj_setf (g := va_up (va_up (va_up f 7 (.inr (3, [.ref (ad 8), .ref (ad 9), .ref (ad 10), .ref (ad 11), .int (nI L.length), .int lk]))) 10 (.inl (ca 0, 660, .inl (upd (upd (upd tg (3 * L.length) (nI i)) (3 * L.length + 1) (nI j)) (3 * L.length + 2) (nI k))))) 11 (.inl (ca 0, 660, .inl kg))) (by rw [nI_clamp (show (3 * L.length + 2) < 2 ^ 31 by omega)]) ?_
    refine gj_iconst C (v := 0) (by decide) dX3_listStarTriangle_47 ?_
    refine gj_istore C (lv' := [(6, .int 0), (5, .int (nI (3 * L.length))), (0, .ref (ad 7)), (1, .int (nI i)), (2, .int (nI j)), (3, .int (nI k)), (4, .int bk)]) dX3_listStarTriangle_48 (by decide) rfl ?_
    refine gj_iload C dX3_listStarTriangle_50 0 rfl ?_
    refine gj_iconst C (v := 3) (by decide) dX3_listStarTriangle_52 ?_
    refine gj_icmp_ge C 97 dX3_listStarTriangle_53 (by decide) (fun c_2 => absurd c_2 (by decide)) (fun c_2 => ?_)
    refine gj_aload_n C 0 dX3_listStarTriangle_56 rfl 2 rfl ?_
    refine gj_get C 7 (by decide) (up_nx (by decide) (up_nx (by decide) (va_up_self _ _ _))) inX3 rfl 3 (by decide) w_123 (v := .ref (ad 11)) rfl dX3_listStarTriangle_57 ?_
    refine gj_iload C dX3_listStarTriangle_60 1 rfl ?_
    refine gj_iload C dX3_listStarTriangle_62 0 rfl ?_
    refine gj_iadd C dX3_listStarTriangle_64 ?_
    refine gj_seti (y := nI (3 * L.length)) (Int32.add_zero _) ?_
    refine gj_iload C dX3_listStarTriangle_65 0 rfl ?_
    refine gj_aload_n C 0 dX3_listStarTriangle_67 rfl 2 rfl ?_
    refine gj_iload_n C 1 dX3_listStarTriangle_68 rfl 3 rfl ?_
    refine gj_iload_n C 2 dX3_listStarTriangle_69 rfl 4 rfl ?_
    refine gj_callVi C mi_X3_starSide w_536 7 (by decide) (up_nx (by decide) (up_nx (by decide) (va_up_self _ _ _))) rfl (c_X3_starSide i j (nI L.length) lk sg (up_nx (by decide) (up_nx (by decide) (va_up_self _ _ _))) (up_nx (by decide) (up_nx (by decide) (up_nx (by decide) (hc1)))) (by omega) (by omega)) mc_X3_starSide ⟨Nat.le_of_ble_eq_true rfl, Nat.le_of_ble_eq_true rfl⟩ (rest := [.int 0, .int (nI (3 * L.length)), .ref (ad 11)]) rfl (Nat.le_of_ble_eq_true rfl) dX3_listStarTriangle_70 (fun r u h => ?_)
    obtain ⟨hr_, hu_⟩ := h; rw [hr_]; subst hu_
    refine gj_seti (y := sS i j) (hss i j (by omega) (by omega)) ?_
    refine gj_aload_n C 0 dX3_listStarTriangle_73 rfl 2 rfl ?_
    refine gj_iload_n C 2 dX3_listStarTriangle_74 rfl 4 rfl ?_
    refine gj_iload_n C 3 dX3_listStarTriangle_75 rfl 5 rfl ?_
    refine gj_callVi C mi_X3_starSide w_536 7 (by decide) (up_nx (by decide) (up_nx (by decide) (va_up_self _ _ _))) rfl (c_X3_starSide j k (nI L.length) lk sg (up_nx (by decide) (up_nx (by decide) (va_up_self _ _ _))) (up_nx (by decide) (up_nx (by decide) (up_nx (by decide) (hc1)))) (by omega) (by omega)) mc_X3_starSide ⟨Nat.le_of_ble_eq_true rfl, Nat.le_of_ble_eq_true rfl⟩ (rest := [.int (sS i j), .int 0, .int (nI (3 * L.length)), .ref (ad 11)]) rfl (Nat.le_of_ble_eq_true rfl) dX3_listStarTriangle_76 (fun r u h => ?_)
    obtain ⟨hr_, hu_⟩ := h; rw [hr_]; subst hu_
    refine gj_seti (y := sS j k) (hss j k (by omega) (by omega)) ?_
    refine gj_aload_n C 0 dX3_listStarTriangle_79 rfl 2 rfl ?_
    refine gj_iload_n C 1 dX3_listStarTriangle_80 rfl 3 rfl ?_
    refine gj_iload_n C 3 dX3_listStarTriangle_81 rfl 5 rfl ?_
    refine gj_callVi C mi_X3_starSide w_536 7 (by decide) (up_nx (by decide) (up_nx (by decide) (va_up_self _ _ _))) rfl (c_X3_starSide i k (nI L.length) lk sg (up_nx (by decide) (up_nx (by decide) (va_up_self _ _ _))) (up_nx (by decide) (up_nx (by decide) (up_nx (by decide) (hc1)))) (by omega) (by omega)) mc_X3_starSide ⟨Nat.le_of_ble_eq_true rfl, Nat.le_of_ble_eq_true rfl⟩ (rest := [.int (sS j k), .int (sS i j), .int 0, .int (nI (3 * L.length)), .ref (ad 11)]) rfl (Nat.le_of_ble_eq_true rfl) dX3_listStarTriangle_82 (fun r u h => ?_)
    obtain ⟨hr_, hu_⟩ := h; rw [hr_]; subst hu_
    refine gj_seti (y := sS i k) (hss i k (by omega) (by omega)) ?_
    refine gj_iload C dX3_listStarTriangle_85 6 rfl ?_
    refine gj_callSNi C w_496 w_540 (c_X11_keyNumber (0 : Int32) (sS i j) (sS j k) (sS i k) bk) mc_X11_keyNumber ⟨Nat.le_of_ble_eq_true rfl, Nat.le_of_ble_eq_true rfl⟩ (rest := [.int (nI (3 * L.length)), .ref (ad 11)]) rfl (Nat.le_of_ble_eq_true rfl) dX3_listStarTriangle_87 (fun r u h => ?_)
    obtain ⟨hr_, hu_⟩ := h; rw [hr_]; subst hu_
    refine gj_seti (y := cKey sS bk 0 i j k) rfl ?_
    refine gj_iast C 11 (by decide) (va_up_self _ _ _) (vp_in_nI (by omega) (by omega)) dX3_listStarTriangle_90 ?_
    refine gj_setf (bx_uu _ _ _ _) ?_
    refine gj_setf (g := va_up (va_up (va_up f 7 (.inr (3, [.ref (ad 8), .ref (ad 9), .ref (ad 10), .ref (ad 11), .int (nI L.length), .int lk]))) 10 (.inl (ca 0, 660, .inl (upd (upd (upd tg (3 * L.length) (nI i)) (3 * L.length + 1) (nI j)) (3 * L.length + 2) (nI k))))) 11 (.inl (ca 0, 660, .inl (upd kg (3 * L.length) (cKey sS bk 0 i j k))))) (by rw [nI_clamp (show (3 * L.length) < 2 ^ 31 by omega)]) ?_
    refine gj_iinc C (v := 1) (lv' := [(6, .int 1), (5, .int (nI (3 * L.length))), (0, .ref (ad 7)), (1, .int (nI i)), (2, .int (nI j)), (3, .int (nI k)), (4, .int bk)]) dX3_listStarTriangle_91 0 rfl (by decide) (by decide) rfl ?_
    refine gj_goto C 50 dX3_listStarTriangle_94 (by decide) ?_
    refine gj_iload C dX3_listStarTriangle_50 0 rfl ?_
    refine gj_iconst C (v := 3) (by decide) dX3_listStarTriangle_52 ?_
    refine gj_icmp_ge C 97 dX3_listStarTriangle_53 (by decide) (fun c_3 => absurd c_3 (by decide)) (fun c_3 => ?_)
    refine gj_aload_n C 0 dX3_listStarTriangle_56 rfl 2 rfl ?_
    refine gj_get C 7 (by decide) (up_nx (by decide) (up_nx (by decide) (va_up_self _ _ _))) inX3 rfl 3 (by decide) w_123 (v := .ref (ad 11)) rfl dX3_listStarTriangle_57 ?_
    refine gj_iload C dX3_listStarTriangle_60 1 rfl ?_
    refine gj_iload C dX3_listStarTriangle_62 0 rfl ?_
    refine gj_iadd C dX3_listStarTriangle_64 ?_
    refine gj_seti (y := nI (3 * L.length + 1)) (nI_add _ 1) ?_
    refine gj_iload C dX3_listStarTriangle_65 0 rfl ?_
    refine gj_aload_n C 0 dX3_listStarTriangle_67 rfl 2 rfl ?_
    refine gj_iload_n C 1 dX3_listStarTriangle_68 rfl 3 rfl ?_
    refine gj_iload_n C 2 dX3_listStarTriangle_69 rfl 4 rfl ?_
    refine gj_callVi C mi_X3_starSide w_536 7 (by decide) (up_nx (by decide) (up_nx (by decide) (va_up_self _ _ _))) rfl (c_X3_starSide i j (nI L.length) lk sg (up_nx (by decide) (up_nx (by decide) (va_up_self _ _ _))) (up_nx (by decide) (up_nx (by decide) (up_nx (by decide) (hc1)))) (by omega) (by omega)) mc_X3_starSide ⟨Nat.le_of_ble_eq_true rfl, Nat.le_of_ble_eq_true rfl⟩ (rest := [.int 1, .int (nI (3 * L.length + 1)), .ref (ad 11)]) rfl (Nat.le_of_ble_eq_true rfl) dX3_listStarTriangle_70 (fun r u h => ?_)
    obtain ⟨hr_, hu_⟩ := h; rw [hr_]; subst hu_
    refine gj_seti (y := sS i j) (hss i j (by omega) (by omega)) ?_
    refine gj_aload_n C 0 dX3_listStarTriangle_73 rfl 2 rfl ?_
    refine gj_iload_n C 2 dX3_listStarTriangle_74 rfl 4 rfl ?_
    refine gj_iload_n C 3 dX3_listStarTriangle_75 rfl 5 rfl ?_
    refine gj_callVi C mi_X3_starSide w_536 7 (by decide) (up_nx (by decide) (up_nx (by decide) (va_up_self _ _ _))) rfl (c_X3_starSide j k (nI L.length) lk sg (up_nx (by decide) (up_nx (by decide) (va_up_self _ _ _))) (up_nx (by decide) (up_nx (by decide) (up_nx (by decide) (hc1)))) (by omega) (by omega)) mc_X3_starSide ⟨Nat.le_of_ble_eq_true rfl, Nat.le_of_ble_eq_true rfl⟩ (rest := [.int (sS i j), .int 1, .int (nI (3 * L.length + 1)), .ref (ad 11)]) rfl (Nat.le_of_ble_eq_true rfl) dX3_listStarTriangle_76 (fun r u h => ?_)
    obtain ⟨hr_, hu_⟩ := h; rw [hr_]; subst hu_
    refine gj_seti (y := sS j k) (hss j k (by omega) (by omega)) ?_
    refine gj_aload_n C 0 dX3_listStarTriangle_79 rfl 2 rfl ?_
    refine gj_iload_n C 1 dX3_listStarTriangle_80 rfl 3 rfl ?_
    refine gj_iload_n C 3 dX3_listStarTriangle_81 rfl 5 rfl ?_
    refine gj_callVi C mi_X3_starSide w_536 7 (by decide) (up_nx (by decide) (up_nx (by decide) (va_up_self _ _ _))) rfl (c_X3_starSide i k (nI L.length) lk sg (up_nx (by decide) (up_nx (by decide) (va_up_self _ _ _))) (up_nx (by decide) (up_nx (by decide) (up_nx (by decide) (hc1)))) (by omega) (by omega)) mc_X3_starSide ⟨Nat.le_of_ble_eq_true rfl, Nat.le_of_ble_eq_true rfl⟩ (rest := [.int (sS j k), .int (sS i j), .int 1, .int (nI (3 * L.length + 1)), .ref (ad 11)]) rfl (Nat.le_of_ble_eq_true rfl) dX3_listStarTriangle_82 (fun r u h => ?_)
    obtain ⟨hr_, hu_⟩ := h; rw [hr_]; subst hu_
    refine gj_seti (y := sS i k) (hss i k (by omega) (by omega)) ?_
    refine gj_iload C dX3_listStarTriangle_85 6 rfl ?_
    refine gj_callSNi C w_496 w_540 (c_X11_keyNumber (1 : Int32) (sS i j) (sS j k) (sS i k) bk) mc_X11_keyNumber ⟨Nat.le_of_ble_eq_true rfl, Nat.le_of_ble_eq_true rfl⟩ (rest := [.int (nI (3 * L.length + 1)), .ref (ad 11)]) rfl (Nat.le_of_ble_eq_true rfl) dX3_listStarTriangle_87 (fun r u h => ?_)
    obtain ⟨hr_, hu_⟩ := h; rw [hr_]; subst hu_
    refine gj_seti (y := cKey sS bk 1 i j k) rfl ?_
    refine gj_iast C 11 (by decide) (va_up_self _ _ _) (vp_in_nI (by omega) (by omega)) dX3_listStarTriangle_90 ?_
    refine gj_setf (bx_uu _ _ _ _) ?_
    refine gj_setf (g := va_up (va_up (va_up f 7 (.inr (3, [.ref (ad 8), .ref (ad 9), .ref (ad 10), .ref (ad 11), .int (nI L.length), .int lk]))) 10 (.inl (ca 0, 660, .inl (upd (upd (upd tg (3 * L.length) (nI i)) (3 * L.length + 1) (nI j)) (3 * L.length + 2) (nI k))))) 11 (.inl (ca 0, 660, .inl (upd (upd kg (3 * L.length) (cKey sS bk 0 i j k)) (3 * L.length + 1) (cKey sS bk 1 i j k))))) (by rw [nI_clamp (show (3 * L.length + 1) < 2 ^ 31 by omega)]) ?_
    refine gj_iinc C (v := 2) (lv' := [(6, .int 2), (5, .int (nI (3 * L.length))), (0, .ref (ad 7)), (1, .int (nI i)), (2, .int (nI j)), (3, .int (nI k)), (4, .int bk)]) dX3_listStarTriangle_91 0 rfl (by decide) (by decide) rfl ?_
    refine gj_goto C 50 dX3_listStarTriangle_94 (by decide) ?_
    refine gj_iload C dX3_listStarTriangle_50 0 rfl ?_
    refine gj_iconst C (v := 3) (by decide) dX3_listStarTriangle_52 ?_
    refine gj_icmp_ge C 97 dX3_listStarTriangle_53 (by decide) (fun c_4 => absurd c_4 (by decide)) (fun c_4 => ?_)
    refine gj_aload_n C 0 dX3_listStarTriangle_56 rfl 2 rfl ?_
    refine gj_get C 7 (by decide) (up_nx (by decide) (up_nx (by decide) (va_up_self _ _ _))) inX3 rfl 3 (by decide) w_123 (v := .ref (ad 11)) rfl dX3_listStarTriangle_57 ?_
    refine gj_iload C dX3_listStarTriangle_60 1 rfl ?_
    refine gj_iload C dX3_listStarTriangle_62 0 rfl ?_
    refine gj_iadd C dX3_listStarTriangle_64 ?_
    refine gj_seti (y := nI (3 * L.length + 2)) (nI_add _ 2) ?_
    refine gj_iload C dX3_listStarTriangle_65 0 rfl ?_
    refine gj_aload_n C 0 dX3_listStarTriangle_67 rfl 2 rfl ?_
    refine gj_iload_n C 1 dX3_listStarTriangle_68 rfl 3 rfl ?_
    refine gj_iload_n C 2 dX3_listStarTriangle_69 rfl 4 rfl ?_
    refine gj_callVi C mi_X3_starSide w_536 7 (by decide) (up_nx (by decide) (up_nx (by decide) (va_up_self _ _ _))) rfl (c_X3_starSide i j (nI L.length) lk sg (up_nx (by decide) (up_nx (by decide) (va_up_self _ _ _))) (up_nx (by decide) (up_nx (by decide) (up_nx (by decide) (hc1)))) (by omega) (by omega)) mc_X3_starSide ⟨Nat.le_of_ble_eq_true rfl, Nat.le_of_ble_eq_true rfl⟩ (rest := [.int 2, .int (nI (3 * L.length + 2)), .ref (ad 11)]) rfl (Nat.le_of_ble_eq_true rfl) dX3_listStarTriangle_70 (fun r u h => ?_)
    obtain ⟨hr_, hu_⟩ := h; rw [hr_]; subst hu_
    refine gj_seti (y := sS i j) (hss i j (by omega) (by omega)) ?_
    refine gj_aload_n C 0 dX3_listStarTriangle_73 rfl 2 rfl ?_
    refine gj_iload_n C 2 dX3_listStarTriangle_74 rfl 4 rfl ?_
    refine gj_iload_n C 3 dX3_listStarTriangle_75 rfl 5 rfl ?_
    refine gj_callVi C mi_X3_starSide w_536 7 (by decide) (up_nx (by decide) (up_nx (by decide) (va_up_self _ _ _))) rfl (c_X3_starSide j k (nI L.length) lk sg (up_nx (by decide) (up_nx (by decide) (va_up_self _ _ _))) (up_nx (by decide) (up_nx (by decide) (up_nx (by decide) (hc1)))) (by omega) (by omega)) mc_X3_starSide ⟨Nat.le_of_ble_eq_true rfl, Nat.le_of_ble_eq_true rfl⟩ (rest := [.int (sS i j), .int 2, .int (nI (3 * L.length + 2)), .ref (ad 11)]) rfl (Nat.le_of_ble_eq_true rfl) dX3_listStarTriangle_76 (fun r u h => ?_)
    obtain ⟨hr_, hu_⟩ := h; rw [hr_]; subst hu_
    refine gj_seti (y := sS j k) (hss j k (by omega) (by omega)) ?_
    refine gj_aload_n C 0 dX3_listStarTriangle_79 rfl 2 rfl ?_
    refine gj_iload_n C 1 dX3_listStarTriangle_80 rfl 3 rfl ?_
    refine gj_iload_n C 3 dX3_listStarTriangle_81 rfl 5 rfl ?_
    refine gj_callVi C mi_X3_starSide w_536 7 (by decide) (up_nx (by decide) (up_nx (by decide) (va_up_self _ _ _))) rfl (c_X3_starSide i k (nI L.length) lk sg (up_nx (by decide) (up_nx (by decide) (va_up_self _ _ _))) (up_nx (by decide) (up_nx (by decide) (up_nx (by decide) (hc1)))) (by omega) (by omega)) mc_X3_starSide ⟨Nat.le_of_ble_eq_true rfl, Nat.le_of_ble_eq_true rfl⟩ (rest := [.int (sS j k), .int (sS i j), .int 2, .int (nI (3 * L.length + 2)), .ref (ad 11)]) rfl (Nat.le_of_ble_eq_true rfl) dX3_listStarTriangle_82 (fun r u h => ?_)
    obtain ⟨hr_, hu_⟩ := h; rw [hr_]; subst hu_
    refine gj_seti (y := sS i k) (hss i k (by omega) (by omega)) ?_
    refine gj_iload C dX3_listStarTriangle_85 6 rfl ?_
    refine gj_callSNi C w_496 w_540 (c_X11_keyNumber (2 : Int32) (sS i j) (sS j k) (sS i k) bk) mc_X11_keyNumber ⟨Nat.le_of_ble_eq_true rfl, Nat.le_of_ble_eq_true rfl⟩ (rest := [.int (nI (3 * L.length + 2)), .ref (ad 11)]) rfl (Nat.le_of_ble_eq_true rfl) dX3_listStarTriangle_87 (fun r u h => ?_)
    obtain ⟨hr_, hu_⟩ := h; rw [hr_]; subst hu_
    refine gj_seti (y := cKey sS bk 2 i j k) rfl ?_
    refine gj_iast C 11 (by decide) (va_up_self _ _ _) (vp_in_nI (by omega) (by omega)) dX3_listStarTriangle_90 ?_
    refine gj_setf (bx_uu _ _ _ _) ?_
    refine gj_setf (g := va_up (va_up (va_up f 7 (.inr (3, [.ref (ad 8), .ref (ad 9), .ref (ad 10), .ref (ad 11), .int (nI L.length), .int lk]))) 10 (.inl (ca 0, 660, .inl (upd (upd (upd tg (3 * L.length) (nI i)) (3 * L.length + 1) (nI j)) (3 * L.length + 2) (nI k))))) 11 (.inl (ca 0, 660, .inl (upd (upd (upd kg (3 * L.length) (cKey sS bk 0 i j k)) (3 * L.length + 1) (cKey sS bk 1 i j k)) (3 * L.length + 2) (cKey sS bk 2 i j k))))) (by rw [nI_clamp (show (3 * L.length + 2) < 2 ^ 31 by omega)]) ?_
    refine gj_iinc C (v := 3) (lv' := [(6, .int 3), (5, .int (nI (3 * L.length))), (0, .ref (ad 7)), (1, .int (nI i)), (2, .int (nI j)), (3, .int (nI k)), (4, .int bk)]) dX3_listStarTriangle_91 0 rfl (by decide) (by decide) rfl ?_
    refine gj_goto C 50 dX3_listStarTriangle_94 (by decide) ?_
    refine gj_iload C dX3_listStarTriangle_50 0 rfl ?_
    refine gj_iconst C (v := 3) (by decide) dX3_listStarTriangle_52 ?_
    refine gj_icmp_ge C 97 dX3_listStarTriangle_53 (by decide) (fun c_5 => ?_) (fun c_5 => absurd (by decide) c_5)
    refine gj_aload_n C 0 dX3_listStarTriangle_97 rfl 2 rfl ?_
    refine gj_dup C rfl dX3_listStarTriangle_98 ?_
    refine gj_get C 7 (by decide) (up_nx (by decide) (up_nx (by decide) (va_up_self _ _ _))) inX3 rfl 4 (by decide) w_124 (v := .int (nI L.length)) rfl dX3_listStarTriangle_99 ?_
    refine gj_iconst C (v := 1) (by decide) dX3_listStarTriangle_102 ?_
    refine gj_iadd C dX3_listStarTriangle_103 ?_
    refine gj_putS C 7 (by decide) (up_nx (by decide) (up_nx (by decide) (va_up_self _ _ _))) inX3 rfl 4 (by decide) tyX3 tyX3_ok nmX3 w_124 rfl (v := .int ((nI L.length) + 1)) (fs' := [.ref (ad 8), .ref (ad 9), .ref (ad 10), .ref (ad 11), .int ((nI L.length) + 1), .int lk]) rfl rfl (Nat.le_of_ble_eq_true rfl) rfl dX3_listStarTriangle_104 ?_
    refine gj_setf ((up_comm (by decide)).trans (up_un ((up_comm (by decide)).trans (up_un (bx_uu _ _ _ _))))) ?_
    exact RT _ _ _ (by have hm := lst_lt c_1 hT.1; exact ⟨_, _, triOk_push hm hT hi hj hk, by rw [tPush_len hm, w3_new, w3_new, nI_1]⟩) dX3_listStarTriangle_107
  · exact RT _ _ _ (by have hp : tPush L (i, j, k) = L := tPush_full (lst_ge c_1 hT.1); exact ⟨tg, kg, by rw [hp]; exact hT, by rw [hp]⟩) dX3_listStarTriangle_10
set_option maxHeartbeats 400000 in
set_option maxRecDepth 100000 in
theorem c_X3_listStarTriangles {l : Launch} {D : va_G} {ca ss ad : Nat → Nat} {f : Nat → va_E} (n0 : Nat) (bk cnt lk : Int32) (sg tg kg : Nat → Int32) (sS : Nat → Nat → Int32) (hc0 : f 7 = .inr (3, [.ref (ad 8), .ref (ad 9), .ref (ad 10), .ref (ad 11), .int cnt, .int lk])) (hc1 : f 8 = .inl (ca 0, 144, .inl sg)) (hc3 : f 10 = .inl (ca 0, 660, .inl tg)) (hc4 : f 11 = .inl (ca 0, 660, .inl kg)) (hn : n0 ≤ 12) (hss : ∀ a b, a < n0 → b < n0 → sg (12 * a + b) = sS a b) : gMv l D ca ss ad 108 yX3_listStarTriangles cX3_listStarTriangles 6 none 3 f [.ref (ad 7), .int (nI n0), .int bk] (fun u => ∃ tgX kgX : Nat → Int32, triOk sS bk n0 (trL n0) tgX kgX ∧ u = va_up (va_up (va_up f 7 (.inr (3, [.ref (ad 8), .ref (ad 9), .ref (ad 10), .ref (ad 11), .int (nI (trL n0).length), .int lk]))) 10 (.inl (ca 0, 660, .inl tgX))) 11 (.inl (ca 0, 660, .inl kgX))) := by
  refine gMv_ofK (by decide +kernel) (Nat.le_of_ble_eq_true rfl) (lv0 := [(0, .ref (ad 7)), (1, .int (nI n0)), (2, .int bk)]) rfl (fun pT eT sT mT aT below meth cT AT QT C RT => ?_)
  have C : gX pT sT mT aT meth cT AT D ca ss 6 RX3 cX3_listStarTriangles none := C
  have hT0 : triOk sS bk n0 [] tg kg := triOk_nil _ _ _ _ _
  refine gj_aload_n C 0 dX3_listStarTriangles_0 rfl 0 rfl ?_
  refine gj_iconst C (v := 0) (by decide) dX3_listStarTriangles_1 ?_
  refine gj_putS C 7 (by decide) hc0 inX3 rfl 4 (by decide) tyX3 tyX3_ok nmX3 w_124 rfl (v := .int 0) (fs' := [.ref (ad 8), .ref (ad 9), .ref (ad 10), .ref (ad 11), .int 0, .int lk]) rfl rfl (Nat.le_of_ble_eq_true rfl) rfl dX3_listStarTriangles_2 ?_
  refine gj_iconst C (v := 0) (by decide) dX3_listStarTriangles_5 ?_
  refine gj_seti (y := nI (0 + 0)) rfl ?_
  refine gj_istore_n C (lv' := [(3, .int (nI (0 + 0))), (0, .ref (ad 7)), (1, .int (nI n0)), (2, .int bk)]) 3 dX3_listStarTriangles_6 rfl (by decide) rfl ?_
  refine gj_setf (up_id (up_nx (by decide) (hc3))).symm ?_
  refine gj_setf (up_id (up_nx (by decide) (up_nx (by decide) (hc4)))).symm ?_
  refine gj_setf (g := va_up (va_up (va_up f 7 (.inr (3, [.ref (ad 8), .ref (ad 9), .ref (ad 10), .ref (ad 11), .int (nI (tL1 n0 0).length), .int lk]))) 10 (.inl (ca 0, 660, .inl tg))) 11 (.inl (ca 0, 660, .inl kg))) rfl ?_
  have loop_1 : ∀ (m1 t1 : Nat), t1 + m1 = n0 → ∀ (jt : Nat → Int32), ∀ (jk : Nat → Int32), ∀ (hTj : triOk sS bk n0 (tL1 n0 t1) jt jk), gJ pT l eT (Rm 3) sT mT aT below meth cT AT QT D ad 108 6 (va_up (va_up (va_up f 7 (.inr (3, [.ref (ad 8), .ref (ad 9), .ref (ad 10), .ref (ad 11), .int (nI (tL1 n0 t1).length), .int lk]))) 10 (.inl (ca 0, 660, .inl jt))) 11 (.inl (ca 0, 660, .inl jk))) [(3, .int (nI (0 + t1))), (0, .ref (ad 7)), (1, .int (nI n0)), (2, .int bk)] 7 [] := by
    intro m1
    induction m1 with
    | zero =>
      intro t1 hk_t1  jt jk hTj
      refine gj_iload_n C 3 dX3_listStarTriangles_7 rfl 0 rfl ?_
      refine gj_iload_n C 1 dX3_listStarTriangles_8 rfl 2 rfl ?_
      refine gj_icmp_ge C 63 dX3_listStarTriangles_9 (by decide) (fun c_3 => ?_) (fun c_3 => absurd (nI_le (by omega) (by omega)) c_3)
      exact RT _ _ _ (by obtain rfl : t1 = n0 := (by omega); exact ⟨_, _, hTj, rfl⟩) dX3_listStarTriangles_63
    | succ m1 ih_2 =>
      intro t1 hk_t1  jt jk hTj
      refine gj_iload_n C 3 dX3_listStarTriangles_7 rfl 0 rfl ?_
      refine gj_iload_n C 1 dX3_listStarTriangles_8 rfl 2 rfl ?_
      refine gj_icmp_ge C 63 dX3_listStarTriangles_9 (by decide) (fun c_4 => absurd c_4 (nI_ge (by omega) (by omega))) (fun c_4 => ?_)
      refine gj_iload_n C 3 dX3_listStarTriangles_12 rfl 0 rfl ?_
      refine gj_iconst C (v := 1) (by decide) dX3_listStarTriangles_13 ?_
      refine gj_iadd C dX3_listStarTriangles_14 ?_
      refine gj_seti (y := nI (0 + t1 + 1 + 0)) (nI_1 _) ?_
      refine gj_istore C (lv' := [(4, .int (nI (0 + t1 + 1 + 0))), (3, .int (nI (0 + t1))), (0, .ref (ad 7)), (1, .int (nI n0)), (2, .int bk)]) dX3_listStarTriangles_15 (by decide) rfl ?_
      refine gj_setf (g := va_up (va_up (va_up f 7 (.inr (3, [.ref (ad 8), .ref (ad 9), .ref (ad 10), .ref (ad 11), .int (nI (tL2 n0 (0 + t1) (tL1 n0 t1) 0).length), .int lk]))) 10 (.inl (ca 0, 660, .inl jt))) 11 (.inl (ca 0, 660, .inl jk))) rfl ?_
      have loop_5 : ∀ (m2 t2 : Nat), t2 + m2 = (n0 - (0 + t1 + 1)) → ∀ (jt : Nat → Int32), ∀ (jk : Nat → Int32), ∀ (hTj : triOk sS bk n0 (tL2 n0 (0 + t1) (tL1 n0 t1) t2) jt jk), gJ pT l eT (Rm 3) sT mT aT below meth cT AT QT D ad 108 6 (va_up (va_up (va_up f 7 (.inr (3, [.ref (ad 8), .ref (ad 9), .ref (ad 10), .ref (ad 11), .int (nI (tL2 n0 (0 + t1) (tL1 n0 t1) t2).length), .int lk]))) 10 (.inl (ca 0, 660, .inl jt))) 11 (.inl (ca 0, 660, .inl jk))) [(4, .int (nI (0 + t1 + 1 + t2))), (3, .int (nI (0 + t1))), (0, .ref (ad 7)), (1, .int (nI n0)), (2, .int bk)] 17 [] := by
        intro m2
        induction m2 with
        | zero =>
          intro t2 hk_t2  jt jk hTj
          refine gj_iload C dX3_listStarTriangles_17 0 rfl ?_
          refine gj_iload_n C 1 dX3_listStarTriangles_19 rfl 3 rfl ?_
          refine gj_icmp_ge C 57 dX3_listStarTriangles_20 (by decide) (fun c_7 => ?_) (fun c_7 => absurd (nI_le (by omega) (by omega)) c_7)
          refine gj_iinc C (v := nI (0 + (t1 + 1))) (lv' := [(3, .int (nI (0 + (t1 + 1)))), (4, .int (nI (0 + t1 + 1 + t2))), (0, .ref (ad 7)), (1, .int (nI n0)), (2, .int bk)]) dX3_listStarTriangles_57 1 rfl (nI_1 _) (by decide) rfl ?_
          refine gj_goto C 7 dX3_listStarTriangles_60 (by decide) ?_
          refine gj_setf (g := va_up (va_up (va_up f 7 (.inr (3, [.ref (ad 8), .ref (ad 9), .ref (ad 10), .ref (ad 11), .int (nI (tL1 n0 (t1 + 1)).length), .int lk]))) 10 (.inl (ca 0, 660, .inl jt))) 11 (.inl (ca 0, 660, .inl jk))) (by obtain rfl : t2 = n0 - (0 + t1 + 1) := (by omega); rfl) ?_
          refine gj_lv [0, 2, 3, 4] rfl ?_
          exact ih_2 (t1 + 1) (by omega) _ _ (by obtain rfl : t2 = n0 - (0 + t1 + 1) := (by omega); exact hTj)
        | succ m2 ih_6 =>
          intro t2 hk_t2  jt jk hTj
          refine gj_iload C dX3_listStarTriangles_17 0 rfl ?_
          refine gj_iload_n C 1 dX3_listStarTriangles_19 rfl 3 rfl ?_
          refine gj_icmp_ge C 57 dX3_listStarTriangles_20 (by decide) (fun c_8 => absurd c_8 (nI_ge (by omega) (by omega))) (fun c_8 => ?_)
          refine gj_iload C dX3_listStarTriangles_23 0 rfl ?_
          refine gj_iconst C (v := 1) (by decide) dX3_listStarTriangles_25 ?_
          refine gj_iadd C dX3_listStarTriangles_26 ?_
          refine gj_seti (y := nI (0 + t1 + 1 + t2 + 1 + 0)) (nI_1 _) ?_
          refine gj_istore C (lv' := [(5, .int (nI (0 + t1 + 1 + t2 + 1 + 0))), (4, .int (nI (0 + t1 + 1 + t2))), (3, .int (nI (0 + t1))), (0, .ref (ad 7)), (1, .int (nI n0)), (2, .int bk)]) dX3_listStarTriangles_27 (by decide) rfl ?_
          refine gj_setf (g := va_up (va_up (va_up f 7 (.inr (3, [.ref (ad 8), .ref (ad 9), .ref (ad 10), .ref (ad 11), .int (nI (tL3 (0 + t1) (0 + t1 + 1 + t2) (tL2 n0 (0 + t1) (tL1 n0 t1) t2) 0).length), .int lk]))) 10 (.inl (ca 0, 660, .inl jt))) 11 (.inl (ca 0, 660, .inl jk))) rfl ?_
          have loop_9 : ∀ (m3 t3 : Nat), t3 + m3 = (n0 - (0 + t1 + 1 + t2 + 1)) → ∀ (jt : Nat → Int32), ∀ (jk : Nat → Int32), ∀ (hTj : triOk sS bk n0 (tL3 (0 + t1) (0 + t1 + 1 + t2) (tL2 n0 (0 + t1) (tL1 n0 t1) t2) t3) jt jk), gJ pT l eT (Rm 3) sT mT aT below meth cT AT QT D ad 108 6 (va_up (va_up (va_up f 7 (.inr (3, [.ref (ad 8), .ref (ad 9), .ref (ad 10), .ref (ad 11), .int (nI (tL3 (0 + t1) (0 + t1 + 1 + t2) (tL2 n0 (0 + t1) (tL1 n0 t1) t2) t3).length), .int lk]))) 10 (.inl (ca 0, 660, .inl jt))) 11 (.inl (ca 0, 660, .inl jk))) [(5, .int (nI (0 + t1 + 1 + t2 + 1 + t3))), (4, .int (nI (0 + t1 + 1 + t2))), (3, .int (nI (0 + t1))), (0, .ref (ad 7)), (1, .int (nI n0)), (2, .int bk)] 29 [] := by
            intro m3
            induction m3 with
            | zero =>
              intro t3 hk_t3  jt jk hTj
              refine gj_iload C dX3_listStarTriangles_29 0 rfl ?_
              refine gj_iload_n C 1 dX3_listStarTriangles_31 rfl 4 rfl ?_
              refine gj_icmp_ge C 51 dX3_listStarTriangles_32 (by decide) (fun c_11 => ?_) (fun c_11 => absurd (nI_le (by omega) (by omega)) c_11)
              refine gj_iinc C (v := nI (0 + t1 + 1 + (t2 + 1))) (lv' := [(4, .int (nI (0 + t1 + 1 + (t2 + 1)))), (5, .int (nI (0 + t1 + 1 + t2 + 1 + t3))), (3, .int (nI (0 + t1))), (0, .ref (ad 7)), (1, .int (nI n0)), (2, .int bk)]) dX3_listStarTriangles_51 1 rfl (nI_1 _) (by decide) rfl ?_
              refine gj_goto C 17 dX3_listStarTriangles_54 (by decide) ?_
              refine gj_setf (g := va_up (va_up (va_up f 7 (.inr (3, [.ref (ad 8), .ref (ad 9), .ref (ad 10), .ref (ad 11), .int (nI (tL2 n0 (0 + t1) (tL1 n0 t1) (t2 + 1)).length), .int lk]))) 10 (.inl (ca 0, 660, .inl jt))) 11 (.inl (ca 0, 660, .inl jk))) (by obtain rfl : t3 = n0 - (0 + t1 + 1 + t2 + 1) := (by omega); rfl) ?_
              refine gj_lv [0, 2, 3, 4, 5] rfl ?_
              exact ih_6 (t2 + 1) (by omega) _ _ (by obtain rfl : t3 = n0 - (0 + t1 + 1 + t2 + 1) := (by omega); exact hTj)
            | succ m3 ih_10 =>
              intro t3 hk_t3  jt jk hTj
              refine gj_iload C dX3_listStarTriangles_29 0 rfl ?_
              refine gj_iload_n C 1 dX3_listStarTriangles_31 rfl 4 rfl ?_
              refine gj_icmp_ge C 51 dX3_listStarTriangles_32 (by decide) (fun c_12 => absurd c_12 (nI_ge (by omega) (by omega))) (fun c_12 => ?_)
              refine gj_aload_n C 0 dX3_listStarTriangles_35 rfl 3 rfl ?_
              refine gj_iload_n C 3 dX3_listStarTriangles_36 rfl 2 rfl ?_
              refine gj_iload C dX3_listStarTriangles_37 1 rfl ?_
              refine gj_iload C dX3_listStarTriangles_39 0 rfl ?_
              refine gj_iload_n C 2 dX3_listStarTriangles_41 rfl 5 rfl ?_
              refine gj_callVv C mi_X3_listStarTriangle w_532 7 (by decide) (up_nx (by decide) (up_nx (by decide) (va_up_self _ _ _))) rfl (c_X3_listStarTriangle (0 + t1) (0 + t1 + 1 + t2) (0 + t1 + 1 + t2 + 1 + t3) n0 bk lk sg jt jk sS (tL3 (0 + t1) (0 + t1 + 1 + t2) (tL2 n0 (0 + t1) (tL1 n0 t1) t2) t3) (up_nx (by decide) (up_nx (by decide) (va_up_self _ _ _))) (up_nx (by decide) (up_nx (by decide) (up_nx (by decide) (hc1)))) (up_nx (by decide) (va_up_self _ _ _)) (va_up_self _ _ _) hn (by omega) (by omega) (by omega) hss hTj) mc_X3_listStarTriangle ⟨Nat.le_of_ble_eq_true rfl, Nat.le_of_ble_eq_true rfl⟩ (rest := []) rfl (Nat.le_of_ble_eq_true rfl) dX3_listStarTriangles_42 (fun u h => ?_)
              obtain ⟨tgX_13, kgX_13, hTX_13, rfl⟩ := h
              refine gj_setf ((up_un ((up_un ((up_comm (by decide)).trans (up_un ((up_comm (by decide)).trans (up_un (bx_uu _ _ _ _)))))).trans ((up_comm (by decide)).trans (up_un (bx_uu _ _ _ _))))).trans (bx_uu _ _ _ _)) ?_
              refine gj_iinc C (v := nI (0 + t1 + 1 + t2 + 1 + (t3 + 1))) (lv' := [(5, .int (nI (0 + t1 + 1 + t2 + 1 + (t3 + 1)))), (4, .int (nI (0 + t1 + 1 + t2))), (3, .int (nI (0 + t1))), (0, .ref (ad 7)), (1, .int (nI n0)), (2, .int bk)]) dX3_listStarTriangles_45 0 rfl (nI_1 _) (by decide) rfl ?_
              refine gj_goto C 29 dX3_listStarTriangles_48 (by decide) ?_
              refine gj_setf (g := va_up (va_up (va_up f 7 (.inr (3, [.ref (ad 8), .ref (ad 9), .ref (ad 10), .ref (ad 11), .int (nI (tL3 (0 + t1) (0 + t1 + 1 + t2) (tL2 n0 (0 + t1) (tL1 n0 t1) t2) (t3 + 1)).length), .int lk]))) 10 (.inl (ca 0, 660, .inl tgX_13))) 11 (.inl (ca 0, 660, .inl kgX_13))) rfl ?_
              refine gj_lv [0, 1, 2, 3, 4, 5] rfl ?_
              exact ih_10 (t3 + 1) (by omega) _ _ hTX_13
          refine gj_lv [0, 1, 2, 3, 4, 5] rfl ?_
          exact loop_9 ((n0 - (0 + t1 + 1 + t2 + 1)) - 0) 0 (by omega) _ _ hTj
      refine gj_lv [0, 1, 2, 3, 4] rfl ?_
      exact loop_5 ((n0 - (0 + t1 + 1)) - 0) 0 (by omega) _ _ hTj
  refine gj_lv [0, 1, 2, 3] rfl ?_
  exact loop_1 (n0 - 0) 0 (by omega) _ _ hT0
