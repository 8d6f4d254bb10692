/-- quarters around x, y, z -/
def r1 (y z : Int32) : Nat → Int32 × Int32
  | 0 => (y, z)
  | k + 1 => (-(r1 y z k).2, (r1 y z k).1)
def r2 (x z : Int32) : Nat → Int32 × Int32
  | 0 => (x, z)
  | k + 1 => ((r2 x z k).2, -(r2 x z k).1)
def r3 (x y : Int32) : Nat → Int32 × Int32
  | 0 => (x, y)
  | k + 1 => (-(r3 x y k).2, (r3 x y k).1)
abbrev oX (di : Nat → Int32) (i : Nat) : Int32 := s_X12_of (0 : Int32) (nI i) (0 : Int32) di
abbrev oY (di : Nat → Int32) (i : Nat) : Int32 := s_X12_of (0 : Int32) (nI i) (1 : Int32) di
abbrev oZ (di : Nat → Int32) (i : Nat) : Int32 := s_X12_of (0 : Int32) (nI i) (2 : Int32) di
/-- star i turned -/
def qX (di : Nat → Int32) (i a b c : Nat) : Int32 := (r3 (r2 (oX di i) (r1 (oY di i) (oZ di i) a).2 b).1 (r1 (oY di i) (oZ di i) a).1 c).1
def qY (di : Nat → Int32) (i a b c : Nat) : Int32 := (r3 (r2 (oX di i) (r1 (oY di i) (oZ di i) a).2 b).1 (r1 (oY di i) (oZ di i) a).1 c).2
def qZ (di : Nat → Int32) (i a b : Nat) : Int32 := (r2 (oX di i) (r1 (oY di i) (oZ di i) a).2 b).2
def nCut (v : Int32) : Int32 := s_X12_lesser (s_X12_greater v (-100)) (100 : Int32)
def nDraw (d : Int32) : Int32 := 1103515245 * d + 12345
def nLot (d q : Int32) : Int32 := ((nDraw d).toUInt32 >>> ((16 : Int32).toUInt32 &&& Int32.toUInt32 31)).toInt32 - ((nDraw d).toUInt32 >>> ((16 : Int32).toUInt32 &&& Int32.toUInt32 31)).toInt32 / q * q
def nNoise (v m d : Int32) : Int32 := nCut (v + nLot d (2 * m + 1) - m)
def zFix (x y z : Int32) : Int32 := if x = 0 then (if y = 0 then (if z = 0 then 1 else z) else z) else z
/-- spot i laid -/
def dLay (di : Nat → Int32) (i : Nat) (x y z : Int32) : Nat → Int32 := upd (upd (upd di (36 * (1 : Int32) + 3 * nI i).toNatClampNeg x) (36 * (1 : Int32) + 3 * nI i + 1).toNatClampNeg y) (36 * (1 : Int32) + 3 * nI i + 2).toNatClampNeg (zFix x y z)
def see0 (i a b c : Nat) (di : Nat → Int32) : Nat → Int32 := dLay di i (nCut (qX di i a b c)) (nCut (qY di i a b c)) (nCut (qZ di i a b))
def see1 (i a b c : Nat) (m d : Int32) (di : Nat → Int32) : Nat → Int32 := dLay di i (nNoise (qX di i a b c) m d) (nNoise (qY di i a b c) m (nDraw d)) (nNoise (qZ di i a b) m (nDraw (nDraw d)))

set_option maxHeartbeats 400000 in
set_option maxRecDepth 100000 in
theorem c_X12_noisy0 {l : Launch} {D : va_G} {ca ss ad : Nat → Nat} {f : Nat → va_E}  (v : Int32) (q : Int32) (la : Int32) (dr : Int32) (go : Int32) (lo : Int32) (ma : Int32) (pa : Int32) (tu : Int32) (su : Int32) (hc0 : f 87 = .inr (11, mF ad la dr go lo ma pa tu su)) (hq : q = 0) : gMi l D ca ss ad 108 yX12_noisy cX12_noisy 4 (some .int) 1 f [.ref (ad 87), .int v, .int q] (fun r u => r = s_X12_lesser (s_X12_greater v (-100 : Int32)) (100 : Int32) ∧ u = f) := by
  refine gMi_ofK (by decide +kernel) (Nat.le_of_ble_eq_true rfl) (lv0 := [(0, .ref (ad 87)), (1, .int v), (2, .int q)]) rfl (fun pT eT sT mT aT below meth cT AT QT C RT => ?_)
  have C : gX pT sT mT aT meth cT AT D ca ss 4 RX12 cX12_noisy (some .int) := C
  refine gj_iload_n C 2 dX12_noisy_0 rfl 2 rfl ?_
  refine gj_if_ne C 8 dX12_noisy_1 (by decide) (fun c_1 => absurd hq c_1) (fun c_1 => ?_)
  refine gj_iload_n C 1 dX12_noisy_4 rfl 1 rfl ?_
  refine gj_goto C 21 dX12_noisy_5 (by decide) ?_
  refine gj_istore_n C (lv' := [(3, .int v), (0, .ref (ad 87)), (1, .int v), (2, .int q)]) 3 dX12_noisy_21 rfl (by decide) rfl ?_
  refine gj_iload_n C 3 dX12_noisy_22 rfl 0 rfl ?_
  refine gj_bipush C (v := (-100)) (by decide) dX12_noisy_23 ?_
  refine gj_callSi C w_1036 w_1035 (c_X12_greater v (-100 : Int32)) mc_X12_greater ⟨Nat.le_of_ble_eq_true rfl, Nat.le_of_ble_eq_true rfl⟩ (rest := []) rfl (Nat.le_of_ble_eq_true rfl) dX12_noisy_25 (fun r u h => ?_)
  obtain ⟨hr_, h⟩ := h; rw [hr_]
  rw [h]
  refine gj_bipush C (v := 100) (by decide) dX12_noisy_28 ?_
  refine gj_callSi C w_1020 w_1019 (c_X12_lesser (s_X12_greater v (-100 : Int32)) (100 : Int32)) mc_X12_lesser ⟨Nat.le_of_ble_eq_true rfl, Nat.le_of_ble_eq_true rfl⟩ (rest := []) rfl (Nat.le_of_ble_eq_true rfl) dX12_noisy_30 (fun r u h => ?_)
  obtain ⟨hr_, h⟩ := h; rw [hr_]
  rw [h]
  exact RT _ _ _ _ ⟨rfl, rfl⟩ dX12_noisy_33
set_option maxHeartbeats 400000 in
set_option maxRecDepth 100000 in
theorem c_X12_noisy1 {l : Launch} {D : va_G} {ca ss ad : Nat → Nat} {f : Nat → va_E}  (v : Int32) (q : Int32) (la : Int32) (dr : Int32) (go : Int32) (lo : Int32) (ma : Int32) (pa : Int32) (tu : Int32) (su : Int32) (hc0 : f 87 = .inr (11, mF ad la dr go lo ma pa tu su)) (hq : ¬ q = 0) (h2 : ¬ 2 * q + 1 = 0) : gMi l D ca ss ad 108 yX12_noisy cX12_noisy 4 (some .int) 1 f [.ref (ad 87), .int v, .int q] (fun r u => r = s_X12_lesser (s_X12_greater ((v + (((((1103515245 * dr) + 12345).toUInt32 >>> ((16 : Int32).toUInt32 &&& Int32.toUInt32 31)).toInt32) - ((((1103515245 * dr) + 12345).toUInt32 >>> ((16 : Int32).toUInt32 &&& Int32.toUInt32 31)).toInt32) / ((2 * q) + 1) * ((2 * q) + 1))) - q) (-100 : Int32)) (100 : Int32) ∧ u = va_up f 87 (.inr (11, [.ref (ad 88), .ref (ad 89), .ref (ad 90), .ref (ad 91), .int la, .ref (ad 92), .ref (ad 93), .ref (ad 94), .int ((1103515245 * dr) + 12345), .int go, .int lo, .int ma, .ref (ad 95), .ref (ad 96), .ref (ad 97), .ref (ad 98), .int pa, .int tu, .ref (ad 99), .ref (ad 100), .ref (ad 101), .ref (ad 102), .ref (ad 103), .ref (ad 104), .int su, .ref (ad 105), .ref (ad 106), .ref (ad 107)]))) := by
  refine gMi_ofK (by decide +kernel) (Nat.le_of_ble_eq_true rfl) (lv0 := [(0, .ref (ad 87)), (1, .int v), (2, .int q)]) rfl (fun pT eT sT mT aT below meth cT AT QT C RT => ?_)
  have C : gX pT sT mT aT meth cT AT D ca ss 4 RX12 cX12_noisy (some .int) := C
  refine gj_iload_n C 2 dX12_noisy_0 rfl 2 rfl ?_
  refine gj_if_ne C 8 dX12_noisy_1 (by decide) (fun c_1 => ?_) (fun c_1 => absurd c_1 hq)
  refine gj_iload_n C 1 dX12_noisy_8 rfl 1 rfl ?_
  refine gj_aload_n C 0 dX12_noisy_9 rfl 0 rfl ?_
  refine gj_iconst C (v := 2) (by decide) dX12_noisy_10 ?_
  refine gj_iload_n C 2 dX12_noisy_11 rfl 2 rfl ?_
  refine gj_imul C dX12_noisy_12 ?_
  refine gj_iconst C (v := 1) (by decide) dX12_noisy_13 ?_
  refine gj_iadd C dX12_noisy_14 ?_
  refine gj_callVi C mi_X12_lot w_1030 87 (by decide) hc0 rfl (c_X12_lot ((2 * q) + 1) la dr go lo ma pa tu su hc0 h2) mc_X12_lot ⟨Nat.le_of_ble_eq_true rfl, Nat.le_of_ble_eq_true rfl⟩ (rest := [.int v]) rfl (Nat.le_of_ble_eq_true rfl) dX12_noisy_15 (fun r u h => ?_)
  obtain ⟨hr_, hu_⟩ := h; rw [hr_]; subst hu_
  refine gj_iadd C dX12_noisy_18 ?_
  refine gj_iload_n C 2 dX12_noisy_19 rfl 2 rfl ?_
  refine gj_isub C dX12_noisy_20 ?_
  refine gj_istore_n C (lv' := [(3, .int ((v + (((((1103515245 * dr) + 12345).toUInt32 >>> ((16 : Int32).toUInt32 &&& Int32.toUInt32 31)).toInt32) - ((((1103515245 * dr) + 12345).toUInt32 >>> ((16 : Int32).toUInt32 &&& Int32.toUInt32 31)).toInt32) / ((2 * q) + 1) * ((2 * q) + 1))) - q)), (0, .ref (ad 87)), (1, .int v), (2, .int q)]) 3 dX12_noisy_21 rfl (by decide) rfl ?_
  refine gj_iload_n C 3 dX12_noisy_22 rfl 0 rfl ?_
  refine gj_bipush C (v := (-100)) (by decide) dX12_noisy_23 ?_
  refine gj_callSi C w_1036 w_1035 (c_X12_greater ((v + (((((1103515245 * dr) + 12345).toUInt32 >>> ((16 : Int32).toUInt32 &&& Int32.toUInt32 31)).toInt32) - ((((1103515245 * dr) + 12345).toUInt32 >>> ((16 : Int32).toUInt32 &&& Int32.toUInt32 31)).toInt32) / ((2 * q) + 1) * ((2 * q) + 1))) - q) (-100 : Int32)) mc_X12_greater ⟨Nat.le_of_ble_eq_true rfl, Nat.le_of_ble_eq_true rfl⟩ (rest := []) rfl (Nat.le_of_ble_eq_true rfl) dX12_noisy_25 (fun r u h => ?_)
  obtain ⟨hr_, hu_⟩ := h; rw [hr_]; subst hu_
  refine gj_bipush C (v := 100) (by decide) dX12_noisy_28 ?_
  refine gj_callSi C w_1020 w_1019 (c_X12_lesser (s_X12_greater ((v + (((((1103515245 * dr) + 12345).toUInt32 >>> ((16 : Int32).toUInt32 &&& Int32.toUInt32 31)).toInt32) - ((((1103515245 * dr) + 12345).toUInt32 >>> ((16 : Int32).toUInt32 &&& Int32.toUInt32 31)).toInt32) / ((2 * q) + 1) * ((2 * q) + 1))) - q) (-100 : Int32)) (100 : Int32)) mc_X12_lesser ⟨Nat.le_of_ble_eq_true rfl, Nat.le_of_ble_eq_true rfl⟩ (rest := []) rfl (Nat.le_of_ble_eq_true rfl) dX12_noisy_30 (fun r u h => ?_)
  obtain ⟨hr_, hu_⟩ := h; rw [hr_]; subst hu_
  exact RT _ _ _ _ ⟨rfl, rfl⟩ dX12_noisy_33
theorem gj_lvs {p : Program} {l : Launch} {e : Env} {R : Room} {s : State} {m : MethodId} {args : Array Value} {below : List Frame} {meth : Method} {c : Code} {A : Nat → Prop} {Q : State → Prop} {D : va_G} {ad : Nat → Nat} {N n : Nat} {f : Nat → va_E} {lv lv' : List (Nat × Value)} {pc : Nat} {st : List Value} (h : lv = lv') (k : gJ p l e R s m args below meth c A Q D ad N n f lv' pc st) : gJ p l e R s m args below meth c A Q D ad N n f lv pc st := h ▸ k
set_option maxHeartbeats 400000 in
set_option maxRecDepth 100000 in
theorem c_X12_sees0 {l : Launch} {D : va_G} {ca ss ad : Nat → Nat} {f : Nat → va_E}  (iN : Nat) (aN : Nat) (bN : Nat) (cN : Nat) (q : Int32) (la : Int32) (dr : Int32) (go : Int32) (lo : Int32) (ma : Int32) (pa : Int32) (tu : Int32) (su : Int32) (di : Nat → Int32) (hc0 : f 87 = .inr (11, mF ad la dr go lo ma pa tu su)) (hc1 : f 92 = .inl (ca 0, 60, .inl di)) (hi : iN < 8) (hq : q = 0) (ha : aN ≤ 3) (hb : bN ≤ 3) (hc : cN ≤ 3) : gMv l D ca ss ad 108 yX12_sees cX12_sees 11 none 2 f [.ref (ad 87), .int (nI iN), .int (nI aN), .int (nI bN), .int (nI cN), .int q] (fun u => u = va_up f 92 (.inl (ca 0, 60, .inl (see0 iN aN bN cN di)))) := by
  refine gMv_ofK (by decide +kernel) (Nat.le_of_ble_eq_true rfl) (lv0 := [(0, .ref (ad 87)), (1, .int (nI iN)), (2, .int (nI aN)), (3, .int (nI bN)), (4, .int (nI cN)), (5, .int q)]) rfl (fun pT eT sT mT aT below meth cT AT QT C RT => ?_)
  have C : gX pT sT mT aT meth cT AT D ca ss 11 RX12 cX12_sees none := C
  refine gj_aload_n C 0 dX12_sees_0 rfl 0 rfl ?_
  refine gj_iconst C (v := 0) (by decide) dX12_sees_1 ?_
  refine gj_iload_n C 1 dX12_sees_2 rfl 1 rfl ?_
  refine gj_iconst C (v := 0) (by decide) dX12_sees_3 ?_
  refine gj_callVi C mi_X12_of w_1006 87 (by decide) hc0 rfl (c_X12_of (0 : Int32) (nI iN) (0 : Int32) la dr go lo ma pa tu su di hc0 hc1 (dIn_0 (by omega)) w0) mc_X12_of ⟨Nat.le_of_ble_eq_true rfl, Nat.le_of_ble_eq_true rfl⟩ (rest := []) rfl (Nat.le_of_ble_eq_true rfl) dX12_sees_4 (fun r u h => ?_)
  obtain ⟨hr_, h⟩ := h; rw [hr_]
  rw [h]
  refine gj_seti (y := (oX di iN)) rfl ?_
  refine gj_istore C (lv' := [(6, .int (oX di iN)), (0, .ref (ad 87)), (1, .int (nI iN)), (2, .int (nI aN)), (3, .int (nI bN)), (4, .int (nI cN)), (5, .int q)]) dX12_sees_7 (by decide) rfl ?_
  refine gj_aload_n C 0 dX12_sees_9 rfl 1 rfl ?_
  refine gj_iconst C (v := 0) (by decide) dX12_sees_10 ?_
  refine gj_iload_n C 1 dX12_sees_11 rfl 2 rfl ?_
  refine gj_iconst C (v := 1) (by decide) dX12_sees_12 ?_
  refine gj_callVi C mi_X12_of w_1006 87 (by decide) hc0 rfl (c_X12_of (0 : Int32) (nI iN) (1 : Int32) la dr go lo ma pa tu su di hc0 hc1 (dIn_0 (by omega)) w1) mc_X12_of ⟨Nat.le_of_ble_eq_true rfl, Nat.le_of_ble_eq_true rfl⟩ (rest := []) rfl (Nat.le_of_ble_eq_true rfl) dX12_sees_13 (fun r u h => ?_)
  obtain ⟨hr_, h⟩ := h; rw [hr_]
  rw [h]
  refine gj_seti (y := (oY di iN)) rfl ?_
  refine gj_istore C (lv' := [(7, .int (oY di iN)), (6, .int (oX di iN)), (0, .ref (ad 87)), (1, .int (nI iN)), (2, .int (nI aN)), (3, .int (nI bN)), (4, .int (nI cN)), (5, .int q)]) dX12_sees_16 (by decide) rfl ?_
  refine gj_aload_n C 0 dX12_sees_18 rfl 2 rfl ?_
  refine gj_iconst C (v := 0) (by decide) dX12_sees_19 ?_
  refine gj_iload_n C 1 dX12_sees_20 rfl 3 rfl ?_
  refine gj_iconst C (v := 2) (by decide) dX12_sees_21 ?_
  refine gj_callVi C mi_X12_of w_1006 87 (by decide) hc0 rfl (c_X12_of (0 : Int32) (nI iN) (2 : Int32) la dr go lo ma pa tu su di hc0 hc1 (dIn_0 (by omega)) w2) mc_X12_of ⟨Nat.le_of_ble_eq_true rfl, Nat.le_of_ble_eq_true rfl⟩ (rest := []) rfl (Nat.le_of_ble_eq_true rfl) dX12_sees_22 (fun r u h => ?_)
  obtain ⟨hr_, h⟩ := h; rw [hr_]
  rw [h]
  refine gj_seti (y := (oZ di iN)) rfl ?_
  refine gj_istore C (lv' := [(8, .int (oZ di iN)), (7, .int (oY di iN)), (6, .int (oX di iN)), (0, .ref (ad 87)), (1, .int (nI iN)), (2, .int (nI aN)), (3, .int (nI bN)), (4, .int (nI cN)), (5, .int q)]) dX12_sees_25 (by decide) rfl ?_
  refine gj_iconst C (v := 0) (by decide) dX12_sees_27 ?_
  refine gj_seti (y := nI 0) rfl ?_
  refine gj_istore C (lv' := [(9, .int (nI 0)), (8, .int (oZ di iN)), (7, .int (oY di iN)), (6, .int (oX di iN)), (0, .ref (ad 87)), (1, .int (nI iN)), (2, .int (nI aN)), (3, .int (nI bN)), (4, .int (nI cN)), (5, .int q)]) dX12_sees_28 (by decide) rfl ?_
  have loop_1 : ∀ (m0 t0 : Nat), t0 + m0 = aN → gJ pT l eT (Rm 2) sT mT aT below meth cT AT QT D ad 108 11 (f) [(9, .int (nI t0)), (8, .int ((r1 (oY di iN) (oZ di iN) t0).2)), (7, .int ((r1 (oY di iN) (oZ di iN) t0).1)), (6, .int (oX di iN)), (0, .ref (ad 87)), (1, .int (nI iN)), (2, .int (nI aN)), (3, .int (nI bN)), (4, .int (nI cN)), (5, .int q)] 30 [] := by
    intro m0
    induction m0 with
    | zero =>
      intro t0 hk_t0  
      refine gj_iload C dX12_sees_30 0 rfl ?_
      refine gj_iload_n C 2 dX12_sees_32 rfl 6 rfl ?_
      refine gj_icmp_ge C 55 dX12_sees_33 (by decide) (fun c_3 => ?_) (fun c_3 => absurd (nI_le (by omega) (by omega)) c_3)
      refine gj_lvs (lv' := [(9, .int (nI t0)), (8, .int ((r1 (oY di iN) (oZ di iN) aN).2)), (7, .int ((r1 (oY di iN) (oZ di iN) aN).1)), (6, .int (oX di iN)), (0, .ref (ad 87)), (1, .int (nI iN)), (2, .int (nI aN)), (3, .int (nI bN)), (4, .int (nI cN)), (5, .int q)]) (by obtain rfl : t0 = aN := (by omega); rfl) ?_
      refine gj_iconst C (v := 0) (by decide) dX12_sees_55 ?_
      refine gj_seti (y := nI 0) rfl ?_
      refine gj_istore C (lv' := [(9, .int (nI 0)), (8, .int ((r1 (oY di iN) (oZ di iN) aN).2)), (7, .int ((r1 (oY di iN) (oZ di iN) aN).1)), (6, .int (oX di iN)), (0, .ref (ad 87)), (1, .int (nI iN)), (2, .int (nI aN)), (3, .int (nI bN)), (4, .int (nI cN)), (5, .int q)]) dX12_sees_56 (by decide) rfl ?_
      have loop_4 : ∀ (m1 t1 : Nat), t1 + m1 = bN → gJ pT l eT (Rm 2) sT mT aT below meth cT AT QT D ad 108 11 (f) [(9, .int (nI t1)), (8, .int ((r2 (oX di iN) (r1 (oY di iN) (oZ di iN) aN).2 t1).2)), (7, .int ((r1 (oY di iN) (oZ di iN) aN).1)), (6, .int ((r2 (oX di iN) (r1 (oY di iN) (oZ di iN) aN).2 t1).1)), (0, .ref (ad 87)), (1, .int (nI iN)), (2, .int (nI aN)), (3, .int (nI bN)), (4, .int (nI cN)), (5, .int q)] 58 [] := by
        intro m1
        induction m1 with
        | zero =>
          intro t1 hk_t1  
          refine gj_iload C dX12_sees_58 0 rfl ?_
          refine gj_iload_n C 3 dX12_sees_60 rfl 7 rfl ?_
          refine gj_icmp_ge C 83 dX12_sees_61 (by decide) (fun c_6 => ?_) (fun c_6 => absurd (nI_le (by omega) (by omega)) c_6)
          refine gj_lvs (lv' := [(9, .int (nI t1)), (8, .int ((r2 (oX di iN) (r1 (oY di iN) (oZ di iN) aN).2 bN).2)), (7, .int ((r1 (oY di iN) (oZ di iN) aN).1)), (6, .int ((r2 (oX di iN) (r1 (oY di iN) (oZ di iN) aN).2 bN).1)), (0, .ref (ad 87)), (1, .int (nI iN)), (2, .int (nI aN)), (3, .int (nI bN)), (4, .int (nI cN)), (5, .int q)]) (by obtain rfl : t1 = bN := (by omega); rfl) ?_
          refine gj_iconst C (v := 0) (by decide) dX12_sees_83 ?_
          refine gj_seti (y := nI 0) rfl ?_
          refine gj_istore C (lv' := [(9, .int (nI 0)), (8, .int ((r2 (oX di iN) (r1 (oY di iN) (oZ di iN) aN).2 bN).2)), (7, .int ((r1 (oY di iN) (oZ di iN) aN).1)), (6, .int ((r2 (oX di iN) (r1 (oY di iN) (oZ di iN) aN).2 bN).1)), (0, .ref (ad 87)), (1, .int (nI iN)), (2, .int (nI aN)), (3, .int (nI bN)), (4, .int (nI cN)), (5, .int q)]) dX12_sees_84 (by decide) rfl ?_
          have loop_7 : ∀ (m2 t2 : Nat), t2 + m2 = cN → gJ pT l eT (Rm 2) sT mT aT below meth cT AT QT D ad 108 11 (f) [(9, .int (nI t2)), (8, .int ((r2 (oX di iN) (r1 (oY di iN) (oZ di iN) aN).2 bN).2)), (7, .int ((r3 (r2 (oX di iN) (r1 (oY di iN) (oZ di iN) aN).2 bN).1 (r1 (oY di iN) (oZ di iN) aN).1 t2).2)), (6, .int ((r3 (r2 (oX di iN) (r1 (oY di iN) (oZ di iN) aN).2 bN).1 (r1 (oY di iN) (oZ di iN) aN).1 t2).1)), (0, .ref (ad 87)), (1, .int (nI iN)), (2, .int (nI aN)), (3, .int (nI bN)), (4, .int (nI cN)), (5, .int q)] 86 [] := by
            intro m2
            induction m2 with
            | zero =>
              intro t2 hk_t2  
              refine gj_iload C dX12_sees_86 0 rfl ?_
              refine gj_iload C dX12_sees_88 8 rfl ?_
              refine gj_icmp_ge C 112 dX12_sees_90 (by decide) (fun c_9 => ?_) (fun c_9 => absurd (nI_le (by omega) (by omega)) c_9)
              refine gj_lvs (lv' := [(9, .int (nI t2)), (8, .int (qZ di iN aN bN)), (7, .int (qY di iN aN bN cN)), (6, .int (qX di iN aN bN cN)), (0, .ref (ad 87)), (1, .int (nI iN)), (2, .int (nI aN)), (3, .int (nI bN)), (4, .int (nI cN)), (5, .int q)]) (by obtain rfl : t2 = cN := (by omega); rfl) ?_
              refine gj_aload_n C 0 dX12_sees_112 rfl 4 rfl ?_
              refine gj_iload C dX12_sees_113 3 rfl ?_
              refine gj_iload C dX12_sees_115 9 rfl ?_
              refine gj_callVi C mi_X12_noisy w_1026 87 (by decide) hc0 rfl (c_X12_noisy0 (qX di iN aN bN cN) q la dr go lo ma pa tu su hc0 hq) mc_X12_noisy ⟨Nat.le_of_ble_eq_true rfl, Nat.le_of_ble_eq_true rfl⟩ (rest := []) rfl (Nat.le_of_ble_eq_true rfl) dX12_sees_117 (fun r u h => ?_)
              obtain ⟨hr_, h⟩ := h; rw [hr_]
              rw [h]
              refine gj_seti (y := nCut (qX di iN aN bN cN)) rfl ?_
              refine gj_istore C (lv' := [(6, .int (nCut (qX di iN aN bN cN))), (9, .int (nI t2)), (8, .int (qZ di iN aN bN)), (7, .int (qY di iN aN bN cN)), (0, .ref (ad 87)), (1, .int (nI iN)), (2, .int (nI aN)), (3, .int (nI bN)), (4, .int (nI cN)), (5, .int q)]) dX12_sees_120 (by decide) rfl ?_
              refine gj_aload_n C 0 dX12_sees_122 rfl 4 rfl ?_
              refine gj_iload C dX12_sees_123 3 rfl ?_
              refine gj_iload C dX12_sees_125 9 rfl ?_
              refine gj_callVi C mi_X12_noisy w_1026 87 (by decide) hc0 rfl (c_X12_noisy0 (qY di iN aN bN cN) q la dr go lo ma pa tu su hc0 hq) mc_X12_noisy ⟨Nat.le_of_ble_eq_true rfl, Nat.le_of_ble_eq_true rfl⟩ (rest := []) rfl (Nat.le_of_ble_eq_true rfl) dX12_sees_127 (fun r u h => ?_)
              obtain ⟨hr_, h⟩ := h; rw [hr_]
              rw [h]
              refine gj_seti (y := nCut (qY di iN aN bN cN)) rfl ?_
              refine gj_istore C (lv' := [(7, .int (nCut (qY di iN aN bN cN))), (6, .int (nCut (qX di iN aN bN cN))), (9, .int (nI t2)), (8, .int (qZ di iN aN bN)), (0, .ref (ad 87)), (1, .int (nI iN)), (2, .int (nI aN)), (3, .int (nI bN)), (4, .int (nI cN)), (5, .int q)]) dX12_sees_130 (by decide) rfl ?_
              refine gj_aload_n C 0 dX12_sees_132 rfl 4 rfl ?_
              refine gj_iload C dX12_sees_133 3 rfl ?_
              refine gj_iload C dX12_sees_135 9 rfl ?_
              refine gj_callVi C mi_X12_noisy w_1026 87 (by decide) hc0 rfl (c_X12_noisy0 (qZ di iN aN bN) q la dr go lo ma pa tu su hc0 hq) mc_X12_noisy ⟨Nat.le_of_ble_eq_true rfl, Nat.le_of_ble_eq_true rfl⟩ (rest := []) rfl (Nat.le_of_ble_eq_true rfl) dX12_sees_137 (fun r u h => ?_)
              obtain ⟨hr_, h⟩ := h; rw [hr_]
              rw [h]
              refine gj_seti (y := nCut (qZ di iN aN bN)) rfl ?_
              refine gj_istore C (lv' := [(8, .int (nCut (qZ di iN aN bN))), (7, .int (nCut (qY di iN aN bN cN))), (6, .int (nCut (qX di iN aN bN cN))), (9, .int (nI t2)), (0, .ref (ad 87)), (1, .int (nI iN)), (2, .int (nI aN)), (3, .int (nI bN)), (4, .int (nI cN)), (5, .int q)]) dX12_sees_140 (by decide) rfl ?_
              refine gj_aload_n C 0 dX12_sees_142 rfl 4 rfl ?_
              refine gj_iconst C (v := 1) (by decide) dX12_sees_143 ?_
              refine gj_iload_n C 1 dX12_sees_144 rfl 5 rfl ?_
              refine gj_iload C dX12_sees_145 2 rfl ?_
              refine gj_iload C dX12_sees_147 1 rfl ?_
              refine gj_iload C dX12_sees_149 2 rfl ?_
              refine gj_if_ne C 168 dX12_sees_151 (by decide) (fun c_10 => ?_) (fun c_10 => ?_)
              · refine gj_iload C dX12_sees_168 0 rfl ?_
                refine gj_callVv C mi_X12_lays w_990 87 (by decide) hc0 rfl (c_X12_lays (1 : Int32) (nI iN) (nCut (qX di iN aN bN cN)) (nCut (qY di iN aN bN cN)) (nCut (qZ di iN aN bN)) la dr go lo ma pa tu su di hc0 hc1 (dIn_1 (by omega))) mc_X12_lays ⟨Nat.le_of_ble_eq_true rfl, Nat.le_of_ble_eq_true rfl⟩ (rest := []) rfl (Nat.le_of_ble_eq_true rfl) dX12_sees_170 (fun u h => ?_)
                subst h
                exact RT _ _ _ (by rw [show see0 iN aN bN cN di = dLay di iN (nCut (qX di iN aN bN cN)) (nCut (qY di iN aN bN cN)) (nCut (qZ di iN aN bN)) from rfl]; unfold dLay; rw [show zFix (nCut (qX di iN aN bN cN)) (nCut (qY di iN aN bN cN)) (nCut (qZ di iN aN bN)) = (nCut (qZ di iN aN bN)) from (if_neg c_10).trans (rfl)]) dX12_sees_173
              · refine gj_iload C dX12_sees_154 1 rfl ?_
                refine gj_if_ne C 168 dX12_sees_156 (by decide) (fun c_11 => ?_) (fun c_11 => ?_)
                · refine gj_iload C dX12_sees_168 0 rfl ?_
                  refine gj_callVv C mi_X12_lays w_990 87 (by decide) hc0 rfl (c_X12_lays (1 : Int32) (nI iN) (nCut (qX di iN aN bN cN)) (nCut (qY di iN aN bN cN)) (nCut (qZ di iN aN bN)) la dr go lo ma pa tu su di hc0 hc1 (dIn_1 (by omega))) mc_X12_lays ⟨Nat.le_of_ble_eq_true rfl, Nat.le_of_ble_eq_true rfl⟩ (rest := []) rfl (Nat.le_of_ble_eq_true rfl) dX12_sees_170 (fun u h => ?_)
                  subst h
                  exact RT _ _ _ (by rw [show see0 iN aN bN cN di = dLay di iN (nCut (qX di iN aN bN cN)) (nCut (qY di iN aN bN cN)) (nCut (qZ di iN aN bN)) from rfl]; unfold dLay; rw [show zFix (nCut (qX di iN aN bN cN)) (nCut (qY di iN aN bN cN)) (nCut (qZ di iN aN bN)) = (nCut (qZ di iN aN bN)) from (if_pos c_10).trans ((if_neg c_11).trans (rfl))]) dX12_sees_173
                · refine gj_iload C dX12_sees_159 0 rfl ?_
                  refine gj_if_ne C 168 dX12_sees_161 (by decide) (fun c_12 => ?_) (fun c_12 => ?_)
                  · refine gj_iload C dX12_sees_168 0 rfl ?_
                    refine gj_callVv C mi_X12_lays w_990 87 (by decide) hc0 rfl (c_X12_lays (1 : Int32) (nI iN) (nCut (qX di iN aN bN cN)) (nCut (qY di iN aN bN cN)) (nCut (qZ di iN aN bN)) la dr go lo ma pa tu su di hc0 hc1 (dIn_1 (by omega))) mc_X12_lays ⟨Nat.le_of_ble_eq_true rfl, Nat.le_of_ble_eq_true rfl⟩ (rest := []) rfl (Nat.le_of_ble_eq_true rfl) dX12_sees_170 (fun u h => ?_)
                    subst h
                    exact RT _ _ _ (by rw [show see0 iN aN bN cN di = dLay di iN (nCut (qX di iN aN bN cN)) (nCut (qY di iN aN bN cN)) (nCut (qZ di iN aN bN)) from rfl]; unfold dLay; rw [show zFix (nCut (qX di iN aN bN cN)) (nCut (qY di iN aN bN cN)) (nCut (qZ di iN aN bN)) = (nCut (qZ di iN aN bN)) from (if_pos c_10).trans ((if_pos c_11).trans ((if_neg c_12).trans (rfl)))]) dX12_sees_173
                  · refine gj_iconst C (v := 1) (by decide) dX12_sees_164 ?_
                    refine gj_goto C 170 dX12_sees_165 (by decide) ?_
                    refine gj_callVv C mi_X12_lays w_990 87 (by decide) hc0 rfl (c_X12_lays (1 : Int32) (nI iN) (nCut (qX di iN aN bN cN)) (nCut (qY di iN aN bN cN)) (1 : Int32) la dr go lo ma pa tu su di hc0 hc1 (dIn_1 (by omega))) mc_X12_lays ⟨Nat.le_of_ble_eq_true rfl, Nat.le_of_ble_eq_true rfl⟩ (rest := []) rfl (Nat.le_of_ble_eq_true rfl) dX12_sees_170 (fun u h => ?_)
                    subst h
                    exact RT _ _ _ (by rw [show see0 iN aN bN cN di = dLay di iN (nCut (qX di iN aN bN cN)) (nCut (qY di iN aN bN cN)) (nCut (qZ di iN aN bN)) from rfl]; unfold dLay; rw [show zFix (nCut (qX di iN aN bN cN)) (nCut (qY di iN aN bN cN)) (nCut (qZ di iN aN bN)) = 1 from (if_pos c_10).trans ((if_pos c_11).trans ((if_pos c_12).trans (rfl)))]) dX12_sees_173
            | succ m2 ih_8 =>
              intro t2 hk_t2  
              refine gj_iload C dX12_sees_86 0 rfl ?_
              refine gj_iload C dX12_sees_88 8 rfl ?_
              refine gj_icmp_ge C 112 dX12_sees_90 (by decide) (fun c_13 => absurd c_13 (nI_ge (by omega) (by omega))) (fun c_13 => ?_)
              refine gj_iload C dX12_sees_93 3 rfl ?_
              refine gj_istore C (lv' := [(10, .int ((r3 (r2 (oX di iN) (r1 (oY di iN) (oZ di iN) aN).2 bN).1 (r1 (oY di iN) (oZ di iN) aN).1 t2).1)), (9, .int (nI t2)), (8, .int ((r2 (oX di iN) (r1 (oY di iN) (oZ di iN) aN).2 bN).2)), (7, .int ((r3 (r2 (oX di iN) (r1 (oY di iN) (oZ di iN) aN).2 bN).1 (r1 (oY di iN) (oZ di iN) aN).1 t2).2)), (6, .int ((r3 (r2 (oX di iN) (r1 (oY di iN) (oZ di iN) aN).2 bN).1 (r1 (oY di iN) (oZ di iN) aN).1 t2).1)), (0, .ref (ad 87)), (1, .int (nI iN)), (2, .int (nI aN)), (3, .int (nI bN)), (4, .int (nI cN)), (5, .int q)]) dX12_sees_95 (by decide) rfl ?_
              refine gj_iload C dX12_sees_97 3 rfl ?_
              refine gj_ineg C dX12_sees_99 ?_
              refine gj_istore C (lv' := [(6, .int (-((r3 (r2 (oX di iN) (r1 (oY di iN) (oZ di iN) aN).2 bN).1 (r1 (oY di iN) (oZ di iN) aN).1 t2).2))), (10, .int ((r3 (r2 (oX di iN) (r1 (oY di iN) (oZ di iN) aN).2 bN).1 (r1 (oY di iN) (oZ di iN) aN).1 t2).1)), (9, .int (nI t2)), (8, .int ((r2 (oX di iN) (r1 (oY di iN) (oZ di iN) aN).2 bN).2)), (7, .int ((r3 (r2 (oX di iN) (r1 (oY di iN) (oZ di iN) aN).2 bN).1 (r1 (oY di iN) (oZ di iN) aN).1 t2).2)), (0, .ref (ad 87)), (1, .int (nI iN)), (2, .int (nI aN)), (3, .int (nI bN)), (4, .int (nI cN)), (5, .int q)]) dX12_sees_100 (by decide) rfl ?_
              refine gj_iload C dX12_sees_102 1 rfl ?_
              refine gj_istore C (lv' := [(7, .int ((r3 (r2 (oX di iN) (r1 (oY di iN) (oZ di iN) aN).2 bN).1 (r1 (oY di iN) (oZ di iN) aN).1 t2).1)), (6, .int (-((r3 (r2 (oX di iN) (r1 (oY di iN) (oZ di iN) aN).2 bN).1 (r1 (oY di iN) (oZ di iN) aN).1 t2).2))), (10, .int ((r3 (r2 (oX di iN) (r1 (oY di iN) (oZ di iN) aN).2 bN).1 (r1 (oY di iN) (oZ di iN) aN).1 t2).1)), (9, .int (nI t2)), (8, .int ((r2 (oX di iN) (r1 (oY di iN) (oZ di iN) aN).2 bN).2)), (0, .ref (ad 87)), (1, .int (nI iN)), (2, .int (nI aN)), (3, .int (nI bN)), (4, .int (nI cN)), (5, .int q)]) dX12_sees_104 (by decide) rfl ?_
              refine gj_iinc C (v := nI (t2 + 1)) (lv' := [(9, .int (nI (t2 + 1))), (7, .int ((r3 (r2 (oX di iN) (r1 (oY di iN) (oZ di iN) aN).2 bN).1 (r1 (oY di iN) (oZ di iN) aN).1 t2).1)), (6, .int (-((r3 (r2 (oX di iN) (r1 (oY di iN) (oZ di iN) aN).2 bN).1 (r1 (oY di iN) (oZ di iN) aN).1 t2).2))), (10, .int ((r3 (r2 (oX di iN) (r1 (oY di iN) (oZ di iN) aN).2 bN).1 (r1 (oY di iN) (oZ di iN) aN).1 t2).1)), (8, .int ((r2 (oX di iN) (r1 (oY di iN) (oZ di iN) aN).2 bN).2)), (0, .ref (ad 87)), (1, .int (nI iN)), (2, .int (nI aN)), (3, .int (nI bN)), (4, .int (nI cN)), (5, .int q)]) dX12_sees_106 3 rfl (nI_1 _) (by decide) rfl ?_
              refine gj_goto C 86 dX12_sees_109 (by decide) ?_
              refine gj_lv [0, 4, 1, 2, 5, 6, 7, 8, 9, 10] rfl ?_
              exact ih_8 (t2 + 1) (by omega)
          refine gj_lv [0, 1, 2, 3, 4, 5, 6, 7, 8, 9] rfl ?_
          exact loop_7 (cN - 0) 0 (by omega)
        | succ m1 ih_5 =>
          intro t1 hk_t1  
          refine gj_iload C dX12_sees_58 0 rfl ?_
          refine gj_iload_n C 3 dX12_sees_60 rfl 7 rfl ?_
          refine gj_icmp_ge C 83 dX12_sees_61 (by decide) (fun c_14 => absurd c_14 (nI_ge (by omega) (by omega))) (fun c_14 => ?_)
          refine gj_iload C dX12_sees_64 3 rfl ?_
          refine gj_istore C (lv' := [(10, .int ((r2 (oX di iN) (r1 (oY di iN) (oZ di iN) aN).2 t1).1)), (9, .int (nI t1)), (8, .int ((r2 (oX di iN) (r1 (oY di iN) (oZ di iN) aN).2 t1).2)), (7, .int ((r1 (oY di iN) (oZ di iN) aN).1)), (6, .int ((r2 (oX di iN) (r1 (oY di iN) (oZ di iN) aN).2 t1).1)), (0, .ref (ad 87)), (1, .int (nI iN)), (2, .int (nI aN)), (3, .int (nI bN)), (4, .int (nI cN)), (5, .int q)]) dX12_sees_66 (by decide) rfl ?_
          refine gj_iload C dX12_sees_68 2 rfl ?_
          refine gj_istore C (lv' := [(6, .int ((r2 (oX di iN) (r1 (oY di iN) (oZ di iN) aN).2 t1).2)), (10, .int ((r2 (oX di iN) (r1 (oY di iN) (oZ di iN) aN).2 t1).1)), (9, .int (nI t1)), (8, .int ((r2 (oX di iN) (r1 (oY di iN) (oZ di iN) aN).2 t1).2)), (7, .int ((r1 (oY di iN) (oZ di iN) aN).1)), (0, .ref (ad 87)), (1, .int (nI iN)), (2, .int (nI aN)), (3, .int (nI bN)), (4, .int (nI cN)), (5, .int q)]) dX12_sees_70 (by decide) rfl ?_
          refine gj_iload C dX12_sees_72 1 rfl ?_
          refine gj_ineg C dX12_sees_74 ?_
          refine gj_istore C (lv' := [(8, .int (-((r2 (oX di iN) (r1 (oY di iN) (oZ di iN) aN).2 t1).1))), (6, .int ((r2 (oX di iN) (r1 (oY di iN) (oZ di iN) aN).2 t1).2)), (10, .int ((r2 (oX di iN) (r1 (oY di iN) (oZ di iN) aN).2 t1).1)), (9, .int (nI t1)), (7, .int ((r1 (oY di iN) (oZ di iN) aN).1)), (0, .ref (ad 87)), (1, .int (nI iN)), (2, .int (nI aN)), (3, .int (nI bN)), (4, .int (nI cN)), (5, .int q)]) dX12_sees_75 (by decide) rfl ?_
          refine gj_iinc C (v := nI (t1 + 1)) (lv' := [(9, .int (nI (t1 + 1))), (8, .int (-((r2 (oX di iN) (r1 (oY di iN) (oZ di iN) aN).2 t1).1))), (6, .int ((r2 (oX di iN) (r1 (oY di iN) (oZ di iN) aN).2 t1).2)), (10, .int ((r2 (oX di iN) (r1 (oY di iN) (oZ di iN) aN).2 t1).1)), (7, .int ((r1 (oY di iN) (oZ di iN) aN).1)), (0, .ref (ad 87)), (1, .int (nI iN)), (2, .int (nI aN)), (3, .int (nI bN)), (4, .int (nI cN)), (5, .int q)]) dX12_sees_77 3 rfl (nI_1 _) (by decide) rfl ?_
          refine gj_goto C 58 dX12_sees_80 (by decide) ?_
          refine gj_lv [0, 1, 4, 2, 5, 6, 7, 8, 9, 10] rfl ?_
          exact ih_5 (t1 + 1) (by omega)
      refine gj_lv [0, 1, 2, 3, 4, 5, 6, 7, 8, 9] rfl ?_
      exact loop_4 (bN - 0) 0 (by omega)
    | succ m0 ih_2 =>
      intro t0 hk_t0  
      refine gj_iload C dX12_sees_30 0 rfl ?_
      refine gj_iload_n C 2 dX12_sees_32 rfl 6 rfl ?_
      refine gj_icmp_ge C 55 dX12_sees_33 (by decide) (fun c_15 => absurd c_15 (nI_ge (by omega) (by omega))) (fun c_15 => ?_)
      refine gj_iload C dX12_sees_36 2 rfl ?_
      refine gj_istore C (lv' := [(10, .int ((r1 (oY di iN) (oZ di iN) t0).1)), (9, .int (nI t0)), (8, .int ((r1 (oY di iN) (oZ di iN) t0).2)), (7, .int ((r1 (oY di iN) (oZ di iN) t0).1)), (6, .int (oX di iN)), (0, .ref (ad 87)), (1, .int (nI iN)), (2, .int (nI aN)), (3, .int (nI bN)), (4, .int (nI cN)), (5, .int q)]) dX12_sees_38 (by decide) rfl ?_
      refine gj_iload C dX12_sees_40 2 rfl ?_
      refine gj_ineg C dX12_sees_42 ?_
      refine gj_istore C (lv' := [(7, .int (-((r1 (oY di iN) (oZ di iN) t0).2))), (10, .int ((r1 (oY di iN) (oZ di iN) t0).1)), (9, .int (nI t0)), (8, .int ((r1 (oY di iN) (oZ di iN) t0).2)), (6, .int (oX di iN)), (0, .ref (ad 87)), (1, .int (nI iN)), (2, .int (nI aN)), (3, .int (nI bN)), (4, .int (nI cN)), (5, .int q)]) dX12_sees_43 (by decide) rfl ?_
      refine gj_iload C dX12_sees_45 1 rfl ?_
      refine gj_istore C (lv' := [(8, .int ((r1 (oY di iN) (oZ di iN) t0).1)), (7, .int (-((r1 (oY di iN) (oZ di iN) t0).2))), (10, .int ((r1 (oY di iN) (oZ di iN) t0).1)), (9, .int (nI t0)), (6, .int (oX di iN)), (0, .ref (ad 87)), (1, .int (nI iN)), (2, .int (nI aN)), (3, .int (nI bN)), (4, .int (nI cN)), (5, .int q)]) dX12_sees_47 (by decide) rfl ?_
      refine gj_iinc C (v := nI (t0 + 1)) (lv' := [(9, .int (nI (t0 + 1))), (8, .int ((r1 (oY di iN) (oZ di iN) t0).1)), (7, .int (-((r1 (oY di iN) (oZ di iN) t0).2))), (10, .int ((r1 (oY di iN) (oZ di iN) t0).1)), (6, .int (oX di iN)), (0, .ref (ad 87)), (1, .int (nI iN)), (2, .int (nI aN)), (3, .int (nI bN)), (4, .int (nI cN)), (5, .int q)]) dX12_sees_49 3 rfl (nI_1 _) (by decide) rfl ?_
      refine gj_goto C 30 dX12_sees_52 (by decide) ?_
      refine gj_lv [0, 1, 2, 4, 5, 6, 7, 8, 9, 10] rfl ?_
      exact ih_2 (t0 + 1) (by omega)
  refine gj_lv [0, 1, 2, 3, 4, 5, 6, 7, 8, 9] rfl ?_
  exact loop_1 (aN - 0) 0 (by omega)
set_option maxHeartbeats 400000 in
set_option maxRecDepth 100000 in
theorem c_X12_sees1 {l : Launch} {D : va_G} {ca ss ad : Nat → Nat} {f : Nat → va_E}  (iN : Nat) (aN : Nat) (bN : Nat) (cN : Nat) (q : Int32) (la : Int32) (dr : Int32) (go : Int32) (lo : Int32) (ma : Int32) (pa : Int32) (tu : Int32) (su : Int32) (di : Nat → Int32) (hc0 : f 87 = .inr (11, mF ad la dr go lo ma pa tu su)) (hc1 : f 92 = .inl (ca 0, 60, .inl di)) (hi : iN < 8) (hq : ¬ q = 0) (h2 : ¬ 2 * q + 1 = 0) (ha : aN ≤ 3) (hb : bN ≤ 3) (hc : cN ≤ 3) : gMv l D ca ss ad 108 yX12_sees cX12_sees 11 none 2 f [.ref (ad 87), .int (nI iN), .int (nI aN), .int (nI bN), .int (nI cN), .int q] (fun u => u = va_up (va_up f 87 (.inr (11, mF ad la (nDraw (nDraw (nDraw dr))) go lo ma pa tu su))) 92 (.inl (ca 0, 60, .inl (see1 iN aN bN cN q dr di)))) := by
  refine gMv_ofK (by decide +kernel) (Nat.le_of_ble_eq_true rfl) (lv0 := [(0, .ref (ad 87)), (1, .int (nI iN)), (2, .int (nI aN)), (3, .int (nI bN)), (4, .int (nI cN)), (5, .int q)]) rfl (fun pT eT sT mT aT below meth cT AT QT C RT => ?_)
  have C : gX pT sT mT aT meth cT AT D ca ss 11 RX12 cX12_sees none := C
  refine gj_aload_n C 0 dX12_sees_0 rfl 0 rfl ?_
  refine gj_iconst C (v := 0) (by decide) dX12_sees_1 ?_
  refine gj_iload_n C 1 dX12_sees_2 rfl 1 rfl ?_
  refine gj_iconst C (v := 0) (by decide) dX12_sees_3 ?_
  refine gj_callVi C mi_X12_of w_1006 87 (by decide) hc0 rfl (c_X12_of (0 : Int32) (nI iN) (0 : Int32) la dr go lo ma pa tu su di hc0 hc1 (dIn_0 (by omega)) w0) mc_X12_of ⟨Nat.le_of_ble_eq_true rfl, Nat.le_of_ble_eq_true rfl⟩ (rest := []) rfl (Nat.le_of_ble_eq_true rfl) dX12_sees_4 (fun r u h => ?_)
  obtain ⟨hr_, h⟩ := h; rw [hr_]
  rw [h]
  refine gj_seti (y := (oX di iN)) rfl ?_
  refine gj_istore C (lv' := [(6, .int (oX di iN)), (0, .ref (ad 87)), (1, .int (nI iN)), (2, .int (nI aN)), (3, .int (nI bN)), (4, .int (nI cN)), (5, .int q)]) dX12_sees_7 (by decide) rfl ?_
  refine gj_aload_n C 0 dX12_sees_9 rfl 1 rfl ?_
  refine gj_iconst C (v := 0) (by decide) dX12_sees_10 ?_
  refine gj_iload_n C 1 dX12_sees_11 rfl 2 rfl ?_
  refine gj_iconst C (v := 1) (by decide) dX12_sees_12 ?_
  refine gj_callVi C mi_X12_of w_1006 87 (by decide) hc0 rfl (c_X12_of (0 : Int32) (nI iN) (1 : Int32) la dr go lo ma pa tu su di hc0 hc1 (dIn_0 (by omega)) w1) mc_X12_of ⟨Nat.le_of_ble_eq_true rfl, Nat.le_of_ble_eq_true rfl⟩ (rest := []) rfl (Nat.le_of_ble_eq_true rfl) dX12_sees_13 (fun r u h => ?_)
  obtain ⟨hr_, h⟩ := h; rw [hr_]
  rw [h]
  refine gj_seti (y := (oY di iN)) rfl ?_
  refine gj_istore C (lv' := [(7, .int (oY di iN)), (6, .int (oX di iN)), (0, .ref (ad 87)), (1, .int (nI iN)), (2, .int (nI aN)), (3, .int (nI bN)), (4, .int (nI cN)), (5, .int q)]) dX12_sees_16 (by decide) rfl ?_
  refine gj_aload_n C 0 dX12_sees_18 rfl 2 rfl ?_
  refine gj_iconst C (v := 0) (by decide) dX12_sees_19 ?_
  refine gj_iload_n C 1 dX12_sees_20 rfl 3 rfl ?_
  refine gj_iconst C (v := 2) (by decide) dX12_sees_21 ?_
  refine gj_callVi C mi_X12_of w_1006 87 (by decide) hc0 rfl (c_X12_of (0 : Int32) (nI iN) (2 : Int32) la dr go lo ma pa tu su di hc0 hc1 (dIn_0 (by omega)) w2) mc_X12_of ⟨Nat.le_of_ble_eq_true rfl, Nat.le_of_ble_eq_true rfl⟩ (rest := []) rfl (Nat.le_of_ble_eq_true rfl) dX12_sees_22 (fun r u h => ?_)
  obtain ⟨hr_, h⟩ := h; rw [hr_]
  rw [h]
  refine gj_seti (y := (oZ di iN)) rfl ?_
  refine gj_istore C (lv' := [(8, .int (oZ di iN)), (7, .int (oY di iN)), (6, .int (oX di iN)), (0, .ref (ad 87)), (1, .int (nI iN)), (2, .int (nI aN)), (3, .int (nI bN)), (4, .int (nI cN)), (5, .int q)]) dX12_sees_25 (by decide) rfl ?_
  refine gj_iconst C (v := 0) (by decide) dX12_sees_27 ?_
  refine gj_seti (y := nI 0) rfl ?_
  refine gj_istore C (lv' := [(9, .int (nI 0)), (8, .int (oZ di iN)), (7, .int (oY di iN)), (6, .int (oX di iN)), (0, .ref (ad 87)), (1, .int (nI iN)), (2, .int (nI aN)), (3, .int (nI bN)), (4, .int (nI cN)), (5, .int q)]) dX12_sees_28 (by decide) rfl ?_
  have loop_1 : ∀ (m0 t0 : Nat), t0 + m0 = aN → gJ pT l eT (Rm 2) sT mT aT below meth cT AT QT D ad 108 11 (f) [(9, .int (nI t0)), (8, .int ((r1 (oY di iN) (oZ di iN) t0).2)), (7, .int ((r1 (oY di iN) (oZ di iN) t0).1)), (6, .int (oX di iN)), (0, .ref (ad 87)), (1, .int (nI iN)), (2, .int (nI aN)), (3, .int (nI bN)), (4, .int (nI cN)), (5, .int q)] 30 [] := by
    intro m0
    induction m0 with
    | zero =>
      intro t0 hk_t0  
      refine gj_iload C dX12_sees_30 0 rfl ?_
      refine gj_iload_n C 2 dX12_sees_32 rfl 6 rfl ?_
      refine gj_icmp_ge C 55 dX12_sees_33 (by decide) (fun c_3 => ?_) (fun c_3 => absurd (nI_le (by omega) (by omega)) c_3)
      refine gj_lvs (lv' := [(9, .int (nI t0)), (8, .int ((r1 (oY di iN) (oZ di iN) aN).2)), (7, .int ((r1 (oY di iN) (oZ di iN) aN).1)), (6, .int (oX di iN)), (0, .ref (ad 87)), (1, .int (nI iN)), (2, .int (nI aN)), (3, .int (nI bN)), (4, .int (nI cN)), (5, .int q)]) (by obtain rfl : t0 = aN := (by omega); rfl) ?_
      refine gj_iconst C (v := 0) (by decide) dX12_sees_55 ?_
      refine gj_seti (y := nI 0) rfl ?_
      refine gj_istore C (lv' := [(9, .int (nI 0)), (8, .int ((r1 (oY di iN) (oZ di iN) aN).2)), (7, .int ((r1 (oY di iN) (oZ di iN) aN).1)), (6, .int (oX di iN)), (0, .ref (ad 87)), (1, .int (nI iN)), (2, .int (nI aN)), (3, .int (nI bN)), (4, .int (nI cN)), (5, .int q)]) dX12_sees_56 (by decide) rfl ?_
      have loop_4 : ∀ (m1 t1 : Nat), t1 + m1 = bN → gJ pT l eT (Rm 2) sT mT aT below meth cT AT QT D ad 108 11 (f) [(9, .int (nI t1)), (8, .int ((r2 (oX di iN) (r1 (oY di iN) (oZ di iN) aN).2 t1).2)), (7, .int ((r1 (oY di iN) (oZ di iN) aN).1)), (6, .int ((r2 (oX di iN) (r1 (oY di iN) (oZ di iN) aN).2 t1).1)), (0, .ref (ad 87)), (1, .int (nI iN)), (2, .int (nI aN)), (3, .int (nI bN)), (4, .int (nI cN)), (5, .int q)] 58 [] := by
        intro m1
        induction m1 with
        | zero =>
          intro t1 hk_t1  
          refine gj_iload C dX12_sees_58 0 rfl ?_
          refine gj_iload_n C 3 dX12_sees_60 rfl 7 rfl ?_
          refine gj_icmp_ge C 83 dX12_sees_61 (by decide) (fun c_6 => ?_) (fun c_6 => absurd (nI_le (by omega) (by omega)) c_6)
          refine gj_lvs (lv' := [(9, .int (nI t1)), (8, .int ((r2 (oX di iN) (r1 (oY di iN) (oZ di iN) aN).2 bN).2)), (7, .int ((r1 (oY di iN) (oZ di iN) aN).1)), (6, .int ((r2 (oX di iN) (r1 (oY di iN) (oZ di iN) aN).2 bN).1)), (0, .ref (ad 87)), (1, .int (nI iN)), (2, .int (nI aN)), (3, .int (nI bN)), (4, .int (nI cN)), (5, .int q)]) (by obtain rfl : t1 = bN := (by omega); rfl) ?_
          refine gj_iconst C (v := 0) (by decide) dX12_sees_83 ?_
          refine gj_seti (y := nI 0) rfl ?_
          refine gj_istore C (lv' := [(9, .int (nI 0)), (8, .int ((r2 (oX di iN) (r1 (oY di iN) (oZ di iN) aN).2 bN).2)), (7, .int ((r1 (oY di iN) (oZ di iN) aN).1)), (6, .int ((r2 (oX di iN) (r1 (oY di iN) (oZ di iN) aN).2 bN).1)), (0, .ref (ad 87)), (1, .int (nI iN)), (2, .int (nI aN)), (3, .int (nI bN)), (4, .int (nI cN)), (5, .int q)]) dX12_sees_84 (by decide) rfl ?_
          have loop_7 : ∀ (m2 t2 : Nat), t2 + m2 = cN → gJ pT l eT (Rm 2) sT mT aT below meth cT AT QT D ad 108 11 (f) [(9, .int (nI t2)), (8, .int ((r2 (oX di iN) (r1 (oY di iN) (oZ di iN) aN).2 bN).2)), (7, .int ((r3 (r2 (oX di iN) (r1 (oY di iN) (oZ di iN) aN).2 bN).1 (r1 (oY di iN) (oZ di iN) aN).1 t2).2)), (6, .int ((r3 (r2 (oX di iN) (r1 (oY di iN) (oZ di iN) aN).2 bN).1 (r1 (oY di iN) (oZ di iN) aN).1 t2).1)), (0, .ref (ad 87)), (1, .int (nI iN)), (2, .int (nI aN)), (3, .int (nI bN)), (4, .int (nI cN)), (5, .int q)] 86 [] := by
            intro m2
            induction m2 with
            | zero =>
              intro t2 hk_t2  
              refine gj_iload C dX12_sees_86 0 rfl ?_
              refine gj_iload C dX12_sees_88 8 rfl ?_
              refine gj_icmp_ge C 112 dX12_sees_90 (by decide) (fun c_9 => ?_) (fun c_9 => absurd (nI_le (by omega) (by omega)) c_9)
              refine gj_lvs (lv' := [(9, .int (nI t2)), (8, .int (qZ di iN aN bN)), (7, .int (qY di iN aN bN cN)), (6, .int (qX di iN aN bN cN)), (0, .ref (ad 87)), (1, .int (nI iN)), (2, .int (nI aN)), (3, .int (nI bN)), (4, .int (nI cN)), (5, .int q)]) (by obtain rfl : t2 = cN := (by omega); rfl) ?_
              refine gj_aload_n C 0 dX12_sees_112 rfl 4 rfl ?_
              refine gj_iload C dX12_sees_113 3 rfl ?_
              refine gj_iload C dX12_sees_115 9 rfl ?_
              refine gj_callVi C mi_X12_noisy w_1026 87 (by decide) hc0 rfl (c_X12_noisy1 (qX di iN aN bN cN) q la dr go lo ma pa tu su hc0 hq h2) mc_X12_noisy ⟨Nat.le_of_ble_eq_true rfl, Nat.le_of_ble_eq_true rfl⟩ (rest := []) rfl (Nat.le_of_ble_eq_true rfl) dX12_sees_117 (fun r u h => ?_)
              obtain ⟨hr_, hu_⟩ := h; rw [hr_]; subst hu_
              refine gj_setf (g := va_up f 87 (.inr (11, mF ad la (nDraw dr) go lo ma pa tu su))) rfl ?_
              refine gj_seti (y := nNoise (qX di iN aN bN cN) q dr) rfl ?_
              refine gj_istore C (lv' := [(6, .int (nNoise (qX di iN aN bN cN) q dr)), (9, .int (nI t2)), (8, .int (qZ di iN aN bN)), (7, .int (qY di iN aN bN cN)), (0, .ref (ad 87)), (1, .int (nI iN)), (2, .int (nI aN)), (3, .int (nI bN)), (4, .int (nI cN)), (5, .int q)]) dX12_sees_120 (by decide) rfl ?_
              refine gj_aload_n C 0 dX12_sees_122 rfl 4 rfl ?_
              refine gj_iload C dX12_sees_123 3 rfl ?_
              refine gj_iload C dX12_sees_125 9 rfl ?_
              refine gj_callVi C mi_X12_noisy w_1026 87 (by decide) (va_up_self _ _ _) rfl (c_X12_noisy1 (qY di iN aN bN cN) q la (nDraw dr) go lo ma pa tu su (va_up_self _ _ _) hq h2) mc_X12_noisy ⟨Nat.le_of_ble_eq_true rfl, Nat.le_of_ble_eq_true rfl⟩ (rest := []) rfl (Nat.le_of_ble_eq_true rfl) dX12_sees_127 (fun r u h => ?_)
              obtain ⟨hr_, hu_⟩ := h; rw [hr_]; subst hu_
              refine gj_setf (bx_uu _ _ _ _) ?_
              refine gj_setf (g := va_up f 87 (.inr (11, mF ad la (nDraw (nDraw dr)) go lo ma pa tu su))) rfl ?_
              refine gj_seti (y := nNoise (qY di iN aN bN cN) q (nDraw dr)) rfl ?_
              refine gj_istore C (lv' := [(7, .int (nNoise (qY di iN aN bN cN) q (nDraw dr))), (6, .int (nNoise (qX di iN aN bN cN) q dr)), (9, .int (nI t2)), (8, .int (qZ di iN aN bN)), (0, .ref (ad 87)), (1, .int (nI iN)), (2, .int (nI aN)), (3, .int (nI bN)), (4, .int (nI cN)), (5, .int q)]) dX12_sees_130 (by decide) rfl ?_
              refine gj_aload_n C 0 dX12_sees_132 rfl 4 rfl ?_
              refine gj_iload C dX12_sees_133 3 rfl ?_
              refine gj_iload C dX12_sees_135 9 rfl ?_
              refine gj_callVi C mi_X12_noisy w_1026 87 (by decide) (va_up_self _ _ _) rfl (c_X12_noisy1 (qZ di iN aN bN) q la (nDraw (nDraw dr)) go lo ma pa tu su (va_up_self _ _ _) hq h2) mc_X12_noisy ⟨Nat.le_of_ble_eq_true rfl, Nat.le_of_ble_eq_true rfl⟩ (rest := []) rfl (Nat.le_of_ble_eq_true rfl) dX12_sees_137 (fun r u h => ?_)
              obtain ⟨hr_, hu_⟩ := h; rw [hr_]; subst hu_
              refine gj_setf (bx_uu _ _ _ _) ?_
              refine gj_setf (g := va_up f 87 (.inr (11, mF ad la (nDraw (nDraw (nDraw dr))) go lo ma pa tu su))) rfl ?_
              refine gj_seti (y := nNoise (qZ di iN aN bN) q (nDraw (nDraw dr))) rfl ?_
              refine gj_istore C (lv' := [(8, .int (nNoise (qZ di iN aN bN) q (nDraw (nDraw dr)))), (7, .int (nNoise (qY di iN aN bN cN) q (nDraw dr))), (6, .int (nNoise (qX di iN aN bN cN) q dr)), (9, .int (nI t2)), (0, .ref (ad 87)), (1, .int (nI iN)), (2, .int (nI aN)), (3, .int (nI bN)), (4, .int (nI cN)), (5, .int q)]) dX12_sees_140 (by decide) rfl ?_
              refine gj_aload_n C 0 dX12_sees_142 rfl 4 rfl ?_
              refine gj_iconst C (v := 1) (by decide) dX12_sees_143 ?_
              refine gj_iload_n C 1 dX12_sees_144 rfl 5 rfl ?_
              refine gj_iload C dX12_sees_145 2 rfl ?_
              refine gj_iload C dX12_sees_147 1 rfl ?_
              refine gj_iload C dX12_sees_149 2 rfl ?_
              refine gj_if_ne C 168 dX12_sees_151 (by decide) (fun c_10 => ?_) (fun c_10 => ?_)
              · refine gj_iload C dX12_sees_168 0 rfl ?_
                refine gj_callVv C mi_X12_lays w_990 87 (by decide) (va_up_self _ _ _) rfl (c_X12_lays (1 : Int32) (nI iN) (nNoise (qX di iN aN bN cN) q dr) (nNoise (qY di iN aN bN cN) q (nDraw dr)) (nNoise (qZ di iN aN bN) q (nDraw (nDraw dr))) la (nDraw (nDraw (nDraw dr))) go lo ma pa tu su di (va_up_self _ _ _) (up_nx (by decide) (hc1)) (dIn_1 (by omega))) mc_X12_lays ⟨Nat.le_of_ble_eq_true rfl, Nat.le_of_ble_eq_true rfl⟩ (rest := []) rfl (Nat.le_of_ble_eq_true rfl) dX12_sees_170 (fun u h => ?_)
                subst h
                exact RT _ _ _ (by rw [show see1 iN aN bN cN q dr di = dLay di iN (nNoise (qX di iN aN bN cN) q dr) (nNoise (qY di iN aN bN cN) q (nDraw dr)) (nNoise (qZ di iN aN bN) q (nDraw (nDraw dr))) from rfl]; unfold dLay; rw [show zFix (nNoise (qX di iN aN bN cN) q dr) (nNoise (qY di iN aN bN cN) q (nDraw dr)) (nNoise (qZ di iN aN bN) q (nDraw (nDraw dr))) = (nNoise (qZ di iN aN bN) q (nDraw (nDraw dr))) from (if_neg c_10).trans (rfl)]) dX12_sees_173
              · refine gj_iload C dX12_sees_154 1 rfl ?_
                refine gj_if_ne C 168 dX12_sees_156 (by decide) (fun c_11 => ?_) (fun c_11 => ?_)
                · refine gj_iload C dX12_sees_168 0 rfl ?_
                  refine gj_callVv C mi_X12_lays w_990 87 (by decide) (va_up_self _ _ _) rfl (c_X12_lays (1 : Int32) (nI iN) (nNoise (qX di iN aN bN cN) q dr) (nNoise (qY di iN aN bN cN) q (nDraw dr)) (nNoise (qZ di iN aN bN) q (nDraw (nDraw dr))) la (nDraw (nDraw (nDraw dr))) go lo ma pa tu su di (va_up_self _ _ _) (up_nx (by decide) (hc1)) (dIn_1 (by omega))) mc_X12_lays ⟨Nat.le_of_ble_eq_true rfl, Nat.le_of_ble_eq_true rfl⟩ (rest := []) rfl (Nat.le_of_ble_eq_true rfl) dX12_sees_170 (fun u h => ?_)
                  subst h
                  exact RT _ _ _ (by rw [show see1 iN aN bN cN q dr di = dLay di iN (nNoise (qX di iN aN bN cN) q dr) (nNoise (qY di iN aN bN cN) q (nDraw dr)) (nNoise (qZ di iN aN bN) q (nDraw (nDraw dr))) from rfl]; unfold dLay; rw [show zFix (nNoise (qX di iN aN bN cN) q dr) (nNoise (qY di iN aN bN cN) q (nDraw dr)) (nNoise (qZ di iN aN bN) q (nDraw (nDraw dr))) = (nNoise (qZ di iN aN bN) q (nDraw (nDraw dr))) from (if_pos c_10).trans ((if_neg c_11).trans (rfl))]) dX12_sees_173
                · refine gj_iload C dX12_sees_159 0 rfl ?_
                  refine gj_if_ne C 168 dX12_sees_161 (by decide) (fun c_12 => ?_) (fun c_12 => ?_)
                  · refine gj_iload C dX12_sees_168 0 rfl ?_
                    refine gj_callVv C mi_X12_lays w_990 87 (by decide) (va_up_self _ _ _) rfl (c_X12_lays (1 : Int32) (nI iN) (nNoise (qX di iN aN bN cN) q dr) (nNoise (qY di iN aN bN cN) q (nDraw dr)) (nNoise (qZ di iN aN bN) q (nDraw (nDraw dr))) la (nDraw (nDraw (nDraw dr))) go lo ma pa tu su di (va_up_self _ _ _) (up_nx (by decide) (hc1)) (dIn_1 (by omega))) mc_X12_lays ⟨Nat.le_of_ble_eq_true rfl, Nat.le_of_ble_eq_true rfl⟩ (rest := []) rfl (Nat.le_of_ble_eq_true rfl) dX12_sees_170 (fun u h => ?_)
                    subst h
                    exact RT _ _ _ (by rw [show see1 iN aN bN cN q dr di = dLay di iN (nNoise (qX di iN aN bN cN) q dr) (nNoise (qY di iN aN bN cN) q (nDraw dr)) (nNoise (qZ di iN aN bN) q (nDraw (nDraw dr))) from rfl]; unfold dLay; rw [show zFix (nNoise (qX di iN aN bN cN) q dr) (nNoise (qY di iN aN bN cN) q (nDraw dr)) (nNoise (qZ di iN aN bN) q (nDraw (nDraw dr))) = (nNoise (qZ di iN aN bN) q (nDraw (nDraw dr))) from (if_pos c_10).trans ((if_pos c_11).trans ((if_neg c_12).trans (rfl)))]) dX12_sees_173
                  · refine gj_iconst C (v := 1) (by decide) dX12_sees_164 ?_
                    refine gj_goto C 170 dX12_sees_165 (by decide) ?_
                    refine gj_callVv C mi_X12_lays w_990 87 (by decide) (va_up_self _ _ _) rfl (c_X12_lays (1 : Int32) (nI iN) (nNoise (qX di iN aN bN cN) q dr) (nNoise (qY di iN aN bN cN) q (nDraw dr)) (1 : Int32) la (nDraw (nDraw (nDraw dr))) go lo ma pa tu su di (va_up_self _ _ _) (up_nx (by decide) (hc1)) (dIn_1 (by omega))) mc_X12_lays ⟨Nat.le_of_ble_eq_true rfl, Nat.le_of_ble_eq_true rfl⟩ (rest := []) rfl (Nat.le_of_ble_eq_true rfl) dX12_sees_170 (fun u h => ?_)
                    subst h
                    exact RT _ _ _ (by rw [show see1 iN aN bN cN q dr di = dLay di iN (nNoise (qX di iN aN bN cN) q dr) (nNoise (qY di iN aN bN cN) q (nDraw dr)) (nNoise (qZ di iN aN bN) q (nDraw (nDraw dr))) from rfl]; unfold dLay; rw [show zFix (nNoise (qX di iN aN bN cN) q dr) (nNoise (qY di iN aN bN cN) q (nDraw dr)) (nNoise (qZ di iN aN bN) q (nDraw (nDraw dr))) = 1 from (if_pos c_10).trans ((if_pos c_11).trans ((if_pos c_12).trans (rfl)))]) dX12_sees_173
            | succ m2 ih_8 =>
              intro t2 hk_t2  
              refine gj_iload C dX12_sees_86 0 rfl ?_
              refine gj_iload C dX12_sees_88 8 rfl ?_
              refine gj_icmp_ge C 112 dX12_sees_90 (by decide) (fun c_13 => absurd c_13 (nI_ge (by omega) (by omega))) (fun c_13 => ?_)
              refine gj_iload C dX12_sees_93 3 rfl ?_
              refine gj_istore C (lv' := [(10, .int ((r3 (r2 (oX di iN) (r1 (oY di iN) (oZ di iN) aN).2 bN).1 (r1 (oY di iN) (oZ di iN) aN).1 t2).1)), (9, .int (nI t2)), (8, .int ((r2 (oX di iN) (r1 (oY di iN) (oZ di iN) aN).2 bN).2)), (7, .int ((r3 (r2 (oX di iN) (r1 (oY di iN) (oZ di iN) aN).2 bN).1 (r1 (oY di iN) (oZ di iN) aN).1 t2).2)), (6, .int ((r3 (r2 (oX di iN) (r1 (oY di iN) (oZ di iN) aN).2 bN).1 (r1 (oY di iN) (oZ di iN) aN).1 t2).1)), (0, .ref (ad 87)), (1, .int (nI iN)), (2, .int (nI aN)), (3, .int (nI bN)), (4, .int (nI cN)), (5, .int q)]) dX12_sees_95 (by decide) rfl ?_
              refine gj_iload C dX12_sees_97 3 rfl ?_
              refine gj_ineg C dX12_sees_99 ?_
              refine gj_istore C (lv' := [(6, .int (-((r3 (r2 (oX di iN) (r1 (oY di iN) (oZ di iN) aN).2 bN).1 (r1 (oY di iN) (oZ di iN) aN).1 t2).2))), (10, .int ((r3 (r2 (oX di iN) (r1 (oY di iN) (oZ di iN) aN).2 bN).1 (r1 (oY di iN) (oZ di iN) aN).1 t2).1)), (9, .int (nI t2)), (8, .int ((r2 (oX di iN) (r1 (oY di iN) (oZ di iN) aN).2 bN).2)), (7, .int ((r3 (r2 (oX di iN) (r1 (oY di iN) (oZ di iN) aN).2 bN).1 (r1 (oY di iN) (oZ di iN) aN).1 t2).2)), (0, .ref (ad 87)), (1, .int (nI iN)), (2, .int (nI aN)), (3, .int (nI bN)), (4, .int (nI cN)), (5, .int q)]) dX12_sees_100 (by decide) rfl ?_
              refine gj_iload C dX12_sees_102 1 rfl ?_
              refine gj_istore C (lv' := [(7, .int ((r3 (r2 (oX di iN) (r1 (oY di iN) (oZ di iN) aN).2 bN).1 (r1 (oY di iN) (oZ di iN) aN).1 t2).1)), (6, .int (-((r3 (r2 (oX di iN) (r1 (oY di iN) (oZ di iN) aN).2 bN).1 (r1 (oY di iN) (oZ di iN) aN).1 t2).2))), (10, .int ((r3 (r2 (oX di iN) (r1 (oY di iN) (oZ di iN) aN).2 bN).1 (r1 (oY di iN) (oZ di iN) aN).1 t2).1)), (9, .int (nI t2)), (8, .int ((r2 (oX di iN) (r1 (oY di iN) (oZ di iN) aN).2 bN).2)), (0, .ref (ad 87)), (1, .int (nI iN)), (2, .int (nI aN)), (3, .int (nI bN)), (4, .int (nI cN)), (5, .int q)]) dX12_sees_104 (by decide) rfl ?_
              refine gj_iinc C (v := nI (t2 + 1)) (lv' := [(9, .int (nI (t2 + 1))), (7, .int ((r3 (r2 (oX di iN) (r1 (oY di iN) (oZ di iN) aN).2 bN).1 (r1 (oY di iN) (oZ di iN) aN).1 t2).1)), (6, .int (-((r3 (r2 (oX di iN) (r1 (oY di iN) (oZ di iN) aN).2 bN).1 (r1 (oY di iN) (oZ di iN) aN).1 t2).2))), (10, .int ((r3 (r2 (oX di iN) (r1 (oY di iN) (oZ di iN) aN).2 bN).1 (r1 (oY di iN) (oZ di iN) aN).1 t2).1)), (8, .int ((r2 (oX di iN) (r1 (oY di iN) (oZ di iN) aN).2 bN).2)), (0, .ref (ad 87)), (1, .int (nI iN)), (2, .int (nI aN)), (3, .int (nI bN)), (4, .int (nI cN)), (5, .int q)]) dX12_sees_106 3 rfl (nI_1 _) (by decide) rfl ?_
              refine gj_goto C 86 dX12_sees_109 (by decide) ?_
              refine gj_lv [0, 4, 1, 2, 5, 6, 7, 8, 9, 10] rfl ?_
              exact ih_8 (t2 + 1) (by omega)
          refine gj_lv [0, 1, 2, 3, 4, 5, 6, 7, 8, 9] rfl ?_
          exact loop_7 (cN - 0) 0 (by omega)
        | succ m1 ih_5 =>
          intro t1 hk_t1  
          refine gj_iload C dX12_sees_58 0 rfl ?_
          refine gj_iload_n C 3 dX12_sees_60 rfl 7 rfl ?_
          refine gj_icmp_ge C 83 dX12_sees_61 (by decide) (fun c_14 => absurd c_14 (nI_ge (by omega) (by omega))) (fun c_14 => ?_)
          refine gj_iload C dX12_sees_64 3 rfl ?_
          refine gj_istore C (lv' := [(10, .int ((r2 (oX di iN) (r1 (oY di iN) (oZ di iN) aN).2 t1).1)), (9, .int (nI t1)), (8, .int ((r2 (oX di iN) (r1 (oY di iN) (oZ di iN) aN).2 t1).2)), (7, .int ((r1 (oY di iN) (oZ di iN) aN).1)), (6, .int ((r2 (oX di iN) (r1 (oY di iN) (oZ di iN) aN).2 t1).1)), (0, .ref (ad 87)), (1, .int (nI iN)), (2, .int (nI aN)), (3, .int (nI bN)), (4, .int (nI cN)), (5, .int q)]) dX12_sees_66 (by decide) rfl ?_
          refine gj_iload C dX12_sees_68 2 rfl ?_
          refine gj_istore C (lv' := [(6, .int ((r2 (oX di iN) (r1 (oY di iN) (oZ di iN) aN).2 t1).2)), (10, .int ((r2 (oX di iN) (r1 (oY di iN) (oZ di iN) aN).2 t1).1)), (9, .int (nI t1)), (8, .int ((r2 (oX di iN) (r1 (oY di iN) (oZ di iN) aN).2 t1).2)), (7, .int ((r1 (oY di iN) (oZ di iN) aN).1)), (0, .ref (ad 87)), (1, .int (nI iN)), (2, .int (nI aN)), (3, .int (nI bN)), (4, .int (nI cN)), (5, .int q)]) dX12_sees_70 (by decide) rfl ?_
          refine gj_iload C dX12_sees_72 1 rfl ?_
          refine gj_ineg C dX12_sees_74 ?_
          refine gj_istore C (lv' := [(8, .int (-((r2 (oX di iN) (r1 (oY di iN) (oZ di iN) aN).2 t1).1))), (6, .int ((r2 (oX di iN) (r1 (oY di iN) (oZ di iN) aN).2 t1).2)), (10, .int ((r2 (oX di iN) (r1 (oY di iN) (oZ di iN) aN).2 t1).1)), (9, .int (nI t1)), (7, .int ((r1 (oY di iN) (oZ di iN) aN).1)), (0, .ref (ad 87)), (1, .int (nI iN)), (2, .int (nI aN)), (3, .int (nI bN)), (4, .int (nI cN)), (5, .int q)]) dX12_sees_75 (by decide) rfl ?_
          refine gj_iinc C (v := nI (t1 + 1)) (lv' := [(9, .int (nI (t1 + 1))), (8, .int (-((r2 (oX di iN) (r1 (oY di iN) (oZ di iN) aN).2 t1).1))), (6, .int ((r2 (oX di iN) (r1 (oY di iN) (oZ di iN) aN).2 t1).2)), (10, .int ((r2 (oX di iN) (r1 (oY di iN) (oZ di iN) aN).2 t1).1)), (7, .int ((r1 (oY di iN) (oZ di iN) aN).1)), (0, .ref (ad 87)), (1, .int (nI iN)), (2, .int (nI aN)), (3, .int (nI bN)), (4, .int (nI cN)), (5, .int q)]) dX12_sees_77 3 rfl (nI_1 _) (by decide) rfl ?_
          refine gj_goto C 58 dX12_sees_80 (by decide) ?_
          refine gj_lv [0, 1, 4, 2, 5, 6, 7, 8, 9, 10] rfl ?_
          exact ih_5 (t1 + 1) (by omega)
      refine gj_lv [0, 1, 2, 3, 4, 5, 6, 7, 8, 9] rfl ?_
      exact loop_4 (bN - 0) 0 (by omega)
    | succ m0 ih_2 =>
      intro t0 hk_t0  
      refine gj_iload C dX12_sees_30 0 rfl ?_
      refine gj_iload_n C 2 dX12_sees_32 rfl 6 rfl ?_
      refine gj_icmp_ge C 55 dX12_sees_33 (by decide) (fun c_15 => absurd c_15 (nI_ge (by omega) (by omega))) (fun c_15 => ?_)
      refine gj_iload C dX12_sees_36 2 rfl ?_
      refine gj_istore C (lv' := [(10, .int ((r1 (oY di iN) (oZ di iN) t0).1)), (9, .int (nI t0)), (8, .int ((r1 (oY di iN) (oZ di iN) t0).2)), (7, .int ((r1 (oY di iN) (oZ di iN) t0).1)), (6, .int (oX di iN)), (0, .ref (ad 87)), (1, .int (nI iN)), (2, .int (nI aN)), (3, .int (nI bN)), (4, .int (nI cN)), (5, .int q)]) dX12_sees_38 (by decide) rfl ?_
      refine gj_iload C dX12_sees_40 2 rfl ?_
      refine gj_ineg C dX12_sees_42 ?_
      refine gj_istore C (lv' := [(7, .int (-((r1 (oY di iN) (oZ di iN) t0).2))), (10, .int ((r1 (oY di iN) (oZ di iN) t0).1)), (9, .int (nI t0)), (8, .int ((r1 (oY di iN) (oZ di iN) t0).2)), (6, .int (oX di iN)), (0, .ref (ad 87)), (1, .int (nI iN)), (2, .int (nI aN)), (3, .int (nI bN)), (4, .int (nI cN)), (5, .int q)]) dX12_sees_43 (by decide) rfl ?_
      refine gj_iload C dX12_sees_45 1 rfl ?_
      refine gj_istore C (lv' := [(8, .int ((r1 (oY di iN) (oZ di iN) t0).1)), (7, .int (-((r1 (oY di iN) (oZ di iN) t0).2))), (10, .int ((r1 (oY di iN) (oZ di iN) t0).1)), (9, .int (nI t0)), (6, .int (oX di iN)), (0, .ref (ad 87)), (1, .int (nI iN)), (2, .int (nI aN)), (3, .int (nI bN)), (4, .int (nI cN)), (5, .int q)]) dX12_sees_47 (by decide) rfl ?_
      refine gj_iinc C (v := nI (t0 + 1)) (lv' := [(9, .int (nI (t0 + 1))), (8, .int ((r1 (oY di iN) (oZ di iN) t0).1)), (7, .int (-((r1 (oY di iN) (oZ di iN) t0).2))), (10, .int ((r1 (oY di iN) (oZ di iN) t0).1)), (6, .int (oX di iN)), (0, .ref (ad 87)), (1, .int (nI iN)), (2, .int (nI aN)), (3, .int (nI bN)), (4, .int (nI cN)), (5, .int q)]) dX12_sees_49 3 rfl (nI_1 _) (by decide) rfl ?_
      refine gj_goto C 30 dX12_sees_52 (by decide) ?_
      refine gj_lv [0, 1, 2, 4, 5, 6, 7, 8, 9, 10] rfl ?_
      exact ih_2 (t0 + 1) (by omega)
  refine gj_lv [0, 1, 2, 3, 4, 5, 6, 7, 8, 9] rfl ?_
  exact loop_1 (aN - 0) 0 (by omega)
