/-! the digest: h becomes 31 h and a number -/
def hh (h : Int64) (x : Int32) : Int64 := 31 * h + x.toInt64
def dV (vo : Nat → Int32) (p : Nat) (h : Int64) : Nat → Int64
  | 0 => h
  | i + 1 => hh (dV vo p h i) (vo (12 * p + i))
def dP (so ro su fa vo : Nat → Int32) (n p : Nat) (h : Int64) : Int64 := dV vo p (hh (hh (hh (hh h (s_X12_takenBy (nI p) (0 : Int32) so ro)) (s_X12_takenBy (nI p) (1 : Int32) so ro)) (s_X12_confirmedBy (nI p) (0 : Int32) su fa)) (s_X12_confirmedBy (nI p) (1 : Int32) su fa)) n
def dS (so ro su fa vo : Nat → Int32) (n : Nat) (h : Int64) : Nat → Int64
  | 0 => h
  | p + 1 => dP so ro su fa vo n p (dS so ro su fa vo n h p)
def dI (tu : Int32) (pl di mn se : Nat → Int32) (i : Nat) (h : Int64) : Int64 := hh (hh (hh (hh (hh (hh h (s_X12_placeBy (nI i) (0 : Int32) tu pl)) (s_X12_placeBy (nI i) (1 : Int32) tu pl)) (s_X12_placeBy (nI i) (2 : Int32) tu pl)) (s_X12_key (0 : Int32) (0 : Int32) (1 : Int32) (nI i) (0 : Int32) di mn se)) (s_X12_key (0 : Int32) (0 : Int32) (1 : Int32) (nI i) (1 : Int32) di mn se)) (s_X12_key (0 : Int32) (0 : Int32) (1 : Int32) (nI i) (2 : Int32) di mn se)
def dB (tu : Int32) (pl di mn se : Nat → Int32) (h : Int64) : Nat → Int64
  | 0 => h
  | i + 1 => dI tu pl di mn se i (dB tu pl di mn se h i)
def dSky (so ro su fa vo : Nat → Int32) (tu : Int32) (pl di mn se : Nat → Int32) (n n1 : Nat) (h : Int64) : Int64 := dB tu pl di mn se (dS so ro su fa vo n h n1) n
theorem pb_c {tu : Int32} {pl pl' : Nat → Int32} {i w n : Nat} (h : tu = 0 ∨ ∀ j, j < 3 * n → pl j = pl' j) (hi : i < n) (hn : n ≤ 12) (hw : w < 3) : s_X12_placeBy (nI i) (nI w) tu pl = s_X12_placeBy (nI i) (nI w) tu pl' := by
  unfold s_X12_placeBy
  by_cases q : tu = 0
  · rw [if_pos q, if_pos q]
  · rw [if_neg q, if_neg q, ix3_cl (by omega) hw]
    rcases h with z | z
    · exact absurd z q
    · exact z _ (by omega)
theorem dB_c {tu : Int32} {pl pl' di mn se : Nat → Int32} {h : Int64} {n : Nat} (hc : tu = 0 ∨ ∀ j, j < 3 * n → pl j = pl' j) (hn : n ≤ 12) : ∀ i, i ≤ n → dB tu pl di mn se h i = dB tu pl' di mn se h i
  | 0, _ => rfl
  | i + 1, hi => by
    show dI tu pl di mn se i (dB tu pl di mn se h i) = dI tu pl' di mn se i (dB tu pl' di mn se h i)
    rw [dB_c hc hn i (by omega)]
    unfold dI
    rw [show (s_X12_placeBy (nI i) (0 : Int32) tu pl) = _ from pb_c (w := 0) hc (by omega) hn (by omega), show (s_X12_placeBy (nI i) (1 : Int32) tu pl) = _ from pb_c (w := 1) hc (by omega) hn (by omega), show (s_X12_placeBy (nI i) (2 : Int32) tu pl) = _ from pb_c (w := 2) hc (by omega) hn (by omega)]
    rfl

set_option maxHeartbeats 400000 in
set_option maxRecDepth 100000 in
theorem c_X12_tellsSky {l : Launch} {D : va_G} {ca ss ad : Nat → Nat} {f : Nat → va_E}  (hv : Int64) (la : Int32) (dr : Int32) (go : Int32) (lo : Int32) (ma : Int32) (pa : Int32) (tu : Int32) (su : Int32) (di : Nat → Int32) (mn : Nat → Int32) (se : Nat → Int32) (vo : Nat → Int32) (so : Nat → Int32) (ro : Nat → Int32) (pl : Nat → Int32) (su_ : Nat → Int32) (fa : Nat → Int32) (n0 : Nat) (n1 : Nat) (hc0 : f 87 = .inr (11, mF ad la dr go lo ma pa tu su)) (hc1 : f 92 = .inl (ca 0, 60, .inl di)) (hc2 : f 93 = .inl (ca 0, 2, .inl mn)) (hc3 : f 94 = .inl (ca 0, 4, .inl se)) (hc4 : f 95 = .inl (ca 0, 96, .inl vo)) (hc5 : f 96 = .inl (ca 0, 8, .inl so)) (hc6 : f 97 = .inl (ca 0, 8, .inl ro)) (hc7 : f 102 = .inl (ca 0, 36, .inl pl)) (hc8 : f 103 = .inl (ca 0, 8, .inl su_)) (hc9 : f 104 = .inl (ca 0, 8, .inl fa)) (h0 : mn 0 = nI n0) (h1 : mn 1 = nI n1) (hn : n0 ≤ 12) (hn1 : n1 ≤ 8) (hz : ¬ se 0 = 0) : gMl l D ca ss ad 108 yX12_tellsSky cX12_tellsSky 7 (some .long) 5 f [.ref (ad 87), .long hv] (fun r u => r = dSky so ro su_ fa vo tu pl di mn se n0 n1 hv ∧ u = f) := by
  refine gMl_ofK (by decide +kernel) (Nat.le_of_ble_eq_true rfl) (lv0 := [(0, .ref (ad 87)), (1, .long hv)]) rfl (fun pT eT sT mT aT below meth cT AT QT C RT => ?_)
  have C : gX pT sT mT aT meth cT AT D ca ss 7 RX12 cX12_tellsSky (some .long) := C
  refine gj_lload_n C 1 dX12_tellsSky_0 rfl 1 rfl ?_
  refine gj_lstore_n C (lv' := [(3, .long hv), (0, .ref (ad 87)), (1, .long hv)]) 3 dX12_tellsSky_1 rfl (by decide) rfl ?_
  refine gj_iconst C (v := 0) (by decide) dX12_tellsSky_2 ?_
  refine gj_seti (y := nI 0) rfl ?_
  refine gj_istore C (lv' := [(5, .int (nI 0)), (3, .long hv), (0, .ref (ad 87)), (1, .long hv)]) dX12_tellsSky_3 (by decide) rfl ?_
  refine gj_lvs (lv' := [(5, .int (nI 0)), (3, .long (dS so ro su_ fa vo n0 hv 0)), (0, .ref (ad 87)), (1, .long hv)]) rfl ?_
  have loop_1 : ∀ (m0 t0 : Nat), t0 + m0 = n1 → gJ pT l eT (Rm 5) sT mT aT below meth cT AT QT D ad 108 7 (f) [(5, .int (nI t0)), (3, .long (dS so ro su_ fa vo n0 hv t0)), (0, .ref (ad 87)), (1, .long hv)] 5 [] := by
    intro m0
    induction m0 with
    | zero =>
      intro t0 hk_t0  
      refine gj_iload C dX12_tellsSky_5 0 rfl ?_
      refine gj_aload_n C 0 dX12_tellsSky_7 rfl 2 rfl ?_
      refine gj_get C 87 (by decide) hc0 inX12 rfl 6 (by decide) w_855 (v := .ref (ad 93)) rfl dX12_tellsSky_8 ?_
      refine gj_iconst C (v := 1) (by decide) dX12_tellsSky_11 ?_
      refine gj_iald C 93 (by decide) hc2 (by unfold vp_in; decide) dX12_tellsSky_12 ?_
      refine gj_seti h1 ?_
      refine gj_icmp_ge C 125 dX12_tellsSky_13 (by decide) (fun c_3 => ?_) (fun c_3 => absurd (nI_le (by omega) (by omega)) c_3)
      refine gj_iconst C (v := 0) (by decide) dX12_tellsSky_125 ?_
      refine gj_seti (y := nI 0) rfl ?_
      refine gj_istore C (lv' := [(5, .int (nI 0)), (3, .long (dS so ro su_ fa vo n0 hv t0)), (0, .ref (ad 87)), (1, .long hv)]) dX12_tellsSky_126 (by decide) rfl ?_
      refine gj_lvs (lv' := [(5, .int (nI 0)), (3, .long (dB tu pl di mn se (dS so ro su_ fa vo n0 hv n1) 0)), (0, .ref (ad 87)), (1, .long hv)]) (by obtain rfl : t0 = n1 := (by omega); rfl) ?_
      have loop_4 : ∀ (m2 t2 : Nat), t2 + m2 = n0 → gJ pT l eT (Rm 5) sT mT aT below meth cT AT QT D ad 108 7 (f) [(5, .int (nI t2)), (3, .long (dB tu pl di mn se (dS so ro su_ fa vo n0 hv n1) t2)), (0, .ref (ad 87)), (1, .long hv)] 128 [] := by
        intro m2
        induction m2 with
        | zero =>
          intro t2 hk_t2  
          refine gj_iload C dX12_tellsSky_128 0 rfl ?_
          refine gj_aload_n C 0 dX12_tellsSky_130 rfl 2 rfl ?_
          refine gj_get C 87 (by decide) hc0 inX12 rfl 6 (by decide) w_855 (v := .ref (ad 93)) rfl dX12_tellsSky_131 ?_
          refine gj_iconst C (v := 0) (by decide) dX12_tellsSky_134 ?_
          refine gj_iald C 93 (by decide) hc2 (by unfold vp_in; decide) dX12_tellsSky_135 ?_
          refine gj_seti h0 ?_
          refine gj_icmp_ge C 210 dX12_tellsSky_136 (by decide) (fun c_6 => ?_) (fun c_6 => absurd (nI_le (by omega) (by omega)) c_6)
          refine gj_lload_n C 3 dX12_tellsSky_210 rfl 1 rfl ?_
          exact RT _ _ _ _ ⟨(by obtain rfl : t2 = n0 := (by omega); rfl), rfl⟩ dX12_tellsSky_211
        | succ m2 ih_5 =>
          intro t2 hk_t2  
          refine gj_iload C dX12_tellsSky_128 0 rfl ?_
          refine gj_aload_n C 0 dX12_tellsSky_130 rfl 2 rfl ?_
          refine gj_get C 87 (by decide) hc0 inX12 rfl 6 (by decide) w_855 (v := .ref (ad 93)) rfl dX12_tellsSky_131 ?_
          refine gj_iconst C (v := 0) (by decide) dX12_tellsSky_134 ?_
          refine gj_iald C 93 (by decide) hc2 (by unfold vp_in; decide) dX12_tellsSky_135 ?_
          refine gj_seti h0 ?_
          refine gj_icmp_ge C 210 dX12_tellsSky_136 (by decide) (fun c_7 => absurd c_7 (nI_ge (by omega) (by omega))) (fun c_7 => ?_)
          refine gj_iconst C (v := 0) (by decide) dX12_tellsSky_139 ?_
          refine gj_istore C (lv' := [(6, .int 0), (5, .int (nI t2)), (3, .long (dB tu pl di mn se (dS so ro su_ fa vo n0 hv n1) t2)), (0, .ref (ad 87)), (1, .long hv)]) dX12_tellsSky_140 (by decide) rfl ?_
          refine gj_iload C dX12_tellsSky_142 0 rfl ?_
          refine gj_iconst C (v := 3) (by decide) dX12_tellsSky_144 ?_
          refine gj_icmp_ge C 170 dX12_tellsSky_145 (by decide) (fun c_8 => absurd c_8 (by decide)) (fun c_8 => ?_)
          refine gj_ldc2 C (v := 31) w_1260 dX12_tellsSky_148 ?_
          refine gj_lload_n C 3 dX12_tellsSky_151 rfl 2 rfl ?_
          refine gj_lmul C dX12_tellsSky_152 ?_
          refine gj_aload_n C 0 dX12_tellsSky_153 rfl 3 rfl ?_
          refine gj_iload C dX12_tellsSky_154 1 rfl ?_
          refine gj_iload C dX12_tellsSky_156 0 rfl ?_
          refine gj_callVi C mi_X12_placeBy w_1160 87 (by decide) hc0 rfl (c_X12_placeBy (nI t2) (0 : Int32) la dr go lo ma pa tu su pl hc0 hc7 (fun _ => ix3_in (k := 0) (by omega) (by omega))) mc_X12_placeBy ⟨Nat.le_of_ble_eq_true rfl, Nat.le_of_ble_eq_true rfl⟩ (rest := [.long (31 * (dB tu pl di mn se (dS so ro su_ fa vo n0 hv n1) t2))]) rfl (Nat.le_of_ble_eq_true rfl) dX12_tellsSky_158 (fun r u h => ?_)
          obtain ⟨hr_, h⟩ := h; rw [hr_]
          rw [h]
          refine gj_i2l C dX12_tellsSky_161 ?_
          refine gj_ladd C dX12_tellsSky_162 ?_
          refine gj_lstore_n C (lv' := [(3, .long ((31 * (dB tu pl di mn se (dS so ro su_ fa vo n0 hv n1) t2)) + ((s_X12_placeBy (nI t2) (0 : Int32) tu pl).toInt64))), (6, .int 0), (5, .int (nI t2)), (0, .ref (ad 87)), (1, .long hv)]) 3 dX12_tellsSky_163 rfl (by decide) rfl ?_
          refine gj_iinc C (v := 1) (lv' := [(6, .int 1), (3, .long ((31 * (dB tu pl di mn se (dS so ro su_ fa vo n0 hv n1) t2)) + ((s_X12_placeBy (nI t2) (0 : Int32) tu pl).toInt64))), (5, .int (nI t2)), (0, .ref (ad 87)), (1, .long hv)]) dX12_tellsSky_164 1 rfl (by decide) (by decide) rfl ?_
          refine gj_goto C 142 dX12_tellsSky_167 (by decide) ?_
          refine gj_iload C dX12_tellsSky_142 0 rfl ?_
          refine gj_iconst C (v := 3) (by decide) dX12_tellsSky_144 ?_
          refine gj_icmp_ge C 170 dX12_tellsSky_145 (by decide) (fun c_9 => absurd c_9 (by decide)) (fun c_9 => ?_)
          refine gj_ldc2 C (v := 31) w_1260 dX12_tellsSky_148 ?_
          refine gj_lload_n C 3 dX12_tellsSky_151 rfl 1 rfl ?_
          refine gj_lmul C dX12_tellsSky_152 ?_
          refine gj_aload_n C 0 dX12_tellsSky_153 rfl 3 rfl ?_
          refine gj_iload C dX12_tellsSky_154 2 rfl ?_
          refine gj_iload C dX12_tellsSky_156 0 rfl ?_
          refine gj_callVi C mi_X12_placeBy w_1160 87 (by decide) hc0 rfl (c_X12_placeBy (nI t2) (1 : Int32) la dr go lo ma pa tu su pl hc0 hc7 (fun _ => ix3_in (k := 1) (by omega) (by omega))) mc_X12_placeBy ⟨Nat.le_of_ble_eq_true rfl, Nat.le_of_ble_eq_true rfl⟩ (rest := [.long (31 * ((31 * (dB tu pl di mn se (dS so ro su_ fa vo n0 hv n1) t2)) + ((s_X12_placeBy (nI t2) (0 : Int32) tu pl).toInt64)))]) rfl (Nat.le_of_ble_eq_true rfl) dX12_tellsSky_158 (fun r u h => ?_)
          obtain ⟨hr_, h⟩ := h; rw [hr_]
          rw [h]
          refine gj_i2l C dX12_tellsSky_161 ?_
          refine gj_ladd C dX12_tellsSky_162 ?_
          refine gj_lstore_n C (lv' := [(3, .long ((31 * ((31 * (dB tu pl di mn se (dS so ro su_ fa vo n0 hv n1) t2)) + ((s_X12_placeBy (nI t2) (0 : Int32) tu pl).toInt64))) + ((s_X12_placeBy (nI t2) (1 : Int32) tu pl).toInt64))), (6, .int 1), (5, .int (nI t2)), (0, .ref (ad 87)), (1, .long hv)]) 3 dX12_tellsSky_163 rfl (by decide) rfl ?_
          refine gj_iinc C (v := 2) (lv' := [(6, .int 2), (3, .long ((31 * ((31 * (dB tu pl di mn se (dS so ro su_ fa vo n0 hv n1) t2)) + ((s_X12_placeBy (nI t2) (0 : Int32) tu pl).toInt64))) + ((s_X12_placeBy (nI t2) (1 : Int32) tu pl).toInt64))), (5, .int (nI t2)), (0, .ref (ad 87)), (1, .long hv)]) dX12_tellsSky_164 1 rfl (by decide) (by decide) rfl ?_
          refine gj_goto C 142 dX12_tellsSky_167 (by decide) ?_
          refine gj_iload C dX12_tellsSky_142 0 rfl ?_
          refine gj_iconst C (v := 3) (by decide) dX12_tellsSky_144 ?_
          refine gj_icmp_ge C 170 dX12_tellsSky_145 (by decide) (fun c_10 => absurd c_10 (by decide)) (fun c_10 => ?_)
          refine gj_ldc2 C (v := 31) w_1260 dX12_tellsSky_148 ?_
          refine gj_lload_n C 3 dX12_tellsSky_151 rfl 1 rfl ?_
          refine gj_lmul C dX12_tellsSky_152 ?_
          refine gj_aload_n C 0 dX12_tellsSky_153 rfl 3 rfl ?_
          refine gj_iload C dX12_tellsSky_154 2 rfl ?_
          refine gj_iload C dX12_tellsSky_156 0 rfl ?_
          refine gj_callVi C mi_X12_placeBy w_1160 87 (by decide) hc0 rfl (c_X12_placeBy (nI t2) (2 : Int32) la dr go lo ma pa tu su pl hc0 hc7 (fun _ => ix3_in (k := 2) (by omega) (by omega))) mc_X12_placeBy ⟨Nat.le_of_ble_eq_true rfl, Nat.le_of_ble_eq_true rfl⟩ (rest := [.long (31 * ((31 * ((31 * (dB tu pl di mn se (dS so ro su_ fa vo n0 hv n1) t2)) + ((s_X12_placeBy (nI t2) (0 : Int32) tu pl).toInt64))) + ((s_X12_placeBy (nI t2) (1 : Int32) tu pl).toInt64)))]) rfl (Nat.le_of_ble_eq_true rfl) dX12_tellsSky_158 (fun r u h => ?_)
          obtain ⟨hr_, h⟩ := h; rw [hr_]
          rw [h]
          refine gj_i2l C dX12_tellsSky_161 ?_
          refine gj_ladd C dX12_tellsSky_162 ?_
          refine gj_lstore_n C (lv' := [(3, .long ((31 * ((31 * ((31 * (dB tu pl di mn se (dS so ro su_ fa vo n0 hv n1) t2)) + ((s_X12_placeBy (nI t2) (0 : Int32) tu pl).toInt64))) + ((s_X12_placeBy (nI t2) (1 : Int32) tu pl).toInt64))) + ((s_X12_placeBy (nI t2) (2 : Int32) tu pl).toInt64))), (6, .int 2), (5, .int (nI t2)), (0, .ref (ad 87)), (1, .long hv)]) 3 dX12_tellsSky_163 rfl (by decide) rfl ?_
          refine gj_iinc C (v := 3) (lv' := [(6, .int 3), (3, .long ((31 * ((31 * ((31 * (dB tu pl di mn se (dS so ro su_ fa vo n0 hv n1) t2)) + ((s_X12_placeBy (nI t2) (0 : Int32) tu pl).toInt64))) + ((s_X12_placeBy (nI t2) (1 : Int32) tu pl).toInt64))) + ((s_X12_placeBy (nI t2) (2 : Int32) tu pl).toInt64))), (5, .int (nI t2)), (0, .ref (ad 87)), (1, .long hv)]) dX12_tellsSky_164 1 rfl (by decide) (by decide) rfl ?_
          refine gj_goto C 142 dX12_tellsSky_167 (by decide) ?_
          refine gj_iload C dX12_tellsSky_142 0 rfl ?_
          refine gj_iconst C (v := 3) (by decide) dX12_tellsSky_144 ?_
          refine gj_icmp_ge C 170 dX12_tellsSky_145 (by decide) (fun c_11 => ?_) (fun c_11 => absurd (by decide) c_11)
          refine gj_iconst C (v := 0) (by decide) dX12_tellsSky_170 ?_
          refine gj_istore C (lv' := [(6, .int 0), (3, .long ((31 * ((31 * ((31 * (dB tu pl di mn se (dS so ro su_ fa vo n0 hv n1) t2)) + ((s_X12_placeBy (nI t2) (0 : Int32) tu pl).toInt64))) + ((s_X12_placeBy (nI t2) (1 : Int32) tu pl).toInt64))) + ((s_X12_placeBy (nI t2) (2 : Int32) tu pl).toInt64))), (5, .int (nI t2)), (0, .ref (ad 87)), (1, .long hv)]) dX12_tellsSky_171 (by decide) rfl ?_
          refine gj_iload C dX12_tellsSky_173 0 rfl ?_
          refine gj_iconst C (v := 3) (by decide) dX12_tellsSky_175 ?_
          refine gj_icmp_ge C 204 dX12_tellsSky_176 (by decide) (fun c_12 => absurd c_12 (by decide)) (fun c_12 => ?_)
          refine gj_ldc2 C (v := 31) w_1260 dX12_tellsSky_179 ?_
          refine gj_lload_n C 3 dX12_tellsSky_182 rfl 1 rfl ?_
          refine gj_lmul C dX12_tellsSky_183 ?_
          refine gj_aload_n C 0 dX12_tellsSky_184 rfl 3 rfl ?_
          refine gj_iconst C (v := 0) (by decide) dX12_tellsSky_185 ?_
          refine gj_iconst C (v := 0) (by decide) dX12_tellsSky_186 ?_
          refine gj_iconst C (v := 1) (by decide) dX12_tellsSky_187 ?_
          refine gj_iload C dX12_tellsSky_188 2 rfl ?_
          refine gj_iload C dX12_tellsSky_190 0 rfl ?_
          refine gj_callVi C mi_X12_key w_1266 87 (by decide) hc0 rfl (c_X12_key (0 : Int32) (0 : Int32) (1 : Int32) (nI t2) (0 : Int32) la dr go lo ma pa tu su di mn se hc0 hc1 hc2 hc3 (mn_ok h0 h1 hn hn1) hz) mc_X12_key ⟨Nat.le_of_ble_eq_true rfl, Nat.le_of_ble_eq_true rfl⟩ (rest := [.long (31 * ((31 * ((31 * ((31 * (dB tu pl di mn se (dS so ro su_ fa vo n0 hv n1) t2)) + ((s_X12_placeBy (nI t2) (0 : Int32) tu pl).toInt64))) + ((s_X12_placeBy (nI t2) (1 : Int32) tu pl).toInt64))) + ((s_X12_placeBy (nI t2) (2 : Int32) tu pl).toInt64)))]) rfl (Nat.le_of_ble_eq_true rfl) dX12_tellsSky_192 (fun r u h => ?_)
          obtain ⟨hr_, h⟩ := h; rw [hr_]
          rw [h]
          refine gj_i2l C dX12_tellsSky_195 ?_
          refine gj_ladd C dX12_tellsSky_196 ?_
          refine gj_lstore_n C (lv' := [(3, .long ((31 * ((31 * ((31 * ((31 * (dB tu pl di mn se (dS so ro su_ fa vo n0 hv n1) t2)) + ((s_X12_placeBy (nI t2) (0 : Int32) tu pl).toInt64))) + ((s_X12_placeBy (nI t2) (1 : Int32) tu pl).toInt64))) + ((s_X12_placeBy (nI t2) (2 : Int32) tu pl).toInt64))) + ((s_X12_key (0 : Int32) (0 : Int32) (1 : Int32) (nI t2) (0 : Int32) di mn se).toInt64))), (6, .int 0), (5, .int (nI t2)), (0, .ref (ad 87)), (1, .long hv)]) 3 dX12_tellsSky_197 rfl (by decide) rfl ?_
          refine gj_iinc C (v := 1) (lv' := [(6, .int 1), (3, .long ((31 * ((31 * ((31 * ((31 * (dB tu pl di mn se (dS so ro su_ fa vo n0 hv n1) t2)) + ((s_X12_placeBy (nI t2) (0 : Int32) tu pl).toInt64))) + ((s_X12_placeBy (nI t2) (1 : Int32) tu pl).toInt64))) + ((s_X12_placeBy (nI t2) (2 : Int32) tu pl).toInt64))) + ((s_X12_key (0 : Int32) (0 : Int32) (1 : Int32) (nI t2) (0 : Int32) di mn se).toInt64))), (5, .int (nI t2)), (0, .ref (ad 87)), (1, .long hv)]) dX12_tellsSky_198 1 rfl (by decide) (by decide) rfl ?_
          refine gj_goto C 173 dX12_tellsSky_201 (by decide) ?_
          refine gj_iload C dX12_tellsSky_173 0 rfl ?_
          refine gj_iconst C (v := 3) (by decide) dX12_tellsSky_175 ?_
          refine gj_icmp_ge C 204 dX12_tellsSky_176 (by decide) (fun c_13 => absurd c_13 (by decide)) (fun c_13 => ?_)
          refine gj_ldc2 C (v := 31) w_1260 dX12_tellsSky_179 ?_
          refine gj_lload_n C 3 dX12_tellsSky_182 rfl 1 rfl ?_
          refine gj_lmul C dX12_tellsSky_183 ?_
          refine gj_aload_n C 0 dX12_tellsSky_184 rfl 3 rfl ?_
          refine gj_iconst C (v := 0) (by decide) dX12_tellsSky_185 ?_
          refine gj_iconst C (v := 0) (by decide) dX12_tellsSky_186 ?_
          refine gj_iconst C (v := 1) (by decide) dX12_tellsSky_187 ?_
          refine gj_iload C dX12_tellsSky_188 2 rfl ?_
          refine gj_iload C dX12_tellsSky_190 0 rfl ?_
          refine gj_callVi C mi_X12_key w_1266 87 (by decide) hc0 rfl (c_X12_key (0 : Int32) (0 : Int32) (1 : Int32) (nI t2) (1 : Int32) la dr go lo ma pa tu su di mn se hc0 hc1 hc2 hc3 (mn_ok h0 h1 hn hn1) hz) mc_X12_key ⟨Nat.le_of_ble_eq_true rfl, Nat.le_of_ble_eq_true rfl⟩ (rest := [.long (31 * ((31 * ((31 * ((31 * ((31 * (dB tu pl di mn se (dS so ro su_ fa vo n0 hv n1) t2)) + ((s_X12_placeBy (nI t2) (0 : Int32) tu pl).toInt64))) + ((s_X12_placeBy (nI t2) (1 : Int32) tu pl).toInt64))) + ((s_X12_placeBy (nI t2) (2 : Int32) tu pl).toInt64))) + ((s_X12_key (0 : Int32) (0 : Int32) (1 : Int32) (nI t2) (0 : Int32) di mn se).toInt64)))]) rfl (Nat.le_of_ble_eq_true rfl) dX12_tellsSky_192 (fun r u h => ?_)
          obtain ⟨hr_, h⟩ := h; rw [hr_]
          rw [h]
          refine gj_i2l C dX12_tellsSky_195 ?_
          refine gj_ladd C dX12_tellsSky_196 ?_
          refine gj_lstore_n C (lv' := [(3, .long ((31 * ((31 * ((31 * ((31 * ((31 * (dB tu pl di mn se (dS so ro su_ fa vo n0 hv n1) t2)) + ((s_X12_placeBy (nI t2) (0 : Int32) tu pl).toInt64))) + ((s_X12_placeBy (nI t2) (1 : Int32) tu pl).toInt64))) + ((s_X12_placeBy (nI t2) (2 : Int32) tu pl).toInt64))) + ((s_X12_key (0 : Int32) (0 : Int32) (1 : Int32) (nI t2) (0 : Int32) di mn se).toInt64))) + ((s_X12_key (0 : Int32) (0 : Int32) (1 : Int32) (nI t2) (1 : Int32) di mn se).toInt64))), (6, .int 1), (5, .int (nI t2)), (0, .ref (ad 87)), (1, .long hv)]) 3 dX12_tellsSky_197 rfl (by decide) rfl ?_
          refine gj_iinc C (v := 2) (lv' := [(6, .int 2), (3, .long ((31 * ((31 * ((31 * ((31 * ((31 * (dB tu pl di mn se (dS so ro su_ fa vo n0 hv n1) t2)) + ((s_X12_placeBy (nI t2) (0 : Int32) tu pl).toInt64))) + ((s_X12_placeBy (nI t2) (1 : Int32) tu pl).toInt64))) + ((s_X12_placeBy (nI t2) (2 : Int32) tu pl).toInt64))) + ((s_X12_key (0 : Int32) (0 : Int32) (1 : Int32) (nI t2) (0 : Int32) di mn se).toInt64))) + ((s_X12_key (0 : Int32) (0 : Int32) (1 : Int32) (nI t2) (1 : Int32) di mn se).toInt64))), (5, .int (nI t2)), (0, .ref (ad 87)), (1, .long hv)]) dX12_tellsSky_198 1 rfl (by decide) (by decide) rfl ?_
          refine gj_goto C 173 dX12_tellsSky_201 (by decide) ?_
          refine gj_iload C dX12_tellsSky_173 0 rfl ?_
          refine gj_iconst C (v := 3) (by decide) dX12_tellsSky_175 ?_
          refine gj_icmp_ge C 204 dX12_tellsSky_176 (by decide) (fun c_14 => absurd c_14 (by decide)) (fun c_14 => ?_)
          refine gj_ldc2 C (v := 31) w_1260 dX12_tellsSky_179 ?_
          refine gj_lload_n C 3 dX12_tellsSky_182 rfl 1 rfl ?_
          refine gj_lmul C dX12_tellsSky_183 ?_
          refine gj_aload_n C 0 dX12_tellsSky_184 rfl 3 rfl ?_
          refine gj_iconst C (v := 0) (by decide) dX12_tellsSky_185 ?_
          refine gj_iconst C (v := 0) (by decide) dX12_tellsSky_186 ?_
          refine gj_iconst C (v := 1) (by decide) dX12_tellsSky_187 ?_
          refine gj_iload C dX12_tellsSky_188 2 rfl ?_
          refine gj_iload C dX12_tellsSky_190 0 rfl ?_
          refine gj_callVi C mi_X12_key w_1266 87 (by decide) hc0 rfl (c_X12_key (0 : Int32) (0 : Int32) (1 : Int32) (nI t2) (2 : Int32) la dr go lo ma pa tu su di mn se hc0 hc1 hc2 hc3 (mn_ok h0 h1 hn hn1) hz) mc_X12_key ⟨Nat.le_of_ble_eq_true rfl, Nat.le_of_ble_eq_true rfl⟩ (rest := [.long (31 * ((31 * ((31 * ((31 * ((31 * ((31 * (dB tu pl di mn se (dS so ro su_ fa vo n0 hv n1) t2)) + ((s_X12_placeBy (nI t2) (0 : Int32) tu pl).toInt64))) + ((s_X12_placeBy (nI t2) (1 : Int32) tu pl).toInt64))) + ((s_X12_placeBy (nI t2) (2 : Int32) tu pl).toInt64))) + ((s_X12_key (0 : Int32) (0 : Int32) (1 : Int32) (nI t2) (0 : Int32) di mn se).toInt64))) + ((s_X12_key (0 : Int32) (0 : Int32) (1 : Int32) (nI t2) (1 : Int32) di mn se).toInt64)))]) rfl (Nat.le_of_ble_eq_true rfl) dX12_tellsSky_192 (fun r u h => ?_)
          obtain ⟨hr_, h⟩ := h; rw [hr_]
          rw [h]
          refine gj_i2l C dX12_tellsSky_195 ?_
          refine gj_ladd C dX12_tellsSky_196 ?_
          refine gj_lstore_n C (lv' := [(3, .long ((31 * ((31 * ((31 * ((31 * ((31 * ((31 * (dB tu pl di mn se (dS so ro su_ fa vo n0 hv n1) t2)) + ((s_X12_placeBy (nI t2) (0 : Int32) tu pl).toInt64))) + ((s_X12_placeBy (nI t2) (1 : Int32) tu pl).toInt64))) + ((s_X12_placeBy (nI t2) (2 : Int32) tu pl).toInt64))) + ((s_X12_key (0 : Int32) (0 : Int32) (1 : Int32) (nI t2) (0 : Int32) di mn se).toInt64))) + ((s_X12_key (0 : Int32) (0 : Int32) (1 : Int32) (nI t2) (1 : Int32) di mn se).toInt64))) + ((s_X12_key (0 : Int32) (0 : Int32) (1 : Int32) (nI t2) (2 : Int32) di mn se).toInt64))), (6, .int 2), (5, .int (nI t2)), (0, .ref (ad 87)), (1, .long hv)]) 3 dX12_tellsSky_197 rfl (by decide) rfl ?_
          refine gj_iinc C (v := 3) (lv' := [(6, .int 3), (3, .long ((31 * ((31 * ((31 * ((31 * ((31 * ((31 * (dB tu pl di mn se (dS so ro su_ fa vo n0 hv n1) t2)) + ((s_X12_placeBy (nI t2) (0 : Int32) tu pl).toInt64))) + ((s_X12_placeBy (nI t2) (1 : Int32) tu pl).toInt64))) + ((s_X12_placeBy (nI t2) (2 : Int32) tu pl).toInt64))) + ((s_X12_key (0 : Int32) (0 : Int32) (1 : Int32) (nI t2) (0 : Int32) di mn se).toInt64))) + ((s_X12_key (0 : Int32) (0 : Int32) (1 : Int32) (nI t2) (1 : Int32) di mn se).toInt64))) + ((s_X12_key (0 : Int32) (0 : Int32) (1 : Int32) (nI t2) (2 : Int32) di mn se).toInt64))), (5, .int (nI t2)), (0, .ref (ad 87)), (1, .long hv)]) dX12_tellsSky_198 1 rfl (by decide) (by decide) rfl ?_
          refine gj_goto C 173 dX12_tellsSky_201 (by decide) ?_
          refine gj_iload C dX12_tellsSky_173 0 rfl ?_
          refine gj_iconst C (v := 3) (by decide) dX12_tellsSky_175 ?_
          refine gj_icmp_ge C 204 dX12_tellsSky_176 (by decide) (fun c_15 => ?_) (fun c_15 => absurd (by decide) c_15)
          refine gj_iinc C (v := nI (t2 + 1)) (lv' := [(5, .int (nI (t2 + 1))), (6, .int 3), (3, .long ((31 * ((31 * ((31 * ((31 * ((31 * ((31 * (dB tu pl di mn se (dS so ro su_ fa vo n0 hv n1) t2)) + ((s_X12_placeBy (nI t2) (0 : Int32) tu pl).toInt64))) + ((s_X12_placeBy (nI t2) (1 : Int32) tu pl).toInt64))) + ((s_X12_placeBy (nI t2) (2 : Int32) tu pl).toInt64))) + ((s_X12_key (0 : Int32) (0 : Int32) (1 : Int32) (nI t2) (0 : Int32) di mn se).toInt64))) + ((s_X12_key (0 : Int32) (0 : Int32) (1 : Int32) (nI t2) (1 : Int32) di mn se).toInt64))) + ((s_X12_key (0 : Int32) (0 : Int32) (1 : Int32) (nI t2) (2 : Int32) di mn se).toInt64))), (0, .ref (ad 87)), (1, .long hv)]) dX12_tellsSky_204 2 rfl (nI_1 _) (by decide) rfl ?_
          refine gj_goto C 128 dX12_tellsSky_207 (by decide) ?_
          refine gj_lvs (lv' := [(5, .int (nI (t2 + 1))), (6, .int 3), (3, .long (dB tu pl di mn se (dS so ro su_ fa vo n0 hv n1) (t2 + 1))), (0, .ref (ad 87)), (1, .long hv)]) rfl ?_
          refine gj_lv [0, 2, 3, 4] rfl ?_
          exact ih_5 (t2 + 1) (by omega)
      refine gj_lv [0, 1, 2, 3] rfl ?_
      exact loop_4 (n0 - 0) 0 (by omega)
    | succ m0 ih_2 =>
      intro t0 hk_t0  
      refine gj_iload C dX12_tellsSky_5 0 rfl ?_
      refine gj_aload_n C 0 dX12_tellsSky_7 rfl 2 rfl ?_
      refine gj_get C 87 (by decide) hc0 inX12 rfl 6 (by decide) w_855 (v := .ref (ad 93)) rfl dX12_tellsSky_8 ?_
      refine gj_iconst C (v := 1) (by decide) dX12_tellsSky_11 ?_
      refine gj_iald C 93 (by decide) hc2 (by unfold vp_in; decide) dX12_tellsSky_12 ?_
      refine gj_seti h1 ?_
      refine gj_icmp_ge C 125 dX12_tellsSky_13 (by decide) (fun c_16 => absurd c_16 (nI_ge (by omega) (by omega))) (fun c_16 => ?_)
      refine gj_iconst C (v := 0) (by decide) dX12_tellsSky_16 ?_
      refine gj_istore C (lv' := [(6, .int 0), (5, .int (nI t0)), (3, .long (dS so ro su_ fa vo n0 hv t0)), (0, .ref (ad 87)), (1, .long hv)]) dX12_tellsSky_17 (by decide) rfl ?_
      refine gj_iload C dX12_tellsSky_19 0 rfl ?_
      refine gj_iconst C (v := 2) (by decide) dX12_tellsSky_21 ?_
      refine gj_icmp_ge C 47 dX12_tellsSky_22 (by decide) (fun c_17 => absurd c_17 (by decide)) (fun c_17 => ?_)
      refine gj_ldc2 C (v := 31) w_1260 dX12_tellsSky_25 ?_
      refine gj_lload_n C 3 dX12_tellsSky_28 rfl 2 rfl ?_
      refine gj_lmul C dX12_tellsSky_29 ?_
      refine gj_aload_n C 0 dX12_tellsSky_30 rfl 3 rfl ?_
      refine gj_iload C dX12_tellsSky_31 1 rfl ?_
      refine gj_iload C dX12_tellsSky_33 0 rfl ?_
      refine gj_callVi C mi_X12_takenBy w_1148 87 (by decide) hc0 rfl (c_X12_takenBy (nI t0) (0 : Int32) la dr go lo ma pa tu su so ro hc0 hc5 hc6 (vp_in_nI (by omega) (by omega))) mc_X12_takenBy ⟨Nat.le_of_ble_eq_true rfl, Nat.le_of_ble_eq_true rfl⟩ (rest := [.long (31 * (dS so ro su_ fa vo n0 hv t0))]) rfl (Nat.le_of_ble_eq_true rfl) dX12_tellsSky_35 (fun r u h => ?_)
      obtain ⟨hr_, h⟩ := h; rw [hr_]
      rw [h]
      refine gj_i2l C dX12_tellsSky_38 ?_
      refine gj_ladd C dX12_tellsSky_39 ?_
      refine gj_lstore_n C (lv' := [(3, .long ((31 * (dS so ro su_ fa vo n0 hv t0)) + ((s_X12_takenBy (nI t0) (0 : Int32) so ro).toInt64))), (6, .int 0), (5, .int (nI t0)), (0, .ref (ad 87)), (1, .long hv)]) 3 dX12_tellsSky_40 rfl (by decide) rfl ?_
      refine gj_iinc C (v := 1) (lv' := [(6, .int 1), (3, .long ((31 * (dS so ro su_ fa vo n0 hv t0)) + ((s_X12_takenBy (nI t0) (0 : Int32) so ro).toInt64))), (5, .int (nI t0)), (0, .ref (ad 87)), (1, .long hv)]) dX12_tellsSky_41 1 rfl (by decide) (by decide) rfl ?_
      refine gj_goto C 19 dX12_tellsSky_44 (by decide) ?_
      refine gj_iload C dX12_tellsSky_19 0 rfl ?_
      refine gj_iconst C (v := 2) (by decide) dX12_tellsSky_21 ?_
      refine gj_icmp_ge C 47 dX12_tellsSky_22 (by decide) (fun c_18 => absurd c_18 (by decide)) (fun c_18 => ?_)
      refine gj_ldc2 C (v := 31) w_1260 dX12_tellsSky_25 ?_
      refine gj_lload_n C 3 dX12_tellsSky_28 rfl 1 rfl ?_
      refine gj_lmul C dX12_tellsSky_29 ?_
      refine gj_aload_n C 0 dX12_tellsSky_30 rfl 3 rfl ?_
      refine gj_iload C dX12_tellsSky_31 2 rfl ?_
      refine gj_iload C dX12_tellsSky_33 0 rfl ?_
      refine gj_callVi C mi_X12_takenBy w_1148 87 (by decide) hc0 rfl (c_X12_takenBy (nI t0) (1 : Int32) la dr go lo ma pa tu su so ro hc0 hc5 hc6 (vp_in_nI (by omega) (by omega))) mc_X12_takenBy ⟨Nat.le_of_ble_eq_true rfl, Nat.le_of_ble_eq_true rfl⟩ (rest := [.long (31 * ((31 * (dS so ro su_ fa vo n0 hv t0)) + ((s_X12_takenBy (nI t0) (0 : Int32) so ro).toInt64)))]) rfl (Nat.le_of_ble_eq_true rfl) dX12_tellsSky_35 (fun r u h => ?_)
      obtain ⟨hr_, h⟩ := h; rw [hr_]
      rw [h]
      refine gj_i2l C dX12_tellsSky_38 ?_
      refine gj_ladd C dX12_tellsSky_39 ?_
      refine gj_lstore_n C (lv' := [(3, .long ((31 * ((31 * (dS so ro su_ fa vo n0 hv t0)) + ((s_X12_takenBy (nI t0) (0 : Int32) so ro).toInt64))) + ((s_X12_takenBy (nI t0) (1 : Int32) so ro).toInt64))), (6, .int 1), (5, .int (nI t0)), (0, .ref (ad 87)), (1, .long hv)]) 3 dX12_tellsSky_40 rfl (by decide) rfl ?_
      refine gj_iinc C (v := 2) (lv' := [(6, .int 2), (3, .long ((31 * ((31 * (dS so ro su_ fa vo n0 hv t0)) + ((s_X12_takenBy (nI t0) (0 : Int32) so ro).toInt64))) + ((s_X12_takenBy (nI t0) (1 : Int32) so ro).toInt64))), (5, .int (nI t0)), (0, .ref (ad 87)), (1, .long hv)]) dX12_tellsSky_41 1 rfl (by decide) (by decide) rfl ?_
      refine gj_goto C 19 dX12_tellsSky_44 (by decide) ?_
      refine gj_iload C dX12_tellsSky_19 0 rfl ?_
      refine gj_iconst C (v := 2) (by decide) dX12_tellsSky_21 ?_
      refine gj_icmp_ge C 47 dX12_tellsSky_22 (by decide) (fun c_19 => ?_) (fun c_19 => absurd (by decide) c_19)
      refine gj_iconst C (v := 0) (by decide) dX12_tellsSky_47 ?_
      refine gj_istore C (lv' := [(6, .int 0), (3, .long ((31 * ((31 * (dS so ro su_ fa vo n0 hv t0)) + ((s_X12_takenBy (nI t0) (0 : Int32) so ro).toInt64))) + ((s_X12_takenBy (nI t0) (1 : Int32) so ro).toInt64))), (5, .int (nI t0)), (0, .ref (ad 87)), (1, .long hv)]) dX12_tellsSky_48 (by decide) rfl ?_
      refine gj_iload C dX12_tellsSky_50 0 rfl ?_
      refine gj_iconst C (v := 2) (by decide) dX12_tellsSky_52 ?_
      refine gj_icmp_ge C 78 dX12_tellsSky_53 (by decide) (fun c_20 => absurd c_20 (by decide)) (fun c_20 => ?_)
      refine gj_ldc2 C (v := 31) w_1260 dX12_tellsSky_56 ?_
      refine gj_lload_n C 3 dX12_tellsSky_59 rfl 1 rfl ?_
      refine gj_lmul C dX12_tellsSky_60 ?_
      refine gj_aload_n C 0 dX12_tellsSky_61 rfl 3 rfl ?_
      refine gj_iload C dX12_tellsSky_62 2 rfl ?_
      refine gj_iload C dX12_tellsSky_64 0 rfl ?_
      refine gj_callVi C mi_X12_confirmedBy w_1168 87 (by decide) hc0 rfl (c_X12_confirmedBy (nI t0) (0 : Int32) la dr go lo ma pa tu su su_ fa hc0 hc8 hc9 (vp_in_nI (by omega) (by omega))) mc_X12_confirmedBy ⟨Nat.le_of_ble_eq_true rfl, Nat.le_of_ble_eq_true rfl⟩ (rest := [.long (31 * ((31 * ((31 * (dS so ro su_ fa vo n0 hv t0)) + ((s_X12_takenBy (nI t0) (0 : Int32) so ro).toInt64))) + ((s_X12_takenBy (nI t0) (1 : Int32) so ro).toInt64)))]) rfl (Nat.le_of_ble_eq_true rfl) dX12_tellsSky_66 (fun r u h => ?_)
      obtain ⟨hr_, h⟩ := h; rw [hr_]
      rw [h]
      refine gj_i2l C dX12_tellsSky_69 ?_
      refine gj_ladd C dX12_tellsSky_70 ?_
      refine gj_lstore_n C (lv' := [(3, .long ((31 * ((31 * ((31 * (dS so ro su_ fa vo n0 hv t0)) + ((s_X12_takenBy (nI t0) (0 : Int32) so ro).toInt64))) + ((s_X12_takenBy (nI t0) (1 : Int32) so ro).toInt64))) + ((s_X12_confirmedBy (nI t0) (0 : Int32) su_ fa).toInt64))), (6, .int 0), (5, .int (nI t0)), (0, .ref (ad 87)), (1, .long hv)]) 3 dX12_tellsSky_71 rfl (by decide) rfl ?_
      refine gj_iinc C (v := 1) (lv' := [(6, .int 1), (3, .long ((31 * ((31 * ((31 * (dS so ro su_ fa vo n0 hv t0)) + ((s_X12_takenBy (nI t0) (0 : Int32) so ro).toInt64))) + ((s_X12_takenBy (nI t0) (1 : Int32) so ro).toInt64))) + ((s_X12_confirmedBy (nI t0) (0 : Int32) su_ fa).toInt64))), (5, .int (nI t0)), (0, .ref (ad 87)), (1, .long hv)]) dX12_tellsSky_72 1 rfl (by decide) (by decide) rfl ?_
      refine gj_goto C 50 dX12_tellsSky_75 (by decide) ?_
      refine gj_iload C dX12_tellsSky_50 0 rfl ?_
      refine gj_iconst C (v := 2) (by decide) dX12_tellsSky_52 ?_
      refine gj_icmp_ge C 78 dX12_tellsSky_53 (by decide) (fun c_21 => absurd c_21 (by decide)) (fun c_21 => ?_)
      refine gj_ldc2 C (v := 31) w_1260 dX12_tellsSky_56 ?_
      refine gj_lload_n C 3 dX12_tellsSky_59 rfl 1 rfl ?_
      refine gj_lmul C dX12_tellsSky_60 ?_
      refine gj_aload_n C 0 dX12_tellsSky_61 rfl 3 rfl ?_
      refine gj_iload C dX12_tellsSky_62 2 rfl ?_
      refine gj_iload C dX12_tellsSky_64 0 rfl ?_
      refine gj_callVi C mi_X12_confirmedBy w_1168 87 (by decide) hc0 rfl (c_X12_confirmedBy (nI t0) (1 : Int32) la dr go lo ma pa tu su su_ fa hc0 hc8 hc9 (vp_in_nI (by omega) (by omega))) mc_X12_confirmedBy ⟨Nat.le_of_ble_eq_true rfl, Nat.le_of_ble_eq_true rfl⟩ (rest := [.long (31 * ((31 * ((31 * ((31 * (dS so ro su_ fa vo n0 hv t0)) + ((s_X12_takenBy (nI t0) (0 : Int32) so ro).toInt64))) + ((s_X12_takenBy (nI t0) (1 : Int32) so ro).toInt64))) + ((s_X12_confirmedBy (nI t0) (0 : Int32) su_ fa).toInt64)))]) rfl (Nat.le_of_ble_eq_true rfl) dX12_tellsSky_66 (fun r u h => ?_)
      obtain ⟨hr_, h⟩ := h; rw [hr_]
      rw [h]
      refine gj_i2l C dX12_tellsSky_69 ?_
      refine gj_ladd C dX12_tellsSky_70 ?_
      refine gj_lstore_n C (lv' := [(3, .long ((31 * ((31 * ((31 * ((31 * (dS so ro su_ fa vo n0 hv t0)) + ((s_X12_takenBy (nI t0) (0 : Int32) so ro).toInt64))) + ((s_X12_takenBy (nI t0) (1 : Int32) so ro).toInt64))) + ((s_X12_confirmedBy (nI t0) (0 : Int32) su_ fa).toInt64))) + ((s_X12_confirmedBy (nI t0) (1 : Int32) su_ fa).toInt64))), (6, .int 1), (5, .int (nI t0)), (0, .ref (ad 87)), (1, .long hv)]) 3 dX12_tellsSky_71 rfl (by decide) rfl ?_
      refine gj_iinc C (v := 2) (lv' := [(6, .int 2), (3, .long ((31 * ((31 * ((31 * ((31 * (dS so ro su_ fa vo n0 hv t0)) + ((s_X12_takenBy (nI t0) (0 : Int32) so ro).toInt64))) + ((s_X12_takenBy (nI t0) (1 : Int32) so ro).toInt64))) + ((s_X12_confirmedBy (nI t0) (0 : Int32) su_ fa).toInt64))) + ((s_X12_confirmedBy (nI t0) (1 : Int32) su_ fa).toInt64))), (5, .int (nI t0)), (0, .ref (ad 87)), (1, .long hv)]) dX12_tellsSky_72 1 rfl (by decide) (by decide) rfl ?_
      refine gj_goto C 50 dX12_tellsSky_75 (by decide) ?_
      refine gj_iload C dX12_tellsSky_50 0 rfl ?_
      refine gj_iconst C (v := 2) (by decide) dX12_tellsSky_52 ?_
      refine gj_icmp_ge C 78 dX12_tellsSky_53 (by decide) (fun c_22 => ?_) (fun c_22 => absurd (by decide) c_22)
      refine gj_iconst C (v := 0) (by decide) dX12_tellsSky_78 ?_
      refine gj_seti (y := nI 0) rfl ?_
      refine gj_istore C (lv' := [(6, .int (nI 0)), (3, .long ((31 * ((31 * ((31 * ((31 * (dS so ro su_ fa vo n0 hv t0)) + ((s_X12_takenBy (nI t0) (0 : Int32) so ro).toInt64))) + ((s_X12_takenBy (nI t0) (1 : Int32) so ro).toInt64))) + ((s_X12_confirmedBy (nI t0) (0 : Int32) su_ fa).toInt64))) + ((s_X12_confirmedBy (nI t0) (1 : Int32) su_ fa).toInt64))), (5, .int (nI t0)), (0, .ref (ad 87)), (1, .long hv)]) dX12_tellsSky_79 (by decide) rfl ?_
      refine gj_lvs (lv' := [(6, .int (nI 0)), (3, .long (dV vo t0 (hh (hh (hh (hh (dS so ro su_ fa vo n0 hv t0) (s_X12_takenBy (nI t0) (0 : Int32) so ro)) (s_X12_takenBy (nI t0) (1 : Int32) so ro)) (s_X12_confirmedBy (nI t0) (0 : Int32) su_ fa)) (s_X12_confirmedBy (nI t0) (1 : Int32) su_ fa)) 0)), (5, .int (nI t0)), (0, .ref (ad 87)), (1, .long hv)]) rfl ?_
      have loop_23 : ∀ (m1 t1 : Nat), t1 + m1 = n0 → gJ pT l eT (Rm 5) sT mT aT below meth cT AT QT D ad 108 7 (f) [(6, .int (nI t1)), (3, .long (dV vo t0 (hh (hh (hh (hh (dS so ro su_ fa vo n0 hv t0) (s_X12_takenBy (nI t0) (0 : Int32) so ro)) (s_X12_takenBy (nI t0) (1 : Int32) so ro)) (s_X12_confirmedBy (nI t0) (0 : Int32) su_ fa)) (s_X12_confirmedBy (nI t0) (1 : Int32) su_ fa)) t1)), (5, .int (nI t0)), (0, .ref (ad 87)), (1, .long hv)] 81 [] := by
        intro m1
        induction m1 with
        | zero =>
          intro t1 hk_t1  
          refine gj_iload C dX12_tellsSky_81 0 rfl ?_
          refine gj_aload_n C 0 dX12_tellsSky_83 rfl 3 rfl ?_
          refine gj_get C 87 (by decide) hc0 inX12 rfl 6 (by decide) w_855 (v := .ref (ad 93)) rfl dX12_tellsSky_84 ?_
          refine gj_iconst C (v := 0) (by decide) dX12_tellsSky_87 ?_
          refine gj_iald C 93 (by decide) hc2 (by unfold vp_in; decide) dX12_tellsSky_88 ?_
          refine gj_seti h0 ?_
          refine gj_icmp_ge C 119 dX12_tellsSky_89 (by decide) (fun c_25 => ?_) (fun c_25 => absurd (nI_le (by omega) (by omega)) c_25)
          refine gj_iinc C (v := nI (t0 + 1)) (lv' := [(5, .int (nI (t0 + 1))), (6, .int (nI t1)), (3, .long (dV vo t0 (hh (hh (hh (hh (dS so ro su_ fa vo n0 hv t0) (s_X12_takenBy (nI t0) (0 : Int32) so ro)) (s_X12_takenBy (nI t0) (1 : Int32) so ro)) (s_X12_confirmedBy (nI t0) (0 : Int32) su_ fa)) (s_X12_confirmedBy (nI t0) (1 : Int32) su_ fa)) t1)), (0, .ref (ad 87)), (1, .long hv)]) dX12_tellsSky_119 2 rfl (nI_1 _) (by decide) rfl ?_
          refine gj_goto C 5 dX12_tellsSky_122 (by decide) ?_
          refine gj_lvs (lv' := [(5, .int (nI (t0 + 1))), (6, .int (nI t1)), (3, .long (dS so ro su_ fa vo n0 hv (t0 + 1))), (0, .ref (ad 87)), (1, .long hv)]) (by obtain rfl : t1 = n0 := (by omega); rfl) ?_
          refine gj_lv [0, 2, 3, 4] rfl ?_
          exact ih_2 (t0 + 1) (by omega)
        | succ m1 ih_24 =>
          intro t1 hk_t1  
          refine gj_iload C dX12_tellsSky_81 0 rfl ?_
          refine gj_aload_n C 0 dX12_tellsSky_83 rfl 3 rfl ?_
          refine gj_get C 87 (by decide) hc0 inX12 rfl 6 (by decide) w_855 (v := .ref (ad 93)) rfl dX12_tellsSky_84 ?_
          refine gj_iconst C (v := 0) (by decide) dX12_tellsSky_87 ?_
          refine gj_iald C 93 (by decide) hc2 (by unfold vp_in; decide) dX12_tellsSky_88 ?_
          refine gj_seti h0 ?_
          refine gj_icmp_ge C 119 dX12_tellsSky_89 (by decide) (fun c_26 => absurd c_26 (nI_ge (by omega) (by omega))) (fun c_26 => ?_)
          refine gj_ldc2 C (v := 31) w_1260 dX12_tellsSky_92 ?_
          refine gj_lload_n C 3 dX12_tellsSky_95 rfl 1 rfl ?_
          refine gj_lmul C dX12_tellsSky_96 ?_
          refine gj_aload_n C 0 dX12_tellsSky_97 rfl 3 rfl ?_
          refine gj_get C 87 (by decide) hc0 inX12 rfl 12 (by decide) w_861 (v := .ref (ad 95)) rfl dX12_tellsSky_98 ?_
          refine gj_bipush C (v := 12) (by decide) dX12_tellsSky_101 ?_
          refine gj_iload C dX12_tellsSky_103 2 rfl ?_
          refine gj_imul C dX12_tellsSky_105 ?_
          refine gj_iload C dX12_tellsSky_106 0 rfl ?_
          refine gj_iadd C dX12_tellsSky_108 ?_
          refine gj_iald C 95 (by decide) hc4 (in12 (by omega) (by omega)) dX12_tellsSky_109 ?_
          refine gj_seti (congrArg _ (cl12 (by omega) (by omega))) ?_
          refine gj_i2l C dX12_tellsSky_110 ?_
          refine gj_ladd C dX12_tellsSky_111 ?_
          refine gj_lstore_n C (lv' := [(3, .long ((31 * (dV vo t0 (hh (hh (hh (hh (dS so ro su_ fa vo n0 hv t0) (s_X12_takenBy (nI t0) (0 : Int32) so ro)) (s_X12_takenBy (nI t0) (1 : Int32) so ro)) (s_X12_confirmedBy (nI t0) (0 : Int32) su_ fa)) (s_X12_confirmedBy (nI t0) (1 : Int32) su_ fa)) t1)) + ((vo (12 * t0 + t1)).toInt64))), (6, .int (nI t1)), (5, .int (nI t0)), (0, .ref (ad 87)), (1, .long hv)]) 3 dX12_tellsSky_112 rfl (by decide) rfl ?_
          refine gj_iinc C (v := nI (t1 + 1)) (lv' := [(6, .int (nI (t1 + 1))), (3, .long ((31 * (dV vo t0 (hh (hh (hh (hh (dS so ro su_ fa vo n0 hv t0) (s_X12_takenBy (nI t0) (0 : Int32) so ro)) (s_X12_takenBy (nI t0) (1 : Int32) so ro)) (s_X12_confirmedBy (nI t0) (0 : Int32) su_ fa)) (s_X12_confirmedBy (nI t0) (1 : Int32) su_ fa)) t1)) + ((vo (12 * t0 + t1)).toInt64))), (5, .int (nI t0)), (0, .ref (ad 87)), (1, .long hv)]) dX12_tellsSky_113 1 rfl (nI_1 _) (by decide) rfl ?_
          refine gj_goto C 81 dX12_tellsSky_116 (by decide) ?_
          refine gj_lvs (lv' := [(6, .int (nI (t1 + 1))), (3, .long (dV vo t0 (hh (hh (hh (hh (dS so ro su_ fa vo n0 hv t0) (s_X12_takenBy (nI t0) (0 : Int32) so ro)) (s_X12_takenBy (nI t0) (1 : Int32) so ro)) (s_X12_confirmedBy (nI t0) (0 : Int32) su_ fa)) (s_X12_confirmedBy (nI t0) (1 : Int32) su_ fa)) (t1 + 1))), (5, .int (nI t0)), (0, .ref (ad 87)), (1, .long hv)]) rfl ?_
          refine gj_lv [0, 1, 2, 3, 4] rfl ?_
          exact ih_24 (t1 + 1) (by omega)
      refine gj_lv [0, 1, 2, 3, 4] rfl ?_
      exact loop_23 (n0 - 0) 0 (by omega)
  refine gj_lv [0, 1, 2, 3] rfl ?_
  exact loop_1 (n1 - 0) 0 (by omega)
