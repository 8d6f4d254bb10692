/-! THE LAW: its switch, its loop -/
theorem law_sw {p : Program} {l : Launch} {e : Env} {s : State} {m : MethodId} {args : Array Value} {below : List Frame} {meth : Method} {c : Code} {A : Nat → Prop} {Q : State → Prop} {D : va_G} {ca ss ad : Nat → Nat} {cells slots : Nat} {b L : Nat} {xs : Nat → Int32} {f : Nat → va_E} {i : Nat} (C : kX p s m args meth c A D ca ss 4 "StarTrackerLaw" cL_law ret) (hX : va_X b L xs s s.heap) (hbl : b < s.heap.size) (hbA : ¬ A b) (hL : L ≤ 3584) (hcs : cells ≤ room_1.cells ∧ slots ≤ room_1.slots) (hi : i + 6 < L) (hJ : JJ ca ad f) (K : ∀ u, JJ ca ad u → kJ p l e room_1 s m args below meth c A Q D 4 (gWn ad 108 u) cells slots (lwV i b ad) 1231 []) (j : Nat) (hj : j < 32) : kJ p l e room_1 s m args below meth c A Q D 4 (gWn ad 108 f) cells slots (lwV i b ad) 33 [.int (nI j)] := by
  have hc : j = 0 ∨ j = 1 ∨ j = 2 ∨ j = 3 ∨ j = 4 ∨ j = 5 ∨ j = 6 ∨ j = 7 ∨ j = 8 ∨ j = 9 ∨ j = 10 ∨ j = 11 ∨ j = 12 ∨ j = 13 ∨ j = 14 ∨ j = 15 ∨ j = 16 ∨ j = 17 ∨ j = 18 ∨ j = 19 ∨ j = 20 ∨ j = 21 ∨ j = 22 ∨ j = 23 ∨ j = 24 ∨ j = 25 ∨ j = 26 ∨ j = 27 ∨ j = 28 ∨ j = 29 ∨ j = 30 ∨ j = 31 := by omega
  rcases hc with rfl | rfl | rfl | rfl | rfl | rfl | rfl | rfl | rfl | rfl | rfl | rfl | rfl | rfl | rfl | rfl | rfl | rfl | rfl | rfl | rfl | rfl | rfl | rfl | rfl | rfl | rfl | rfl | rfl | rfl | rfl | rfl
  · exact kj_tableIn C (off := 135) 168 dL_law_33 (by decide) (by decide) (by decide) (by decide) (law_c0 C hX hbl hbA hL hcs hi hJ K)
  · exact kj_tableIn C (off := 188) 221 dL_law_33 (by decide) (by decide) (by decide) (by decide) (law_c1 C hX hbl hbA hL hcs hi hJ K)
  · exact kj_tableIn C (off := 211) 244 dL_law_33 (by decide) (by decide) (by decide) (by decide) (law_c2 C hX hbl hbA hL hcs hi hJ K)
  · exact kj_tableIn C (off := 254) 287 dL_law_33 (by decide) (by decide) (by decide) (by decide) (law_c3 C hX hbl hbA hL hcs hi hJ K)
  · exact kj_tableIn C (off := 287) 320 dL_law_33 (by decide) (by decide) (by decide) (by decide) (law_c4 C hX hbl hbA hL hcs hi hJ K)
  · exact kj_tableIn C (off := 362) 395 dL_law_33 (by decide) (by decide) (by decide) (by decide) (law_c5 C hX hbl hbA hL hcs hi hJ K)
  · exact kj_tableIn C (off := 395) 428 dL_law_33 (by decide) (by decide) (by decide) (by decide) (law_c6 C hX hbl hbA hL hcs hi hJ K)
  · exact kj_tableIn C (off := 438) 471 dL_law_33 (by decide) (by decide) (by decide) (by decide) (law_c7 C hX hbl hbA hL hcs hi hJ K)
  · exact kj_tableIn C (off := 501) 534 dL_law_33 (by decide) (by decide) (by decide) (by decide) (law_c8 C hX hbl hbA hL hcs hi hJ K)
  · exact kj_tableIn C (off := 524) 557 dL_law_33 (by decide) (by decide) (by decide) (by decide) (law_c9 C hX hbl hbA hL hcs hi hJ K)
  · exact kj_tableIn C (off := 557) 590 dL_law_33 (by decide) (by decide) (by decide) (by decide) (law_c10 C hX hbl hbA hL hcs hi hJ K)
  · exact kj_tableIn C (off := 590) 623 dL_law_33 (by decide) (by decide) (by decide) (by decide) (law_c11 C hX hbl hbA hL hcs hi hJ K)
  · exact kj_tableIn C (off := 603) 636 dL_law_33 (by decide) (by decide) (by decide) (by decide) (law_c12 C hX hbl hbA hL hcs hi hJ K)
  · exact kj_tableIn C (off := 636) 669 dL_law_33 (by decide) (by decide) (by decide) (by decide) (law_c13 C hX hbl hbA hL hcs hi hJ K)
  · exact kj_tableIn C (off := 669) 702 dL_law_33 (by decide) (by decide) (by decide) (by decide) (law_c14 C hX hbl hbA hL hcs hi hJ K)
  · exact kj_tableIn C (off := 682) 715 dL_law_33 (by decide) (by decide) (by decide) (by decide) (law_c15 C hX hbl hbA hL hcs hi hJ K)
  · exact kj_tableIn C (off := 705) 738 dL_law_33 (by decide) (by decide) (by decide) (by decide) (law_c16 C hX hbl hbA hL hcs hi hJ K)
  · exact kj_tableIn C (off := 728) 761 dL_law_33 (by decide) (by decide) (by decide) (by decide) (law_c17 C hX hbl hbA hL hcs hi hJ K)
  · exact kj_tableIn C (off := 771) 804 dL_law_33 (by decide) (by decide) (by decide) (by decide) (law_c18 C hX hbl hbA hL hcs hi hJ K)
  · exact kj_tableIn C (off := 804) 837 dL_law_33 (by decide) (by decide) (by decide) (by decide) (law_c19 C hX hbl hbA hL hcs hi hJ K)
  · exact kj_tableIn C (off := 827) 860 dL_law_33 (by decide) (by decide) (by decide) (by decide) (law_c20 C hX hbl hbA hL hcs hi hJ K)
  · exact kj_tableIn C (off := 870) 903 dL_law_33 (by decide) (by decide) (by decide) (by decide) (law_c21 C hX hbl hbA hL hcs hi hJ K)
  · exact kj_tableIn C (off := 913) 946 dL_law_33 (by decide) (by decide) (by decide) (by decide) (law_c22 C hX hbl hbA hL hcs hi hJ K)
  · exact kj_tableIn C (off := 956) 989 dL_law_33 (by decide) (by decide) (by decide) (by decide) (law_c23 C hX hbl hbA hL hcs hi hJ K)
  · exact kj_tableIn C (off := 979) 1012 dL_law_33 (by decide) (by decide) (by decide) (by decide) (law_c24 C hX hbl hbA hL hcs hi hJ K)
  · exact kj_tableIn C (off := 1032) 1065 dL_law_33 (by decide) (by decide) (by decide) (by decide) (law_c25 C hX hbl hbA hL hcs hi hJ K)
  · exact kj_tableIn C (off := 1075) 1108 dL_law_33 (by decide) (by decide) (by decide) (by decide) (law_c26 C hX hbl hbA hL hcs hi hJ K)
  · exact kj_tableIn C (off := 1138) 1171 dL_law_33 (by decide) (by decide) (by decide) (by decide) (law_c27 C hX hbl hbA hL hcs hi hJ K)
  · exact kj_tableIn C (off := 1161) 1194 dL_law_33 (by decide) (by decide) (by decide) (by decide) (law_c28 C hX hbl hbA hL hcs hi hJ K)
  · exact kj_tableIn C (off := 1184) 1217 dL_law_33 (by decide) (by decide) (by decide) (by decide) (law_c29 C hX hbl hbA hL hcs hi hJ K)
  · exact kj_tableOut C 1231 dL_law_33 (by decide) (by decide) (K f hJ)
  · exact kj_tableOut C 1231 dL_law_33 (by decide) (by decide) (K f hJ)
theorem law_loop {p : Program} {l : Launch} {e : Env} {s : State} {m : MethodId} {args : Array Value} {below : List Frame} {meth : Method} {c : Code} {A : Nat → Prop} {Q : State → Prop} {D : va_G} {ca ss ad : Nat → Nat} {cells slots : Nat} {b L : Nat} {xs : Nat → Int32} (C : kX p s m args meth c A D ca ss 4 "StarTrackerLaw" cL_law ret) (hX : va_X b L xs s s.heap) (hbl : b < s.heap.size) (hbA : ¬ A b) (hL : L ≤ 3584) (hcs : cells ≤ room_1.cells ∧ slots ≤ room_1.slots) (hend : ∀ (u : Nat → va_E) (lv : List (Nat × Value)), kJ p l e room_1 s m args below meth c A Q D 4 (gWn ad 108 u) cells slots lv 1237 []) : ∀ (k i : Nat) (f : Nat → va_E), L < i + k → i ≤ L + 7 → JJ ca ad f → kJ p l e room_1 s m args below meth c A Q D 4 (gWn ad 108 f) cells slots (lwV i b ad) 18 [] := by
  intro k
  induction k with
  | zero =>
    intro i f hk hi hJ
    refine kj_iload_n C 3 dL_law_18 rfl 0 rfl ?_
    refine kj_aload_n C 0 dL_law_19 rfl 3 rfl ?_
    refine kj_slen C hX hbl hbA dL_law_20 ?_
    refine kj_bipush C (v := 7) (by decide) dL_law_21 ?_
    refine kj_isub C dL_law_23 ?_
    refine kj_icmp_gt C 1237 dL_law_24 (by decide) (fun _ => hend f _) (fun hlt => absurd ?_ hlt)
    have o : (7 : Int32).toInt = 7 := rfl
    rw [i32_lt, i32_sub (by rw [nI_toInt (by omega)]; omega) (by rw [nI_toInt (by omega)]; omega), nI_toInt (by omega), nI_toInt (by omega), o]
    omega
  | succ k ih =>
    intro i f hk hi hJ
    refine kj_iload_n C 3 dL_law_18 rfl 0 rfl ?_
    refine kj_aload_n C 0 dL_law_19 rfl 3 rfl ?_
    refine kj_slen C hX hbl hbA dL_law_20 ?_
    refine kj_bipush C (v := 7) (by decide) dL_law_21 ?_
    refine kj_isub C dL_law_23 ?_
    refine kj_icmp_gt C 1237 dL_law_24 (by decide) (fun _ => hend f _) (fun hlt => ?_)
    have o : (7 : Int32).toInt = 7 := rfl
    rw [i32_lt, i32_sub (by rw [nI_toInt (by omega)]; omega) (by rw [nI_toInt (by omega)]; omega), nI_toInt (by omega), nI_toInt (by omega), o] at hlt
    have hi6 : i + 6 < L := by omega
    refine kj_aload_n C 0 dL_law_27 rfl 3 rfl ?_
    refine kj_iload_n C 3 dL_law_28 rfl 0 rfl ?_
    refine kj_sld C hX hbl hbA (vin (by rw [nI_toInt (by omega)]; omega) (by rw [nI_toInt (by omega)]; omega)) dL_law_29 ?_
    refine kj_bipush C (v := 31) (by decide) dL_law_30 ?_
    refine kj_iand C dL_law_32 ?_
    obtain ⟨j, hj, ej⟩ := pk_andE (xs (nI i).toNatClampNeg) (m := 31) 5 (by decide)
    refine kj_seti ej ?_
    refine law_sw C hX hbl hbA hL hcs hi6 hJ (fun u hu => ?_) j hj
    refine kj_iinc C (v := nI (i + 7)) (lv' := lwV (i + 7) b ad) dL_law_1231 0 rfl (nI_add i 7) (by decide) rfl ?_
    refine kj_goto C 18 dL_law_1234 (by decide) ?_
    exact ih (i + 7) u (by omega) (by omega) hu
