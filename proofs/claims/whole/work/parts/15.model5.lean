set_option maxHeartbeats 1000000 in
set_option maxRecDepth 100000 in
theorem c_X12_takes {l : Launch} {D : va_G} {ca ss ad : Nat → Nat} {f : Nat → va_E}   (la : Int32) (dr : Int32) (go : Int32) (lo : Int32) (ma : Int32) (pa : Int32) (tu : Int32) (su : Int32) (se : Nat → Int32) (vo : Nat → Int32) (so : Nat → Int32) (ro : Nat → Int32) (us : Nat → Int32) (hc0 : f 87 = .inr (11, mF ad la dr go lo ma pa tu su)) (hc1 : f 94 = .inl (ca 0, 4, .inl se)) (hc2 : f 95 = .inl (ca 0, 96, .inl vo)) (hc3 : f 96 = .inl (ca 0, 8, .inl so)) (hc4 : f 97 = .inl (ca 0, 8, .inl ro)) (hc5 : f 98 = .inl (ca 2, 12, .inl us))  : gMv l D ca ss ad 108 yX12_takes cX12_takes 4 none 0 f [.ref (ad 87)] (fun u => u = va_up (va_up (va_up (va_up f 87 (.inr (11, mF ad la dr go lo ma ((mTake vo (se 2)).2.2.2) tu su))) 96 (.inl (ca 0, 8, .inl ((mTake vo (se 2)).1)))) 97 (.inl (ca 0, 8, .inl ((mTake vo (se 2)).2.1)))) 98 (.inl (ca 2, 12, .inl ((mTake vo (se 2)).2.2.1)))) := by
  refine gMv_ofK (by decide +kernel) (Nat.le_of_ble_eq_true rfl) (lv0 := [(0, .ref (ad 87))]) rfl (fun pT eT sT mT aT below meth cT AT QT C RT => ?_)
  have C : gX pT sT mT aT meth cT AT D ca ss 4 RX12 cX12_takes none := C
  refine gj_setf (up_id hc0).symm ?_
  refine gj_setf (up_id (up_nx (by decide) (hc3))).symm ?_
  refine gj_setf (up_id (up_nx (by decide) (up_nx (by decide) (hc4)))).symm ?_
  refine gj_setf (up_id (up_nx (by decide) (up_nx (by decide) (up_nx (by decide) (hc5))))).symm ?_
  refine gj_iconst C (v := 0) (by decide) dX12_takes_0 ?_
  refine gj_seti (y := nI 0) rfl ?_
  refine gj_istore_n C (lv' := [(1, .int (nI 0)), (0, .ref (ad 87))]) 1 dX12_takes_1 rfl (by decide) rfl ?_
  refine gj_setf (g := va_up (va_up (va_up (va_up f 87 (.inr (11, mF ad la dr go lo ma pa tu su))) 96 (.inl (ca 0, 8, .inl (zF so (-1) 0)))) 97 (.inl (ca 0, 8, .inl (zF ro (-1) 0)))) 98 (.inl (ca 2, 12, .inl us))) (by rw [zF_0, zF_0]) ?_
  have loop_1 : ∀ (m0 t0 : Nat), t0 + m0 = 8 → gJ pT l eT (Rm 0) sT mT aT below meth cT AT QT D ad 108 4 (va_up (va_up (va_up (va_up f 87 (.inr (11, mF ad la dr go lo ma pa tu su))) 96 (.inl (ca 0, 8, .inl (zF so (-1) t0)))) 97 (.inl (ca 0, 8, .inl (zF ro (-1) t0)))) 98 (.inl (ca 2, 12, .inl us))) [(1, .int (nI t0)), (0, .ref (ad 87))] 2 [] := by
    intro m0
    induction m0 with
    | zero =>
      intro t0 hk_t0 
      obtain rfl : t0 = 8 := (by omega)
      refine gj_iload_n C 1 dX12_takes_2 rfl 0 rfl ?_
      refine gj_bipush C (v := 8) (by decide) dX12_takes_3 ?_
      refine gj_icmp_ge C 28 dX12_takes_5 (by decide) (fun c_3 => ?_) (fun c_3 => absurd (Int32.le_refl _) c_3)
      refine gj_iconst C (v := 0) (by decide) dX12_takes_28 ?_
      refine gj_seti (y := nI 0) rfl ?_
      refine gj_istore_n C (lv' := [(1, .int (nI 0)), (0, .ref (ad 87))]) 1 dX12_takes_29 rfl (by decide) rfl ?_
      refine gj_extI (g' := kI (-1)) 96 (by decide) (up_nx (by decide) (up_nx (by decide) (va_up_self _ _ _))) (zF_k so (-1) 8) ?_
      refine gj_setf ((up_comm (by decide)).trans (up_un ((up_comm (by decide)).trans (up_un (bx_uu _ _ _ _))))) ?_
      refine gj_extI (g' := kI (-1)) 97 (by decide) (up_nx (by decide) (va_up_self _ _ _)) (zF_k ro (-1) 8) ?_
      refine gj_setf ((up_comm (by decide)).trans (up_un (bx_uu _ _ _ _))) ?_
      refine gj_setf (g := va_up (va_up (va_up (va_up f 87 (.inr (11, mF ad la dr go lo ma pa tu su))) 96 (.inl (ca 0, 8, .inl (kI (-1))))) 97 (.inl (ca 0, 8, .inl (kI (-1))))) 98 (.inl (ca 2, 12, .inl (zF us 0 0)))) (by rw [zF_0]) ?_
      have loop_4 : ∀ (m1 t1 : Nat), t1 + m1 = 12 → gJ pT l eT (Rm 0) sT mT aT below meth cT AT QT D ad 108 4 (va_up (va_up (va_up (va_up f 87 (.inr (11, mF ad la dr go lo ma pa tu su))) 96 (.inl (ca 0, 8, .inl (kI (-1))))) 97 (.inl (ca 0, 8, .inl (kI (-1))))) 98 (.inl (ca 2, 12, .inl (zF us 0 t1)))) [(1, .int (nI t1)), (0, .ref (ad 87))] 30 [] := by
        intro m1
        induction m1 with
        | zero =>
          intro t1 hk_t1 
          obtain rfl : t1 = 12 := (by omega)
          refine gj_iload_n C 1 dX12_takes_30 rfl 0 rfl ?_
          refine gj_bipush C (v := 12) (by decide) dX12_takes_31 ?_
          refine gj_icmp_ge C 49 dX12_takes_33 (by decide) (fun c_6 => ?_) (fun c_6 => absurd (Int32.le_refl _) c_6)
          refine gj_aload_n C 0 dX12_takes_49 rfl 1 rfl ?_
          refine gj_iconst C (v := 0) (by decide) dX12_takes_50 ?_
          refine gj_putS C 87 (by decide) (up_nx (by decide) (up_nx (by decide) (up_nx (by decide) (va_up_self _ _ _)))) inX12 rfl 16 (by decide) tyX12 tyX12_ok nmX12 w_865 rfl (v := .int 0) (fs' := [.ref (ad 88), .ref (ad 89), .ref (ad 90), .ref (ad 91), .int la, .ref (ad 92), .ref (ad 93), .ref (ad 94), .int dr, .int go, .int lo, .int ma, .ref (ad 95), .ref (ad 96), .ref (ad 97), .ref (ad 98), .int 0, .int tu, .ref (ad 99), .ref (ad 100), .ref (ad 101), .ref (ad 102), .ref (ad 103), .ref (ad 104), .int su, .ref (ad 105), .ref (ad 106), .ref (ad 107)]) rfl rfl (Nat.le_of_ble_eq_true rfl) rfl dX12_takes_51 ?_
          refine gj_setf ((up_comm (by decide)).trans (up_un ((up_comm (by decide)).trans (up_un ((up_comm (by decide)).trans (up_un (bx_uu _ _ _ _))))))) ?_
          refine gj_iconst C (v := 0) (by decide) dX12_takes_54 ?_
          refine gj_seti (y := mTv vo (se 2) (kI (-1), kI (-1), kI 0, 0) 0) rfl ?_
          refine gj_istore_n C (lv' := [(1, .int (mTv vo (se 2) (kI (-1), kI (-1), kI 0, 0) 0)), (0, .ref (ad 87))]) 1 dX12_takes_55 rfl (by decide) rfl ?_
          refine gj_extI (g' := kI 0) 98 (by decide) (va_up_self _ _ _) (zF_k us 0 12) ?_
          refine gj_setf (bx_uu _ _ _ _) ?_
          refine gj_setf (g := va_up (va_up (va_up (va_up f 87 (.inr (11, mF ad la dr go lo ma ((mTn vo (se 2) (kI (-1), kI (-1), kI 0, 0) 0).2.2.2) tu su))) 96 (.inl (ca 0, 8, .inl ((mTn vo (se 2) (kI (-1), kI (-1), kI 0, 0) 0).1)))) 97 (.inl (ca 0, 8, .inl ((mTn vo (se 2) (kI (-1), kI (-1), kI 0, 0) 0).2.1)))) 98 (.inl (ca 2, 12, .inl ((mTn vo (se 2) (kI (-1), kI (-1), kI 0, 0) 0).2.2.1)))) rfl ?_
          have loop_7 : ∀ (m2 t2 : Nat), t2 + m2 = 9 → gJ pT l eT (Rm 0) sT mT aT below meth cT AT QT D ad 108 4 (va_up (va_up (va_up (va_up f 87 (.inr (11, mF ad la dr go lo ma ((mTn vo (se 2) (kI (-1), kI (-1), kI 0, 0) t2).2.2.2) tu su))) 96 (.inl (ca 0, 8, .inl ((mTn vo (se 2) (kI (-1), kI (-1), kI 0, 0) t2).1)))) 97 (.inl (ca 0, 8, .inl ((mTn vo (se 2) (kI (-1), kI (-1), kI 0, 0) t2).2.1)))) 98 (.inl (ca 2, 12, .inl ((mTn vo (se 2) (kI (-1), kI (-1), kI 0, 0) t2).2.2.1)))) [(1, .int (mTv vo (se 2) (kI (-1), kI (-1), kI 0, 0) t2)), (0, .ref (ad 87))] 56 [] := by
            intro m2
            induction m2 with
            | zero =>
              intro t2 hk_t2 
              refine gj_iload_n C 1 dX12_takes_56 rfl 0 rfl ?_
              refine gj_iconst C (v := (-1)) (by decide) dX12_takes_57 ?_
              refine gj_icmp_eq C 207 dX12_takes_58 (by decide) (fun c_9 => ?_) (fun c_9 => absurd (show mTv vo (se 2) (kI (-1), kI (-1), kI 0, 0) t2 = -1 by obtain rfl : t2 = 9 := (by omega); exact mTv_9 _ _ _) c_9)
              exact RT _ _ _ (by obtain rfl : t2 = 9 := (by omega); unfold mTake; rfl) dX12_takes_207
            | succ m2 ih_8 =>
              intro t2 hk_t2 
              refine gj_iload_n C 1 dX12_takes_56 rfl 0 rfl ?_
              refine gj_iconst C (v := (-1)) (by decide) dX12_takes_57 ?_
              refine gj_icmp_eq C 207 dX12_takes_58 (by decide) (fun c_10 => ?_) (fun c_10 => ?_)
              · exact RT _ _ _ (by rw [show (mTake vo (se 2)) = (mTn vo (se 2) (kI (-1), kI (-1), kI 0, 0) t2) by unfold mTake; exact (mTv_stay (by omega) c_10).symm]) dX12_takes_207
              · refine gj_iconst C (v := (-1)) (by decide) dX12_takes_61 ?_
                refine gj_seti (y := mB (mTn vo (se 2) (kI (-1), kI (-1), kI 0, 0) t2).1 (mTn vo (se 2) (kI (-1), kI (-1), kI 0, 0) t2).2.2.1 vo (se 2) 0) rfl ?_
                refine gj_istore_n C (lv' := [(1, .int (mB (mTn vo (se 2) (kI (-1), kI (-1), kI 0, 0) t2).1 (mTn vo (se 2) (kI (-1), kI (-1), kI 0, 0) t2).2.2.1 vo (se 2) 0)), (0, .ref (ad 87))]) 1 dX12_takes_62 rfl (by decide) rfl ?_
                refine gj_iconst C (v := 0) (by decide) dX12_takes_63 ?_
                refine gj_seti (y := nI 0) rfl ?_
                refine gj_istore_n C (lv' := [(2, .int (nI 0)), (1, .int (mB (mTn vo (se 2) (kI (-1), kI (-1), kI 0, 0) t2).1 (mTn vo (se 2) (kI (-1), kI (-1), kI 0, 0) t2).2.2.1 vo (se 2) 0)), (0, .ref (ad 87))]) 2 dX12_takes_64 rfl (by decide) rfl ?_
                have loop_11 : ∀ (m3 t3 : Nat), t3 + m3 = 96 → gJ pT l eT (Rm 0) sT mT aT below meth cT AT QT D ad 108 4 (va_up (va_up (va_up (va_up f 87 (.inr (11, mF ad la dr go lo ma ((mTn vo (se 2) (kI (-1), kI (-1), kI 0, 0) t2).2.2.2) tu su))) 96 (.inl (ca 0, 8, .inl ((mTn vo (se 2) (kI (-1), kI (-1), kI 0, 0) t2).1)))) 97 (.inl (ca 0, 8, .inl ((mTn vo (se 2) (kI (-1), kI (-1), kI 0, 0) t2).2.1)))) 98 (.inl (ca 2, 12, .inl ((mTn vo (se 2) (kI (-1), kI (-1), kI 0, 0) t2).2.2.1)))) [(2, .int (nI t3)), (1, .int (mB (mTn vo (se 2) (kI (-1), kI (-1), kI 0, 0) t2).1 (mTn vo (se 2) (kI (-1), kI (-1), kI 0, 0) t2).2.2.1 vo (se 2) t3)), (0, .ref (ad 87))] 65 [] := by
                  intro m3
                  induction m3 with
                  | zero =>
                    intro t3 hk_t3 
                    obtain rfl : t3 = 96 := (by omega)
                    refine gj_iload_n C 2 dX12_takes_65 rfl 0 rfl ?_
                    refine gj_bipush C (v := 96) (by decide) dX12_takes_66 ?_
                    refine gj_icmp_ge C 153 dX12_takes_68 (by decide) (fun c_13 => ?_) (fun c_13 => absurd (Int32.le_refl _) c_13)
                    refine gj_iload_n C 1 dX12_takes_153 rfl 1 rfl ?_
                    refine gj_iconst C (v := (-1)) (by decide) dX12_takes_154 ?_
                    refine gj_icmp_eq C 56 dX12_takes_155 (by decide) (fun c_14 => ?_) (fun c_14 => ?_)
                    · refine gj_setf (g := va_up (va_up (va_up (va_up f 87 (.inr (11, mF ad la dr go lo ma ((mTn vo (se 2) (kI (-1), kI (-1), kI 0, 0) (t2 + 1)).2.2.2) tu su))) 96 (.inl (ca 0, 8, .inl ((mTn vo (se 2) (kI (-1), kI (-1), kI 0, 0) (t2 + 1)).1)))) 97 (.inl (ca 0, 8, .inl ((mTn vo (se 2) (kI (-1), kI (-1), kI 0, 0) (t2 + 1)).2.1)))) 98 (.inl (ca 2, 12, .inl ((mTn vo (se 2) (kI (-1), kI (-1), kI 0, 0) (t2 + 1)).2.2.1)))) (by rw [show (mTn vo (se 2) (kI (-1), kI (-1), kI 0, 0) (t2 + 1)) = (mTn vo (se 2) (kI (-1), kI (-1), kI 0, 0) t2) from if_pos c_14]) ?_
                      refine gj_lv [1, 2] rfl ?_
                      exact ih_8 (t2 + 1) (by omega)
                    · refine gj_aload_n C 0 dX12_takes_158 rfl 2 rfl ?_
                      refine gj_get C 87 (by decide) (up_nx (by decide) (up_nx (by decide) (up_nx (by decide) (va_up_self _ _ _)))) inX12 rfl 13 (by decide) w_862 (v := .ref (ad 96)) rfl dX12_takes_159 ?_
                      refine gj_iload_n C 1 dX12_takes_162 rfl 1 rfl ?_
                      refine gj_bipush C (v := 12) (by decide) dX12_takes_163 ?_
                      refine gj_idiv C (by decide) dX12_takes_165 ?_
                      refine gj_iload_n C 1 dX12_takes_166 rfl 1 rfl ?_
                      refine gj_bipush C (v := 12) (by decide) dX12_takes_167 ?_
                      refine gj_irem C (by decide) dX12_takes_169 ?_
                      refine gj_iast C 96 (by decide) (up_nx (by decide) (up_nx (by decide) (va_up_self _ _ _))) (mB_dv c_14) dX12_takes_170 ?_
                      refine gj_setf ((up_comm (by decide)).trans (up_un ((up_comm (by decide)).trans (up_un (bx_uu _ _ _ _))))) ?_
                      refine gj_aload_n C 0 dX12_takes_171 rfl 2 rfl ?_
                      refine gj_get C 87 (by decide) (up_nx (by decide) (up_nx (by decide) (up_nx (by decide) (va_up_self _ _ _)))) inX12 rfl 14 (by decide) w_863 (v := .ref (ad 97)) rfl dX12_takes_172 ?_
                      refine gj_iload_n C 1 dX12_takes_175 rfl 1 rfl ?_
                      refine gj_bipush C (v := 12) (by decide) dX12_takes_176 ?_
                      refine gj_idiv C (by decide) dX12_takes_178 ?_
                      refine gj_aload_n C 0 dX12_takes_179 rfl 2 rfl ?_
                      refine gj_get C 87 (by decide) (up_nx (by decide) (up_nx (by decide) (up_nx (by decide) (va_up_self _ _ _)))) inX12 rfl 16 (by decide) w_865 (v := .int ((mTn vo (se 2) (kI (-1), kI (-1), kI 0, 0) t2).2.2.2)) rfl dX12_takes_180 ?_
                      refine gj_iast C 97 (by decide) (up_nx (by decide) (va_up_self _ _ _)) (mB_dv c_14) dX12_takes_183 ?_
                      refine gj_setf ((up_comm (by decide)).trans (up_un (bx_uu _ _ _ _))) ?_
                      refine gj_aload_n C 0 dX12_takes_184 rfl 2 rfl ?_
                      refine gj_get C 87 (by decide) (up_nx (by decide) (up_nx (by decide) (up_nx (by decide) (va_up_self _ _ _)))) inX12 rfl 15 (by decide) w_864 (v := .ref (ad 98)) rfl dX12_takes_185 ?_
                      refine gj_iload_n C 1 dX12_takes_188 rfl 1 rfl ?_
                      refine gj_bipush C (v := 12) (by decide) dX12_takes_189 ?_
                      refine gj_irem C (by decide) dX12_takes_191 ?_
                      refine gj_iconst C (v := 1) (by decide) dX12_takes_192 ?_
                      refine gj_zast C 98 (by decide) (va_up_self _ _ _) (mB_rm c_14) dX12_takes_193 ?_
                      refine gj_setf (bx_uu _ _ _ _) ?_
                      refine gj_aload_n C 0 dX12_takes_194 rfl 2 rfl ?_
                      refine gj_dup C rfl dX12_takes_195 ?_
                      refine gj_get C 87 (by decide) (up_nx (by decide) (up_nx (by decide) (up_nx (by decide) (va_up_self _ _ _)))) inX12 rfl 16 (by decide) w_865 (v := .int ((mTn vo (se 2) (kI (-1), kI (-1), kI 0, 0) t2).2.2.2)) rfl dX12_takes_196 ?_
                      refine gj_iconst C (v := 1) (by decide) dX12_takes_199 ?_
                      refine gj_iadd C dX12_takes_200 ?_
                      refine gj_putS C 87 (by decide) (up_nx (by decide) (up_nx (by decide) (up_nx (by decide) (va_up_self _ _ _)))) inX12 rfl 16 (by decide) tyX12 tyX12_ok nmX12 w_865 rfl (v := .int (((mTn vo (se 2) (kI (-1), kI (-1), kI 0, 0) t2).2.2.2) + 1)) (fs' := [.ref (ad 88), .ref (ad 89), .ref (ad 90), .ref (ad 91), .int la, .ref (ad 92), .ref (ad 93), .ref (ad 94), .int dr, .int go, .int lo, .int ma, .ref (ad 95), .ref (ad 96), .ref (ad 97), .ref (ad 98), .int (((mTn vo (se 2) (kI (-1), kI (-1), kI 0, 0) t2).2.2.2) + 1), .int tu, .ref (ad 99), .ref (ad 100), .ref (ad 101), .ref (ad 102), .ref (ad 103), .ref (ad 104), .int su, .ref (ad 105), .ref (ad 106), .ref (ad 107)]) rfl rfl (Nat.le_of_ble_eq_true rfl) rfl dX12_takes_201 ?_
                      refine gj_setf ((up_comm (by decide)).trans (up_un ((up_comm (by decide)).trans (up_un ((up_comm (by decide)).trans (up_un (bx_uu _ _ _ _))))))) ?_
                      refine gj_goto C 56 dX12_takes_204 (by decide) ?_
                      refine gj_setf (g := va_up (va_up (va_up (va_up f 87 (.inr (11, mF ad la dr go lo ma ((mTn vo (se 2) (kI (-1), kI (-1), kI 0, 0) (t2 + 1)).2.2.2) tu su))) 96 (.inl (ca 0, 8, .inl ((mTn vo (se 2) (kI (-1), kI (-1), kI 0, 0) (t2 + 1)).1)))) 97 (.inl (ca 0, 8, .inl ((mTn vo (se 2) (kI (-1), kI (-1), kI 0, 0) (t2 + 1)).2.1)))) 98 (.inl (ca 2, 12, .inl ((mTn vo (se 2) (kI (-1), kI (-1), kI 0, 0) (t2 + 1)).2.2.1)))) (by rw [show (mTn vo (se 2) (kI (-1), kI (-1), kI 0, 0) (t2 + 1)) = _ from if_neg c_14]) ?_
                      refine gj_lv [1, 2] rfl ?_
                      exact ih_8 (t2 + 1) (by omega)
                  | succ m3 ih_12 =>
                    intro t3 hk_t3 
                    refine gj_iload_n C 2 dX12_takes_65 rfl 0 rfl ?_
                    refine gj_bipush C (v := 96) (by decide) dX12_takes_66 ?_
                    refine gj_icmp_ge C 153 dX12_takes_68 (by decide) (fun c_15 => absurd c_15 (show ¬ (96 : Int32) ≤ nI t3 from nI_ge (b := 96) (by omega) (by omega))) (fun c_15 => ?_)
                    refine gj_aload_n C 0 dX12_takes_71 rfl 2 rfl ?_
                    refine gj_get C 87 (by decide) (up_nx (by decide) (up_nx (by decide) (up_nx (by decide) (va_up_self _ _ _)))) inX12 rfl 13 (by decide) w_862 (v := .ref (ad 96)) rfl dX12_takes_72 ?_
                    refine gj_iload_n C 2 dX12_takes_75 rfl 0 rfl ?_
                    refine gj_bipush C (v := 12) (by decide) dX12_takes_76 ?_
                    refine gj_idiv C (by decide) dX12_takes_78 ?_
                    refine gj_iald C 96 (by decide) (up_nx (by decide) (up_nx (by decide) (va_up_self _ _ _))) (dv12_in (by omega)) dX12_takes_79 ?_
                    refine gj_seti (congrArg _ (dv12_cl (by omega))) ?_
                    refine gj_iconst C (v := (-1)) (by decide) dX12_takes_80 ?_
                    refine gj_icmp_ne C 115 dX12_takes_81 (by decide) (fun c_16 => ?_) (fun c_16 => ?_)
                    · refine gj_iconst C (v := 0) (by decide) dX12_takes_115 ?_
                      refine gj_istore_n C (lv' := [(3, .int 0), (2, .int (nI t3)), (1, .int (mB (mTn vo (se 2) (kI (-1), kI (-1), kI 0, 0) t2).1 (mTn vo (se 2) (kI (-1), kI (-1), kI 0, 0) t2).2.2.1 vo (se 2) t3)), (0, .ref (ad 87))]) 3 dX12_takes_116 rfl (by decide) rfl ?_
                      refine gj_iload_n C 3 dX12_takes_117 rfl 0 rfl ?_
                      refine gj_if_eq C 145 dX12_takes_118 (by decide) (fun c_17 => ?_) (fun c_17 => absurd (by decide) c_17)
                      refine gj_iload_n C 1 dX12_takes_145 rfl 2 rfl ?_
                      refine gj_seti (y := mB (mTn vo (se 2) (kI (-1), kI (-1), kI 0, 0) t2).1 (mTn vo (se 2) (kI (-1), kI (-1), kI 0, 0) t2).2.2.1 vo (se 2) (t3 + 1)) (show mB (mTn vo (se 2) (kI (-1), kI (-1), kI 0, 0) t2).1 (mTn vo (se 2) (kI (-1), kI (-1), kI 0, 0) t2).2.2.1 vo (se 2) (t3 + 1) = _ from (if_neg c_16).trans (rfl)).symm ?_
                      refine gj_istore_n C (lv' := [(1, .int (mB (mTn vo (se 2) (kI (-1), kI (-1), kI 0, 0) t2).1 (mTn vo (se 2) (kI (-1), kI (-1), kI 0, 0) t2).2.2.1 vo (se 2) (t3 + 1))), (3, .int 0), (2, .int (nI t3)), (0, .ref (ad 87))]) 1 dX12_takes_146 rfl (by decide) rfl ?_
                      refine gj_iinc C (v := nI (t3 + 1)) (lv' := [(2, .int (nI (t3 + 1))), (1, .int (mB (mTn vo (se 2) (kI (-1), kI (-1), kI 0, 0) t2).1 (mTn vo (se 2) (kI (-1), kI (-1), kI 0, 0) t2).2.2.1 vo (se 2) (t3 + 1))), (3, .int 0), (0, .ref (ad 87))]) dX12_takes_147 2 rfl (nI_1 _) (by decide) rfl ?_
                      refine gj_goto C 65 dX12_takes_150 (by decide) ?_
                      refine gj_lv [0, 1, 3] rfl ?_
                      exact ih_12 (t3 + 1) (by omega)
                    · refine gj_aload_n C 0 dX12_takes_84 rfl 2 rfl ?_
                      refine gj_get C 87 (by decide) (up_nx (by decide) (up_nx (by decide) (up_nx (by decide) (va_up_self _ _ _)))) inX12 rfl 15 (by decide) w_864 (v := .ref (ad 98)) rfl dX12_takes_85 ?_
                      refine gj_iload_n C 2 dX12_takes_88 rfl 0 rfl ?_
                      refine gj_bipush C (v := 12) (by decide) dX12_takes_89 ?_
                      refine gj_irem C (by decide) dX12_takes_91 ?_
                      refine gj_zald C 98 (by decide) (va_up_self _ _ _) (rm12_in (by omega)) dX12_takes_92 ?_
                      refine gj_seti (congrArg _ (rm12_cl (by omega))) ?_
                      refine gj_if_ne C 115 dX12_takes_93 (by decide) (fun c_18 => ?_) (fun c_18 => ?_)
                      · refine gj_iconst C (v := 0) (by decide) dX12_takes_115 ?_
                        refine gj_istore_n C (lv' := [(3, .int 0), (2, .int (nI t3)), (1, .int (mB (mTn vo (se 2) (kI (-1), kI (-1), kI 0, 0) t2).1 (mTn vo (se 2) (kI (-1), kI (-1), kI 0, 0) t2).2.2.1 vo (se 2) t3)), (0, .ref (ad 87))]) 3 dX12_takes_116 rfl (by decide) rfl ?_
                        refine gj_iload_n C 3 dX12_takes_117 rfl 0 rfl ?_
                        refine gj_if_eq C 145 dX12_takes_118 (by decide) (fun c_19 => ?_) (fun c_19 => absurd (by decide) c_19)
                        refine gj_iload_n C 1 dX12_takes_145 rfl 2 rfl ?_
                        refine gj_seti (y := mB (mTn vo (se 2) (kI (-1), kI (-1), kI 0, 0) t2).1 (mTn vo (se 2) (kI (-1), kI (-1), kI 0, 0) t2).2.2.1 vo (se 2) (t3 + 1)) (show mB (mTn vo (se 2) (kI (-1), kI (-1), kI 0, 0) t2).1 (mTn vo (se 2) (kI (-1), kI (-1), kI 0, 0) t2).2.2.1 vo (se 2) (t3 + 1) = _ from (if_pos c_16).trans ((if_neg c_18).trans (rfl))).symm ?_
                        refine gj_istore_n C (lv' := [(1, .int (mB (mTn vo (se 2) (kI (-1), kI (-1), kI 0, 0) t2).1 (mTn vo (se 2) (kI (-1), kI (-1), kI 0, 0) t2).2.2.1 vo (se 2) (t3 + 1))), (3, .int 0), (2, .int (nI t3)), (0, .ref (ad 87))]) 1 dX12_takes_146 rfl (by decide) rfl ?_
                        refine gj_iinc C (v := nI (t3 + 1)) (lv' := [(2, .int (nI (t3 + 1))), (1, .int (mB (mTn vo (se 2) (kI (-1), kI (-1), kI 0, 0) t2).1 (mTn vo (se 2) (kI (-1), kI (-1), kI 0, 0) t2).2.2.1 vo (se 2) (t3 + 1))), (3, .int 0), (0, .ref (ad 87))]) dX12_takes_147 2 rfl (nI_1 _) (by decide) rfl ?_
                        refine gj_goto C 65 dX12_takes_150 (by decide) ?_
                        refine gj_lv [0, 1, 3] rfl ?_
                        exact ih_12 (t3 + 1) (by omega)
                      · refine gj_aload_n C 0 dX12_takes_96 rfl 2 rfl ?_
                        refine gj_get C 87 (by decide) (up_nx (by decide) (up_nx (by decide) (up_nx (by decide) (va_up_self _ _ _)))) inX12 rfl 12 (by decide) w_861 (v := .ref (ad 95)) rfl dX12_takes_97 ?_
                        refine gj_iload_n C 2 dX12_takes_100 rfl 0 rfl ?_
                        refine gj_iald C 95 (by decide) (up_nx (by decide) (up_nx (by decide) (up_nx (by decide) (up_nx (by decide) (hc2))))) (vp_in_nI (by omega) (by omega)) dX12_takes_101 ?_
                        refine gj_seti (congrArg _ (nI_clamp (by omega))) ?_
                        refine gj_aload_n C 0 dX12_takes_102 rfl 2 rfl ?_
                        refine gj_get C 87 (by decide) (up_nx (by decide) (up_nx (by decide) (up_nx (by decide) (va_up_self _ _ _)))) inX12 rfl 7 (by decide) w_856 (v := .ref (ad 94)) rfl dX12_takes_103 ?_
                        refine gj_iconst C (v := 2) (by decide) dX12_takes_106 ?_
                        refine gj_iald C 94 (by decide) (up_nx (by decide) (up_nx (by decide) (up_nx (by decide) (up_nx (by decide) (hc1))))) (by unfold vp_in; decide) dX12_takes_107 ?_
                        refine gj_seti (y := se 2) rfl ?_
                        refine gj_icmp_lt C 115 dX12_takes_108 (by decide) (fun c_20 => ?_) (fun c_20 => ?_)
                        · refine gj_iconst C (v := 0) (by decide) dX12_takes_115 ?_
                          refine gj_istore_n C (lv' := [(3, .int 0), (2, .int (nI t3)), (1, .int (mB (mTn vo (se 2) (kI (-1), kI (-1), kI 0, 0) t2).1 (mTn vo (se 2) (kI (-1), kI (-1), kI 0, 0) t2).2.2.1 vo (se 2) t3)), (0, .ref (ad 87))]) 3 dX12_takes_116 rfl (by decide) rfl ?_
                          refine gj_iload_n C 3 dX12_takes_117 rfl 0 rfl ?_
                          refine gj_if_eq C 145 dX12_takes_118 (by decide) (fun c_21 => ?_) (fun c_21 => absurd (by decide) c_21)
                          refine gj_iload_n C 1 dX12_takes_145 rfl 2 rfl ?_
                          refine gj_seti (y := mB (mTn vo (se 2) (kI (-1), kI (-1), kI 0, 0) t2).1 (mTn vo (se 2) (kI (-1), kI (-1), kI 0, 0) t2).2.2.1 vo (se 2) (t3 + 1)) (show mB (mTn vo (se 2) (kI (-1), kI (-1), kI 0, 0) t2).1 (mTn vo (se 2) (kI (-1), kI (-1), kI 0, 0) t2).2.2.1 vo (se 2) (t3 + 1) = _ from (if_pos c_16).trans ((if_pos c_18).trans ((if_pos c_20).trans (rfl)))).symm ?_
                          refine gj_istore_n C (lv' := [(1, .int (mB (mTn vo (se 2) (kI (-1), kI (-1), kI 0, 0) t2).1 (mTn vo (se 2) (kI (-1), kI (-1), kI 0, 0) t2).2.2.1 vo (se 2) (t3 + 1))), (3, .int 0), (2, .int (nI t3)), (0, .ref (ad 87))]) 1 dX12_takes_146 rfl (by decide) rfl ?_
                          refine gj_iinc C (v := nI (t3 + 1)) (lv' := [(2, .int (nI (t3 + 1))), (1, .int (mB (mTn vo (se 2) (kI (-1), kI (-1), kI 0, 0) t2).1 (mTn vo (se 2) (kI (-1), kI (-1), kI 0, 0) t2).2.2.1 vo (se 2) (t3 + 1))), (3, .int 0), (0, .ref (ad 87))]) dX12_takes_147 2 rfl (nI_1 _) (by decide) rfl ?_
                          refine gj_goto C 65 dX12_takes_150 (by decide) ?_
                          refine gj_lv [0, 1, 3] rfl ?_
                          exact ih_12 (t3 + 1) (by omega)
                        · refine gj_iconst C (v := 1) (by decide) dX12_takes_111 ?_
                          refine gj_goto C 116 dX12_takes_112 (by decide) ?_
                          refine gj_istore_n C (lv' := [(3, .int 1), (2, .int (nI t3)), (1, .int (mB (mTn vo (se 2) (kI (-1), kI (-1), kI 0, 0) t2).1 (mTn vo (se 2) (kI (-1), kI (-1), kI 0, 0) t2).2.2.1 vo (se 2) t3)), (0, .ref (ad 87))]) 3 dX12_takes_116 rfl (by decide) rfl ?_
                          refine gj_iload_n C 3 dX12_takes_117 rfl 0 rfl ?_
                          refine gj_if_eq C 145 dX12_takes_118 (by decide) (fun c_22 => absurd c_22 (by decide)) (fun c_22 => ?_)
                          refine gj_iload_n C 1 dX12_takes_121 rfl 2 rfl ?_
                          refine gj_iconst C (v := (-1)) (by decide) dX12_takes_122 ?_
                          refine gj_icmp_eq C 141 dX12_takes_123 (by decide) (fun c_23 => ?_) (fun c_23 => ?_)
                          · refine gj_iload_n C 2 dX12_takes_141 rfl 1 rfl ?_
                            refine gj_goto C 146 dX12_takes_142 (by decide) ?_
                            refine gj_seti (y := mB (mTn vo (se 2) (kI (-1), kI (-1), kI 0, 0) t2).1 (mTn vo (se 2) (kI (-1), kI (-1), kI 0, 0) t2).2.2.1 vo (se 2) (t3 + 1)) (show mB (mTn vo (se 2) (kI (-1), kI (-1), kI 0, 0) t2).1 (mTn vo (se 2) (kI (-1), kI (-1), kI 0, 0) t2).2.2.1 vo (se 2) (t3 + 1) = _ from (if_pos c_16).trans ((if_pos c_18).trans ((if_neg c_20).trans ((if_pos c_23).trans (rfl))))).symm ?_
                            refine gj_istore_n C (lv' := [(1, .int (mB (mTn vo (se 2) (kI (-1), kI (-1), kI 0, 0) t2).1 (mTn vo (se 2) (kI (-1), kI (-1), kI 0, 0) t2).2.2.1 vo (se 2) (t3 + 1))), (3, .int 1), (2, .int (nI t3)), (0, .ref (ad 87))]) 1 dX12_takes_146 rfl (by decide) rfl ?_
                            refine gj_iinc C (v := nI (t3 + 1)) (lv' := [(2, .int (nI (t3 + 1))), (1, .int (mB (mTn vo (se 2) (kI (-1), kI (-1), kI 0, 0) t2).1 (mTn vo (se 2) (kI (-1), kI (-1), kI 0, 0) t2).2.2.1 vo (se 2) (t3 + 1))), (3, .int 1), (0, .ref (ad 87))]) dX12_takes_147 2 rfl (nI_1 _) (by decide) rfl ?_
                            refine gj_goto C 65 dX12_takes_150 (by decide) ?_
                            refine gj_lv [0, 1, 3] rfl ?_
                            exact ih_12 (t3 + 1) (by omega)
                          · refine gj_aload_n C 0 dX12_takes_126 rfl 3 rfl ?_
                            refine gj_get C 87 (by decide) (up_nx (by decide) (up_nx (by decide) (up_nx (by decide) (va_up_self _ _ _)))) inX12 rfl 12 (by decide) w_861 (v := .ref (ad 95)) rfl dX12_takes_127 ?_
                            refine gj_iload_n C 2 dX12_takes_130 rfl 1 rfl ?_
                            refine gj_iald C 95 (by decide) (up_nx (by decide) (up_nx (by decide) (up_nx (by decide) (up_nx (by decide) (hc2))))) (vp_in_nI (by omega) (by omega)) dX12_takes_131 ?_
                            refine gj_seti (congrArg _ (nI_clamp (by omega))) ?_
                            refine gj_aload_n C 0 dX12_takes_132 rfl 3 rfl ?_
                            refine gj_get C 87 (by decide) (up_nx (by decide) (up_nx (by decide) (up_nx (by decide) (va_up_self _ _ _)))) inX12 rfl 12 (by decide) w_861 (v := .ref (ad 95)) rfl dX12_takes_133 ?_
                            refine gj_iload_n C 1 dX12_takes_136 rfl 2 rfl ?_
                            refine gj_iald C 95 (by decide) (up_nx (by decide) (up_nx (by decide) (up_nx (by decide) (up_nx (by decide) (hc2))))) (mB_vin (by omega) c_23) dX12_takes_137 ?_
                            refine gj_icmp_le C 145 dX12_takes_138 (by decide) (fun c_24 => ?_) (fun c_24 => ?_)
                            · refine gj_iload_n C 1 dX12_takes_145 rfl 2 rfl ?_
                              refine gj_seti (y := mB (mTn vo (se 2) (kI (-1), kI (-1), kI 0, 0) t2).1 (mTn vo (se 2) (kI (-1), kI (-1), kI 0, 0) t2).2.2.1 vo (se 2) (t3 + 1)) (show mB (mTn vo (se 2) (kI (-1), kI (-1), kI 0, 0) t2).1 (mTn vo (se 2) (kI (-1), kI (-1), kI 0, 0) t2).2.2.1 vo (se 2) (t3 + 1) = _ from (if_pos c_16).trans ((if_pos c_18).trans ((if_neg c_20).trans ((if_neg c_23).trans ((if_pos c_24).trans (rfl)))))).symm ?_
                              refine gj_istore_n C (lv' := [(1, .int (mB (mTn vo (se 2) (kI (-1), kI (-1), kI 0, 0) t2).1 (mTn vo (se 2) (kI (-1), kI (-1), kI 0, 0) t2).2.2.1 vo (se 2) (t3 + 1))), (3, .int 1), (2, .int (nI t3)), (0, .ref (ad 87))]) 1 dX12_takes_146 rfl (by decide) rfl ?_
                              refine gj_iinc C (v := nI (t3 + 1)) (lv' := [(2, .int (nI (t3 + 1))), (1, .int (mB (mTn vo (se 2) (kI (-1), kI (-1), kI 0, 0) t2).1 (mTn vo (se 2) (kI (-1), kI (-1), kI 0, 0) t2).2.2.1 vo (se 2) (t3 + 1))), (3, .int 1), (0, .ref (ad 87))]) dX12_takes_147 2 rfl (nI_1 _) (by decide) rfl ?_
                              refine gj_goto C 65 dX12_takes_150 (by decide) ?_
                              refine gj_lv [0, 1, 3] rfl ?_
                              exact ih_12 (t3 + 1) (by omega)
                            · refine gj_iload_n C 2 dX12_takes_141 rfl 1 rfl ?_
                              refine gj_goto C 146 dX12_takes_142 (by decide) ?_
                              refine gj_seti (y := mB (mTn vo (se 2) (kI (-1), kI (-1), kI 0, 0) t2).1 (mTn vo (se 2) (kI (-1), kI (-1), kI 0, 0) t2).2.2.1 vo (se 2) (t3 + 1)) (show mB (mTn vo (se 2) (kI (-1), kI (-1), kI 0, 0) t2).1 (mTn vo (se 2) (kI (-1), kI (-1), kI 0, 0) t2).2.2.1 vo (se 2) (t3 + 1) = _ from (if_pos c_16).trans ((if_pos c_18).trans ((if_neg c_20).trans ((if_neg c_23).trans ((if_neg c_24).trans (rfl)))))).symm ?_
                              refine gj_istore_n C (lv' := [(1, .int (mB (mTn vo (se 2) (kI (-1), kI (-1), kI 0, 0) t2).1 (mTn vo (se 2) (kI (-1), kI (-1), kI 0, 0) t2).2.2.1 vo (se 2) (t3 + 1))), (3, .int 1), (2, .int (nI t3)), (0, .ref (ad 87))]) 1 dX12_takes_146 rfl (by decide) rfl ?_
                              refine gj_iinc C (v := nI (t3 + 1)) (lv' := [(2, .int (nI (t3 + 1))), (1, .int (mB (mTn vo (se 2) (kI (-1), kI (-1), kI 0, 0) t2).1 (mTn vo (se 2) (kI (-1), kI (-1), kI 0, 0) t2).2.2.1 vo (se 2) (t3 + 1))), (3, .int 1), (0, .ref (ad 87))]) dX12_takes_147 2 rfl (nI_1 _) (by decide) rfl ?_
                              refine gj_goto C 65 dX12_takes_150 (by decide) ?_
                              refine gj_lv [0, 1, 3] rfl ?_
                              exact ih_12 (t3 + 1) (by omega)
                refine gj_lv [0, 1, 2] rfl ?_
                exact loop_11 (96 - 0) 0 (by omega)
          refine gj_lv [0, 1] rfl ?_
          exact loop_7 (9 - 0) 0 (by omega)
        | succ m1 ih_5 =>
          intro t1 hk_t1 
          refine gj_iload_n C 1 dX12_takes_30 rfl 0 rfl ?_
          refine gj_bipush C (v := 12) (by decide) dX12_takes_31 ?_
          refine gj_icmp_ge C 49 dX12_takes_33 (by decide) (fun c_25 => absurd c_25 (show ¬ (12 : Int32) ≤ nI t1 from nI_ge (b := 12) (by omega) (by omega))) (fun c_25 => ?_)
          refine gj_aload_n C 0 dX12_takes_36 rfl 1 rfl ?_
          refine gj_get C 87 (by decide) (up_nx (by decide) (up_nx (by decide) (up_nx (by decide) (va_up_self _ _ _)))) inX12 rfl 15 (by decide) w_864 (v := .ref (ad 98)) rfl dX12_takes_37 ?_
          refine gj_iload_n C 1 dX12_takes_40 rfl 0 rfl ?_
          refine gj_iconst C (v := 0) (by decide) dX12_takes_41 ?_
          refine gj_zast C 98 (by decide) (va_up_self _ _ _) (vp_in_nI (by omega) (by omega)) dX12_takes_42 ?_
          refine gj_setf (bx_uu _ _ _ _) ?_
          refine gj_setf (g := va_up (va_up (va_up (va_up f 87 (.inr (11, mF ad la dr go lo ma pa tu su))) 96 (.inl (ca 0, 8, .inl (kI (-1))))) 97 (.inl (ca 0, 8, .inl (kI (-1))))) 98 (.inl (ca 2, 12, .inl (zF us 0 (t1 + 1))))) (by rw [show ((0 : Int32) &&& 1) = 0 from rfl, zF_i us 0 (show t1 < 2 ^ 31 by omega)]) ?_
          refine gj_iinc C (v := nI (t1 + 1)) (lv' := [(1, .int (nI (t1 + 1))), (0, .ref (ad 87))]) dX12_takes_43 0 rfl (nI_1 _) (by decide) rfl ?_
          refine gj_goto C 30 dX12_takes_46 (by decide) ?_
          refine gj_lv [0, 1] rfl ?_
          exact ih_5 (t1 + 1) (by omega)
      refine gj_lv [0, 1] rfl ?_
      exact loop_4 (12 - 0) 0 (by omega)
    | succ m0 ih_2 =>
      intro t0 hk_t0 
      refine gj_iload_n C 1 dX12_takes_2 rfl 0 rfl ?_
      refine gj_bipush C (v := 8) (by decide) dX12_takes_3 ?_
      refine gj_icmp_ge C 28 dX12_takes_5 (by decide) (fun c_26 => absurd c_26 (show ¬ (8 : Int32) ≤ nI t0 from nI_ge (b := 8) (by omega) (by omega))) (fun c_26 => ?_)
      refine gj_aload_n C 0 dX12_takes_8 rfl 1 rfl ?_
      refine gj_get C 87 (by decide) (up_nx (by decide) (up_nx (by decide) (up_nx (by decide) (va_up_self _ _ _)))) inX12 rfl 13 (by decide) w_862 (v := .ref (ad 96)) rfl dX12_takes_9 ?_
      refine gj_iload_n C 1 dX12_takes_12 rfl 0 rfl ?_
      refine gj_iconst C (v := (-1)) (by decide) dX12_takes_13 ?_
      refine gj_iast C 96 (by decide) (up_nx (by decide) (up_nx (by decide) (va_up_self _ _ _))) (vp_in_nI (by omega) (by omega)) dX12_takes_14 ?_
      refine gj_setf ((up_comm (by decide)).trans (up_un ((up_comm (by decide)).trans (up_un (bx_uu _ _ _ _))))) ?_
      refine gj_setf (g := va_up (va_up (va_up (va_up f 87 (.inr (11, mF ad la dr go lo ma pa tu su))) 96 (.inl (ca 0, 8, .inl (zF so (-1) (t0 + 1))))) 97 (.inl (ca 0, 8, .inl (zF ro (-1) t0)))) 98 (.inl (ca 2, 12, .inl us))) (by rw [zF_i so (-1) (show t0 < 2 ^ 31 by omega)]) ?_
      refine gj_aload_n C 0 dX12_takes_15 rfl 1 rfl ?_
      refine gj_get C 87 (by decide) (up_nx (by decide) (up_nx (by decide) (up_nx (by decide) (va_up_self _ _ _)))) inX12 rfl 14 (by decide) w_863 (v := .ref (ad 97)) rfl dX12_takes_16 ?_
      refine gj_iload_n C 1 dX12_takes_19 rfl 0 rfl ?_
      refine gj_iconst C (v := (-1)) (by decide) dX12_takes_20 ?_
      refine gj_iast C 97 (by decide) (up_nx (by decide) (va_up_self _ _ _)) (vp_in_nI (by omega) (by omega)) dX12_takes_21 ?_
      refine gj_setf ((up_comm (by decide)).trans (up_un (bx_uu _ _ _ _))) ?_
      refine gj_setf (g := va_up (va_up (va_up (va_up f 87 (.inr (11, mF ad la dr go lo ma pa tu su))) 96 (.inl (ca 0, 8, .inl (zF so (-1) (t0 + 1))))) 97 (.inl (ca 0, 8, .inl (zF ro (-1) (t0 + 1))))) 98 (.inl (ca 2, 12, .inl us))) (by rw [zF_i ro (-1) (show t0 < 2 ^ 31 by omega)]) ?_
      refine gj_iinc C (v := nI (t0 + 1)) (lv' := [(1, .int (nI (t0 + 1))), (0, .ref (ad 87))]) dX12_takes_22 0 rfl (nI_1 _) (by decide) rfl ?_
      refine gj_goto C 2 dX12_takes_25 (by decide) ?_
      refine gj_lv [0, 1] rfl ?_
      exact ih_2 (t0 + 1) (by omega)
  refine gj_lv [0, 1] rfl ?_
  exact loop_1 (8 - 0) 0 (by omega)
