set_option maxHeartbeats 1000000 in
set_option maxRecDepth 100000 in
theorem c_X12_confirms {l : Launch} {D : va_G} {ca ss ad : Nat → Nat} {f : Nat → va_E}   (la : Int32) (dr : Int32) (go : Int32) (lo : Int32) (ma : Int32) (pa : Int32) (tu : Int32) (su : Int32) (di : Nat → Int32) (mn : Nat → Int32) (se : Nat → Int32) (us : Nat → Int32) (pl : Nat → Int32) (su_ : Nat → Int32) (fa : Nat → Int32) (n0 : Nat) (n1 : Nat) (hc0 : f 87 = .inr (11, mF ad la dr go lo ma pa tu su)) (hc1 : f 92 = .inl (ca 0, 60, .inl di)) (hc2 : f 93 = .inl (ca 0, 2, .inl mn)) (hc3 : f 94 = .inl (ca 0, 4, .inl se)) (hc4 : f 98 = .inl (ca 2, 12, .inl us)) (hc5 : f 102 = .inl (ca 0, 36, .inl pl)) (hc6 : f 103 = .inl (ca 0, 8, .inl su_)) (hc7 : f 104 = .inl (ca 0, 8, .inl fa)) (h0 : mn 0 = nI n0) (h1 : mn 1 = nI n1) (hn : n0 ≤ 12) (hn1 : n1 ≤ 8) : gMv l D ca ss ad 108 yX12_confirms cX12_confirms 4 none 2 f [.ref (ad 87)] (fun u => u = va_up (va_up (va_up (va_up f 87 (.inr (11, mF ad la dr go lo ma pa tu ((mConf di pl (se 3) tu go n0 n1).2.2.2)))) 98 (.inl (ca 2, 12, .inl ((mConf di pl (se 3) tu go n0 n1).1)))) 103 (.inl (ca 0, 8, .inl ((mConf di pl (se 3) tu go n0 n1).2.1)))) 104 (.inl (ca 0, 8, .inl ((mConf di pl (se 3) tu go n0 n1).2.2.1)))) := by
  refine gMv_ofK (by decide +kernel) (Nat.le_of_ble_eq_true rfl) (lv0 := [(0, .ref (ad 87))]) rfl (fun pT eT sT mT aT below meth cT AT QT C RT => ?_)
  have C : gX pT sT mT aT meth cT AT D ca ss 4 RX12 cX12_confirms none := C
  refine gj_setf (up_id hc0).symm ?_
  refine gj_setf (up_id (up_nx (by decide) (hc4))).symm ?_
  refine gj_setf (up_id (up_nx (by decide) (up_nx (by decide) (hc6)))).symm ?_
  refine gj_setf (up_id (up_nx (by decide) (up_nx (by decide) (up_nx (by decide) (hc7))))).symm ?_
  refine gj_aload_n C 0 dX12_confirms_0 rfl 0 rfl ?_
  refine gj_iconst C (v := 0) (by decide) dX12_confirms_1 ?_
  refine gj_putS C 87 (by decide) (up_nx (by decide) (up_nx (by decide) (up_nx (by decide) (va_up_self _ _ _)))) inX12 rfl 24 (by decide) tyX12 tyX12_ok nmX12 w_873 rfl (v := .int 0) (fs' := [.ref (ad 88), .ref (ad 89), .ref (ad 90), .ref (ad 91), .int la, .ref (ad 92), .ref (ad 93), .ref (ad 94), .int dr, .int go, .int lo, .int ma, .ref (ad 95), .ref (ad 96), .ref (ad 97), .ref (ad 98), .int pa, .int tu, .ref (ad 99), .ref (ad 100), .ref (ad 101), .ref (ad 102), .ref (ad 103), .ref (ad 104), .int 0, .ref (ad 105), .ref (ad 106), .ref (ad 107)]) rfl rfl (Nat.le_of_ble_eq_true rfl) rfl dX12_confirms_2 ?_
  refine gj_setf ((up_comm (by decide)).trans (up_un ((up_comm (by decide)).trans (up_un ((up_comm (by decide)).trans (up_un (bx_uu _ _ _ _))))))) ?_
  refine gj_iconst C (v := 0) (by decide) dX12_confirms_5 ?_
  refine gj_seti (y := nI 0) rfl ?_
  refine gj_istore_n C (lv' := [(1, .int (nI 0)), (0, .ref (ad 87))]) 1 dX12_confirms_6 rfl (by decide) rfl ?_
  refine gj_setf (g := va_up (va_up (va_up (va_up f 87 (.inr (11, [.ref (ad 88), .ref (ad 89), .ref (ad 90), .ref (ad 91), .int la, .ref (ad 92), .ref (ad 93), .ref (ad 94), .int dr, .int go, .int lo, .int ma, .ref (ad 95), .ref (ad 96), .ref (ad 97), .ref (ad 98), .int pa, .int tu, .ref (ad 99), .ref (ad 100), .ref (ad 101), .ref (ad 102), .ref (ad 103), .ref (ad 104), .int 0, .ref (ad 105), .ref (ad 106), .ref (ad 107)]))) 98 (.inl (ca 2, 12, .inl (zF us 0 0)))) 103 (.inl (ca 0, 8, .inl su_))) 104 (.inl (ca 0, 8, .inl fa))) (by rw [zF_0]) ?_
  have loop_1 : ∀ (m0 t0 : Nat), t0 + m0 = 12 → gJ pT l eT (Rm 2) sT mT aT below meth cT AT QT D ad 108 4 (va_up (va_up (va_up (va_up f 87 (.inr (11, [.ref (ad 88), .ref (ad 89), .ref (ad 90), .ref (ad 91), .int la, .ref (ad 92), .ref (ad 93), .ref (ad 94), .int dr, .int go, .int lo, .int ma, .ref (ad 95), .ref (ad 96), .ref (ad 97), .ref (ad 98), .int pa, .int tu, .ref (ad 99), .ref (ad 100), .ref (ad 101), .ref (ad 102), .ref (ad 103), .ref (ad 104), .int 0, .ref (ad 105), .ref (ad 106), .ref (ad 107)]))) 98 (.inl (ca 2, 12, .inl (zF us 0 t0)))) 103 (.inl (ca 0, 8, .inl su_))) 104 (.inl (ca 0, 8, .inl fa))) [(1, .int (nI t0)), (0, .ref (ad 87))] 7 [] := by
    intro m0
    induction m0 with
    | zero =>
      intro t0 hk_t0 
      obtain rfl : t0 = 12 := (by omega)
      refine gj_iload_n C 1 dX12_confirms_7 rfl 0 rfl ?_
      refine gj_bipush C (v := 12) (by decide) dX12_confirms_8 ?_
      refine gj_icmp_ge C 26 dX12_confirms_10 (by decide) (fun c_3 => ?_) (fun c_3 => absurd (Int32.le_refl _) c_3)
      refine gj_iconst C (v := 0) (by decide) dX12_confirms_26 ?_
      refine gj_seti (y := nI 0) rfl ?_
      refine gj_istore_n C (lv' := [(1, .int (nI 0)), (0, .ref (ad 87))]) 1 dX12_confirms_27 rfl (by decide) rfl ?_
      refine gj_extI (g' := kI 0) 98 (by decide) (up_nx (by decide) (up_nx (by decide) (va_up_self _ _ _))) (zF_k us 0 12) ?_
      refine gj_setf ((up_comm (by decide)).trans (up_un ((up_comm (by decide)).trans (up_un (bx_uu _ _ _ _))))) ?_
      refine gj_setf (g := va_up (va_up (va_up (va_up f 87 (.inr (11, mF ad la dr go lo ma pa tu ((mCn di pl (se 3) tu go n0 n1 (kI 0, su_, fa, 0) 0).2.2.2)))) 98 (.inl (ca 2, 12, .inl ((mCn di pl (se 3) tu go n0 n1 (kI 0, su_, fa, 0) 0).1)))) 103 (.inl (ca 0, 8, .inl ((mCn di pl (se 3) tu go n0 n1 (kI 0, su_, fa, 0) 0).2.1)))) 104 (.inl (ca 0, 8, .inl ((mCn di pl (se 3) tu go n0 n1 (kI 0, su_, fa, 0) 0).2.2.1)))) rfl ?_
      have loop_4 : ∀ (m1 t1 : Nat), t1 + m1 = 8 → gJ pT l eT (Rm 2) sT mT aT below meth cT AT QT D ad 108 4 (va_up (va_up (va_up (va_up f 87 (.inr (11, mF ad la dr go lo ma pa tu ((mCn di pl (se 3) tu go n0 n1 (kI 0, su_, fa, 0) t1).2.2.2)))) 98 (.inl (ca 2, 12, .inl ((mCn di pl (se 3) tu go n0 n1 (kI 0, su_, fa, 0) t1).1)))) 103 (.inl (ca 0, 8, .inl ((mCn di pl (se 3) tu go n0 n1 (kI 0, su_, fa, 0) t1).2.1)))) 104 (.inl (ca 0, 8, .inl ((mCn di pl (se 3) tu go n0 n1 (kI 0, su_, fa, 0) t1).2.2.1)))) [(1, .int (nI t1)), (0, .ref (ad 87))] 28 [] := by
        intro m1
        induction m1 with
        | zero =>
          intro t1 hk_t1 
          refine gj_iload_n C 1 dX12_confirms_28 rfl 0 rfl ?_
          refine gj_bipush C (v := 8) (by decide) dX12_confirms_29 ?_
          refine gj_icmp_ge C 189 dX12_confirms_31 (by decide) (fun c_6 => ?_) (fun c_6 => absurd (show (8 : Int32) ≤ nI t1 from nI_le (a := 8) (by omega) (by omega)) c_6)
          obtain rfl : t1 = 8 := (by omega)
          refine gj_extI (g' := (mConf di pl (se 3) tu go n0 n1).2.1) 103 (by decide) (up_nx (by decide) (va_up_self _ _ _)) (fun j hj => ((mCn_x (di := di) (pl := pl) (ne := se 3) (tu := tu) (go := go) (n := n0) (n1 := n1) (X := (kI 0, su_, fa, 0)) (Y := (kI 0, kI (-1), kI (-1), 0)) rfl rfl 8).2.2 j hj).1) ?_
          refine gj_setf ((up_comm (by decide)).trans (up_un (bx_uu _ _ _ _))) ?_
          refine gj_extI (g' := (mConf di pl (se 3) tu go n0 n1).2.2.1) 104 (by decide) (va_up_self _ _ _) (fun j hj => ((mCn_x (di := di) (pl := pl) (ne := se 3) (tu := tu) (go := go) (n := n0) (n1 := n1) (X := (kI 0, su_, fa, 0)) (Y := (kI 0, kI (-1), kI (-1), 0)) rfl rfl 8).2.2 j hj).2) ?_
          refine gj_setf (bx_uu _ _ _ _) ?_
          refine gj_setf (g := va_up (va_up (va_up (va_up f 87 (.inr (11, mF ad la dr go lo ma pa tu ((mConf di pl (se 3) tu go n0 n1).2.2.2)))) 98 (.inl (ca 2, 12, .inl ((mConf di pl (se 3) tu go n0 n1).1)))) 103 (.inl (ca 0, 8, .inl ((mConf di pl (se 3) tu go n0 n1).2.1)))) 104 (.inl (ca 0, 8, .inl ((mConf di pl (se 3) tu go n0 n1).2.2.1)))) (by rw [(mCn_x (di := di) (pl := pl) (ne := se 3) (tu := tu) (go := go) (n := n0) (n1 := n1) (X := (kI 0, su_, fa, 0)) (Y := (kI 0, kI (-1), kI (-1), 0)) rfl rfl 8).1, (mCn_x (di := di) (pl := pl) (ne := se 3) (tu := tu) (go := go) (n := n0) (n1 := n1) (X := (kI 0, su_, fa, 0)) (Y := (kI 0, kI (-1), kI (-1), 0)) rfl rfl 8).2.1]; rfl) ?_
          exact RT _ _ _ rfl dX12_confirms_189
        | succ m1 ih_5 =>
          intro t1 hk_t1 
          refine gj_iload_n C 1 dX12_confirms_28 rfl 0 rfl ?_
          refine gj_bipush C (v := 8) (by decide) dX12_confirms_29 ?_
          refine gj_icmp_ge C 189 dX12_confirms_31 (by decide) (fun c_7 => absurd c_7 (show ¬ (8 : Int32) ≤ nI t1 from nI_ge (b := 8) (by omega) (by omega))) (fun c_7 => ?_)
          refine gj_aload_n C 0 dX12_confirms_34 rfl 1 rfl ?_
          refine gj_get C 87 (by decide) (up_nx (by decide) (up_nx (by decide) (up_nx (by decide) (va_up_self _ _ _)))) inX12 rfl 22 (by decide) w_871 (v := .ref (ad 103)) rfl dX12_confirms_35 ?_
          refine gj_iload_n C 1 dX12_confirms_38 rfl 0 rfl ?_
          refine gj_iconst C (v := (-1)) (by decide) dX12_confirms_39 ?_
          refine gj_iast C 103 (by decide) (up_nx (by decide) (va_up_self _ _ _)) (vp_in_nI (by omega) (by omega)) dX12_confirms_40 ?_
          refine gj_setf ((up_comm (by decide)).trans (up_un (bx_uu _ _ _ _))) ?_
          refine gj_setf (g := va_up (va_up (va_up (va_up f 87 (.inr (11, mF ad la dr go lo ma pa tu ((mCn di pl (se 3) tu go n0 n1 (kI 0, su_, fa, 0) t1).2.2.2)))) 98 (.inl (ca 2, 12, .inl ((mCn di pl (se 3) tu go n0 n1 (kI 0, su_, fa, 0) t1).1)))) 103 (.inl (ca 0, 8, .inl (upd ((mCn di pl (se 3) tu go n0 n1 (kI 0, su_, fa, 0) t1).2.1) t1 (-1))))) 104 (.inl (ca 0, 8, .inl ((mCn di pl (se 3) tu go n0 n1 (kI 0, su_, fa, 0) t1).2.2.1)))) (by rw [nI_clamp (show t1 < 2 ^ 31 by omega)]) ?_
          refine gj_aload_n C 0 dX12_confirms_41 rfl 1 rfl ?_
          refine gj_get C 87 (by decide) (up_nx (by decide) (up_nx (by decide) (up_nx (by decide) (va_up_self _ _ _)))) inX12 rfl 23 (by decide) w_872 (v := .ref (ad 104)) rfl dX12_confirms_42 ?_
          refine gj_iload_n C 1 dX12_confirms_45 rfl 0 rfl ?_
          refine gj_iconst C (v := (-1)) (by decide) dX12_confirms_46 ?_
          refine gj_iast C 104 (by decide) (va_up_self _ _ _) (vp_in_nI (by omega) (by omega)) dX12_confirms_47 ?_
          refine gj_setf (bx_uu _ _ _ _) ?_
          refine gj_setf (g := va_up (va_up (va_up (va_up f 87 (.inr (11, mF ad la dr go lo ma pa tu ((mCn di pl (se 3) tu go n0 n1 (kI 0, su_, fa, 0) t1).2.2.2)))) 98 (.inl (ca 2, 12, .inl ((mCn di pl (se 3) tu go n0 n1 (kI 0, su_, fa, 0) t1).1)))) 103 (.inl (ca 0, 8, .inl (upd ((mCn di pl (se 3) tu go n0 n1 (kI 0, su_, fa, 0) t1).2.1) t1 (-1))))) 104 (.inl (ca 0, 8, .inl (upd ((mCn di pl (se 3) tu go n0 n1 (kI 0, su_, fa, 0) t1).2.2.1) t1 (-1))))) (by rw [nI_clamp (show t1 < 2 ^ 31 by omega)]) ?_
          refine gj_iconst C (v := 0) (by decide) dX12_confirms_48 ?_
          refine gj_seti (y := nI 0) rfl ?_
          refine gj_istore_n C (lv' := [(2, .int (nI 0)), (1, .int (nI t1)), (0, .ref (ad 87))]) 2 dX12_confirms_49 rfl (by decide) rfl ?_
          by_cases ka_8 : tu = 0
          · refine gj_iload_n C 2 dX12_confirms_50 rfl 0 rfl ?_
            refine gj_aload_n C 0 dX12_confirms_51 rfl 2 rfl ?_
            refine gj_get C 87 (by decide) (up_nx (by decide) (up_nx (by decide) (up_nx (by decide) (va_up_self _ _ _)))) inX12 rfl 6 (by decide) w_855 (v := .ref (ad 93)) rfl dX12_confirms_52 ?_
            refine gj_iconst C (v := 0) (by decide) dX12_confirms_55 ?_
            refine gj_iald C 93 (by decide) (up_nx (by decide) (up_nx (by decide) (up_nx (by decide) (up_nx (by decide) (hc2))))) (by unfold vp_in; decide) dX12_confirms_56 ?_
            refine gj_seti h0 ?_
            refine gj_icmp_ge C 151 dX12_confirms_57 (by decide) (fun c_11 => ?_) (fun c_11 => ?_)
            · refine gj_aload_n C 0 dX12_confirms_151 rfl 2 rfl ?_
              refine gj_get C 87 (by decide) (up_nx (by decide) (up_nx (by decide) (up_nx (by decide) (va_up_self _ _ _)))) inX12 rfl 22 (by decide) w_871 (v := .ref (ad 103)) rfl dX12_confirms_152 ?_
              refine gj_iload_n C 1 dX12_confirms_155 rfl 1 rfl ?_
              refine gj_iald C 103 (by decide) (up_nx (by decide) (va_up_self _ _ _)) (vp_in_nI (by omega) (by omega)) dX12_confirms_156 ?_
              refine gj_seti (y := -1) (by rw [nI_clamp (show t1 < 2 ^ 31 by omega), pk_us]) ?_
              refine gj_iconst C (v := (-1)) (by decide) dX12_confirms_157 ?_
              refine gj_icmp_eq C 183 dX12_confirms_158 (by decide) (fun c_12 => ?_) (fun c_12 => absurd (by decide) c_12)
              refine gj_iinc C (v := nI (t1 + 1)) (lv' := [(1, .int (nI (t1 + 1))), (2, .int (nI 0)), (0, .ref (ad 87))]) dX12_confirms_183 1 rfl (nI_1 _) (by decide) rfl ?_
              refine gj_goto C 28 dX12_confirms_186 (by decide) ?_
              refine gj_setf (g := va_up (va_up (va_up (va_up f 87 (.inr (11, mF ad la dr go lo ma pa tu ((mCn di pl (se 3) tu go n0 n1 (kI 0, su_, fa, 0) (t1 + 1)).2.2.2)))) 98 (.inl (ca 2, 12, .inl ((mCn di pl (se 3) tu go n0 n1 (kI 0, su_, fa, 0) (t1 + 1)).1)))) 103 (.inl (ca 0, 8, .inl ((mCn di pl (se 3) tu go n0 n1 (kI 0, su_, fa, 0) (t1 + 1)).2.1)))) 104 (.inl (ca 0, 8, .inl ((mCn di pl (se 3) tu go n0 n1 (kI 0, su_, fa, 0) (t1 + 1)).2.2.1)))) (by rw [show (mCn di pl (se 3) tu go n0 n1 (kI 0, su_, fa, 0) (t1 + 1)) = _ from mCs_e (show mCf di pl (mCn di pl (se 3) tu go n0 n1 (kI 0, su_, fa, 0) t1).1 (se 3) tu go n0 n1 t1 = (-1, -1) from if_pos ka_8) rfl]) ?_
              refine gj_lv [0, 2] rfl ?_
              exact ih_5 (t1 + 1) (by omega)
            · refine gj_aload_n C 0 dX12_confirms_60 rfl 2 rfl ?_
              refine gj_get C 87 (by decide) (up_nx (by decide) (up_nx (by decide) (up_nx (by decide) (va_up_self _ _ _)))) inX12 rfl 17 (by decide) w_866 (v := .int tu) rfl dX12_confirms_61 ?_
              refine gj_if_eq C 151 dX12_confirms_64 (by decide) (fun c_13 => ?_) (fun c_13 => absurd ka_8 c_13)
              refine gj_aload_n C 0 dX12_confirms_151 rfl 2 rfl ?_
              refine gj_get C 87 (by decide) (up_nx (by decide) (up_nx (by decide) (up_nx (by decide) (va_up_self _ _ _)))) inX12 rfl 22 (by decide) w_871 (v := .ref (ad 103)) rfl dX12_confirms_152 ?_
              refine gj_iload_n C 1 dX12_confirms_155 rfl 1 rfl ?_
              refine gj_iald C 103 (by decide) (up_nx (by decide) (va_up_self _ _ _)) (vp_in_nI (by omega) (by omega)) dX12_confirms_156 ?_
              refine gj_seti (y := -1) (by rw [nI_clamp (show t1 < 2 ^ 31 by omega), pk_us]) ?_
              refine gj_iconst C (v := (-1)) (by decide) dX12_confirms_157 ?_
              refine gj_icmp_eq C 183 dX12_confirms_158 (by decide) (fun c_14 => ?_) (fun c_14 => absurd (by decide) c_14)
              refine gj_iinc C (v := nI (t1 + 1)) (lv' := [(1, .int (nI (t1 + 1))), (2, .int (nI 0)), (0, .ref (ad 87))]) dX12_confirms_183 1 rfl (nI_1 _) (by decide) rfl ?_
              refine gj_goto C 28 dX12_confirms_186 (by decide) ?_
              refine gj_setf (g := va_up (va_up (va_up (va_up f 87 (.inr (11, mF ad la dr go lo ma pa tu ((mCn di pl (se 3) tu go n0 n1 (kI 0, su_, fa, 0) (t1 + 1)).2.2.2)))) 98 (.inl (ca 2, 12, .inl ((mCn di pl (se 3) tu go n0 n1 (kI 0, su_, fa, 0) (t1 + 1)).1)))) 103 (.inl (ca 0, 8, .inl ((mCn di pl (se 3) tu go n0 n1 (kI 0, su_, fa, 0) (t1 + 1)).2.1)))) 104 (.inl (ca 0, 8, .inl ((mCn di pl (se 3) tu go n0 n1 (kI 0, su_, fa, 0) (t1 + 1)).2.2.1)))) (by rw [show (mCn di pl (se 3) tu go n0 n1 (kI 0, su_, fa, 0) (t1 + 1)) = _ from mCs_e (show mCf di pl (mCn di pl (se 3) tu go n0 n1 (kI 0, su_, fa, 0) t1).1 (se 3) tu go n0 n1 t1 = (-1, -1) from if_pos ka_8) rfl]) ?_
              refine gj_lv [0, 2] rfl ?_
              exact ih_5 (t1 + 1) (by omega)
          · by_cases kb_9 : nI n1 ≤ nI t1
            · refine gj_iload_n C 2 dX12_confirms_50 rfl 0 rfl ?_
              refine gj_aload_n C 0 dX12_confirms_51 rfl 2 rfl ?_
              refine gj_get C 87 (by decide) (up_nx (by decide) (up_nx (by decide) (up_nx (by decide) (va_up_self _ _ _)))) inX12 rfl 6 (by decide) w_855 (v := .ref (ad 93)) rfl dX12_confirms_52 ?_
              refine gj_iconst C (v := 0) (by decide) dX12_confirms_55 ?_
              refine gj_iald C 93 (by decide) (up_nx (by decide) (up_nx (by decide) (up_nx (by decide) (up_nx (by decide) (hc2))))) (by unfold vp_in; decide) dX12_confirms_56 ?_
              refine gj_seti h0 ?_
              refine gj_icmp_ge C 151 dX12_confirms_57 (by decide) (fun c_15 => ?_) (fun c_15 => ?_)
              · refine gj_aload_n C 0 dX12_confirms_151 rfl 2 rfl ?_
                refine gj_get C 87 (by decide) (up_nx (by decide) (up_nx (by decide) (up_nx (by decide) (va_up_self _ _ _)))) inX12 rfl 22 (by decide) w_871 (v := .ref (ad 103)) rfl dX12_confirms_152 ?_
                refine gj_iload_n C 1 dX12_confirms_155 rfl 1 rfl ?_
                refine gj_iald C 103 (by decide) (up_nx (by decide) (va_up_self _ _ _)) (vp_in_nI (by omega) (by omega)) dX12_confirms_156 ?_
                refine gj_seti (y := -1) (by rw [nI_clamp (show t1 < 2 ^ 31 by omega), pk_us]) ?_
                refine gj_iconst C (v := (-1)) (by decide) dX12_confirms_157 ?_
                refine gj_icmp_eq C 183 dX12_confirms_158 (by decide) (fun c_16 => ?_) (fun c_16 => absurd (by decide) c_16)
                refine gj_iinc C (v := nI (t1 + 1)) (lv' := [(1, .int (nI (t1 + 1))), (2, .int (nI 0)), (0, .ref (ad 87))]) dX12_confirms_183 1 rfl (nI_1 _) (by decide) rfl ?_
                refine gj_goto C 28 dX12_confirms_186 (by decide) ?_
                refine gj_setf (g := va_up (va_up (va_up (va_up f 87 (.inr (11, mF ad la dr go lo ma pa tu ((mCn di pl (se 3) tu go n0 n1 (kI 0, su_, fa, 0) (t1 + 1)).2.2.2)))) 98 (.inl (ca 2, 12, .inl ((mCn di pl (se 3) tu go n0 n1 (kI 0, su_, fa, 0) (t1 + 1)).1)))) 103 (.inl (ca 0, 8, .inl ((mCn di pl (se 3) tu go n0 n1 (kI 0, su_, fa, 0) (t1 + 1)).2.1)))) 104 (.inl (ca 0, 8, .inl ((mCn di pl (se 3) tu go n0 n1 (kI 0, su_, fa, 0) (t1 + 1)).2.2.1)))) (by rw [show (mCn di pl (se 3) tu go n0 n1 (kI 0, su_, fa, 0) (t1 + 1)) = _ from mCs_e (show mCf di pl (mCn di pl (se 3) tu go n0 n1 (kI 0, su_, fa, 0) t1).1 (se 3) tu go n0 n1 t1 = (-1, -1) from (if_neg ka_8).trans (if_pos kb_9)) rfl]) ?_
                refine gj_lv [0, 2] rfl ?_
                exact ih_5 (t1 + 1) (by omega)
              · refine gj_aload_n C 0 dX12_confirms_60 rfl 2 rfl ?_
                refine gj_get C 87 (by decide) (up_nx (by decide) (up_nx (by decide) (up_nx (by decide) (va_up_self _ _ _)))) inX12 rfl 17 (by decide) w_866 (v := .int tu) rfl dX12_confirms_61 ?_
                refine gj_if_eq C 151 dX12_confirms_64 (by decide) (fun c_17 => absurd c_17 ka_8) (fun c_17 => ?_)
                refine gj_iload_n C 1 dX12_confirms_67 rfl 1 rfl ?_
                refine gj_aload_n C 0 dX12_confirms_68 rfl 2 rfl ?_
                refine gj_get C 87 (by decide) (up_nx (by decide) (up_nx (by decide) (up_nx (by decide) (va_up_self _ _ _)))) inX12 rfl 6 (by decide) w_855 (v := .ref (ad 93)) rfl dX12_confirms_69 ?_
                refine gj_iconst C (v := 1) (by decide) dX12_confirms_72 ?_
                refine gj_iald C 93 (by decide) (up_nx (by decide) (up_nx (by decide) (up_nx (by decide) (up_nx (by decide) (hc2))))) (by unfold vp_in; decide) dX12_confirms_73 ?_
                refine gj_seti h1 ?_
                refine gj_icmp_ge C 151 dX12_confirms_74 (by decide) (fun c_18 => ?_) (fun c_18 => absurd kb_9 c_18)
                refine gj_aload_n C 0 dX12_confirms_151 rfl 2 rfl ?_
                refine gj_get C 87 (by decide) (up_nx (by decide) (up_nx (by decide) (up_nx (by decide) (va_up_self _ _ _)))) inX12 rfl 22 (by decide) w_871 (v := .ref (ad 103)) rfl dX12_confirms_152 ?_
                refine gj_iload_n C 1 dX12_confirms_155 rfl 1 rfl ?_
                refine gj_iald C 103 (by decide) (up_nx (by decide) (va_up_self _ _ _)) (vp_in_nI (by omega) (by omega)) dX12_confirms_156 ?_
                refine gj_seti (y := -1) (by rw [nI_clamp (show t1 < 2 ^ 31 by omega), pk_us]) ?_
                refine gj_iconst C (v := (-1)) (by decide) dX12_confirms_157 ?_
                refine gj_icmp_eq C 183 dX12_confirms_158 (by decide) (fun c_19 => ?_) (fun c_19 => absurd (by decide) c_19)
                refine gj_iinc C (v := nI (t1 + 1)) (lv' := [(1, .int (nI (t1 + 1))), (2, .int (nI 0)), (0, .ref (ad 87))]) dX12_confirms_183 1 rfl (nI_1 _) (by decide) rfl ?_
                refine gj_goto C 28 dX12_confirms_186 (by decide) ?_
                refine gj_setf (g := va_up (va_up (va_up (va_up f 87 (.inr (11, mF ad la dr go lo ma pa tu ((mCn di pl (se 3) tu go n0 n1 (kI 0, su_, fa, 0) (t1 + 1)).2.2.2)))) 98 (.inl (ca 2, 12, .inl ((mCn di pl (se 3) tu go n0 n1 (kI 0, su_, fa, 0) (t1 + 1)).1)))) 103 (.inl (ca 0, 8, .inl ((mCn di pl (se 3) tu go n0 n1 (kI 0, su_, fa, 0) (t1 + 1)).2.1)))) 104 (.inl (ca 0, 8, .inl ((mCn di pl (se 3) tu go n0 n1 (kI 0, su_, fa, 0) (t1 + 1)).2.2.1)))) (by rw [show (mCn di pl (se 3) tu go n0 n1 (kI 0, su_, fa, 0) (t1 + 1)) = _ from mCs_e (show mCf di pl (mCn di pl (se 3) tu go n0 n1 (kI 0, su_, fa, 0) t1).1 (se 3) tu go n0 n1 t1 = (-1, -1) from (if_neg ka_8).trans (if_pos kb_9)) rfl]) ?_
                refine gj_lv [0, 2] rfl ?_
                exact ih_5 (t1 + 1) (by omega)
            · by_cases kc_10 : nI t1 = go
              · refine gj_iload_n C 2 dX12_confirms_50 rfl 0 rfl ?_
                refine gj_aload_n C 0 dX12_confirms_51 rfl 2 rfl ?_
                refine gj_get C 87 (by decide) (up_nx (by decide) (up_nx (by decide) (up_nx (by decide) (va_up_self _ _ _)))) inX12 rfl 6 (by decide) w_855 (v := .ref (ad 93)) rfl dX12_confirms_52 ?_
                refine gj_iconst C (v := 0) (by decide) dX12_confirms_55 ?_
                refine gj_iald C 93 (by decide) (up_nx (by decide) (up_nx (by decide) (up_nx (by decide) (up_nx (by decide) (hc2))))) (by unfold vp_in; decide) dX12_confirms_56 ?_
                refine gj_seti h0 ?_
                refine gj_icmp_ge C 151 dX12_confirms_57 (by decide) (fun c_20 => ?_) (fun c_20 => ?_)
                · refine gj_aload_n C 0 dX12_confirms_151 rfl 2 rfl ?_
                  refine gj_get C 87 (by decide) (up_nx (by decide) (up_nx (by decide) (up_nx (by decide) (va_up_self _ _ _)))) inX12 rfl 22 (by decide) w_871 (v := .ref (ad 103)) rfl dX12_confirms_152 ?_
                  refine gj_iload_n C 1 dX12_confirms_155 rfl 1 rfl ?_
                  refine gj_iald C 103 (by decide) (up_nx (by decide) (va_up_self _ _ _)) (vp_in_nI (by omega) (by omega)) dX12_confirms_156 ?_
                  refine gj_seti (y := -1) (by rw [nI_clamp (show t1 < 2 ^ 31 by omega), pk_us]) ?_
                  refine gj_iconst C (v := (-1)) (by decide) dX12_confirms_157 ?_
                  refine gj_icmp_eq C 183 dX12_confirms_158 (by decide) (fun c_21 => ?_) (fun c_21 => absurd (by decide) c_21)
                  refine gj_iinc C (v := nI (t1 + 1)) (lv' := [(1, .int (nI (t1 + 1))), (2, .int (nI 0)), (0, .ref (ad 87))]) dX12_confirms_183 1 rfl (nI_1 _) (by decide) rfl ?_
                  refine gj_goto C 28 dX12_confirms_186 (by decide) ?_
                  refine gj_setf (g := va_up (va_up (va_up (va_up f 87 (.inr (11, mF ad la dr go lo ma pa tu ((mCn di pl (se 3) tu go n0 n1 (kI 0, su_, fa, 0) (t1 + 1)).2.2.2)))) 98 (.inl (ca 2, 12, .inl ((mCn di pl (se 3) tu go n0 n1 (kI 0, su_, fa, 0) (t1 + 1)).1)))) 103 (.inl (ca 0, 8, .inl ((mCn di pl (se 3) tu go n0 n1 (kI 0, su_, fa, 0) (t1 + 1)).2.1)))) 104 (.inl (ca 0, 8, .inl ((mCn di pl (se 3) tu go n0 n1 (kI 0, su_, fa, 0) (t1 + 1)).2.2.1)))) (by rw [show (mCn di pl (se 3) tu go n0 n1 (kI 0, su_, fa, 0) (t1 + 1)) = _ from mCs_e (show mCf di pl (mCn di pl (se 3) tu go n0 n1 (kI 0, su_, fa, 0) t1).1 (se 3) tu go n0 n1 t1 = (-1, -1) from (if_neg ka_8).trans ((if_neg kb_9).trans (if_pos kc_10))) rfl]) ?_
                  refine gj_lv [0, 2] rfl ?_
                  exact ih_5 (t1 + 1) (by omega)
                · refine gj_aload_n C 0 dX12_confirms_60 rfl 2 rfl ?_
                  refine gj_get C 87 (by decide) (up_nx (by decide) (up_nx (by decide) (up_nx (by decide) (va_up_self _ _ _)))) inX12 rfl 17 (by decide) w_866 (v := .int tu) rfl dX12_confirms_61 ?_
                  refine gj_if_eq C 151 dX12_confirms_64 (by decide) (fun c_22 => absurd c_22 ka_8) (fun c_22 => ?_)
                  refine gj_iload_n C 1 dX12_confirms_67 rfl 1 rfl ?_
                  refine gj_aload_n C 0 dX12_confirms_68 rfl 2 rfl ?_
                  refine gj_get C 87 (by decide) (up_nx (by decide) (up_nx (by decide) (up_nx (by decide) (va_up_self _ _ _)))) inX12 rfl 6 (by decide) w_855 (v := .ref (ad 93)) rfl dX12_confirms_69 ?_
                  refine gj_iconst C (v := 1) (by decide) dX12_confirms_72 ?_
                  refine gj_iald C 93 (by decide) (up_nx (by decide) (up_nx (by decide) (up_nx (by decide) (up_nx (by decide) (hc2))))) (by unfold vp_in; decide) dX12_confirms_73 ?_
                  refine gj_seti h1 ?_
                  refine gj_icmp_ge C 151 dX12_confirms_74 (by decide) (fun c_23 => absurd c_23 kb_9) (fun c_23 => ?_)
                  refine gj_iload_n C 1 dX12_confirms_77 rfl 1 rfl ?_
                  refine gj_aload_n C 0 dX12_confirms_78 rfl 2 rfl ?_
                  refine gj_get C 87 (by decide) (up_nx (by decide) (up_nx (by decide) (up_nx (by decide) (va_up_self _ _ _)))) inX12 rfl 9 (by decide) w_858 (v := .int go) rfl dX12_confirms_79 ?_
                  refine gj_icmp_eq C 151 dX12_confirms_82 (by decide) (fun c_24 => ?_) (fun c_24 => absurd kc_10 c_24)
                  refine gj_aload_n C 0 dX12_confirms_151 rfl 2 rfl ?_
                  refine gj_get C 87 (by decide) (up_nx (by decide) (up_nx (by decide) (up_nx (by decide) (va_up_self _ _ _)))) inX12 rfl 22 (by decide) w_871 (v := .ref (ad 103)) rfl dX12_confirms_152 ?_
                  refine gj_iload_n C 1 dX12_confirms_155 rfl 1 rfl ?_
                  refine gj_iald C 103 (by decide) (up_nx (by decide) (va_up_self _ _ _)) (vp_in_nI (by omega) (by omega)) dX12_confirms_156 ?_
                  refine gj_seti (y := -1) (by rw [nI_clamp (show t1 < 2 ^ 31 by omega), pk_us]) ?_
                  refine gj_iconst C (v := (-1)) (by decide) dX12_confirms_157 ?_
                  refine gj_icmp_eq C 183 dX12_confirms_158 (by decide) (fun c_25 => ?_) (fun c_25 => absurd (by decide) c_25)
                  refine gj_iinc C (v := nI (t1 + 1)) (lv' := [(1, .int (nI (t1 + 1))), (2, .int (nI 0)), (0, .ref (ad 87))]) dX12_confirms_183 1 rfl (nI_1 _) (by decide) rfl ?_
                  refine gj_goto C 28 dX12_confirms_186 (by decide) ?_
                  refine gj_setf (g := va_up (va_up (va_up (va_up f 87 (.inr (11, mF ad la dr go lo ma pa tu ((mCn di pl (se 3) tu go n0 n1 (kI 0, su_, fa, 0) (t1 + 1)).2.2.2)))) 98 (.inl (ca 2, 12, .inl ((mCn di pl (se 3) tu go n0 n1 (kI 0, su_, fa, 0) (t1 + 1)).1)))) 103 (.inl (ca 0, 8, .inl ((mCn di pl (se 3) tu go n0 n1 (kI 0, su_, fa, 0) (t1 + 1)).2.1)))) 104 (.inl (ca 0, 8, .inl ((mCn di pl (se 3) tu go n0 n1 (kI 0, su_, fa, 0) (t1 + 1)).2.2.1)))) (by rw [show (mCn di pl (se 3) tu go n0 n1 (kI 0, su_, fa, 0) (t1 + 1)) = _ from mCs_e (show mCf di pl (mCn di pl (se 3) tu go n0 n1 (kI 0, su_, fa, 0) t1).1 (se 3) tu go n0 n1 t1 = (-1, -1) from (if_neg ka_8).trans ((if_neg kb_9).trans (if_pos kc_10))) rfl]) ?_
                  refine gj_lv [0, 2] rfl ?_
                  exact ih_5 (t1 + 1) (by omega)
              · refine gj_setf (g := va_up (va_up (va_up (va_up f 87 (.inr (11, mF ad la dr go lo ma pa tu ((mCn di pl (se 3) tu go n0 n1 (kI 0, su_, fa, 0) t1).2.2.2)))) 98 (.inl (ca 2, 12, .inl ((mCn di pl (se 3) tu go n0 n1 (kI 0, su_, fa, 0) t1).1)))) 103 (.inl (ca 0, 8, .inl (upd ((mCn di pl (se 3) tu go n0 n1 (kI 0, su_, fa, 0) t1).2.1) t1 ((mC1 di pl (mCn di pl (se 3) tu go n0 n1 (kI 0, su_, fa, 0) t1).1 (se 3) t1 0).1))))) 104 (.inl (ca 0, 8, .inl (upd ((mCn di pl (se 3) tu go n0 n1 (kI 0, su_, fa, 0) t1).2.2.1) t1 ((mC1 di pl (mCn di pl (se 3) tu go n0 n1 (kI 0, su_, fa, 0) t1).1 (se 3) t1 0).2))))) rfl ?_
                have loop_26 : ∀ (m2 t2 : Nat), t2 + m2 = n0 → gJ pT l eT (Rm 2) sT mT aT below meth cT AT QT D ad 108 4 (va_up (va_up (va_up (va_up f 87 (.inr (11, mF ad la dr go lo ma pa tu ((mCn di pl (se 3) tu go n0 n1 (kI 0, su_, fa, 0) t1).2.2.2)))) 98 (.inl (ca 2, 12, .inl ((mCn di pl (se 3) tu go n0 n1 (kI 0, su_, fa, 0) t1).1)))) 103 (.inl (ca 0, 8, .inl (upd ((mCn di pl (se 3) tu go n0 n1 (kI 0, su_, fa, 0) t1).2.1) t1 ((mC1 di pl (mCn di pl (se 3) tu go n0 n1 (kI 0, su_, fa, 0) t1).1 (se 3) t1 t2).1))))) 104 (.inl (ca 0, 8, .inl (upd ((mCn di pl (se 3) tu go n0 n1 (kI 0, su_, fa, 0) t1).2.2.1) t1 ((mC1 di pl (mCn di pl (se 3) tu go n0 n1 (kI 0, su_, fa, 0) t1).1 (se 3) t1 t2).2))))) [(2, .int (nI t2)), (1, .int (nI t1)), (0, .ref (ad 87))] 50 [] := by
                  intro m2
                  induction m2 with
                  | zero =>
                    intro t2 hk_t2 
                    refine gj_iload_n C 2 dX12_confirms_50 rfl 0 rfl ?_
                    refine gj_aload_n C 0 dX12_confirms_51 rfl 2 rfl ?_
                    refine gj_get C 87 (by decide) (up_nx (by decide) (up_nx (by decide) (up_nx (by decide) (va_up_self _ _ _)))) inX12 rfl 6 (by decide) w_855 (v := .ref (ad 93)) rfl dX12_confirms_52 ?_
                    refine gj_iconst C (v := 0) (by decide) dX12_confirms_55 ?_
                    refine gj_iald C 93 (by decide) (up_nx (by decide) (up_nx (by decide) (up_nx (by decide) (up_nx (by decide) (hc2))))) (by unfold vp_in; decide) dX12_confirms_56 ?_
                    refine gj_seti h0 ?_
                    refine gj_icmp_ge C 151 dX12_confirms_57 (by decide) (fun c_28 => ?_) (fun c_28 => absurd (nI_le (by omega) (by omega)) c_28)
                    refine gj_setf (g := va_up (va_up (va_up (va_up f 87 (.inr (11, mF ad la dr go lo ma pa tu ((mCn di pl (se 3) tu go n0 n1 (kI 0, su_, fa, 0) t1).2.2.2)))) 98 (.inl (ca 2, 12, .inl ((mCn di pl (se 3) tu go n0 n1 (kI 0, su_, fa, 0) t1).1)))) 103 (.inl (ca 0, 8, .inl (upd ((mCn di pl (se 3) tu go n0 n1 (kI 0, su_, fa, 0) t1).2.1) t1 ((mC1 di pl (mCn di pl (se 3) tu go n0 n1 (kI 0, su_, fa, 0) t1).1 (se 3) t1 n0).1))))) 104 (.inl (ca 0, 8, .inl (upd ((mCn di pl (se 3) tu go n0 n1 (kI 0, su_, fa, 0) t1).2.2.1) t1 ((mC1 di pl (mCn di pl (se 3) tu go n0 n1 (kI 0, su_, fa, 0) t1).1 (se 3) t1 n0).2))))) (by obtain rfl : t2 = n0 := (by omega); rfl) ?_
                    refine gj_aload_n C 0 dX12_confirms_151 rfl 2 rfl ?_
                    refine gj_get C 87 (by decide) (up_nx (by decide) (up_nx (by decide) (up_nx (by decide) (va_up_self _ _ _)))) inX12 rfl 22 (by decide) w_871 (v := .ref (ad 103)) rfl dX12_confirms_152 ?_
                    refine gj_iload_n C 1 dX12_confirms_155 rfl 1 rfl ?_
                    refine gj_iald C 103 (by decide) (up_nx (by decide) (va_up_self _ _ _)) (vp_in_nI (by omega) (by omega)) dX12_confirms_156 ?_
                    refine gj_seti (y := (mC1 di pl (mCn di pl (se 3) tu go n0 n1 (kI 0, su_, fa, 0) t1).1 (se 3) t1 n0).1) (by rw [nI_clamp (show t1 < 2 ^ 31 by omega), pk_us]) ?_
                    refine gj_iconst C (v := (-1)) (by decide) dX12_confirms_157 ?_
                    refine gj_icmp_eq C 183 dX12_confirms_158 (by decide) (fun c_29 => ?_) (fun c_29 => ?_)
                    · refine gj_iinc C (v := nI (t1 + 1)) (lv' := [(1, .int (nI (t1 + 1))), (2, .int (nI t2)), (0, .ref (ad 87))]) dX12_confirms_183 1 rfl (nI_1 _) (by decide) rfl ?_
                      refine gj_goto C 28 dX12_confirms_186 (by decide) ?_
                      refine gj_setf (g := va_up (va_up (va_up (va_up f 87 (.inr (11, mF ad la dr go lo ma pa tu ((mCn di pl (se 3) tu go n0 n1 (kI 0, su_, fa, 0) (t1 + 1)).2.2.2)))) 98 (.inl (ca 2, 12, .inl ((mCn di pl (se 3) tu go n0 n1 (kI 0, su_, fa, 0) (t1 + 1)).1)))) 103 (.inl (ca 0, 8, .inl ((mCn di pl (se 3) tu go n0 n1 (kI 0, su_, fa, 0) (t1 + 1)).2.1)))) 104 (.inl (ca 0, 8, .inl ((mCn di pl (se 3) tu go n0 n1 (kI 0, su_, fa, 0) (t1 + 1)).2.2.1)))) (by rw [show (mCn di pl (se 3) tu go n0 n1 (kI 0, su_, fa, 0) (t1 + 1)) = _ from mCs_e (show mCf di pl (mCn di pl (se 3) tu go n0 n1 (kI 0, su_, fa, 0) t1).1 (se 3) tu go n0 n1 t1 = ((mC1 di pl (mCn di pl (se 3) tu go n0 n1 (kI 0, su_, fa, 0) t1).1 (se 3) t1 n0).1, (mC1 di pl (mCn di pl (se 3) tu go n0 n1 (kI 0, su_, fa, 0) t1).1 (se 3) t1 n0).2) from (if_neg ka_8).trans ((if_neg kb_9).trans (if_neg kc_10))) c_29]) ?_
                      refine gj_lv [0, 2] rfl ?_
                      exact ih_5 (t1 + 1) (by omega)
                    · refine gj_aload_n C 0 dX12_confirms_161 rfl 2 rfl ?_
                      refine gj_get C 87 (by decide) (up_nx (by decide) (up_nx (by decide) (up_nx (by decide) (va_up_self _ _ _)))) inX12 rfl 15 (by decide) w_864 (v := .ref (ad 98)) rfl dX12_confirms_162 ?_
                      refine gj_aload_n C 0 dX12_confirms_165 rfl 2 rfl ?_
                      refine gj_get C 87 (by decide) (up_nx (by decide) (up_nx (by decide) (up_nx (by decide) (va_up_self _ _ _)))) inX12 rfl 22 (by decide) w_871 (v := .ref (ad 103)) rfl dX12_confirms_166 ?_
                      refine gj_iload_n C 1 dX12_confirms_169 rfl 1 rfl ?_
                      refine gj_iald C 103 (by decide) (up_nx (by decide) (va_up_self _ _ _)) (vp_in_nI (by omega) (by omega)) dX12_confirms_170 ?_
                      refine gj_seti (y := (mC1 di pl (mCn di pl (se 3) tu go n0 n1 (kI 0, su_, fa, 0) t1).1 (se 3) t1 n0).1) (by rw [nI_clamp (show t1 < 2 ^ 31 by omega), pk_us]) ?_
                      refine gj_iconst C (v := 1) (by decide) dX12_confirms_171 ?_
                      refine gj_zast C 98 (by decide) (up_nx (by decide) (up_nx (by decide) (va_up_self _ _ _))) (mC1_vin (by omega) c_29) dX12_confirms_172 ?_
                      refine gj_setf ((up_comm (by decide)).trans (up_un ((up_comm (by decide)).trans (up_un (bx_uu _ _ _ _))))) ?_
                      refine gj_aload_n C 0 dX12_confirms_173 rfl 2 rfl ?_
                      refine gj_dup C rfl dX12_confirms_174 ?_
                      refine gj_get C 87 (by decide) (up_nx (by decide) (up_nx (by decide) (up_nx (by decide) (va_up_self _ _ _)))) inX12 rfl 24 (by decide) w_873 (v := .int ((mCn di pl (se 3) tu go n0 n1 (kI 0, su_, fa, 0) t1).2.2.2)) rfl dX12_confirms_175 ?_
                      refine gj_iconst C (v := 1) (by decide) dX12_confirms_178 ?_
                      refine gj_iadd C dX12_confirms_179 ?_
                      refine gj_putS C 87 (by decide) (up_nx (by decide) (up_nx (by decide) (up_nx (by decide) (va_up_self _ _ _)))) inX12 rfl 24 (by decide) tyX12 tyX12_ok nmX12 w_873 rfl (v := .int (((mCn di pl (se 3) tu go n0 n1 (kI 0, su_, fa, 0) t1).2.2.2) + 1)) (fs' := [.ref (ad 88), .ref (ad 89), .ref (ad 90), .ref (ad 91), .int la, .ref (ad 92), .ref (ad 93), .ref (ad 94), .int dr, .int go, .int lo, .int ma, .ref (ad 95), .ref (ad 96), .ref (ad 97), .ref (ad 98), .int pa, .int tu, .ref (ad 99), .ref (ad 100), .ref (ad 101), .ref (ad 102), .ref (ad 103), .ref (ad 104), .int (((mCn di pl (se 3) tu go n0 n1 (kI 0, su_, fa, 0) t1).2.2.2) + 1), .ref (ad 105), .ref (ad 106), .ref (ad 107)]) rfl rfl (Nat.le_of_ble_eq_true rfl) rfl dX12_confirms_180 ?_
                      refine gj_setf ((up_comm (by decide)).trans (up_un ((up_comm (by decide)).trans (up_un ((up_comm (by decide)).trans (up_un (bx_uu _ _ _ _))))))) ?_
                      refine gj_iinc C (v := nI (t1 + 1)) (lv' := [(1, .int (nI (t1 + 1))), (2, .int (nI t2)), (0, .ref (ad 87))]) dX12_confirms_183 1 rfl (nI_1 _) (by decide) rfl ?_
                      refine gj_goto C 28 dX12_confirms_186 (by decide) ?_
                      refine gj_setf (g := va_up (va_up (va_up (va_up f 87 (.inr (11, mF ad la dr go lo ma pa tu ((mCn di pl (se 3) tu go n0 n1 (kI 0, su_, fa, 0) (t1 + 1)).2.2.2)))) 98 (.inl (ca 2, 12, .inl ((mCn di pl (se 3) tu go n0 n1 (kI 0, su_, fa, 0) (t1 + 1)).1)))) 103 (.inl (ca 0, 8, .inl ((mCn di pl (se 3) tu go n0 n1 (kI 0, su_, fa, 0) (t1 + 1)).2.1)))) 104 (.inl (ca 0, 8, .inl ((mCn di pl (se 3) tu go n0 n1 (kI 0, su_, fa, 0) (t1 + 1)).2.2.1)))) (by rw [show (mCn di pl (se 3) tu go n0 n1 (kI 0, su_, fa, 0) (t1 + 1)) = _ from mCs_n (show mCf di pl (mCn di pl (se 3) tu go n0 n1 (kI 0, su_, fa, 0) t1).1 (se 3) tu go n0 n1 t1 = ((mC1 di pl (mCn di pl (se 3) tu go n0 n1 (kI 0, su_, fa, 0) t1).1 (se 3) t1 n0).1, (mC1 di pl (mCn di pl (se 3) tu go n0 n1 (kI 0, su_, fa, 0) t1).1 (se 3) t1 n0).2) from (if_neg ka_8).trans ((if_neg kb_9).trans (if_neg kc_10))) c_29]) ?_
                      refine gj_lv [0, 2] rfl ?_
                      exact ih_5 (t1 + 1) (by omega)
                  | succ m2 ih_27 =>
                    intro t2 hk_t2 
                    refine gj_iload_n C 2 dX12_confirms_50 rfl 0 rfl ?_
                    refine gj_aload_n C 0 dX12_confirms_51 rfl 2 rfl ?_
                    refine gj_get C 87 (by decide) (up_nx (by decide) (up_nx (by decide) (up_nx (by decide) (va_up_self _ _ _)))) inX12 rfl 6 (by decide) w_855 (v := .ref (ad 93)) rfl dX12_confirms_52 ?_
                    refine gj_iconst C (v := 0) (by decide) dX12_confirms_55 ?_
                    refine gj_iald C 93 (by decide) (up_nx (by decide) (up_nx (by decide) (up_nx (by decide) (up_nx (by decide) (hc2))))) (by unfold vp_in; decide) dX12_confirms_56 ?_
                    refine gj_seti h0 ?_
                    refine gj_icmp_ge C 151 dX12_confirms_57 (by decide) (fun c_30 => absurd c_30 (nI_ge (by omega) (by omega))) (fun c_30 => ?_)
                    refine gj_aload_n C 0 dX12_confirms_60 rfl 2 rfl ?_
                    refine gj_get C 87 (by decide) (up_nx (by decide) (up_nx (by decide) (up_nx (by decide) (va_up_self _ _ _)))) inX12 rfl 17 (by decide) w_866 (v := .int tu) rfl dX12_confirms_61 ?_
                    refine gj_if_eq C 151 dX12_confirms_64 (by decide) (fun c_31 => absurd c_31 ka_8) (fun c_31 => ?_)
                    refine gj_iload_n C 1 dX12_confirms_67 rfl 1 rfl ?_
                    refine gj_aload_n C 0 dX12_confirms_68 rfl 2 rfl ?_
                    refine gj_get C 87 (by decide) (up_nx (by decide) (up_nx (by decide) (up_nx (by decide) (va_up_self _ _ _)))) inX12 rfl 6 (by decide) w_855 (v := .ref (ad 93)) rfl dX12_confirms_69 ?_
                    refine gj_iconst C (v := 1) (by decide) dX12_confirms_72 ?_
                    refine gj_iald C 93 (by decide) (up_nx (by decide) (up_nx (by decide) (up_nx (by decide) (up_nx (by decide) (hc2))))) (by unfold vp_in; decide) dX12_confirms_73 ?_
                    refine gj_seti h1 ?_
                    refine gj_icmp_ge C 151 dX12_confirms_74 (by decide) (fun c_32 => absurd c_32 kb_9) (fun c_32 => ?_)
                    refine gj_iload_n C 1 dX12_confirms_77 rfl 1 rfl ?_
                    refine gj_aload_n C 0 dX12_confirms_78 rfl 2 rfl ?_
                    refine gj_get C 87 (by decide) (up_nx (by decide) (up_nx (by decide) (up_nx (by decide) (va_up_self _ _ _)))) inX12 rfl 9 (by decide) w_858 (v := .int go) rfl dX12_confirms_79 ?_
                    refine gj_icmp_eq C 151 dX12_confirms_82 (by decide) (fun c_33 => absurd c_33 kc_10) (fun c_33 => ?_)
                    refine gj_aload_n C 0 dX12_confirms_85 rfl 2 rfl ?_
                    refine gj_iload_n C 1 dX12_confirms_86 rfl 1 rfl ?_
                    refine gj_iload_n C 2 dX12_confirms_87 rfl 0 rfl ?_
                    refine gj_callVi C mi_X12_farOf w_1129 87 (by decide) (up_nx (by decide) (up_nx (by decide) (up_nx (by decide) (va_up_self _ _ _)))) rfl (c_X12_farOf t1 t2 la dr go lo ma pa tu ((mCn di pl (se 3) tu go n0 n1 (kI 0, su_, fa, 0) t1).2.2.2) di pl (up_nx (by decide) (up_nx (by decide) (up_nx (by decide) (va_up_self _ _ _)))) (up_nx (by decide) (up_nx (by decide) (up_nx (by decide) (up_nx (by decide) (hc1))))) (up_nx (by decide) (up_nx (by decide) (up_nx (by decide) (up_nx (by decide) (hc5))))) (by omega) (by omega)) mc_X12_farOf ⟨Nat.le_of_ble_eq_true rfl, Nat.le_of_ble_eq_true rfl⟩ (rest := []) rfl (Nat.le_of_ble_eq_true rfl) dX12_confirms_88 (fun r u h => ?_)
                    obtain ⟨rfl, rfl⟩ := h
                    refine gj_istore_n C (lv' := [(3, .int (s_X12_farOf t1 t2 di pl)), (2, .int (nI t2)), (1, .int (nI t1)), (0, .ref (ad 87))]) 3 dX12_confirms_91 rfl (by decide) rfl ?_
                    refine gj_aload_n C 0 dX12_confirms_92 rfl 3 rfl ?_
                    refine gj_get C 87 (by decide) (up_nx (by decide) (up_nx (by decide) (up_nx (by decide) (va_up_self _ _ _)))) inX12 rfl 15 (by decide) w_864 (v := .ref (ad 98)) rfl dX12_confirms_93 ?_
                    refine gj_iload_n C 2 dX12_confirms_96 rfl 1 rfl ?_
                    refine gj_zald C 98 (by decide) (up_nx (by decide) (up_nx (by decide) (va_up_self _ _ _))) (vp_in_nI (by omega) (by omega)) dX12_confirms_97 ?_
                    refine gj_seti (congrArg _ (nI_clamp (by omega))) ?_
                    refine gj_if_ne C 145 dX12_confirms_98 (by decide) (fun c_34 => ?_) (fun c_34 => ?_)
                    · refine gj_iinc C (v := nI (t2 + 1)) (lv' := [(2, .int (nI (t2 + 1))), (3, .int (s_X12_farOf t1 t2 di pl)), (1, .int (nI t1)), (0, .ref (ad 87))]) dX12_confirms_145 1 rfl (nI_1 _) (by decide) rfl ?_
                      refine gj_goto C 50 dX12_confirms_148 (by decide) ?_
                      refine gj_setf (g := va_up (va_up (va_up (va_up f 87 (.inr (11, mF ad la dr go lo ma pa tu ((mCn di pl (se 3) tu go n0 n1 (kI 0, su_, fa, 0) t1).2.2.2)))) 98 (.inl (ca 2, 12, .inl ((mCn di pl (se 3) tu go n0 n1 (kI 0, su_, fa, 0) t1).1)))) 103 (.inl (ca 0, 8, .inl (upd ((mCn di pl (se 3) tu go n0 n1 (kI 0, su_, fa, 0) t1).2.1) t1 ((mC1 di pl (mCn di pl (se 3) tu go n0 n1 (kI 0, su_, fa, 0) t1).1 (se 3) t1 (t2 + 1)).1))))) 104 (.inl (ca 0, 8, .inl (upd ((mCn di pl (se 3) tu go n0 n1 (kI 0, su_, fa, 0) t1).2.2.1) t1 ((mC1 di pl (mCn di pl (se 3) tu go n0 n1 (kI 0, su_, fa, 0) t1).1 (se 3) t1 (t2 + 1)).2))))) (by rw [show mC1 di pl (mCn di pl (se 3) tu go n0 n1 (kI 0, su_, fa, 0) t1).1 (se 3) t1 (t2 + 1) = mC1 di pl (mCn di pl (se 3) tu go n0 n1 (kI 0, su_, fa, 0) t1).1 (se 3) t1 t2 from (if_neg c_34).trans (rfl)]) ?_
                      refine gj_lv [0, 2, 3] rfl ?_
                      exact ih_27 (t2 + 1) (by omega)
                    · refine gj_iload_n C 3 dX12_confirms_101 rfl 0 rfl ?_
                      refine gj_aload_n C 0 dX12_confirms_102 rfl 3 rfl ?_
                      refine gj_get C 87 (by decide) (up_nx (by decide) (up_nx (by decide) (up_nx (by decide) (va_up_self _ _ _)))) inX12 rfl 7 (by decide) w_856 (v := .ref (ad 94)) rfl dX12_confirms_103 ?_
                      refine gj_iconst C (v := 3) (by decide) dX12_confirms_106 ?_
                      refine gj_iald C 94 (by decide) (up_nx (by decide) (up_nx (by decide) (up_nx (by decide) (up_nx (by decide) (hc3))))) (by unfold vp_in; decide) dX12_confirms_107 ?_
                      refine gj_seti (y := se 3) rfl ?_
                      refine gj_icmp_gt C 145 dX12_confirms_108 (by decide) (fun c_35 => ?_) (fun c_35 => ?_)
                      · refine gj_iinc C (v := nI (t2 + 1)) (lv' := [(2, .int (nI (t2 + 1))), (3, .int (s_X12_farOf t1 t2 di pl)), (1, .int (nI t1)), (0, .ref (ad 87))]) dX12_confirms_145 1 rfl (nI_1 _) (by decide) rfl ?_
                        refine gj_goto C 50 dX12_confirms_148 (by decide) ?_
                        refine gj_setf (g := va_up (va_up (va_up (va_up f 87 (.inr (11, mF ad la dr go lo ma pa tu ((mCn di pl (se 3) tu go n0 n1 (kI 0, su_, fa, 0) t1).2.2.2)))) 98 (.inl (ca 2, 12, .inl ((mCn di pl (se 3) tu go n0 n1 (kI 0, su_, fa, 0) t1).1)))) 103 (.inl (ca 0, 8, .inl (upd ((mCn di pl (se 3) tu go n0 n1 (kI 0, su_, fa, 0) t1).2.1) t1 ((mC1 di pl (mCn di pl (se 3) tu go n0 n1 (kI 0, su_, fa, 0) t1).1 (se 3) t1 (t2 + 1)).1))))) 104 (.inl (ca 0, 8, .inl (upd ((mCn di pl (se 3) tu go n0 n1 (kI 0, su_, fa, 0) t1).2.2.1) t1 ((mC1 di pl (mCn di pl (se 3) tu go n0 n1 (kI 0, su_, fa, 0) t1).1 (se 3) t1 (t2 + 1)).2))))) (by rw [show mC1 di pl (mCn di pl (se 3) tu go n0 n1 (kI 0, su_, fa, 0) t1).1 (se 3) t1 (t2 + 1) = mC1 di pl (mCn di pl (se 3) tu go n0 n1 (kI 0, su_, fa, 0) t1).1 (se 3) t1 t2 from (if_pos c_34).trans ((if_pos c_35).trans (rfl))]) ?_
                        refine gj_lv [0, 2, 3] rfl ?_
                        exact ih_27 (t2 + 1) (by omega)
                      · refine gj_aload_n C 0 dX12_confirms_111 rfl 3 rfl ?_
                        refine gj_get C 87 (by decide) (up_nx (by decide) (up_nx (by decide) (up_nx (by decide) (va_up_self _ _ _)))) inX12 rfl 22 (by decide) w_871 (v := .ref (ad 103)) rfl dX12_confirms_112 ?_
                        refine gj_iload_n C 1 dX12_confirms_115 rfl 2 rfl ?_
                        refine gj_iald C 103 (by decide) (up_nx (by decide) (va_up_self _ _ _)) (vp_in_nI (by omega) (by omega)) dX12_confirms_116 ?_
                        refine gj_seti (y := (mC1 di pl (mCn di pl (se 3) tu go n0 n1 (kI 0, su_, fa, 0) t1).1 (se 3) t1 t2).1) (by rw [nI_clamp (show t1 < 2 ^ 31 by omega), pk_us]) ?_
                        refine gj_iconst C (v := (-1)) (by decide) dX12_confirms_117 ?_
                        refine gj_icmp_eq C 131 dX12_confirms_118 (by decide) (fun c_36 => ?_) (fun c_36 => ?_)
                        · refine gj_aload_n C 0 dX12_confirms_131 rfl 3 rfl ?_
                          refine gj_get C 87 (by decide) (up_nx (by decide) (up_nx (by decide) (up_nx (by decide) (va_up_self _ _ _)))) inX12 rfl 22 (by decide) w_871 (v := .ref (ad 103)) rfl dX12_confirms_132 ?_
                          refine gj_iload_n C 1 dX12_confirms_135 rfl 2 rfl ?_
                          refine gj_iload_n C 2 dX12_confirms_136 rfl 1 rfl ?_
                          refine gj_iast C 103 (by decide) (up_nx (by decide) (va_up_self _ _ _)) (vp_in_nI (by omega) (by omega)) dX12_confirms_137 ?_
                          refine gj_setf ((up_comm (by decide)).trans (up_un (bx_uu _ _ _ _))) ?_
                          refine gj_setf (g := va_up (va_up (va_up (va_up f 87 (.inr (11, mF ad la dr go lo ma pa tu ((mCn di pl (se 3) tu go n0 n1 (kI 0, su_, fa, 0) t1).2.2.2)))) 98 (.inl (ca 2, 12, .inl ((mCn di pl (se 3) tu go n0 n1 (kI 0, su_, fa, 0) t1).1)))) 103 (.inl (ca 0, 8, .inl (upd ((mCn di pl (se 3) tu go n0 n1 (kI 0, su_, fa, 0) t1).2.1) t1 (nI t2))))) 104 (.inl (ca 0, 8, .inl (upd ((mCn di pl (se 3) tu go n0 n1 (kI 0, su_, fa, 0) t1).2.2.1) t1 ((mC1 di pl (mCn di pl (se 3) tu go n0 n1 (kI 0, su_, fa, 0) t1).1 (se 3) t1 t2).2))))) (by rw [nI_clamp (show t1 < 2 ^ 31 by omega), uuI]) ?_
                          refine gj_aload_n C 0 dX12_confirms_138 rfl 3 rfl ?_
                          refine gj_get C 87 (by decide) (up_nx (by decide) (up_nx (by decide) (up_nx (by decide) (va_up_self _ _ _)))) inX12 rfl 23 (by decide) w_872 (v := .ref (ad 104)) rfl dX12_confirms_139 ?_
                          refine gj_iload_n C 1 dX12_confirms_142 rfl 2 rfl ?_
                          refine gj_iload_n C 3 dX12_confirms_143 rfl 0 rfl ?_
                          refine gj_iast C 104 (by decide) (va_up_self _ _ _) (vp_in_nI (by omega) (by omega)) dX12_confirms_144 ?_
                          refine gj_setf (bx_uu _ _ _ _) ?_
                          refine gj_setf (g := va_up (va_up (va_up (va_up f 87 (.inr (11, mF ad la dr go lo ma pa tu ((mCn di pl (se 3) tu go n0 n1 (kI 0, su_, fa, 0) t1).2.2.2)))) 98 (.inl (ca 2, 12, .inl ((mCn di pl (se 3) tu go n0 n1 (kI 0, su_, fa, 0) t1).1)))) 103 (.inl (ca 0, 8, .inl (upd ((mCn di pl (se 3) tu go n0 n1 (kI 0, su_, fa, 0) t1).2.1) t1 (nI t2))))) 104 (.inl (ca 0, 8, .inl (upd ((mCn di pl (se 3) tu go n0 n1 (kI 0, su_, fa, 0) t1).2.2.1) t1 (s_X12_farOf t1 t2 di pl))))) (by rw [nI_clamp (show t1 < 2 ^ 31 by omega), uuI]) ?_
                          refine gj_iinc C (v := nI (t2 + 1)) (lv' := [(2, .int (nI (t2 + 1))), (3, .int (s_X12_farOf t1 t2 di pl)), (1, .int (nI t1)), (0, .ref (ad 87))]) dX12_confirms_145 1 rfl (nI_1 _) (by decide) rfl ?_
                          refine gj_goto C 50 dX12_confirms_148 (by decide) ?_
                          refine gj_setf (g := va_up (va_up (va_up (va_up f 87 (.inr (11, mF ad la dr go lo ma pa tu ((mCn di pl (se 3) tu go n0 n1 (kI 0, su_, fa, 0) t1).2.2.2)))) 98 (.inl (ca 2, 12, .inl ((mCn di pl (se 3) tu go n0 n1 (kI 0, su_, fa, 0) t1).1)))) 103 (.inl (ca 0, 8, .inl (upd ((mCn di pl (se 3) tu go n0 n1 (kI 0, su_, fa, 0) t1).2.1) t1 ((mC1 di pl (mCn di pl (se 3) tu go n0 n1 (kI 0, su_, fa, 0) t1).1 (se 3) t1 (t2 + 1)).1))))) 104 (.inl (ca 0, 8, .inl (upd ((mCn di pl (se 3) tu go n0 n1 (kI 0, su_, fa, 0) t1).2.2.1) t1 ((mC1 di pl (mCn di pl (se 3) tu go n0 n1 (kI 0, su_, fa, 0) t1).1 (se 3) t1 (t2 + 1)).2))))) (by rw [show mC1 di pl (mCn di pl (se 3) tu go n0 n1 (kI 0, su_, fa, 0) t1).1 (se 3) t1 (t2 + 1) = (nI t2, s_X12_farOf t1 t2 di pl) from (if_pos c_34).trans ((if_neg c_35).trans ((if_pos c_36).trans (rfl)))]) ?_
                          refine gj_lv [0, 2, 3] rfl ?_
                          exact ih_27 (t2 + 1) (by omega)
                        · refine gj_iload_n C 3 dX12_confirms_121 rfl 0 rfl ?_
                          refine gj_aload_n C 0 dX12_confirms_122 rfl 3 rfl ?_
                          refine gj_get C 87 (by decide) (up_nx (by decide) (up_nx (by decide) (up_nx (by decide) (va_up_self _ _ _)))) inX12 rfl 23 (by decide) w_872 (v := .ref (ad 104)) rfl dX12_confirms_123 ?_
                          refine gj_iload_n C 1 dX12_confirms_126 rfl 2 rfl ?_
                          refine gj_iald C 104 (by decide) (va_up_self _ _ _) (vp_in_nI (by omega) (by omega)) dX12_confirms_127 ?_
                          refine gj_seti (y := (mC1 di pl (mCn di pl (se 3) tu go n0 n1 (kI 0, su_, fa, 0) t1).1 (se 3) t1 t2).2) (by rw [nI_clamp (show t1 < 2 ^ 31 by omega), pk_us]) ?_
                          refine gj_icmp_ge C 145 dX12_confirms_128 (by decide) (fun c_37 => ?_) (fun c_37 => ?_)
                          · refine gj_iinc C (v := nI (t2 + 1)) (lv' := [(2, .int (nI (t2 + 1))), (3, .int (s_X12_farOf t1 t2 di pl)), (1, .int (nI t1)), (0, .ref (ad 87))]) dX12_confirms_145 1 rfl (nI_1 _) (by decide) rfl ?_
                            refine gj_goto C 50 dX12_confirms_148 (by decide) ?_
                            refine gj_setf (g := va_up (va_up (va_up (va_up f 87 (.inr (11, mF ad la dr go lo ma pa tu ((mCn di pl (se 3) tu go n0 n1 (kI 0, su_, fa, 0) t1).2.2.2)))) 98 (.inl (ca 2, 12, .inl ((mCn di pl (se 3) tu go n0 n1 (kI 0, su_, fa, 0) t1).1)))) 103 (.inl (ca 0, 8, .inl (upd ((mCn di pl (se 3) tu go n0 n1 (kI 0, su_, fa, 0) t1).2.1) t1 ((mC1 di pl (mCn di pl (se 3) tu go n0 n1 (kI 0, su_, fa, 0) t1).1 (se 3) t1 (t2 + 1)).1))))) 104 (.inl (ca 0, 8, .inl (upd ((mCn di pl (se 3) tu go n0 n1 (kI 0, su_, fa, 0) t1).2.2.1) t1 ((mC1 di pl (mCn di pl (se 3) tu go n0 n1 (kI 0, su_, fa, 0) t1).1 (se 3) t1 (t2 + 1)).2))))) (by rw [show mC1 di pl (mCn di pl (se 3) tu go n0 n1 (kI 0, su_, fa, 0) t1).1 (se 3) t1 (t2 + 1) = mC1 di pl (mCn di pl (se 3) tu go n0 n1 (kI 0, su_, fa, 0) t1).1 (se 3) t1 t2 from (if_pos c_34).trans ((if_neg c_35).trans ((if_neg c_36).trans ((if_pos c_37).trans (rfl))))]) ?_
                            refine gj_lv [0, 2, 3] rfl ?_
                            exact ih_27 (t2 + 1) (by omega)
                          · refine gj_aload_n C 0 dX12_confirms_131 rfl 3 rfl ?_
                            refine gj_get C 87 (by decide) (up_nx (by decide) (up_nx (by decide) (up_nx (by decide) (va_up_self _ _ _)))) inX12 rfl 22 (by decide) w_871 (v := .ref (ad 103)) rfl dX12_confirms_132 ?_
                            refine gj_iload_n C 1 dX12_confirms_135 rfl 2 rfl ?_
                            refine gj_iload_n C 2 dX12_confirms_136 rfl 1 rfl ?_
                            refine gj_iast C 103 (by decide) (up_nx (by decide) (va_up_self _ _ _)) (vp_in_nI (by omega) (by omega)) dX12_confirms_137 ?_
                            refine gj_setf ((up_comm (by decide)).trans (up_un (bx_uu _ _ _ _))) ?_
                            refine gj_setf (g := va_up (va_up (va_up (va_up f 87 (.inr (11, mF ad la dr go lo ma pa tu ((mCn di pl (se 3) tu go n0 n1 (kI 0, su_, fa, 0) t1).2.2.2)))) 98 (.inl (ca 2, 12, .inl ((mCn di pl (se 3) tu go n0 n1 (kI 0, su_, fa, 0) t1).1)))) 103 (.inl (ca 0, 8, .inl (upd ((mCn di pl (se 3) tu go n0 n1 (kI 0, su_, fa, 0) t1).2.1) t1 (nI t2))))) 104 (.inl (ca 0, 8, .inl (upd ((mCn di pl (se 3) tu go n0 n1 (kI 0, su_, fa, 0) t1).2.2.1) t1 ((mC1 di pl (mCn di pl (se 3) tu go n0 n1 (kI 0, su_, fa, 0) t1).1 (se 3) t1 t2).2))))) (by rw [nI_clamp (show t1 < 2 ^ 31 by omega), uuI]) ?_
                            refine gj_aload_n C 0 dX12_confirms_138 rfl 3 rfl ?_
                            refine gj_get C 87 (by decide) (up_nx (by decide) (up_nx (by decide) (up_nx (by decide) (va_up_self _ _ _)))) inX12 rfl 23 (by decide) w_872 (v := .ref (ad 104)) rfl dX12_confirms_139 ?_
                            refine gj_iload_n C 1 dX12_confirms_142 rfl 2 rfl ?_
                            refine gj_iload_n C 3 dX12_confirms_143 rfl 0 rfl ?_
                            refine gj_iast C 104 (by decide) (va_up_self _ _ _) (vp_in_nI (by omega) (by omega)) dX12_confirms_144 ?_
                            refine gj_setf (bx_uu _ _ _ _) ?_
                            refine gj_setf (g := va_up (va_up (va_up (va_up f 87 (.inr (11, mF ad la dr go lo ma pa tu ((mCn di pl (se 3) tu go n0 n1 (kI 0, su_, fa, 0) t1).2.2.2)))) 98 (.inl (ca 2, 12, .inl ((mCn di pl (se 3) tu go n0 n1 (kI 0, su_, fa, 0) t1).1)))) 103 (.inl (ca 0, 8, .inl (upd ((mCn di pl (se 3) tu go n0 n1 (kI 0, su_, fa, 0) t1).2.1) t1 (nI t2))))) 104 (.inl (ca 0, 8, .inl (upd ((mCn di pl (se 3) tu go n0 n1 (kI 0, su_, fa, 0) t1).2.2.1) t1 (s_X12_farOf t1 t2 di pl))))) (by rw [nI_clamp (show t1 < 2 ^ 31 by omega), uuI]) ?_
                            refine gj_iinc C (v := nI (t2 + 1)) (lv' := [(2, .int (nI (t2 + 1))), (3, .int (s_X12_farOf t1 t2 di pl)), (1, .int (nI t1)), (0, .ref (ad 87))]) dX12_confirms_145 1 rfl (nI_1 _) (by decide) rfl ?_
                            refine gj_goto C 50 dX12_confirms_148 (by decide) ?_
                            refine gj_setf (g := va_up (va_up (va_up (va_up f 87 (.inr (11, mF ad la dr go lo ma pa tu ((mCn di pl (se 3) tu go n0 n1 (kI 0, su_, fa, 0) t1).2.2.2)))) 98 (.inl (ca 2, 12, .inl ((mCn di pl (se 3) tu go n0 n1 (kI 0, su_, fa, 0) t1).1)))) 103 (.inl (ca 0, 8, .inl (upd ((mCn di pl (se 3) tu go n0 n1 (kI 0, su_, fa, 0) t1).2.1) t1 ((mC1 di pl (mCn di pl (se 3) tu go n0 n1 (kI 0, su_, fa, 0) t1).1 (se 3) t1 (t2 + 1)).1))))) 104 (.inl (ca 0, 8, .inl (upd ((mCn di pl (se 3) tu go n0 n1 (kI 0, su_, fa, 0) t1).2.2.1) t1 ((mC1 di pl (mCn di pl (se 3) tu go n0 n1 (kI 0, su_, fa, 0) t1).1 (se 3) t1 (t2 + 1)).2))))) (by rw [show mC1 di pl (mCn di pl (se 3) tu go n0 n1 (kI 0, su_, fa, 0) t1).1 (se 3) t1 (t2 + 1) = (nI t2, s_X12_farOf t1 t2 di pl) from (if_pos c_34).trans ((if_neg c_35).trans ((if_neg c_36).trans ((if_neg c_37).trans (rfl))))]) ?_
                            refine gj_lv [0, 2, 3] rfl ?_
                            exact ih_27 (t2 + 1) (by omega)
                refine gj_lv [0, 1, 2] rfl ?_
                exact loop_26 (n0 - 0) 0 (by omega)
      refine gj_lv [0, 1] rfl ?_
      exact loop_4 (8 - 0) 0 (by omega)
    | succ m0 ih_2 =>
      intro t0 hk_t0 
      refine gj_iload_n C 1 dX12_confirms_7 rfl 0 rfl ?_
      refine gj_bipush C (v := 12) (by decide) dX12_confirms_8 ?_
      refine gj_icmp_ge C 26 dX12_confirms_10 (by decide) (fun c_38 => absurd c_38 (show ¬ (12 : Int32) ≤ nI t0 from nI_ge (b := 12) (by omega) (by omega))) (fun c_38 => ?_)
      refine gj_aload_n C 0 dX12_confirms_13 rfl 1 rfl ?_
      refine gj_get C 87 (by decide) (up_nx (by decide) (up_nx (by decide) (up_nx (by decide) (va_up_self _ _ _)))) inX12 rfl 15 (by decide) w_864 (v := .ref (ad 98)) rfl dX12_confirms_14 ?_
      refine gj_iload_n C 1 dX12_confirms_17 rfl 0 rfl ?_
      refine gj_iconst C (v := 0) (by decide) dX12_confirms_18 ?_
      refine gj_zast C 98 (by decide) (up_nx (by decide) (up_nx (by decide) (va_up_self _ _ _))) (vp_in_nI (by omega) (by omega)) dX12_confirms_19 ?_
      refine gj_setf ((up_comm (by decide)).trans (up_un ((up_comm (by decide)).trans (up_un (bx_uu _ _ _ _))))) ?_
      refine gj_setf (g := va_up (va_up (va_up (va_up f 87 (.inr (11, [.ref (ad 88), .ref (ad 89), .ref (ad 90), .ref (ad 91), .int la, .ref (ad 92), .ref (ad 93), .ref (ad 94), .int dr, .int go, .int lo, .int ma, .ref (ad 95), .ref (ad 96), .ref (ad 97), .ref (ad 98), .int pa, .int tu, .ref (ad 99), .ref (ad 100), .ref (ad 101), .ref (ad 102), .ref (ad 103), .ref (ad 104), .int 0, .ref (ad 105), .ref (ad 106), .ref (ad 107)]))) 98 (.inl (ca 2, 12, .inl (zF us 0 (t0 + 1))))) 103 (.inl (ca 0, 8, .inl su_))) 104 (.inl (ca 0, 8, .inl fa))) (by rw [show ((0 : Int32) &&& 1) = 0 from rfl, zF_i us 0 (show t0 < 2 ^ 31 by omega)]) ?_
      refine gj_iinc C (v := nI (t0 + 1)) (lv' := [(1, .int (nI (t0 + 1))), (0, .ref (ad 87))]) dX12_confirms_20 0 rfl (nI_1 _) (by decide) rfl ?_
      refine gj_goto C 7 dX12_confirms_23 (by decide) ?_
      refine gj_lv [0, 1] rfl ?_
      exact ih_2 (t0 + 1) (by omega)
  refine gj_lv [0, 1] rfl ?_
  exact loop_1 (12 - 0) 0 (by omega)
