theorem upd_same (g : Nat → Int32) (k : Nat) : upd g k (g k) = g := by
  funext j
  by_cases h : j = k
  · subst h; rw [pk_us]
  · rw [pk_un h]
/-- how many are confirmed by tolerance 50 t -/
def mBc (di se : Nat → Int32) (n n1 : Nat) (go : Int32) (t : Nat) : Int32 := (rC di (upd se 1 (nI (50 * t))) n n1 go).2.2.2
/-- the best tolerance of the first t, how many are confirmed by it -/
def mBt (di se : Nat → Int32) (n n1 : Nat) (go : Int32) : Nat → Int32 × Int32
  | 0 => (-1, -1)
  | t + 1 => (if mBc di se n n1 go t ≤ (mBt di se n n1 go t).2 then (mBt di se n n1 go t).1 else nI (50 * t), s_X12_greater (mBc di se n n1 go t) (mBt di se n n1 go t).2)
def mSc (di se : Nat → Int32) (n n1 : Nat) (t : Nat) : Int32 := (rC di se n n1 (nI t)).2.2.2
def mSt (di se : Nat → Int32) (n n1 : Nat) : Nat → Int32 × Int32
  | 0 => (-1, -1)
  | t + 1 => (if mSc di se n n1 t ≤ (mSt di se n n1 t).2 then (mSt di se n n1 t).1 else nI t, s_X12_greater (mSc di se n n1 t) (mSt di se n n1 t).2)
theorem n50 (t : Nat) : nI (50 * t) + 50 = nI (50 * (t + 1)) := by
  rw [show (50 : Int32) = nI 50 from rfl, nI_add]; rfl

set_option maxHeartbeats 400000 in
set_option maxRecDepth 100000 in
theorem c_X12_betterBy {l : Launch} {D : va_G} {ca ss ad : Nat → Nat} {f : Nat → va_E}  (w : Int32) (la : Int32) (dr : Int32) (go : Int32) (lo : Int32) (ma : Int32) (pa : Int32) (tu : Int32) (su : Int32) (di : Nat → Int32) (mn : Nat → Int32) (se : Nat → Int32) (vo : Nat → Int32) (so : Nat → Int32) (ro : Nat → Int32) (us : Nat → Int32) (sta : Nat → Int64) (spa : Nat → Int64) (sf : Nat → Int64) (pl : Nat → Int32) (su_ : Nat → Int32) (fa : Nat → Int32) (n0 : Nat) (n1 : Nat) (hc0 : f 87 = .inr (11, mF ad la dr go lo ma pa tu su)) (hc1 : f 92 = .inl (ca 0, 60, .inl di)) (hc2 : f 93 = .inl (ca 0, 2, .inl mn)) (hc3 : f 94 = .inl (ca 0, 4, .inl se)) (hc4 : f 95 = .inl (ca 0, 96, .inl vo)) (hc5 : f 96 = .inl (ca 0, 8, .inl so)) (hc6 : f 97 = .inl (ca 0, 8, .inl ro)) (hc7 : f 98 = .inl (ca 2, 12, .inl us)) (hc8 : f 99 = .inl (ca 1, 9, .inr (.inl sta))) (hc9 : f 100 = .inl (ca 1, 9, .inr (.inl spa))) (hc10 : f 101 = .inl (ca 1, 3, .inr (.inl sf))) (hc11 : f 102 = .inl (ca 0, 36, .inl pl)) (hc12 : f 103 = .inl (ca 0, 8, .inl su_)) (hc13 : f 104 = .inl (ca 0, 8, .inl fa)) (h0 : mn 0 = nI n0) (h1 : mn 1 = nI n1) (hn : n0 ≤ 12) (hn1 : n1 ≤ 8) (hz : ¬ se 0 = 0) (hd : dOk di) : gMi l D ca ss ad 108 yX12_betterBy cX12_betterBy 6 (some .int) 8 f [.ref (ad 87), .int w] (fun r u => ∃ (spaX staX sfX : Nat → Int64) (plX : Nat → Int32), (rU di se n0 n1 go = 1 → ∀ j, j < 3 * n0 → plX j = rP di se n0 n1 go j) ∧ r = (if w = 0 then (mBt di se n0 n1 go 21).1 else (mBt di se n0 n1 go 21).2) ∧ u = va_up (va_up (va_up (va_up (va_up (va_up (va_up (va_up (va_up (va_up (va_up f 87 (.inr (11, mF ad la dr go ((mVotes di se n0 n1 go).2.2) ((mVotes di se n0 n1 go).2.1) ((rT di se n0 n1 go).2.2.2) (rU di se n0 n1 go) ((rC di se n0 n1 go).2.2.2)))) 95 (.inl (ca 0, 96, .inl ((mVotes di se n0 n1 go).1)))) 96 (.inl (ca 0, 8, .inl ((rT di se n0 n1 go).1)))) 97 (.inl (ca 0, 8, .inl ((rT di se n0 n1 go).2.1)))) 98 (.inl (ca 2, 12, .inl ((rC di se n0 n1 go).1)))) 100 (.inl (ca 1, 9, .inr (.inl spaX)))) 99 (.inl (ca 1, 9, .inr (.inl staX)))) 101 (.inl (ca 1, 3, .inr (.inl sfX)))) 102 (.inl (ca 0, 36, .inl plX))) 103 (.inl (ca 0, 8, .inl ((rC di se n0 n1 go).2.1)))) 104 (.inl (ca 0, 8, .inl ((rC di se n0 n1 go).2.2.1)))) := by
  refine gMi_ofK (by decide +kernel) (Nat.le_of_ble_eq_true rfl) (lv0 := [(0, .ref (ad 87)), (1, .int w)]) rfl (fun pT eT sT mT aT below meth cT AT QT C RT => ?_)
  have C : gX pT sT mT aT meth cT AT D ca ss 6 RX12 cX12_betterBy (some .int) := C
  refine gj_aload_n C 0 dX12_betterBy_0 rfl 0 rfl ?_
  refine gj_get C 87 (by decide) hc0 inX12 rfl 7 (by decide) w_856 (v := .ref (ad 94)) rfl dX12_betterBy_1 ?_
  refine gj_iconst C (v := 1) (by decide) dX12_betterBy_4 ?_
  refine gj_iald C 94 (by decide) hc3 (by unfold vp_in; decide) dX12_betterBy_5 ?_
  refine gj_seti (y := se 1) rfl ?_
  refine gj_istore_n C (lv' := [(2, .int (se 1)), (0, .ref (ad 87)), (1, .int w)]) 2 dX12_betterBy_6 rfl (by decide) rfl ?_
  refine gj_iconst C (v := (-1)) (by decide) dX12_betterBy_7 ?_
  refine gj_seti (y := (mBt di se n0 n1 go 0).1) rfl ?_
  refine gj_istore_n C (lv' := [(3, .int ((mBt di se n0 n1 go 0).1)), (2, .int (se 1)), (0, .ref (ad 87)), (1, .int w)]) 3 dX12_betterBy_8 rfl (by decide) rfl ?_
  refine gj_iconst C (v := (-1)) (by decide) dX12_betterBy_9 ?_
  refine gj_seti (y := (mBt di se n0 n1 go 0).2) rfl ?_
  refine gj_istore C (lv' := [(4, .int ((mBt di se n0 n1 go 0).2)), (3, .int ((mBt di se n0 n1 go 0).1)), (2, .int (se 1)), (0, .ref (ad 87)), (1, .int w)]) dX12_betterBy_10 (by decide) rfl ?_
  refine gj_iconst C (v := 0) (by decide) dX12_betterBy_12 ?_
  refine gj_seti (y := nI (50 * 0)) rfl ?_
  refine gj_istore C (lv' := [(5, .int (nI (50 * 0))), (4, .int ((mBt di se n0 n1 go 0).2)), (3, .int ((mBt di se n0 n1 go 0).1)), (2, .int (se 1)), (0, .ref (ad 87)), (1, .int w)]) dX12_betterBy_13 (by decide) rfl ?_
  refine gj_setf (up_id hc0).symm ?_
  refine gj_setf (up_id (up_nx (by decide) (hc4))).symm ?_
  refine gj_setf (up_id (up_nx (by decide) (up_nx (by decide) (hc5)))).symm ?_
  refine gj_setf (up_id (up_nx (by decide) (up_nx (by decide) (up_nx (by decide) (hc6))))).symm ?_
  refine gj_setf (up_id (up_nx (by decide) (up_nx (by decide) (up_nx (by decide) (up_nx (by decide) (hc7)))))).symm ?_
  refine gj_setf (up_id (up_nx (by decide) (up_nx (by decide) (up_nx (by decide) (up_nx (by decide) (up_nx (by decide) (hc9))))))).symm ?_
  refine gj_setf (up_id (up_nx (by decide) (up_nx (by decide) (up_nx (by decide) (up_nx (by decide) (up_nx (by decide) (up_nx (by decide) (hc8)))))))).symm ?_
  refine gj_setf (up_id (up_nx (by decide) (up_nx (by decide) (up_nx (by decide) (up_nx (by decide) (up_nx (by decide) (up_nx (by decide) (up_nx (by decide) (hc10))))))))).symm ?_
  refine gj_setf (up_id (up_nx (by decide) (up_nx (by decide) (up_nx (by decide) (up_nx (by decide) (up_nx (by decide) (up_nx (by decide) (up_nx (by decide) (up_nx (by decide) (hc11)))))))))).symm ?_
  refine gj_setf (up_id (up_nx (by decide) (up_nx (by decide) (up_nx (by decide) (up_nx (by decide) (up_nx (by decide) (up_nx (by decide) (up_nx (by decide) (up_nx (by decide) (up_nx (by decide) (hc12))))))))))).symm ?_
  refine gj_setf (up_id (up_nx (by decide) (up_nx (by decide) (up_nx (by decide) (up_nx (by decide) (up_nx (by decide) (up_nx (by decide) (up_nx (by decide) (up_nx (by decide) (up_nx (by decide) (up_nx (by decide) (hc13)))))))))))).symm ?_
  refine gj_setf (up_id (up_nx (by decide) (up_nx (by decide) (up_nx (by decide) (up_nx (by decide) (up_nx (by decide) (up_nx (by decide) (up_nx (by decide) (up_nx (by decide) (up_nx (by decide) (up_nx (by decide) (up_nx (by decide) (hc3))))))))))))).symm ?_
  refine gj_setf (g := va_up (va_up (va_up (va_up (va_up (va_up (va_up (va_up (va_up (va_up (va_up (va_up f 87 (.inr (11, mF ad la dr go lo ma pa tu su))) 95 (.inl (ca 0, 96, .inl vo))) 96 (.inl (ca 0, 8, .inl so))) 97 (.inl (ca 0, 8, .inl ro))) 98 (.inl (ca 2, 12, .inl us))) 100 (.inl (ca 1, 9, .inr (.inl spa)))) 99 (.inl (ca 1, 9, .inr (.inl sta)))) 101 (.inl (ca 1, 3, .inr (.inl sf)))) 102 (.inl (ca 0, 36, .inl pl))) 103 (.inl (ca 0, 8, .inl su_))) 104 (.inl (ca 0, 8, .inl fa))) 94 (.inl (ca 0, 4, .inl (upd se 1 (se 1))))) (by rw [upd_same]) ?_
  have loop_1 : ∀ (m0 t0 : Nat), t0 + m0 = 21 → ∀ (jlo : Int32), ∀ (jma : Int32), ∀ (jpa : Int32), ∀ (jtu : Int32), ∀ (jsu : Int32), ∀ (jvo : Nat → Int32), ∀ (jso : Nat → Int32), ∀ (jro : Nat → Int32), ∀ (jus : Nat → Int32), ∀ (jspa : Nat → Int64), ∀ (jsta : Nat → Int64), ∀ (jsf : Nat → Int64), ∀ (jpl : Nat → Int32), ∀ (jsure : Nat → Int32), ∀ (jfar : Nat → Int32), ∀ (jx : Int32), gJ pT l eT (Rm 8) sT mT aT below meth cT AT QT D ad 108 6 (va_up (va_up (va_up (va_up (va_up (va_up (va_up (va_up (va_up (va_up (va_up (va_up f 87 (.inr (11, mF ad la dr go jlo jma jpa jtu jsu))) 95 (.inl (ca 0, 96, .inl jvo))) 96 (.inl (ca 0, 8, .inl jso))) 97 (.inl (ca 0, 8, .inl jro))) 98 (.inl (ca 2, 12, .inl jus))) 100 (.inl (ca 1, 9, .inr (.inl jspa)))) 99 (.inl (ca 1, 9, .inr (.inl jsta)))) 101 (.inl (ca 1, 3, .inr (.inl jsf)))) 102 (.inl (ca 0, 36, .inl jpl))) 103 (.inl (ca 0, 8, .inl jsure))) 104 (.inl (ca 0, 8, .inl jfar))) 94 (.inl (ca 0, 4, .inl (upd se 1 jx)))) [(5, .int (nI (50 * t0))), (4, .int ((mBt di se n0 n1 go t0).2)), (3, .int ((mBt di se n0 n1 go t0).1)), (2, .int (se 1)), (0, .ref (ad 87)), (1, .int w)] 15 [] := by
    intro m0
    induction m0 with
    | zero =>
      intro t0 hk_t0  jlo jma jpa jtu jsu jvo jso jro jus jspa jsta jsf jpl jsure jfar jx
      obtain rfl : t0 = 21 := (by omega)
      refine gj_iload C dX12_betterBy_15 0 rfl ?_
      refine gj_sipush C (v := 1000) (by decide) dX12_betterBy_17 ?_
      refine gj_icmp_gt C 68 dX12_betterBy_20 (by decide) (fun c_3 => ?_) (fun c_3 => absurd (by decide) c_3)
      refine gj_aload_n C 0 dX12_betterBy_68 rfl 4 rfl ?_
      refine gj_get C 87 (by decide) (up_nx (by decide) (up_nx (by decide) (up_nx (by decide) (up_nx (by decide) (up_nx (by decide) (up_nx (by decide) (up_nx (by decide) (up_nx (by decide) (up_nx (by decide) (up_nx (by decide) (up_nx (by decide) (va_up_self _ _ _)))))))))))) inX12 rfl 7 (by decide) w_856 (v := .ref (ad 94)) rfl dX12_betterBy_69 ?_
      refine gj_iconst C (v := 1) (by decide) dX12_betterBy_72 ?_
      refine gj_iload_n C 2 dX12_betterBy_73 rfl 3 rfl ?_
      refine gj_iast C 94 (by decide) (va_up_self _ _ _) (by unfold vp_in; decide) dX12_betterBy_74 ?_
      refine gj_setf (bx_uu _ _ _ _) ?_
      refine gj_setf (g := va_up (va_up (va_up (va_up (va_up (va_up (va_up (va_up (va_up (va_up (va_up (va_up f 87 (.inr (11, mF ad la dr go jlo jma jpa jtu jsu))) 95 (.inl (ca 0, 96, .inl jvo))) 96 (.inl (ca 0, 8, .inl jso))) 97 (.inl (ca 0, 8, .inl jro))) 98 (.inl (ca 2, 12, .inl jus))) 100 (.inl (ca 1, 9, .inr (.inl jspa)))) 99 (.inl (ca 1, 9, .inr (.inl jsta)))) 101 (.inl (ca 1, 3, .inr (.inl jsf)))) 102 (.inl (ca 0, 36, .inl jpl))) 103 (.inl (ca 0, 8, .inl jsure))) 104 (.inl (ca 0, 8, .inl jfar))) 94 (.inl (ca 0, 4, .inl (upd (upd se 1 jx) 1 (se 1))))) rfl ?_
      refine gj_setf (g := va_up (va_up (va_up (va_up (va_up (va_up (va_up (va_up (va_up (va_up (va_up (va_up f 87 (.inr (11, mF ad la dr go jlo jma jpa jtu jsu))) 95 (.inl (ca 0, 96, .inl jvo))) 96 (.inl (ca 0, 8, .inl jso))) 97 (.inl (ca 0, 8, .inl jro))) 98 (.inl (ca 2, 12, .inl jus))) 100 (.inl (ca 1, 9, .inr (.inl jspa)))) 99 (.inl (ca 1, 9, .inr (.inl jsta)))) 101 (.inl (ca 1, 3, .inr (.inl jsf)))) 102 (.inl (ca 0, 36, .inl jpl))) 103 (.inl (ca 0, 8, .inl jsure))) 104 (.inl (ca 0, 8, .inl jfar))) 94 (.inl (ca 0, 4, .inl se))) (by rw [uuI, upd_same]) ?_
      refine gj_setf (up_id (up_nx (by decide) (up_nx (by decide) (up_nx (by decide) (up_nx (by decide) (up_nx (by decide) (up_nx (by decide) (up_nx (by decide) (up_nx (by decide) (up_nx (by decide) (up_nx (by decide) (up_nx (by decide) (hc3))))))))))))) ?_
      refine gj_aload_n C 0 dX12_betterBy_75 rfl 4 rfl ?_
      refine gj_callVv C mi_X12_find w_1069 87 (by decide) (up_nx (by decide) (up_nx (by decide) (up_nx (by decide) (up_nx (by decide) (up_nx (by decide) (up_nx (by decide) (up_nx (by decide) (up_nx (by decide) (up_nx (by decide) (up_nx (by decide) (va_up_self _ _ _))))))))))) rfl (c_X12_find la dr go jlo jma jpa jtu jsu di mn se jvo jso jro jus jsta jspa jsf jpl jsure jfar n0 n1 (up_nx (by decide) (up_nx (by decide) (up_nx (by decide) (up_nx (by decide) (up_nx (by decide) (up_nx (by decide) (up_nx (by decide) (up_nx (by decide) (up_nx (by decide) (up_nx (by decide) (va_up_self _ _ _))))))))))) (up_nx (by decide) (up_nx (by decide) (up_nx (by decide) (up_nx (by decide) (up_nx (by decide) (up_nx (by decide) (up_nx (by decide) (up_nx (by decide) (up_nx (by decide) (up_nx (by decide) (up_nx (by decide) (hc1)))))))))))) (up_nx (by decide) (up_nx (by decide) (up_nx (by decide) (up_nx (by decide) (up_nx (by decide) (up_nx (by decide) (up_nx (by decide) (up_nx (by decide) (up_nx (by decide) (up_nx (by decide) (up_nx (by decide) (hc2)))))))))))) (up_nx (by decide) (up_nx (by decide) (up_nx (by decide) (up_nx (by decide) (up_nx (by decide) (up_nx (by decide) (up_nx (by decide) (up_nx (by decide) (up_nx (by decide) (up_nx (by decide) (up_nx (by decide) (hc3)))))))))))) (up_nx (by decide) (up_nx (by decide) (up_nx (by decide) (up_nx (by decide) (up_nx (by decide) (up_nx (by decide) (up_nx (by decide) (up_nx (by decide) (up_nx (by decide) (va_up_self _ _ _)))))))))) (up_nx (by decide) (up_nx (by decide) (up_nx (by decide) (up_nx (by decide) (up_nx (by decide) (up_nx (by decide) (up_nx (by decide) (up_nx (by decide) (va_up_self _ _ _))))))))) (up_nx (by decide) (up_nx (by decide) (up_nx (by decide) (up_nx (by decide) (up_nx (by decide) (up_nx (by decide) (up_nx (by decide) (va_up_self _ _ _)))))))) (up_nx (by decide) (up_nx (by decide) (up_nx (by decide) (up_nx (by decide) (up_nx (by decide) (up_nx (by decide) (va_up_self _ _ _))))))) (up_nx (by decide) (up_nx (by decide) (up_nx (by decide) (up_nx (by decide) (va_up_self _ _ _))))) (up_nx (by decide) (up_nx (by decide) (up_nx (by decide) (up_nx (by decide) (up_nx (by decide) (va_up_self _ _ _)))))) (up_nx (by decide) (up_nx (by decide) (up_nx (by decide) (va_up_self _ _ _)))) (up_nx (by decide) (up_nx (by decide) (va_up_self _ _ _))) (up_nx (by decide) (va_up_self _ _ _)) (va_up_self _ _ _) h0 h1 hn hn1 hz hd) mc_X12_find ⟨Nat.le_of_ble_eq_true rfl, Nat.le_of_ble_eq_true rfl⟩ (rest := []) rfl (Nat.le_of_ble_eq_true rfl) dX12_betterBy_76 (fun u h => ?_)
      obtain ⟨spaX_4, staX_4, sfX_4, plX_4, hPLX_4, rfl⟩ := h
      refine gj_setf ((up_un ((up_un ((up_un ((up_un ((up_un ((up_un ((up_un ((up_un ((up_un ((up_un ((up_comm (by decide)).trans (up_un ((up_comm (by decide)).trans (up_un ((up_comm (by decide)).trans (up_un ((up_comm (by decide)).trans (up_un ((up_comm (by decide)).trans (up_un ((up_comm (by decide)).trans (up_un ((up_comm (by decide)).trans (up_un ((up_comm (by decide)).trans (up_un ((up_comm (by decide)).trans (up_un ((up_comm (by decide)).trans (up_un (bx_uu _ _ _ _)))))))))))))))))))))).trans ((up_comm (by decide)).trans (up_un ((up_comm (by decide)).trans (up_un ((up_comm (by decide)).trans (up_un ((up_comm (by decide)).trans (up_un ((up_comm (by decide)).trans (up_un ((up_comm (by decide)).trans (up_un ((up_comm (by decide)).trans (up_un ((up_comm (by decide)).trans (up_un ((up_comm (by decide)).trans (up_un (bx_uu _ _ _ _))))))))))))))))))))).trans ((up_comm (by decide)).trans (up_un ((up_comm (by decide)).trans (up_un ((up_comm (by decide)).trans (up_un ((up_comm (by decide)).trans (up_un ((up_comm (by decide)).trans (up_un ((up_comm (by decide)).trans (up_un ((up_comm (by decide)).trans (up_un ((up_comm (by decide)).trans (up_un (bx_uu _ _ _ _))))))))))))))))))).trans ((up_comm (by decide)).trans (up_un ((up_comm (by decide)).trans (up_un ((up_comm (by decide)).trans (up_un ((up_comm (by decide)).trans (up_un ((up_comm (by decide)).trans (up_un ((up_comm (by decide)).trans (up_un ((up_comm (by decide)).trans (up_un (bx_uu _ _ _ _))))))))))))))))).trans ((up_comm (by decide)).trans (up_un ((up_comm (by decide)).trans (up_un ((up_comm (by decide)).trans (up_un ((up_comm (by decide)).trans (up_un ((up_comm (by decide)).trans (up_un ((up_comm (by decide)).trans (up_un (bx_uu _ _ _ _))))))))))))))).trans ((up_comm (by decide)).trans (up_un ((up_comm (by decide)).trans (up_un ((up_comm (by decide)).trans (up_un ((up_comm (by decide)).trans (up_un ((up_comm (by decide)).trans (up_un (bx_uu _ _ _ _))))))))))))).trans ((up_comm (by decide)).trans (up_un ((up_comm (by decide)).trans (up_un ((up_comm (by decide)).trans (up_un ((up_comm (by decide)).trans (up_un (bx_uu _ _ _ _))))))))))).trans ((up_comm (by decide)).trans (up_un ((up_comm (by decide)).trans (up_un ((up_comm (by decide)).trans (up_un (bx_uu _ _ _ _))))))))).trans ((up_comm (by decide)).trans (up_un ((up_comm (by decide)).trans (up_un (bx_uu _ _ _ _))))))).trans ((up_comm (by decide)).trans (up_un (bx_uu _ _ _ _))))).trans (bx_uu _ _ _ _)) ?_
      refine gj_iload_n C 1 dX12_betterBy_79 rfl 5 rfl ?_
      refine gj_if_ne C 87 dX12_betterBy_80 (by decide) (fun c_5 => ?_) (fun c_5 => ?_)
      · refine gj_iload C dX12_betterBy_87 1 rfl ?_
        exact RT _ _ _ _ ⟨_, _, _, _, hPLX_4, by rw [if_neg c_5], rfl⟩ dX12_betterBy_89
      · refine gj_iload_n C 3 dX12_betterBy_83 rfl 2 rfl ?_
        refine gj_goto C 89 dX12_betterBy_84 (by decide) ?_
        exact RT _ _ _ _ ⟨_, _, _, _, hPLX_4, by rw [if_pos c_5], rfl⟩ dX12_betterBy_89
    | succ m0 ih_2 =>
      intro t0 hk_t0  jlo jma jpa jtu jsu jvo jso jro jus jspa jsta jsf jpl jsure jfar jx
      refine gj_iload C dX12_betterBy_15 0 rfl ?_
      refine gj_sipush C (v := 1000) (by decide) dX12_betterBy_17 ?_
      refine gj_icmp_gt C 68 dX12_betterBy_20 (by decide) (fun c_6 => absurd c_6 (show ¬ (1000 : Int32) < nI (50 * t0) from nI_nlt (a := 1000) (b := 50 * t0) (by omega) (by omega))) (fun c_6 => ?_)
      refine gj_aload_n C 0 dX12_betterBy_23 rfl 4 rfl ?_
      refine gj_get C 87 (by decide) (up_nx (by decide) (up_nx (by decide) (up_nx (by decide) (up_nx (by decide) (up_nx (by decide) (up_nx (by decide) (up_nx (by decide) (up_nx (by decide) (up_nx (by decide) (up_nx (by decide) (up_nx (by decide) (va_up_self _ _ _)))))))))))) inX12 rfl 7 (by decide) w_856 (v := .ref (ad 94)) rfl dX12_betterBy_24 ?_
      refine gj_iconst C (v := 1) (by decide) dX12_betterBy_27 ?_
      refine gj_iload C dX12_betterBy_28 0 rfl ?_
      refine gj_iast C 94 (by decide) (va_up_self _ _ _) (by unfold vp_in; decide) dX12_betterBy_30 ?_
      refine gj_setf (bx_uu _ _ _ _) ?_
      refine gj_setf (g := va_up (va_up (va_up (va_up (va_up (va_up (va_up (va_up (va_up (va_up (va_up (va_up f 87 (.inr (11, mF ad la dr go jlo jma jpa jtu jsu))) 95 (.inl (ca 0, 96, .inl jvo))) 96 (.inl (ca 0, 8, .inl jso))) 97 (.inl (ca 0, 8, .inl jro))) 98 (.inl (ca 2, 12, .inl jus))) 100 (.inl (ca 1, 9, .inr (.inl jspa)))) 99 (.inl (ca 1, 9, .inr (.inl jsta)))) 101 (.inl (ca 1, 3, .inr (.inl jsf)))) 102 (.inl (ca 0, 36, .inl jpl))) 103 (.inl (ca 0, 8, .inl jsure))) 104 (.inl (ca 0, 8, .inl jfar))) 94 (.inl (ca 0, 4, .inl (upd (upd se 1 jx) 1 (nI (50 * t0)))))) rfl ?_
      refine gj_setf (g := va_up (va_up (va_up (va_up (va_up (va_up (va_up (va_up (va_up (va_up (va_up (va_up f 87 (.inr (11, mF ad la dr go jlo jma jpa jtu jsu))) 95 (.inl (ca 0, 96, .inl jvo))) 96 (.inl (ca 0, 8, .inl jso))) 97 (.inl (ca 0, 8, .inl jro))) 98 (.inl (ca 2, 12, .inl jus))) 100 (.inl (ca 1, 9, .inr (.inl jspa)))) 99 (.inl (ca 1, 9, .inr (.inl jsta)))) 101 (.inl (ca 1, 3, .inr (.inl jsf)))) 102 (.inl (ca 0, 36, .inl jpl))) 103 (.inl (ca 0, 8, .inl jsure))) 104 (.inl (ca 0, 8, .inl jfar))) 94 (.inl (ca 0, 4, .inl (upd se 1 (nI (50 * t0)))))) (by rw [uuI]) ?_
      refine gj_aload_n C 0 dX12_betterBy_31 rfl 4 rfl ?_
      refine gj_callVv C mi_X12_find w_1069 87 (by decide) (up_nx (by decide) (up_nx (by decide) (up_nx (by decide) (up_nx (by decide) (up_nx (by decide) (up_nx (by decide) (up_nx (by decide) (up_nx (by decide) (up_nx (by decide) (up_nx (by decide) (up_nx (by decide) (va_up_self _ _ _)))))))))))) rfl (c_X12_find la dr go jlo jma jpa jtu jsu di mn (upd se 1 (nI (50 * t0))) jvo jso jro jus jsta jspa jsf jpl jsure jfar n0 n1 (up_nx (by decide) (up_nx (by decide) (up_nx (by decide) (up_nx (by decide) (up_nx (by decide) (up_nx (by decide) (up_nx (by decide) (up_nx (by decide) (up_nx (by decide) (up_nx (by decide) (up_nx (by decide) (va_up_self _ _ _)))))))))))) (up_nx (by decide) (up_nx (by decide) (up_nx (by decide) (up_nx (by decide) (up_nx (by decide) (up_nx (by decide) (up_nx (by decide) (up_nx (by decide) (up_nx (by decide) (up_nx (by decide) (up_nx (by decide) (up_nx (by decide) (hc1))))))))))))) (up_nx (by decide) (up_nx (by decide) (up_nx (by decide) (up_nx (by decide) (up_nx (by decide) (up_nx (by decide) (up_nx (by decide) (up_nx (by decide) (up_nx (by decide) (up_nx (by decide) (up_nx (by decide) (up_nx (by decide) (hc2))))))))))))) (va_up_self _ _ _) (up_nx (by decide) (up_nx (by decide) (up_nx (by decide) (up_nx (by decide) (up_nx (by decide) (up_nx (by decide) (up_nx (by decide) (up_nx (by decide) (up_nx (by decide) (up_nx (by decide) (va_up_self _ _ _))))))))))) (up_nx (by decide) (up_nx (by decide) (up_nx (by decide) (up_nx (by decide) (up_nx (by decide) (up_nx (by decide) (up_nx (by decide) (up_nx (by decide) (up_nx (by decide) (va_up_self _ _ _)))))))))) (up_nx (by decide) (up_nx (by decide) (up_nx (by decide) (up_nx (by decide) (up_nx (by decide) (up_nx (by decide) (up_nx (by decide) (up_nx (by decide) (va_up_self _ _ _))))))))) (up_nx (by decide) (up_nx (by decide) (up_nx (by decide) (up_nx (by decide) (up_nx (by decide) (up_nx (by decide) (up_nx (by decide) (va_up_self _ _ _)))))))) (up_nx (by decide) (up_nx (by decide) (up_nx (by decide) (up_nx (by decide) (up_nx (by decide) (va_up_self _ _ _)))))) (up_nx (by decide) (up_nx (by decide) (up_nx (by decide) (up_nx (by decide) (up_nx (by decide) (up_nx (by decide) (va_up_self _ _ _))))))) (up_nx (by decide) (up_nx (by decide) (up_nx (by decide) (up_nx (by decide) (va_up_self _ _ _))))) (up_nx (by decide) (up_nx (by decide) (up_nx (by decide) (va_up_self _ _ _)))) (up_nx (by decide) (up_nx (by decide) (va_up_self _ _ _))) (up_nx (by decide) (va_up_self _ _ _)) h0 h1 hn hn1 (by rw [pk_un (by decide)]; exact hz) hd) mc_X12_find ⟨Nat.le_of_ble_eq_true rfl, Nat.le_of_ble_eq_true rfl⟩ (rest := []) rfl (Nat.le_of_ble_eq_true rfl) dX12_betterBy_32 (fun u h => ?_)
      obtain ⟨spaX_7, staX_7, sfX_7, plX_7, hPLX_7, rfl⟩ := h
      refine gj_setf ((up_un ((up_un ((up_un ((up_un ((up_un ((up_un ((up_un ((up_un ((up_un ((up_un ((up_comm (by decide)).trans (up_un ((up_comm (by decide)).trans (up_un ((up_comm (by decide)).trans (up_un ((up_comm (by decide)).trans (up_un ((up_comm (by decide)).trans (up_un ((up_comm (by decide)).trans (up_un ((up_comm (by decide)).trans (up_un ((up_comm (by decide)).trans (up_un ((up_comm (by decide)).trans (up_un ((up_comm (by decide)).trans (up_un ((up_comm (by decide)).trans (up_un (bx_uu _ _ _ _)))))))))))))))))))))))).trans ((up_comm (by decide)).trans (up_un ((up_comm (by decide)).trans (up_un ((up_comm (by decide)).trans (up_un ((up_comm (by decide)).trans (up_un ((up_comm (by decide)).trans (up_un ((up_comm (by decide)).trans (up_un ((up_comm (by decide)).trans (up_un ((up_comm (by decide)).trans (up_un ((up_comm (by decide)).trans (up_un ((up_comm (by decide)).trans (up_un (bx_uu _ _ _ _))))))))))))))))))))))).trans ((up_comm (by decide)).trans (up_un ((up_comm (by decide)).trans (up_un ((up_comm (by decide)).trans (up_un ((up_comm (by decide)).trans (up_un ((up_comm (by decide)).trans (up_un ((up_comm (by decide)).trans (up_un ((up_comm (by decide)).trans (up_un ((up_comm (by decide)).trans (up_un ((up_comm (by decide)).trans (up_un (bx_uu _ _ _ _))))))))))))))))))))).trans ((up_comm (by decide)).trans (up_un ((up_comm (by decide)).trans (up_un ((up_comm (by decide)).trans (up_un ((up_comm (by decide)).trans (up_un ((up_comm (by decide)).trans (up_un ((up_comm (by decide)).trans (up_un ((up_comm (by decide)).trans (up_un ((up_comm (by decide)).trans (up_un (bx_uu _ _ _ _))))))))))))))))))).trans ((up_comm (by decide)).trans (up_un ((up_comm (by decide)).trans (up_un ((up_comm (by decide)).trans (up_un ((up_comm (by decide)).trans (up_un ((up_comm (by decide)).trans (up_un ((up_comm (by decide)).trans (up_un ((up_comm (by decide)).trans (up_un (bx_uu _ _ _ _))))))))))))))))).trans ((up_comm (by decide)).trans (up_un ((up_comm (by decide)).trans (up_un ((up_comm (by decide)).trans (up_un ((up_comm (by decide)).trans (up_un ((up_comm (by decide)).trans (up_un ((up_comm (by decide)).trans (up_un (bx_uu _ _ _ _))))))))))))))).trans ((up_comm (by decide)).trans (up_un ((up_comm (by decide)).trans (up_un ((up_comm (by decide)).trans (up_un ((up_comm (by decide)).trans (up_un ((up_comm (by decide)).trans (up_un (bx_uu _ _ _ _))))))))))))).trans ((up_comm (by decide)).trans (up_un ((up_comm (by decide)).trans (up_un ((up_comm (by decide)).trans (up_un ((up_comm (by decide)).trans (up_un (bx_uu _ _ _ _))))))))))).trans ((up_comm (by decide)).trans (up_un ((up_comm (by decide)).trans (up_un ((up_comm (by decide)).trans (up_un (bx_uu _ _ _ _))))))))).trans ((up_comm (by decide)).trans (up_un ((up_comm (by decide)).trans (up_un (bx_uu _ _ _ _))))))).trans ((up_comm (by decide)).trans (up_un (bx_uu _ _ _ _)))) ?_
      refine gj_aload_n C 0 dX12_betterBy_35 rfl 4 rfl ?_
      refine gj_get C 87 (by decide) (up_nx (by decide) (up_nx (by decide) (up_nx (by decide) (up_nx (by decide) (up_nx (by decide) (up_nx (by decide) (up_nx (by decide) (up_nx (by decide) (up_nx (by decide) (up_nx (by decide) (up_nx (by decide) (va_up_self _ _ _)))))))))))) inX12 rfl 24 (by decide) w_873 (v := .int ((rC di (upd se 1 (nI (50 * t0))) n0 n1 go).2.2.2)) rfl dX12_betterBy_36 ?_
      refine gj_seti (y := mBc di se n0 n1 go t0) rfl ?_
      refine gj_iload C dX12_betterBy_39 1 rfl ?_
      refine gj_icmp_le C 49 dX12_betterBy_41 (by decide) (fun c_8 => ?_) (fun c_8 => ?_)
      · refine gj_iload_n C 3 dX12_betterBy_49 rfl 2 rfl ?_
        refine gj_seti (y := (mBt di se n0 n1 go (t0 + 1)).1) (show (mBt di se n0 n1 go (t0 + 1)).1 = _ from (if_pos c_8).trans (rfl)).symm ?_
        refine gj_istore_n C (lv' := [(3, .int ((mBt di se n0 n1 go (t0 + 1)).1)), (5, .int (nI (50 * t0))), (4, .int ((mBt di se n0 n1 go t0).2)), (2, .int (se 1)), (0, .ref (ad 87)), (1, .int w)]) 3 dX12_betterBy_50 rfl (by decide) rfl ?_
        refine gj_aload_n C 0 dX12_betterBy_51 rfl 4 rfl ?_
        refine gj_get C 87 (by decide) (up_nx (by decide) (up_nx (by decide) (up_nx (by decide) (up_nx (by decide) (up_nx (by decide) (up_nx (by decide) (up_nx (by decide) (up_nx (by decide) (up_nx (by decide) (up_nx (by decide) (up_nx (by decide) (va_up_self _ _ _)))))))))))) inX12 rfl 24 (by decide) w_873 (v := .int ((rC di (upd se 1 (nI (50 * t0))) n0 n1 go).2.2.2)) rfl dX12_betterBy_52 ?_
        refine gj_seti (y := mBc di se n0 n1 go t0) rfl ?_
        refine gj_iload C dX12_betterBy_55 2 rfl ?_
        refine gj_callSi C w_1036 w_1035 (c_X12_greater (mBc di se n0 n1 go t0) ((mBt di se n0 n1 go t0).2)) mc_X12_greater ⟨Nat.le_of_ble_eq_true rfl, Nat.le_of_ble_eq_true rfl⟩ (rest := []) rfl (Nat.le_of_ble_eq_true rfl) dX12_betterBy_57 (fun r u h => ?_)
        obtain ⟨hr_, hu_⟩ := h; rw [hr_]; subst hu_
        refine gj_seti (y := (mBt di se n0 n1 go (t0 + 1)).2) rfl ?_
        refine gj_istore C (lv' := [(4, .int ((mBt di se n0 n1 go (t0 + 1)).2)), (3, .int ((mBt di se n0 n1 go (t0 + 1)).1)), (5, .int (nI (50 * t0))), (2, .int (se 1)), (0, .ref (ad 87)), (1, .int w)]) dX12_betterBy_60 (by decide) rfl ?_
        refine gj_iinc C (v := nI (50 * (t0 + 1))) (lv' := [(5, .int (nI (50 * (t0 + 1)))), (4, .int ((mBt di se n0 n1 go (t0 + 1)).2)), (3, .int ((mBt di se n0 n1 go (t0 + 1)).1)), (2, .int (se 1)), (0, .ref (ad 87)), (1, .int w)]) dX12_betterBy_62 2 rfl (n50 t0) (by decide) rfl ?_
        refine gj_goto C 15 dX12_betterBy_65 (by decide) ?_
        refine gj_lv [0, 1, 2, 3, 4, 5] rfl ?_
        exact ih_2 (t0 + 1) (by omega) _ _ _ _ _ _ _ _ _ _ _ _ _ _ _ _
      · refine gj_iload C dX12_betterBy_44 0 rfl ?_
        refine gj_goto C 50 dX12_betterBy_46 (by decide) ?_
        refine gj_seti (y := (mBt di se n0 n1 go (t0 + 1)).1) (show (mBt di se n0 n1 go (t0 + 1)).1 = _ from (if_neg c_8).trans (rfl)).symm ?_
        refine gj_istore_n C (lv' := [(3, .int ((mBt di se n0 n1 go (t0 + 1)).1)), (5, .int (nI (50 * t0))), (4, .int ((mBt di se n0 n1 go t0).2)), (2, .int (se 1)), (0, .ref (ad 87)), (1, .int w)]) 3 dX12_betterBy_50 rfl (by decide) rfl ?_
        refine gj_aload_n C 0 dX12_betterBy_51 rfl 4 rfl ?_
        refine gj_get C 87 (by decide) (up_nx (by decide) (up_nx (by decide) (up_nx (by decide) (up_nx (by decide) (up_nx (by decide) (up_nx (by decide) (up_nx (by decide) (up_nx (by decide) (up_nx (by decide) (up_nx (by decide) (up_nx (by decide) (va_up_self _ _ _)))))))))))) inX12 rfl 24 (by decide) w_873 (v := .int ((rC di (upd se 1 (nI (50 * t0))) n0 n1 go).2.2.2)) rfl dX12_betterBy_52 ?_
        refine gj_seti (y := mBc di se n0 n1 go t0) rfl ?_
        refine gj_iload C dX12_betterBy_55 2 rfl ?_
        refine gj_callSi C w_1036 w_1035 (c_X12_greater (mBc di se n0 n1 go t0) ((mBt di se n0 n1 go t0).2)) mc_X12_greater ⟨Nat.le_of_ble_eq_true rfl, Nat.le_of_ble_eq_true rfl⟩ (rest := []) rfl (Nat.le_of_ble_eq_true rfl) dX12_betterBy_57 (fun r u h => ?_)
        obtain ⟨hr_, hu_⟩ := h; rw [hr_]; subst hu_
        refine gj_seti (y := (mBt di se n0 n1 go (t0 + 1)).2) rfl ?_
        refine gj_istore C (lv' := [(4, .int ((mBt di se n0 n1 go (t0 + 1)).2)), (3, .int ((mBt di se n0 n1 go (t0 + 1)).1)), (5, .int (nI (50 * t0))), (2, .int (se 1)), (0, .ref (ad 87)), (1, .int w)]) dX12_betterBy_60 (by decide) rfl ?_
        refine gj_iinc C (v := nI (50 * (t0 + 1))) (lv' := [(5, .int (nI (50 * (t0 + 1)))), (4, .int ((mBt di se n0 n1 go (t0 + 1)).2)), (3, .int ((mBt di se n0 n1 go (t0 + 1)).1)), (2, .int (se 1)), (0, .ref (ad 87)), (1, .int w)]) dX12_betterBy_62 2 rfl (n50 t0) (by decide) rfl ?_
        refine gj_goto C 15 dX12_betterBy_65 (by decide) ?_
        refine gj_lv [0, 1, 2, 3, 4, 5] rfl ?_
        exact ih_2 (t0 + 1) (by omega) _ _ _ _ _ _ _ _ _ _ _ _ _ _ _ _
  refine gj_lv [0, 1, 2, 3, 4, 5] rfl ?_
  exact loop_1 (21 - 0) 0 (by omega) _ _ _ _ _ _ _ _ _ _ _ _ _ _ _ _
set_option maxHeartbeats 400000 in
set_option maxRecDepth 100000 in
theorem c_X12_spareBy {l : Launch} {D : va_G} {ca ss ad : Nat → Nat} {f : Nat → va_E}  (w : Int32) (la : Int32) (dr : Int32) (go : Int32) (lo : Int32) (ma : Int32) (pa : Int32) (tu : Int32) (su : Int32) (di : Nat → Int32) (mn : Nat → Int32) (se : Nat → Int32) (vo : Nat → Int32) (so : Nat → Int32) (ro : Nat → Int32) (us : Nat → Int32) (sta : Nat → Int64) (spa : Nat → Int64) (sf : Nat → Int64) (pl : Nat → Int32) (su_ : Nat → Int32) (fa : Nat → Int32) (n0 : Nat) (n1 : Nat) (hc0 : f 87 = .inr (11, mF ad la dr go lo ma pa tu su)) (hc1 : f 92 = .inl (ca 0, 60, .inl di)) (hc2 : f 93 = .inl (ca 0, 2, .inl mn)) (hc3 : f 94 = .inl (ca 0, 4, .inl se)) (hc4 : f 95 = .inl (ca 0, 96, .inl vo)) (hc5 : f 96 = .inl (ca 0, 8, .inl so)) (hc6 : f 97 = .inl (ca 0, 8, .inl ro)) (hc7 : f 98 = .inl (ca 2, 12, .inl us)) (hc8 : f 99 = .inl (ca 1, 9, .inr (.inl sta))) (hc9 : f 100 = .inl (ca 1, 9, .inr (.inl spa))) (hc10 : f 101 = .inl (ca 1, 3, .inr (.inl sf))) (hc11 : f 102 = .inl (ca 0, 36, .inl pl)) (hc12 : f 103 = .inl (ca 0, 8, .inl su_)) (hc13 : f 104 = .inl (ca 0, 8, .inl fa)) (h0 : mn 0 = nI n0) (h1 : mn 1 = nI n1) (hn : n0 ≤ 12) (hn1 : n1 ≤ 8) (hz : ¬ se 0 = 0) (hd : dOk di) : gMi l D ca ss ad 108 yX12_spareBy cX12_spareBy 5 (some .int) 8 f [.ref (ad 87), .int w] (fun r u => ∃ (spaX staX sfX : Nat → Int64) (plX : Nat → Int32), (rU di se n0 n1 (-1) = 1 → ∀ j, j < 3 * n0 → plX j = rP di se n0 n1 (-1) j) ∧ r = (if w = 0 then (mSt di se n0 n1 n1).1 else (mSt di se n0 n1 n1).2) ∧ u = va_up (va_up (va_up (va_up (va_up (va_up (va_up (va_up (va_up (va_up (va_up f 87 (.inr (11, mF ad la dr (-1) ((mVotes di se n0 n1 (-1)).2.2) ((mVotes di se n0 n1 (-1)).2.1) ((rT di se n0 n1 (-1)).2.2.2) (rU di se n0 n1 (-1)) ((rC di se n0 n1 (-1)).2.2.2)))) 95 (.inl (ca 0, 96, .inl ((mVotes di se n0 n1 (-1)).1)))) 96 (.inl (ca 0, 8, .inl ((rT di se n0 n1 (-1)).1)))) 97 (.inl (ca 0, 8, .inl ((rT di se n0 n1 (-1)).2.1)))) 98 (.inl (ca 2, 12, .inl ((rC di se n0 n1 (-1)).1)))) 100 (.inl (ca 1, 9, .inr (.inl spaX)))) 99 (.inl (ca 1, 9, .inr (.inl staX)))) 101 (.inl (ca 1, 3, .inr (.inl sfX)))) 102 (.inl (ca 0, 36, .inl plX))) 103 (.inl (ca 0, 8, .inl ((rC di se n0 n1 (-1)).2.1)))) 104 (.inl (ca 0, 8, .inl ((rC di se n0 n1 (-1)).2.2.1)))) := by
  refine gMi_ofK (by decide +kernel) (Nat.le_of_ble_eq_true rfl) (lv0 := [(0, .ref (ad 87)), (1, .int w)]) rfl (fun pT eT sT mT aT below meth cT AT QT C RT => ?_)
  have C : gX pT sT mT aT meth cT AT D ca ss 5 RX12 cX12_spareBy (some .int) := C
  refine gj_iconst C (v := (-1)) (by decide) dX12_spareBy_0 ?_
  refine gj_seti (y := (mSt di se n0 n1 0).1) rfl ?_
  refine gj_istore_n C (lv' := [(2, .int ((mSt di se n0 n1 0).1)), (0, .ref (ad 87)), (1, .int w)]) 2 dX12_spareBy_1 rfl (by decide) rfl ?_
  refine gj_iconst C (v := (-1)) (by decide) dX12_spareBy_2 ?_
  refine gj_seti (y := (mSt di se n0 n1 0).2) rfl ?_
  refine gj_istore_n C (lv' := [(3, .int ((mSt di se n0 n1 0).2)), (2, .int ((mSt di se n0 n1 0).1)), (0, .ref (ad 87)), (1, .int w)]) 3 dX12_spareBy_3 rfl (by decide) rfl ?_
  refine gj_iconst C (v := 0) (by decide) dX12_spareBy_4 ?_
  refine gj_seti (y := nI 0) rfl ?_
  refine gj_istore C (lv' := [(4, .int (nI 0)), (3, .int ((mSt di se n0 n1 0).2)), (2, .int ((mSt di se n0 n1 0).1)), (0, .ref (ad 87)), (1, .int w)]) dX12_spareBy_5 (by decide) rfl ?_
  refine gj_setf (up_id hc0).symm ?_
  refine gj_setf (up_id (up_nx (by decide) (hc4))).symm ?_
  refine gj_setf (up_id (up_nx (by decide) (up_nx (by decide) (hc5)))).symm ?_
  refine gj_setf (up_id (up_nx (by decide) (up_nx (by decide) (up_nx (by decide) (hc6))))).symm ?_
  refine gj_setf (up_id (up_nx (by decide) (up_nx (by decide) (up_nx (by decide) (up_nx (by decide) (hc7)))))).symm ?_
  refine gj_setf (up_id (up_nx (by decide) (up_nx (by decide) (up_nx (by decide) (up_nx (by decide) (up_nx (by decide) (hc9))))))).symm ?_
  refine gj_setf (up_id (up_nx (by decide) (up_nx (by decide) (up_nx (by decide) (up_nx (by decide) (up_nx (by decide) (up_nx (by decide) (hc8)))))))).symm ?_
  refine gj_setf (up_id (up_nx (by decide) (up_nx (by decide) (up_nx (by decide) (up_nx (by decide) (up_nx (by decide) (up_nx (by decide) (up_nx (by decide) (hc10))))))))).symm ?_
  refine gj_setf (up_id (up_nx (by decide) (up_nx (by decide) (up_nx (by decide) (up_nx (by decide) (up_nx (by decide) (up_nx (by decide) (up_nx (by decide) (up_nx (by decide) (hc11)))))))))).symm ?_
  refine gj_setf (up_id (up_nx (by decide) (up_nx (by decide) (up_nx (by decide) (up_nx (by decide) (up_nx (by decide) (up_nx (by decide) (up_nx (by decide) (up_nx (by decide) (up_nx (by decide) (hc12))))))))))).symm ?_
  refine gj_setf (up_id (up_nx (by decide) (up_nx (by decide) (up_nx (by decide) (up_nx (by decide) (up_nx (by decide) (up_nx (by decide) (up_nx (by decide) (up_nx (by decide) (up_nx (by decide) (up_nx (by decide) (hc13)))))))))))).symm ?_
  have loop_1 : ∀ (m0 t0 : Nat), t0 + m0 = n1 → ∀ (jlo : Int32), ∀ (jma : Int32), ∀ (jpa : Int32), ∀ (jtu : Int32), ∀ (jsu : Int32), ∀ (jvo : Nat → Int32), ∀ (jso : Nat → Int32), ∀ (jro : Nat → Int32), ∀ (jus : Nat → Int32), ∀ (jspa : Nat → Int64), ∀ (jsta : Nat → Int64), ∀ (jsf : Nat → Int64), ∀ (jpl : Nat → Int32), ∀ (jsure : Nat → Int32), ∀ (jfar : Nat → Int32), ∀ (jgo : Int32), gJ pT l eT (Rm 8) sT mT aT below meth cT AT QT D ad 108 5 (va_up (va_up (va_up (va_up (va_up (va_up (va_up (va_up (va_up (va_up (va_up f 87 (.inr (11, mF ad la dr jgo jlo jma jpa jtu jsu))) 95 (.inl (ca 0, 96, .inl jvo))) 96 (.inl (ca 0, 8, .inl jso))) 97 (.inl (ca 0, 8, .inl jro))) 98 (.inl (ca 2, 12, .inl jus))) 100 (.inl (ca 1, 9, .inr (.inl jspa)))) 99 (.inl (ca 1, 9, .inr (.inl jsta)))) 101 (.inl (ca 1, 3, .inr (.inl jsf)))) 102 (.inl (ca 0, 36, .inl jpl))) 103 (.inl (ca 0, 8, .inl jsure))) 104 (.inl (ca 0, 8, .inl jfar))) [(4, .int (nI t0)), (3, .int ((mSt di se n0 n1 t0).2)), (2, .int ((mSt di se n0 n1 t0).1)), (0, .ref (ad 87)), (1, .int w)] 7 [] := by
    intro m0
    induction m0 with
    | zero =>
      intro t0 hk_t0  jlo jma jpa jtu jsu jvo jso jro jus jspa jsta jsf jpl jsure jfar jgo
      refine gj_iload C dX12_spareBy_7 0 rfl ?_
      refine gj_aload_n C 0 dX12_spareBy_9 rfl 3 rfl ?_
      refine gj_get C 87 (by decide) (up_nx (by decide) (up_nx (by decide) (up_nx (by decide) (up_nx (by decide) (up_nx (by decide) (up_nx (by decide) (up_nx (by decide) (up_nx (by decide) (up_nx (by decide) (up_nx (by decide) (va_up_self _ _ _))))))))))) inX12 rfl 6 (by decide) w_855 (v := .ref (ad 93)) rfl dX12_spareBy_10 ?_
      refine gj_iconst C (v := 1) (by decide) dX12_spareBy_13 ?_
      refine gj_iald C 93 (by decide) (up_nx (by decide) (up_nx (by decide) (up_nx (by decide) (up_nx (by decide) (up_nx (by decide) (up_nx (by decide) (up_nx (by decide) (up_nx (by decide) (up_nx (by decide) (up_nx (by decide) (up_nx (by decide) (hc2)))))))))))) (by unfold vp_in; decide) dX12_spareBy_14 ?_
      refine gj_seti h1 ?_
      refine gj_icmp_ge C 58 dX12_spareBy_15 (by decide) (fun c_3 => ?_) (fun c_3 => absurd (nI_le (by omega) (by omega)) c_3)
      refine gj_aload_n C 0 dX12_spareBy_58 rfl 3 rfl ?_
      refine gj_iconst C (v := (-1)) (by decide) dX12_spareBy_59 ?_
      refine gj_putS C 87 (by decide) (up_nx (by decide) (up_nx (by decide) (up_nx (by decide) (up_nx (by decide) (up_nx (by decide) (up_nx (by decide) (up_nx (by decide) (up_nx (by decide) (up_nx (by decide) (up_nx (by decide) (va_up_self _ _ _))))))))))) inX12 rfl 9 (by decide) tyX12 tyX12_ok nmX12 w_858 rfl (v := .int (-1)) (fs' := [.ref (ad 88), .ref (ad 89), .ref (ad 90), .ref (ad 91), .int la, .ref (ad 92), .ref (ad 93), .ref (ad 94), .int dr, .int (-1), .int jlo, .int jma, .ref (ad 95), .ref (ad 96), .ref (ad 97), .ref (ad 98), .int jpa, .int jtu, .ref (ad 99), .ref (ad 100), .ref (ad 101), .ref (ad 102), .ref (ad 103), .ref (ad 104), .int jsu, .ref (ad 105), .ref (ad 106), .ref (ad 107)]) rfl rfl (Nat.le_of_ble_eq_true rfl) rfl dX12_spareBy_60 ?_
      refine gj_setf ((up_comm (by decide)).trans (up_un ((up_comm (by decide)).trans (up_un ((up_comm (by decide)).trans (up_un ((up_comm (by decide)).trans (up_un ((up_comm (by decide)).trans (up_un ((up_comm (by decide)).trans (up_un ((up_comm (by decide)).trans (up_un ((up_comm (by decide)).trans (up_un ((up_comm (by decide)).trans (up_un ((up_comm (by decide)).trans (up_un (bx_uu _ _ _ _))))))))))))))))))))) ?_
      refine gj_aload_n C 0 dX12_spareBy_63 rfl 3 rfl ?_
      refine gj_callVv C mi_X12_find w_1069 87 (by decide) (up_nx (by decide) (up_nx (by decide) (up_nx (by decide) (up_nx (by decide) (up_nx (by decide) (up_nx (by decide) (up_nx (by decide) (up_nx (by decide) (up_nx (by decide) (up_nx (by decide) (va_up_self _ _ _))))))))))) rfl (c_X12_find la dr (-1 : Int32) jlo jma jpa jtu jsu di mn se jvo jso jro jus jsta jspa jsf jpl jsure jfar n0 n1 (up_nx (by decide) (up_nx (by decide) (up_nx (by decide) (up_nx (by decide) (up_nx (by decide) (up_nx (by decide) (up_nx (by decide) (up_nx (by decide) (up_nx (by decide) (up_nx (by decide) (va_up_self _ _ _))))))))))) (up_nx (by decide) (up_nx (by decide) (up_nx (by decide) (up_nx (by decide) (up_nx (by decide) (up_nx (by decide) (up_nx (by decide) (up_nx (by decide) (up_nx (by decide) (up_nx (by decide) (up_nx (by decide) (hc1)))))))))))) (up_nx (by decide) (up_nx (by decide) (up_nx (by decide) (up_nx (by decide) (up_nx (by decide) (up_nx (by decide) (up_nx (by decide) (up_nx (by decide) (up_nx (by decide) (up_nx (by decide) (up_nx (by decide) (hc2)))))))))))) (up_nx (by decide) (up_nx (by decide) (up_nx (by decide) (up_nx (by decide) (up_nx (by decide) (up_nx (by decide) (up_nx (by decide) (up_nx (by decide) (up_nx (by decide) (up_nx (by decide) (up_nx (by decide) (hc3)))))))))))) (up_nx (by decide) (up_nx (by decide) (up_nx (by decide) (up_nx (by decide) (up_nx (by decide) (up_nx (by decide) (up_nx (by decide) (up_nx (by decide) (up_nx (by decide) (va_up_self _ _ _)))))))))) (up_nx (by decide) (up_nx (by decide) (up_nx (by decide) (up_nx (by decide) (up_nx (by decide) (up_nx (by decide) (up_nx (by decide) (up_nx (by decide) (va_up_self _ _ _))))))))) (up_nx (by decide) (up_nx (by decide) (up_nx (by decide) (up_nx (by decide) (up_nx (by decide) (up_nx (by decide) (up_nx (by decide) (va_up_self _ _ _)))))))) (up_nx (by decide) (up_nx (by decide) (up_nx (by decide) (up_nx (by decide) (up_nx (by decide) (up_nx (by decide) (va_up_self _ _ _))))))) (up_nx (by decide) (up_nx (by decide) (up_nx (by decide) (up_nx (by decide) (va_up_self _ _ _))))) (up_nx (by decide) (up_nx (by decide) (up_nx (by decide) (up_nx (by decide) (up_nx (by decide) (va_up_self _ _ _)))))) (up_nx (by decide) (up_nx (by decide) (up_nx (by decide) (va_up_self _ _ _)))) (up_nx (by decide) (up_nx (by decide) (va_up_self _ _ _))) (up_nx (by decide) (va_up_self _ _ _)) (va_up_self _ _ _) h0 h1 hn hn1 hz hd) mc_X12_find ⟨Nat.le_of_ble_eq_true rfl, Nat.le_of_ble_eq_true rfl⟩ (rest := []) rfl (Nat.le_of_ble_eq_true rfl) dX12_spareBy_64 (fun u h => ?_)
      obtain ⟨spaX_4, staX_4, sfX_4, plX_4, hPLX_4, rfl⟩ := h
      refine gj_setf ((up_un ((up_un ((up_un ((up_un ((up_un ((up_un ((up_un ((up_un ((up_un ((up_un ((up_comm (by decide)).trans (up_un ((up_comm (by decide)).trans (up_un ((up_comm (by decide)).trans (up_un ((up_comm (by decide)).trans (up_un ((up_comm (by decide)).trans (up_un ((up_comm (by decide)).trans (up_un ((up_comm (by decide)).trans (up_un ((up_comm (by decide)).trans (up_un ((up_comm (by decide)).trans (up_un ((up_comm (by decide)).trans (up_un (bx_uu _ _ _ _)))))))))))))))))))))).trans ((up_comm (by decide)).trans (up_un ((up_comm (by decide)).trans (up_un ((up_comm (by decide)).trans (up_un ((up_comm (by decide)).trans (up_un ((up_comm (by decide)).trans (up_un ((up_comm (by decide)).trans (up_un ((up_comm (by decide)).trans (up_un ((up_comm (by decide)).trans (up_un ((up_comm (by decide)).trans (up_un (bx_uu _ _ _ _))))))))))))))))))))).trans ((up_comm (by decide)).trans (up_un ((up_comm (by decide)).trans (up_un ((up_comm (by decide)).trans (up_un ((up_comm (by decide)).trans (up_un ((up_comm (by decide)).trans (up_un ((up_comm (by decide)).trans (up_un ((up_comm (by decide)).trans (up_un ((up_comm (by decide)).trans (up_un (bx_uu _ _ _ _))))))))))))))))))).trans ((up_comm (by decide)).trans (up_un ((up_comm (by decide)).trans (up_un ((up_comm (by decide)).trans (up_un ((up_comm (by decide)).trans (up_un ((up_comm (by decide)).trans (up_un ((up_comm (by decide)).trans (up_un ((up_comm (by decide)).trans (up_un (bx_uu _ _ _ _))))))))))))))))).trans ((up_comm (by decide)).trans (up_un ((up_comm (by decide)).trans (up_un ((up_comm (by decide)).trans (up_un ((up_comm (by decide)).trans (up_un ((up_comm (by decide)).trans (up_un ((up_comm (by decide)).trans (up_un (bx_uu _ _ _ _))))))))))))))).trans ((up_comm (by decide)).trans (up_un ((up_comm (by decide)).trans (up_un ((up_comm (by decide)).trans (up_un ((up_comm (by decide)).trans (up_un ((up_comm (by decide)).trans (up_un (bx_uu _ _ _ _))))))))))))).trans ((up_comm (by decide)).trans (up_un ((up_comm (by decide)).trans (up_un ((up_comm (by decide)).trans (up_un ((up_comm (by decide)).trans (up_un (bx_uu _ _ _ _))))))))))).trans ((up_comm (by decide)).trans (up_un ((up_comm (by decide)).trans (up_un ((up_comm (by decide)).trans (up_un (bx_uu _ _ _ _))))))))).trans ((up_comm (by decide)).trans (up_un ((up_comm (by decide)).trans (up_un (bx_uu _ _ _ _))))))).trans ((up_comm (by decide)).trans (up_un (bx_uu _ _ _ _))))).trans (bx_uu _ _ _ _)) ?_
      refine gj_iload_n C 1 dX12_spareBy_67 rfl 4 rfl ?_
      refine gj_if_ne C 75 dX12_spareBy_68 (by decide) (fun c_5 => ?_) (fun c_5 => ?_)
      · refine gj_iload_n C 3 dX12_spareBy_75 rfl 1 rfl ?_
        exact RT _ _ _ _ ⟨_, _, _, _, hPLX_4, by obtain rfl : t0 = n1 := (by omega); rw [if_neg c_5], rfl⟩ dX12_spareBy_76
      · refine gj_iload_n C 2 dX12_spareBy_71 rfl 2 rfl ?_
        refine gj_goto C 76 dX12_spareBy_72 (by decide) ?_
        exact RT _ _ _ _ ⟨_, _, _, _, hPLX_4, by obtain rfl : t0 = n1 := (by omega); rw [if_pos c_5], rfl⟩ dX12_spareBy_76
    | succ m0 ih_2 =>
      intro t0 hk_t0  jlo jma jpa jtu jsu jvo jso jro jus jspa jsta jsf jpl jsure jfar jgo
      refine gj_iload C dX12_spareBy_7 0 rfl ?_
      refine gj_aload_n C 0 dX12_spareBy_9 rfl 3 rfl ?_
      refine gj_get C 87 (by decide) (up_nx (by decide) (up_nx (by decide) (up_nx (by decide) (up_nx (by decide) (up_nx (by decide) (up_nx (by decide) (up_nx (by decide) (up_nx (by decide) (up_nx (by decide) (up_nx (by decide) (va_up_self _ _ _))))))))))) inX12 rfl 6 (by decide) w_855 (v := .ref (ad 93)) rfl dX12_spareBy_10 ?_
      refine gj_iconst C (v := 1) (by decide) dX12_spareBy_13 ?_
      refine gj_iald C 93 (by decide) (up_nx (by decide) (up_nx (by decide) (up_nx (by decide) (up_nx (by decide) (up_nx (by decide) (up_nx (by decide) (up_nx (by decide) (up_nx (by decide) (up_nx (by decide) (up_nx (by decide) (up_nx (by decide) (hc2)))))))))))) (by unfold vp_in; decide) dX12_spareBy_14 ?_
      refine gj_seti h1 ?_
      refine gj_icmp_ge C 58 dX12_spareBy_15 (by decide) (fun c_6 => absurd c_6 (nI_ge (by omega) (by omega))) (fun c_6 => ?_)
      refine gj_aload_n C 0 dX12_spareBy_18 rfl 3 rfl ?_
      refine gj_iload C dX12_spareBy_19 0 rfl ?_
      refine gj_putS C 87 (by decide) (up_nx (by decide) (up_nx (by decide) (up_nx (by decide) (up_nx (by decide) (up_nx (by decide) (up_nx (by decide) (up_nx (by decide) (up_nx (by decide) (up_nx (by decide) (up_nx (by decide) (va_up_self _ _ _))))))))))) inX12 rfl 9 (by decide) tyX12 tyX12_ok nmX12 w_858 rfl (v := .int (nI t0)) (fs' := [.ref (ad 88), .ref (ad 89), .ref (ad 90), .ref (ad 91), .int la, .ref (ad 92), .ref (ad 93), .ref (ad 94), .int dr, .int (nI t0), .int jlo, .int jma, .ref (ad 95), .ref (ad 96), .ref (ad 97), .ref (ad 98), .int jpa, .int jtu, .ref (ad 99), .ref (ad 100), .ref (ad 101), .ref (ad 102), .ref (ad 103), .ref (ad 104), .int jsu, .ref (ad 105), .ref (ad 106), .ref (ad 107)]) rfl rfl (Nat.le_of_ble_eq_true rfl) rfl dX12_spareBy_21 ?_
      refine gj_setf ((up_comm (by decide)).trans (up_un ((up_comm (by decide)).trans (up_un ((up_comm (by decide)).trans (up_un ((up_comm (by decide)).trans (up_un ((up_comm (by decide)).trans (up_un ((up_comm (by decide)).trans (up_un ((up_comm (by decide)).trans (up_un ((up_comm (by decide)).trans (up_un ((up_comm (by decide)).trans (up_un ((up_comm (by decide)).trans (up_un (bx_uu _ _ _ _))))))))))))))))))))) ?_
      refine gj_aload_n C 0 dX12_spareBy_24 rfl 3 rfl ?_
      refine gj_callVv C mi_X12_find w_1069 87 (by decide) (up_nx (by decide) (up_nx (by decide) (up_nx (by decide) (up_nx (by decide) (up_nx (by decide) (up_nx (by decide) (up_nx (by decide) (up_nx (by decide) (up_nx (by decide) (up_nx (by decide) (va_up_self _ _ _))))))))))) rfl (c_X12_find la dr (nI t0) jlo jma jpa jtu jsu di mn se jvo jso jro jus jsta jspa jsf jpl jsure jfar n0 n1 (up_nx (by decide) (up_nx (by decide) (up_nx (by decide) (up_nx (by decide) (up_nx (by decide) (up_nx (by decide) (up_nx (by decide) (up_nx (by decide) (up_nx (by decide) (up_nx (by decide) (va_up_self _ _ _))))))))))) (up_nx (by decide) (up_nx (by decide) (up_nx (by decide) (up_nx (by decide) (up_nx (by decide) (up_nx (by decide) (up_nx (by decide) (up_nx (by decide) (up_nx (by decide) (up_nx (by decide) (up_nx (by decide) (hc1)))))))))))) (up_nx (by decide) (up_nx (by decide) (up_nx (by decide) (up_nx (by decide) (up_nx (by decide) (up_nx (by decide) (up_nx (by decide) (up_nx (by decide) (up_nx (by decide) (up_nx (by decide) (up_nx (by decide) (hc2)))))))))))) (up_nx (by decide) (up_nx (by decide) (up_nx (by decide) (up_nx (by decide) (up_nx (by decide) (up_nx (by decide) (up_nx (by decide) (up_nx (by decide) (up_nx (by decide) (up_nx (by decide) (up_nx (by decide) (hc3)))))))))))) (up_nx (by decide) (up_nx (by decide) (up_nx (by decide) (up_nx (by decide) (up_nx (by decide) (up_nx (by decide) (up_nx (by decide) (up_nx (by decide) (up_nx (by decide) (va_up_self _ _ _)))))))))) (up_nx (by decide) (up_nx (by decide) (up_nx (by decide) (up_nx (by decide) (up_nx (by decide) (up_nx (by decide) (up_nx (by decide) (up_nx (by decide) (va_up_self _ _ _))))))))) (up_nx (by decide) (up_nx (by decide) (up_nx (by decide) (up_nx (by decide) (up_nx (by decide) (up_nx (by decide) (up_nx (by decide) (va_up_self _ _ _)))))))) (up_nx (by decide) (up_nx (by decide) (up_nx (by decide) (up_nx (by decide) (up_nx (by decide) (up_nx (by decide) (va_up_self _ _ _))))))) (up_nx (by decide) (up_nx (by decide) (up_nx (by decide) (up_nx (by decide) (va_up_self _ _ _))))) (up_nx (by decide) (up_nx (by decide) (up_nx (by decide) (up_nx (by decide) (up_nx (by decide) (va_up_self _ _ _)))))) (up_nx (by decide) (up_nx (by decide) (up_nx (by decide) (va_up_self _ _ _)))) (up_nx (by decide) (up_nx (by decide) (va_up_self _ _ _))) (up_nx (by decide) (va_up_self _ _ _)) (va_up_self _ _ _) h0 h1 hn hn1 hz hd) mc_X12_find ⟨Nat.le_of_ble_eq_true rfl, Nat.le_of_ble_eq_true rfl⟩ (rest := []) rfl (Nat.le_of_ble_eq_true rfl) dX12_spareBy_25 (fun u h => ?_)
      obtain ⟨spaX_7, staX_7, sfX_7, plX_7, hPLX_7, rfl⟩ := h
      refine gj_setf ((up_un ((up_un ((up_un ((up_un ((up_un ((up_un ((up_un ((up_un ((up_un ((up_un ((up_comm (by decide)).trans (up_un ((up_comm (by decide)).trans (up_un ((up_comm (by decide)).trans (up_un ((up_comm (by decide)).trans (up_un ((up_comm (by decide)).trans (up_un ((up_comm (by decide)).trans (up_un ((up_comm (by decide)).trans (up_un ((up_comm (by decide)).trans (up_un ((up_comm (by decide)).trans (up_un ((up_comm (by decide)).trans (up_un (bx_uu _ _ _ _)))))))))))))))))))))).trans ((up_comm (by decide)).trans (up_un ((up_comm (by decide)).trans (up_un ((up_comm (by decide)).trans (up_un ((up_comm (by decide)).trans (up_un ((up_comm (by decide)).trans (up_un ((up_comm (by decide)).trans (up_un ((up_comm (by decide)).trans (up_un ((up_comm (by decide)).trans (up_un ((up_comm (by decide)).trans (up_un (bx_uu _ _ _ _))))))))))))))))))))).trans ((up_comm (by decide)).trans (up_un ((up_comm (by decide)).trans (up_un ((up_comm (by decide)).trans (up_un ((up_comm (by decide)).trans (up_un ((up_comm (by decide)).trans (up_un ((up_comm (by decide)).trans (up_un ((up_comm (by decide)).trans (up_un ((up_comm (by decide)).trans (up_un (bx_uu _ _ _ _))))))))))))))))))).trans ((up_comm (by decide)).trans (up_un ((up_comm (by decide)).trans (up_un ((up_comm (by decide)).trans (up_un ((up_comm (by decide)).trans (up_un ((up_comm (by decide)).trans (up_un ((up_comm (by decide)).trans (up_un ((up_comm (by decide)).trans (up_un (bx_uu _ _ _ _))))))))))))))))).trans ((up_comm (by decide)).trans (up_un ((up_comm (by decide)).trans (up_un ((up_comm (by decide)).trans (up_un ((up_comm (by decide)).trans (up_un ((up_comm (by decide)).trans (up_un ((up_comm (by decide)).trans (up_un (bx_uu _ _ _ _))))))))))))))).trans ((up_comm (by decide)).trans (up_un ((up_comm (by decide)).trans (up_un ((up_comm (by decide)).trans (up_un ((up_comm (by decide)).trans (up_un ((up_comm (by decide)).trans (up_un (bx_uu _ _ _ _))))))))))))).trans ((up_comm (by decide)).trans (up_un ((up_comm (by decide)).trans (up_un ((up_comm (by decide)).trans (up_un ((up_comm (by decide)).trans (up_un (bx_uu _ _ _ _))))))))))).trans ((up_comm (by decide)).trans (up_un ((up_comm (by decide)).trans (up_un ((up_comm (by decide)).trans (up_un (bx_uu _ _ _ _))))))))).trans ((up_comm (by decide)).trans (up_un ((up_comm (by decide)).trans (up_un (bx_uu _ _ _ _))))))).trans ((up_comm (by decide)).trans (up_un (bx_uu _ _ _ _))))).trans (bx_uu _ _ _ _)) ?_
      refine gj_aload_n C 0 dX12_spareBy_28 rfl 3 rfl ?_
      refine gj_get C 87 (by decide) (up_nx (by decide) (up_nx (by decide) (up_nx (by decide) (up_nx (by decide) (up_nx (by decide) (up_nx (by decide) (up_nx (by decide) (up_nx (by decide) (up_nx (by decide) (up_nx (by decide) (va_up_self _ _ _))))))))))) inX12 rfl 24 (by decide) w_873 (v := .int ((rC di se n0 n1 (nI t0)).2.2.2)) rfl dX12_spareBy_29 ?_
      refine gj_seti (y := mSc di se n0 n1 t0) rfl ?_
      refine gj_iload_n C 3 dX12_spareBy_32 rfl 1 rfl ?_
      refine gj_icmp_le C 41 dX12_spareBy_33 (by decide) (fun c_8 => ?_) (fun c_8 => ?_)
      · refine gj_iload_n C 2 dX12_spareBy_41 rfl 2 rfl ?_
        refine gj_seti (y := (mSt di se n0 n1 (t0 + 1)).1) (show (mSt di se n0 n1 (t0 + 1)).1 = _ from (if_pos c_8).trans (rfl)).symm ?_
        refine gj_istore_n C (lv' := [(2, .int ((mSt di se n0 n1 (t0 + 1)).1)), (4, .int (nI t0)), (3, .int ((mSt di se n0 n1 t0).2)), (0, .ref (ad 87)), (1, .int w)]) 2 dX12_spareBy_42 rfl (by decide) rfl ?_
        refine gj_aload_n C 0 dX12_spareBy_43 rfl 3 rfl ?_
        refine gj_get C 87 (by decide) (up_nx (by decide) (up_nx (by decide) (up_nx (by decide) (up_nx (by decide) (up_nx (by decide) (up_nx (by decide) (up_nx (by decide) (up_nx (by decide) (up_nx (by decide) (up_nx (by decide) (va_up_self _ _ _))))))))))) inX12 rfl 24 (by decide) w_873 (v := .int ((rC di se n0 n1 (nI t0)).2.2.2)) rfl dX12_spareBy_44 ?_
        refine gj_seti (y := mSc di se n0 n1 t0) rfl ?_
        refine gj_iload_n C 3 dX12_spareBy_47 rfl 2 rfl ?_
        refine gj_callSi C w_1036 w_1035 (c_X12_greater (mSc di se n0 n1 t0) ((mSt di se n0 n1 t0).2)) mc_X12_greater ⟨Nat.le_of_ble_eq_true rfl, Nat.le_of_ble_eq_true rfl⟩ (rest := []) rfl (Nat.le_of_ble_eq_true rfl) dX12_spareBy_48 (fun r u h => ?_)
        obtain ⟨hr_, hu_⟩ := h; rw [hr_]; subst hu_
        refine gj_seti (y := (mSt di se n0 n1 (t0 + 1)).2) rfl ?_
        refine gj_istore_n C (lv' := [(3, .int ((mSt di se n0 n1 (t0 + 1)).2)), (2, .int ((mSt di se n0 n1 (t0 + 1)).1)), (4, .int (nI t0)), (0, .ref (ad 87)), (1, .int w)]) 3 dX12_spareBy_51 rfl (by decide) rfl ?_
        refine gj_iinc C (v := nI (t0 + 1)) (lv' := [(4, .int (nI (t0 + 1))), (3, .int ((mSt di se n0 n1 (t0 + 1)).2)), (2, .int ((mSt di se n0 n1 (t0 + 1)).1)), (0, .ref (ad 87)), (1, .int w)]) dX12_spareBy_52 2 rfl (nI_1 _) (by decide) rfl ?_
        refine gj_goto C 7 dX12_spareBy_55 (by decide) ?_
        refine gj_lv [0, 1, 2, 3, 4] rfl ?_
        exact ih_2 (t0 + 1) (by omega) _ _ _ _ _ _ _ _ _ _ _ _ _ _ _ _
      · refine gj_iload C dX12_spareBy_36 0 rfl ?_
        refine gj_goto C 42 dX12_spareBy_38 (by decide) ?_
        refine gj_seti (y := (mSt di se n0 n1 (t0 + 1)).1) (show (mSt di se n0 n1 (t0 + 1)).1 = _ from (if_neg c_8).trans (rfl)).symm ?_
        refine gj_istore_n C (lv' := [(2, .int ((mSt di se n0 n1 (t0 + 1)).1)), (4, .int (nI t0)), (3, .int ((mSt di se n0 n1 t0).2)), (0, .ref (ad 87)), (1, .int w)]) 2 dX12_spareBy_42 rfl (by decide) rfl ?_
        refine gj_aload_n C 0 dX12_spareBy_43 rfl 3 rfl ?_
        refine gj_get C 87 (by decide) (up_nx (by decide) (up_nx (by decide) (up_nx (by decide) (up_nx (by decide) (up_nx (by decide) (up_nx (by decide) (up_nx (by decide) (up_nx (by decide) (up_nx (by decide) (up_nx (by decide) (va_up_self _ _ _))))))))))) inX12 rfl 24 (by decide) w_873 (v := .int ((rC di se n0 n1 (nI t0)).2.2.2)) rfl dX12_spareBy_44 ?_
        refine gj_seti (y := mSc di se n0 n1 t0) rfl ?_
        refine gj_iload_n C 3 dX12_spareBy_47 rfl 2 rfl ?_
        refine gj_callSi C w_1036 w_1035 (c_X12_greater (mSc di se n0 n1 t0) ((mSt di se n0 n1 t0).2)) mc_X12_greater ⟨Nat.le_of_ble_eq_true rfl, Nat.le_of_ble_eq_true rfl⟩ (rest := []) rfl (Nat.le_of_ble_eq_true rfl) dX12_spareBy_48 (fun r u h => ?_)
        obtain ⟨hr_, hu_⟩ := h; rw [hr_]; subst hu_
        refine gj_seti (y := (mSt di se n0 n1 (t0 + 1)).2) rfl ?_
        refine gj_istore_n C (lv' := [(3, .int ((mSt di se n0 n1 (t0 + 1)).2)), (2, .int ((mSt di se n0 n1 (t0 + 1)).1)), (4, .int (nI t0)), (0, .ref (ad 87)), (1, .int w)]) 3 dX12_spareBy_51 rfl (by decide) rfl ?_
        refine gj_iinc C (v := nI (t0 + 1)) (lv' := [(4, .int (nI (t0 + 1))), (3, .int ((mSt di se n0 n1 (t0 + 1)).2)), (2, .int ((mSt di se n0 n1 (t0 + 1)).1)), (0, .ref (ad 87)), (1, .int w)]) dX12_spareBy_52 2 rfl (nI_1 _) (by decide) rfl ?_
        refine gj_goto C 7 dX12_spareBy_55 (by decide) ?_
        refine gj_lv [0, 1, 2, 3, 4] rfl ?_
        exact ih_2 (t0 + 1) (by omega) _ _ _ _ _ _ _ _ _ _ _ _ _ _ _ _
  refine gj_lv [0, 1, 2, 3, 4] rfl ?_
  exact loop_1 (n1 - 0) 0 (by omega) _ _ _ _ _ _ _ _ _ _ _ _ _ _ _ _
def s_X12_isThing (t : Int32) (i : Int32) (tm : Nat → Int32) : Int32 := if (s_X12_isTray t) = 0 then (0) else (if (s_X12_in i.toInt64 (0 : Int64) (((tm t.toNatClampNeg) - 1).toInt64)) = 0 then (0) else (1))
theorem b_X12_isThing (t : Int32) (i : Int32) (tm : Nat → Int32) : s_X12_isThing t i tm = 0 ∨ s_X12_isThing t i tm = 1 := by
  unfold s_X12_isThing
  repeat' split
  all_goals first | exact Or.inl rfl | exact Or.inr rfl | apply b_X12_in | apply b_X12_isTray
set_option maxHeartbeats 400000 in
set_option maxRecDepth 100000 in
theorem c_X12_isThing {l : Launch} {D : va_G} {ca ss ad : Nat → Nat} {f : Nat → va_E}  (t : Int32) (i : Int32) (la : Int32) (dr : Int32) (go : Int32) (lo : Int32) (ma : Int32) (pa : Int32) (tu : Int32) (su : Int32) (tm : Nat → Int32) (hc0 : f 87 = .inr (11, mF ad la dr go lo ma pa tu su)) (hc1 : f 106 = .inl (ca 0, 4, .inl tm))  : gMi l D ca ss ad 108 yX12_isThing cX12_isThing 3 (some .boolean) 2 f [.ref (ad 87), .int t, .int i] (fun r u => r = s_X12_isThing t i tm ∧ u = f) := by
  refine gMz_ofK (by decide +kernel) (Nat.le_of_ble_eq_true rfl) (lv0 := [(0, .ref (ad 87)), (1, .int t), (2, .int i)]) rfl (fun pT eT sT mT aT below meth cT AT QT C RT => ?_)
  have C : gX pT sT mT aT meth cT AT D ca ss 3 RX12 cX12_isThing (some .boolean) := C
  refine gj_iload_n C 1 dX12_isThing_0 rfl 1 rfl ?_
  refine gj_callSi C w_1201 w_1200 (c_X12_isTray t) mc_X12_isTray ⟨Nat.le_of_ble_eq_true rfl, Nat.le_of_ble_eq_true rfl⟩ (rest := []) rfl (Nat.le_of_ble_eq_true rfl) dX12_isThing_1 (fun r u h => ?_)
  obtain ⟨hr_, h⟩ := h; rw [hr_]
  rw [h]
  refine gj_if_eq C 29 dX12_isThing_4 (by decide) (fun c_1 => ?_) (fun c_1 => ?_)
  · refine gj_iconst C (v := 0) (by decide) dX12_isThing_29 ?_
    exact RT _ _ _ _ (by decide) ⟨by unfold s_X12_isThing; rw [if_pos c_1], rfl⟩ dX12_isThing_30
  · refine gj_iload_n C 2 dX12_isThing_7 rfl 2 rfl ?_
    refine gj_i2l C dX12_isThing_8 ?_
    refine gj_lconst C (v := 0) rfl dX12_isThing_9 ?_
    refine gj_aload_n C 0 dX12_isThing_10 rfl 0 rfl ?_
    refine gj_get C 87 (by decide) hc0 inX12 rfl 26 (by decide) w_875 (v := .ref (ad 106)) rfl dX12_isThing_11 ?_
    refine gj_iload_n C 1 dX12_isThing_14 rfl 1 rfl ?_
    refine gj_iald C 106 (by decide) hc1 (in4 (q_isTray c_1)) dX12_isThing_15 ?_
    refine gj_iconst C (v := 1) (by decide) dX12_isThing_16 ?_
    refine gj_isub C dX12_isThing_17 ?_
    refine gj_i2l C dX12_isThing_18 ?_
    refine gj_callSi C w_944 w_943 (c_X12_in i.toInt64 (0 : Int64) (((tm t.toNatClampNeg) - 1).toInt64)) mc_X12_in ⟨Nat.le_of_ble_eq_true rfl, Nat.le_of_ble_eq_true rfl⟩ (rest := []) rfl (Nat.le_of_ble_eq_true rfl) dX12_isThing_19 (fun r u h => ?_)
    obtain ⟨hr_, h⟩ := h; rw [hr_]
    rw [h]
    refine gj_if_eq C 29 dX12_isThing_22 (by decide) (fun c_2 => ?_) (fun c_2 => ?_)
    · refine gj_iconst C (v := 0) (by decide) dX12_isThing_29 ?_
      exact RT _ _ _ _ (by decide) ⟨by unfold s_X12_isThing; rw [if_neg c_1, if_pos c_2], rfl⟩ dX12_isThing_30
    · refine gj_iconst C (v := 1) (by decide) dX12_isThing_25 ?_
      refine gj_goto C 30 dX12_isThing_26 (by decide) ?_
      exact RT _ _ _ _ (by decide) ⟨by unfold s_X12_isThing; rw [if_neg c_1, if_neg c_2], rfl⟩ dX12_isThing_30
def s_X12_take (ad ca : Nat → Nat) (f : Nat → va_E)  (t : Int32) (la : Int32) (dr : Int32) (go : Int32) (lo : Int32) (ma : Int32) (pa : Int32) (tu : Int32) (su : Int32) (tm : Nat → Int32) : Int32 × (Nat → va_E) := if (s_X12_isTray t) = 0 then (((-2), f)) else (if (tm t.toNatClampNeg) = 0 then (((-3), f)) else (((upd tm t.toNatClampNeg ((tm t.toNatClampNeg) - 1)) t.toNatClampNeg, va_up f 106 (.inl (ca 0, 4, .inl (upd tm t.toNatClampNeg ((tm t.toNatClampNeg) - 1)))))))
set_option maxHeartbeats 400000 in
set_option maxRecDepth 100000 in
theorem c_X12_take {l : Launch} {D : va_G} {ca ss ad : Nat → Nat} {f : Nat → va_E} (t : Int32) (la : Int32) (dr : Int32) (go : Int32) (lo : Int32) (ma : Int32) (pa : Int32) (tu : Int32) (su : Int32) (tm : Nat → Int32) (hc0 : f 87 = .inr (11, mF ad la dr go lo ma pa tu su)) (hc1 : f 106 = .inl (ca 0, 4, .inl tm)) : gMi l D ca ss ad 108 yX12_take cX12_take 2 (some .int) 2 f [.ref (ad 87), .int t] (fun r u => (r, u) = s_X12_take ad ca f  t la dr go lo ma pa tu su tm) := by
  refine gMi_ofK (by decide +kernel) (Nat.le_of_ble_eq_true rfl) (lv0 := [(0, .ref (ad 87)), (1, .int t)]) rfl (fun pT eT sT mT aT below meth cT AT QT C RT => ?_)
  have C : gX pT sT mT aT meth cT AT D ca ss 2 RX12 cX12_take (some .int) := C
  refine gj_iload_n C 1 dX12_take_0 rfl 1 rfl ?_
  refine gj_callSi C w_1201 w_1200 (c_X12_isTray t) mc_X12_isTray ⟨Nat.le_of_ble_eq_true rfl, Nat.le_of_ble_eq_true rfl⟩ (rest := []) rfl (Nat.le_of_ble_eq_true rfl) dX12_take_1 (fun r u h => ?_)
  obtain ⟨hr_, h⟩ := h; rw [hr_]
  rw [h]
  refine gj_if_ne C 10 dX12_take_4 (by decide) (fun c_1 => ?_) (fun c_1 => ?_)
  · refine gj_aload_n C 0 dX12_take_10 rfl 0 rfl ?_
    refine gj_get C 87 (by decide) hc0 inX12 rfl 26 (by decide) w_875 (v := .ref (ad 106)) rfl dX12_take_11 ?_
    refine gj_iload_n C 1 dX12_take_14 rfl 1 rfl ?_
    refine gj_iald C 106 (by decide) hc1 (in4 (q_isTray c_1)) dX12_take_15 ?_
    refine gj_if_ne C 22 dX12_take_16 (by decide) (fun c_2 => ?_) (fun c_2 => ?_)
    · refine gj_aload_n C 0 dX12_take_22 rfl 0 rfl ?_
      refine gj_get C 87 (by decide) hc0 inX12 rfl 26 (by decide) w_875 (v := .ref (ad 106)) rfl dX12_take_23 ?_
      refine gj_iload_n C 1 dX12_take_26 rfl 1 rfl ?_
      refine gj_dup2_11 C rfl rfl dX12_take_27 ?_
      refine gj_iald C 106 (by decide) hc1 (in4 (q_isTray c_1)) dX12_take_28 ?_
      refine gj_iconst C (v := 1) (by decide) dX12_take_29 ?_
      refine gj_isub C dX12_take_30 ?_
      refine gj_iast C 106 (by decide) hc1 (in4 (q_isTray c_1)) dX12_take_31 ?_
      refine gj_aload_n C 0 dX12_take_32 rfl 0 rfl ?_
      refine gj_get C 87 (by decide) (up_nx (by decide) (hc0)) inX12 rfl 26 (by decide) w_875 (v := .ref (ad 106)) rfl dX12_take_33 ?_
      refine gj_iload_n C 1 dX12_take_36 rfl 1 rfl ?_
      refine gj_iald C 106 (by decide) (va_up_self _ _ _) (in4 (q_isTray c_1)) dX12_take_37 ?_
      exact RT _ _ _ _ (by unfold s_X12_take; rw [if_neg c_1, if_neg c_2]) dX12_take_38
    · refine gj_bipush C (v := (-3)) (by decide) dX12_take_19 ?_
      exact RT _ _ _ _ (by unfold s_X12_take; rw [if_neg c_1, if_pos c_2]) dX12_take_21
  · refine gj_bipush C (v := (-2)) (by decide) dX12_take_7 ?_
    exact RT _ _ _ _ (by unfold s_X12_take; rw [if_pos c_1]) dX12_take_9
def s_X12_manyThings (tm : Nat → Int32) : Int32 := (((tm 0) + (tm 1)) + (tm 2)) + (tm 3)
set_option maxHeartbeats 400000 in
set_option maxRecDepth 100000 in
theorem c_X12_manyThings {l : Launch} {D : va_G} {ca ss ad : Nat → Nat} {f : Nat → va_E}   (la : Int32) (dr : Int32) (go : Int32) (lo : Int32) (ma : Int32) (pa : Int32) (tu : Int32) (su : Int32) (tm : Nat → Int32) (hc0 : f 87 = .inr (11, mF ad la dr go lo ma pa tu su)) (hc1 : f 106 = .inl (ca 0, 4, .inl tm))  : gMi l D ca ss ad 108 yX12_manyThings cX12_manyThings 1 (some .int) 0 f [.ref (ad 87)] (fun r u => r = s_X12_manyThings tm ∧ u = f) := by
  refine gMi_ofK (by decide +kernel) (Nat.le_of_ble_eq_true rfl) (lv0 := [(0, .ref (ad 87))]) rfl (fun pT eT sT mT aT below meth cT AT QT C RT => ?_)
  have C : gX pT sT mT aT meth cT AT D ca ss 1 RX12 cX12_manyThings (some .int) := C
  refine gj_aload_n C 0 dX12_manyThings_0 rfl 0 rfl ?_
  refine gj_get C 87 (by decide) hc0 inX12 rfl 26 (by decide) w_875 (v := .ref (ad 106)) rfl dX12_manyThings_1 ?_
  refine gj_iconst C (v := 0) (by decide) dX12_manyThings_4 ?_
  refine gj_iald C 106 (by decide) hc1 (by unfold vp_in; decide) dX12_manyThings_5 ?_
  refine gj_seti (y := tm 0) rfl ?_
  refine gj_aload_n C 0 dX12_manyThings_6 rfl 0 rfl ?_
  refine gj_get C 87 (by decide) hc0 inX12 rfl 26 (by decide) w_875 (v := .ref (ad 106)) rfl dX12_manyThings_7 ?_
  refine gj_iconst C (v := 1) (by decide) dX12_manyThings_10 ?_
  refine gj_iald C 106 (by decide) hc1 (by unfold vp_in; decide) dX12_manyThings_11 ?_
  refine gj_seti (y := tm 1) rfl ?_
  refine gj_iadd C dX12_manyThings_12 ?_
  refine gj_aload_n C 0 dX12_manyThings_13 rfl 0 rfl ?_
  refine gj_get C 87 (by decide) hc0 inX12 rfl 26 (by decide) w_875 (v := .ref (ad 106)) rfl dX12_manyThings_14 ?_
  refine gj_iconst C (v := 2) (by decide) dX12_manyThings_17 ?_
  refine gj_iald C 106 (by decide) hc1 (by unfold vp_in; decide) dX12_manyThings_18 ?_
  refine gj_seti (y := tm 2) rfl ?_
  refine gj_iadd C dX12_manyThings_19 ?_
  refine gj_aload_n C 0 dX12_manyThings_20 rfl 0 rfl ?_
  refine gj_get C 87 (by decide) hc0 inX12 rfl 26 (by decide) w_875 (v := .ref (ad 106)) rfl dX12_manyThings_21 ?_
  refine gj_iconst C (v := 3) (by decide) dX12_manyThings_24 ?_
  refine gj_iald C 106 (by decide) hc1 (by unfold vp_in; decide) dX12_manyThings_25 ?_
  refine gj_seti (y := tm 3) rfl ?_
  refine gj_iadd C dX12_manyThings_26 ?_
  exact RT _ _ _ _ ⟨rfl, rfl⟩ dX12_manyThings_27
