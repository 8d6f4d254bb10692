/-! rows of rows -/
def qR (ad : Nat → Nat) (b : Nat) : Nat → Option Nat := fun k => some (ad (b + k))
theorem qR_n (ad : Nat → Nat) (b : Nat) {s : Nat} (h : s < 2 ^ 31) : qR ad b (nI s).toNatClampNeg = some (ad (b + s)) := by rw [nI_clamp h]; rfl
/-- n rows of 96 from the cell b on -/
def upB (ca : Nat → Nat) (f : Nat → va_E) (b n : Nat) (T : Nat → Nat → Int32) : Nat → va_E := fun k => if b ≤ k ∧ k < b + n then .inl (ca 0, 96, .inl (T (k - b))) else f k
def updT (T : Nat → Nat → Int32) (s : Nat) (g : Nat → Int32) : Nat → Nat → Int32 := fun k => if k = s then g else T k
theorem upB_in (ca : Nat → Nat) (f : Nat → va_E) {b n s : Nat} (T : Nat → Nat → Int32) (h : s < n) : upB ca f b n T (b + s) = .inl (ca 0, 96, .inl (T s)) := by
  unfold upB; rw [if_pos ⟨by omega, by omega⟩, show b + s - b = s by omega]
theorem upB_out (ca : Nat → Nat) (f : Nat → va_E) {b n k : Nat} (T : Nat → Nat → Int32) (h : k < b ∨ b + n ≤ k) : upB ca f b n T k = f k := by
  unfold upB; exact if_neg (by omega)
theorem upB_up (ca : Nat → Nat) (f : Nat → va_E) {b n s : Nat} (T : Nat → Nat → Int32) (g : Nat → Int32) (h : s < n) : va_up (upB ca f b n T) (b + s) (.inl (ca 0, 96, .inl g)) = upB ca f b n (updT T s g) := by
  funext k
  by_cases e : k = b + s
  · subst e
    rw [va_up_self, upB_in ca f _ h]
    unfold updT; rw [if_pos rfl]
  · rw [va_up_ne _ _ e]
    unfold upB
    by_cases q : b ≤ k ∧ k < b + n
    · rw [if_pos q, if_pos q]
      unfold updT; rw [if_neg (by omega)]
    · rw [if_neg q, if_neg q]
theorem upB_comm (ca : Nat → Nat) (f : Nat → va_E) {b n k : Nat} (T : Nat → Nat → Int32) (e : va_E) (h : k < b ∨ b + n ≤ k) : upB ca (va_up f k e) b n T = va_up (upB ca f b n T) k e := by
  funext j
  by_cases q : j = k
  · subst q; rw [va_up_self, upB_out ca _ T h, va_up_self]
  · rw [va_up_ne _ _ q]; unfold upB; rw [va_up_ne _ _ q]
theorem upB_id (ca : Nat → Nat) (f : Nat → va_E) {b n : Nat} (T : Nat → Nat → Int32) (h : ∀ s, s < n → f (b + s) = .inl (ca 0, 96, .inl (T s))) : upB ca f b n T = f := by
  funext k
  unfold upB
  by_cases q : b ≤ k ∧ k < b + n
  · rw [if_pos q, ← h (k - b) (by omega), show b + (k - b) = k by omega]
  · rw [if_neg q]
theorem upB_ext (ca : Nat → Nat) (f : Nat → va_E) {b n : Nat} {T T' : Nat → Nat → Int32} (h : ∀ s, s < n → T s = T' s) : upB ca f b n T = upB ca f b n T' := by
  funext k
  unfold upB
  by_cases q : b ≤ k ∧ k < b + n
  · rw [if_pos q, if_pos q, h _ (by omega)]
  · rw [if_neg q, if_neg q]
theorem upB_upB (ca : Nat → Nat) (f : Nat → va_E) (b n : Nat) (T T' : Nat → Nat → Int32) : upB ca (upB ca f b n T) b n T' = upB ca f b n T' := by
  funext k
  unfold upB
  by_cases q : b ≤ k ∧ k < b + n
  · rw [if_pos q, if_pos q]
  · rw [if_neg q, if_neg q, if_neg q]
def zT (T : Nat → Nat → Int32) (k : Nat) : Nat → Nat → Int32 := fun s => if s < k then kI 0 else T s
theorem zT_0 (T : Nat → Nat → Int32) : zT T 0 = T := by funext s; exact if_neg (by omega)
theorem zT_s (T : Nat → Nat → Int32) (k : Nat) : updT (zT T k) k (kI 0) = zT T (k + 1) := by
  funext s
  unfold updT zT
  by_cases h : s = k
  · rw [if_pos h, if_pos (by omega)]
  · rw [if_neg h]
    by_cases h2 : s < k
    · rw [if_pos h2, if_pos (by omega)]
    · rw [if_neg h2, if_neg (by omega)]
theorem zT_e (T : Nat → Nat → Int32) (n : Nat) : ∀ s, s < n → zT T n s = (fun _ => kI 0) s := fun _ h => if_pos h
/-- three votes more -/
def v3 (g : Nat → Int32) (x y z : Int32) : Nat → Int32 := upd (upd (upd g x.toNatClampNeg ((g x.toNatClampNeg) + 1)) y.toNatClampNeg (((upd g x.toNatClampNeg ((g x.toNatClampNeg) + 1)) y.toNatClampNeg) + 1)) z.toNatClampNeg (((upd (upd g x.toNatClampNeg ((g x.toNatClampNeg) + 1)) y.toNatClampNeg (((upd g x.toNatClampNeg ((g x.toNatClampNeg) + 1)) y.toNatClampNeg) + 1)) z.toNatClampNeg) + 1)
/-- a tally: how it lies in the cells (tw), what hearing does to it (th), its object's cell -/
def gTal (l : Launch) (D : va_G) (ca ss ad : Nat → Nat) {K : Type} (tw : K → (Nat → va_E) → Nat → va_E) (th : K → Int32 → Int32 → Int32 → Int32 → K) (T : Nat) : Prop :=
  (∀ (st : K) (g : Nat → va_E) (k : Nat) (e : va_E), k < 12 → tw st (va_up g k e) = va_up (tw st g) k e) ∧ T < 108 ∧
  ∃ (y : MethodName) (cy : ByteArray) (ny : Nat) (Cr : String) (ci NN : Nat) (Tt : u_T), ny ≤ 9 ∧ Cond.selects Cr ⟨"StarTracker$Tally", "hear", "(IIII)V"⟩ y ∈ gTG ∧ Cond.instanceMethod y ∈ gTG ∧ gCal y cy ny none 4 ∧ vwCl[ci]? = some (Cr, Tt, NN) ∧ (∀ (st : K) (g : Nat → va_E), ∃ fs, tw st g T = .inr (ci, fs)) ∧
    ∀ (st : K) (g : Nat → va_E) (x z w q : Int32), vp_in x 96 → vp_in z 96 → vp_in w 96 → gMv l D ca ss ad 108 y cy ny none 0 (tw st g) [.ref (ad T), .int x, .int z, .int w, .int q] (fun u => u = tw (th st x z w q) g)
theorem hear_ok : "StarTracker$Tally" ≠ "java/lang/invoke/MethodHandle" ∧ "StarTracker$Tally" ≠ "java/lang/invoke/VarHandle" ∧ (parseMethodDescriptor "(IIII)V").map (fun d => d.parameters.length) = some 4 := by decide +kernel
section GH
variable {p : Program} {l : Launch} {e : Env} {R : Room} {s : State} {m : MethodId} {args : Array Value} {below : List Frame} {meth : Method} {c : Code} {A : Nat → Prop} {Q : State → Prop} {D : va_G} {ca ss ad : Nat → Nat} {n : Nat} {cc : ByteArray} {ret : Option FieldType} {lv : List (Nat × Value)} {pc : Nat}
theorem gj_hear (C : gX p s m args meth c A D ca ss n RX3 cc ret) {K : Type} {tw : K → (Nat → va_E) → Nat → va_E} {th : K → Int32 → Int32 → Int32 → Int32 → K} {T : Nat} (hT : gTal l D ca ss ad tw th T) {st : K} {g : Nat → va_E} {x z w q : Int32} (h1 : vp_in x 96) (h2 : vp_in z 96) (h3 : vp_in w 96) (hR : 1 ≤ R.frames ∧ 28 ≤ R.locals) (hd : decode cc pc = .ok (.invokevirtual 82, 3)) (kk : gJ p l e R s m args below meth c A Q D ad 108 n (tw (th st x z w q) g) lv (pc + 3) []) : gJ p l e R s m args below meth c A Q D ad 108 n (tw st g) lv pc [.int q, .int w, .int z, .int x, .ref (ad T)] := by
  obtain ⟨-, hT1, y, cy, ny, Cr, ci, NN, Tt, hny, k1, k2, k3, k4, k5, k6⟩ := hT
  obtain ⟨fs, hfs⟩ := k5 st g
  exact gj_callAv C (x := ⟨"StarTracker$Tally", "hear", "(IIII)V"⟩) w_562 w_564 k1 k2 w_563 hear_ok T hT1 hfs k4 (As := [.int x, .int z, .int w, .int q]) (k6 st g x z w q h1 h2 h3) k3 ⟨hR.1, by have := hR.2; omega⟩ (rest := []) rfl (Nat.le_of_ble_eq_true rfl) hd (fun u h => by rw [h]; exact kk)
end GH
theorem twk {l : Launch} {D : va_G} {ca ss ad : Nat → Nat} {K : Type} {tw : K → (Nat → va_E) → Nat → va_E} {th : K → Int32 → Int32 → Int32 → Int32 → K} {T : Nat} (hT : gTal l D ca ss ad tw th T) {st : K} {g : Nat → va_E} {k : Nat} {e : va_E} (hk : k < 12) (h : g k = e) : tw st g k = e := by
  have q := hT.1 st g k e hk
  rw [up_id h] at q
  rw [q, va_up_self]
theorem twc {l : Launch} {D : va_G} {ca ss ad : Nat → Nat} {K : Type} {tw : K → (Nat → va_E) → Nat → va_E} {th : K → Int32 → Int32 → Int32 → Int32 → K} {T : Nat} (hT : gTal l D ca ss ad tw th T) {st : K} {g : Nat → va_E} {k : Nat} {e : va_E} (hk : k < 12) : va_up (tw st g) k e = tw st (va_up g k e) := (hT.1 st g k e hk).symm
/-! the plain tally -/
def twL (ca ad : Nat → Nat) (tl : Int32) (st : (Nat → Int32) × Int32) (f : Nat → va_E) : Nat → va_E := va_up (va_up f 13 (.inl (ca 0, 96, .inl st.1))) 12 (.inr (4, [.ref (ad 13), .int tl, .int st.2]))
def thL (tl : Int32) (st : (Nat → Int32) × Int32) (x y z q : Int32) : (Nat → Int32) × Int32 := if tl < q then st else (v3 st.1 x y z, st.2 + 1)
theorem tal_L (l : Launch) (D : va_G) (ca ss ad : Nat → Nat) (tl : Int32) : gTal l D ca ss ad (twL ca ad tl) (thL tl) 12 := by
  refine ⟨fun st g k e hk => ?_, by decide, yX4_hear, cX4_hear, 5, RX4, 4, 3, TX4, by decide, w_565, w_566, mc_X4_hear, rfl, fun st g => ⟨_, va_up_self _ _ _⟩, fun st g x z w q h1 h2 h3 => ?_⟩
  · unfold twL
    rw [up_comm (g := g) (show (13 : Nat) ≠ k by omega), up_comm (show (12 : Nat) ≠ k by omega)]
  · have h := c_X4_hear (l := l) (D := D) (ss := ss) (f := twL ca ad tl st g) 12 13 x z w q tl st.2 st.1 (va_up_self _ _ _) (up_nx (by decide) (va_up_self _ _ _)) (by decide) (by decide) (by decide) h1 h2 h3
    have e : (fun u : Nat → va_E => u = va_up (va_up (twL ca ad tl st g) 13 (.inl (ca 0, 96, .inl (t_X4_hear_j x z w q tl st.1)))) 12 (.inr (4, [.ref (ad 13), .int tl, .int (t_X4_hear_i_2 q tl st.2)]))) = (fun u => u = twL ca ad tl (thL tl st x z w q) g) := by
      have e1 : t_X4_hear_j x z w q tl st.1 = (thL tl st x z w q).1 := by
        unfold t_X4_hear_j thL
        by_cases c : tl < q
        · rw [if_pos c, if_pos c]
        · rw [if_neg c, if_neg c]; rfl
      have e2 : t_X4_hear_i_2 q tl st.2 = (thL tl st x z w q).2 := by
        unfold t_X4_hear_i_2 thL
        by_cases c : tl < q
        · rw [if_pos c, if_pos c]
        · rw [if_neg c, if_neg c]
      rw [e1, e2]
      unfold twL
      rw [up_comm (show (13 : Nat) ≠ 12 by decide), bx_uu, bx_uu]
    rw [e] at h
    exact h
/-! the tally of steps -/
def twS (ca ad : Nat → Nat) (T : Nat → Nat → Int32) (f : Nat → va_E) : Nat → va_E := upB ca (va_up (va_up f 14 (.inr (8, [.ref (ad 15)]))) 15 (.inl (ca 5, 21, .inr (.inr (.inr (.inr (qR ad 16))))))) 16 21 T
def thS (T : Nat → Nat → Int32) (x y z q : Int32) : Nat → Nat → Int32 := if (q + 50 - 1) / 50 < 0 then T else if 21 ≤ (q + 50 - 1) / 50 then T else updT T ((q + 50 - 1) / 50).toNatClampNeg (v3 (T ((q + 50 - 1) / 50).toNatClampNeg) x y z)
theorem twS_a (ca ad : Nat → Nat) (T : Nat → Nat → Int32) (f : Nat → va_E) : twS ca ad T f 14 = .inr (8, [.ref (ad 15)]) := (upB_out ca _ T (by decide)).trans (up_nx (by decide) (va_up_self _ _ _))
theorem twS_b (ca ad : Nat → Nat) (T : Nat → Nat → Int32) (f : Nat → va_E) : twS ca ad T f 15 = .inl (ca 5, 21, .inr (.inr (.inr (.inr (qR ad 16))))) := (upB_out ca _ T (by decide)).trans (va_up_self _ _ _)
theorem twS_r (ca ad : Nat → Nat) (T : Nat → Nat → Int32) (f : Nat → va_E) {s : Nat} (h : s < 21) : twS ca ad T f (16 + s) = .inl (ca 0, 96, .inl (T s)) := upB_in ca _ T h
theorem twS_of {ca ad : Nat → Nat} {T : Nat → Nat → Int32} {f : Nat → va_E} (h1 : f 14 = .inr (8, [.ref (ad 15)])) (h2 : f 15 = .inl (ca 5, 21, .inr (.inr (.inr (.inr (qR ad 16)))))) : twS ca ad T f = upB ca f 16 21 T := by
  unfold twS; rw [up_id h1, up_id h2]
/-! the tally of spares -/
def twP (ca ad : Nat → Nat) (tl : Int32) (T : Nat → Nat → Int32) (f : Nat → va_E) : Nat → va_E := upB ca (va_up (va_up f 37 (.inr (7, [.ref (ad 38), .int tl]))) 38 (.inl (ca 5, 8, .inr (.inr (.inr (.inr (qR ad 39))))))) 39 8 T
def sprN (T : Nat → Nat → Int32) (x y z : Int32) : Nat → Nat → Nat → Int32
  | 0 => T
  | k + 1 => if nI k = x / 12 then sprN T x y z k else if nI k = y / 12 then sprN T x y z k else if nI k = z / 12 then sprN T x y z k else updT (sprN T x y z k) k (v3 (sprN T x y z k k) x y z)
def thP (tl : Int32) (T : Nat → Nat → Int32) (x y z q : Int32) : Nat → Nat → Int32 := if q ≤ tl then sprN T x y z 8 else T
theorem twP_a (ca ad : Nat → Nat) (tl : Int32) (T : Nat → Nat → Int32) (f : Nat → va_E) : twP ca ad tl T f 37 = .inr (7, [.ref (ad 38), .int tl]) := (upB_out ca _ T (by decide)).trans (up_nx (by decide) (va_up_self _ _ _))
theorem twP_b (ca ad : Nat → Nat) (tl : Int32) (T : Nat → Nat → Int32) (f : Nat → va_E) : twP ca ad tl T f 38 = .inl (ca 5, 8, .inr (.inr (.inr (.inr (qR ad 39))))) := (upB_out ca _ T (by decide)).trans (va_up_self _ _ _)
theorem twP_r (ca ad : Nat → Nat) (tl : Int32) (T : Nat → Nat → Int32) (f : Nat → va_E) {s : Nat} (h : s < 8) : twP ca ad tl T f (39 + s) = .inl (ca 0, 96, .inl (T s)) := upB_in ca _ T h
theorem twP_of {ca ad : Nat → Nat} {tl : Int32} {T : Nat → Nat → Int32} {f : Nat → va_E} (h1 : f 37 = .inr (7, [.ref (ad 38), .int tl])) (h2 : f 38 = .inl (ca 5, 8, .inr (.inr (.inr (.inr (qR ad 39)))))) : twP ca ad tl T f = upB ca f 39 8 T := by
  unfold twP; rw [up_id h1, up_id h2]
def aF (g h : Nat → Int32) (k : Nat) : Nat → Int32 := fun j => if j < k then g j + h j else g j
theorem aF_0 (g h : Nat → Int32) : aF g h 0 = g := by funext j; exact if_neg (by omega)
theorem aF_s (g h : Nat → Int32) (k : Nat) : upd (aF g h k) k (aF g h k k + h k) = aF g h (k + 1) := by
  funext j
  by_cases e : j = k
  · subst e; rw [pk_us]; unfold aF; rw [if_neg (by omega), if_pos (by omega)]
  · rw [pk_un e]; unfold aF
    by_cases q : j < k
    · rw [if_pos q, if_pos (by omega)]
    · rw [if_neg q, if_neg (by omega)]
def sumT (T : Nat → Nat → Int32) (s : Nat) : Nat → Nat → Int32 := if s = 0 then T else updT T s (aF (T s) (T (s - 1)) 96)
theorem updT_id (T : Nat → Nat → Int32) (s : Nat) : updT T s (T s) = T := by
  funext k; unfold updT
  by_cases h : k = s
  · rw [if_pos h, h]
  · rw [if_neg h]
theorem updT_s (T : Nat → Nat → Int32) (s : Nat) (g : Nat → Int32) : updT T s g s = g := if_pos rfl
theorem updT_n (T : Nat → Nat → Int32) {s k : Nat} (g : Nat → Int32) (h : k ≠ s) : updT T s g k = T k := if_neg h
theorem updT_u (T : Nat → Nat → Int32) (s : Nat) (g h : Nat → Int32) : updT (updT T s g) s h = updT T s h := by
  funext k; unfold updT
  by_cases q : k = s
  · rw [if_pos q, if_pos q]
  · rw [if_neg q, if_neg q, if_neg q]
theorem st_n {y : Int32} (h0 : ¬ y < 0) (h1 : ¬ 21 ≤ y) : ∃ s, s < 21 ∧ y = nI s := by
  rw [i32_lt] at h0
  rw [i32_le] at h1
  have e0 : (0 : Int32).toInt = 0 := rfl
  have e1 : (21 : Int32).toInt = 21 := rfl
  exact vp_in_of (vin (by omega) (by omega)) (by omega)
theorem cpy_all (g h : Nat → Int32) (n : Nat) : ∀ j, j < n → va_cpy g h 0 0 n j = g j := by
  intro j hj
  unfold va_cpy
  rw [if_pos ⟨by omega, by omega⟩, show 0 + (j - 0) = j by omega]
theorem hrun {x n ln : Int32} (hl : 0 ≤ ln.toInt ∧ ln.toInt ≤ 60) (h : ¬ s_X5_hasRun x n ln = 0) : ¬ x < 0 ∧ ¬ n < 0 ∧ x.toNatClampNeg + n.toNatClampNeg ≤ 60 := by
  unfold s_X5_hasRun at h
  by_cases a : x < 0
  · rw [if_pos a] at h; exact absurd rfl h
  · rw [if_neg a] at h
    by_cases b : n < 0
    · rw [if_pos b] at h; exact absurd rfl h
    · rw [if_neg b] at h
      by_cases c : ln < x
      · rw [if_pos c] at h; exact absurd rfl h
      · rw [if_neg c] at h
        by_cases d : ln - x < n
        · rw [if_pos d] at h; exact absurd rfl h
        · refine ⟨a, b, ?_⟩
          rw [i32_lt] at a b c d
          have e0 : (0 : Int32).toInt = 0 := rfl
          rw [i32_sub (by omega) (by omega)] at d
          obtain ⟨xa, ha, rfl⟩ := vp_in_of (n := 61) (vin (x := x) (by omega) (by omega)) (by omega)
          obtain ⟨nb, hb, rfl⟩ := vp_in_of (n := 61) (vin (x := n) (by omega) (by omega)) (by omega)
          rw [nI_clamp (by omega), nI_clamp (by omega)]
          rw [nI_toInt (by omega), nI_toInt (by omega)] at d
          omega

set_option maxHeartbeats 400000 in
set_option maxRecDepth 100000 in
theorem c_X8_hear {l : Launch} {D : va_G} {ca ss ad : Nat → Nat} {f : Nat → va_E} (T : Nat → Nat → Int32) (x y z q : Int32) (hx : vp_in x 96) (hy : vp_in y 96) (hz : vp_in z 96) : gMv l D ca ss ad 108 yX8_hear cX8_hear 6 none 0 (twS ca ad T f) [.ref (ad 14), .int x, .int y, .int z, .int q] (fun u => u = twS ca ad (thS T x y z q) f) := by
  refine gMv_ofK (by decide +kernel) (Nat.le_of_ble_eq_true rfl) (lv0 := [(0, .ref (ad 14)), (1, .int x), (2, .int y), (3, .int z), (4, .int q)]) rfl (fun pT eT sT mT aT below meth cT AT QT C RT => ?_)
  have C : gX pT sT mT aT meth cT AT D ca ss 6 RX8 cX8_hear none := C
  refine gj_iload C dX8_hear_0 4 rfl ?_
  refine gj_bipush C (v := 50) (by decide) dX8_hear_2 ?_
  refine gj_iadd C dX8_hear_4 ?_
  refine gj_iconst C (v := 1) (by decide) dX8_hear_5 ?_
  refine gj_isub C dX8_hear_6 ?_
  refine gj_bipush C (v := 50) (by decide) dX8_hear_7 ?_
  refine gj_idiv C (by decide) dX8_hear_9 ?_
  refine gj_topi (fun y_1 ey_1 => ?_)
  refine gj_istore C (lv' := [(5, .int y_1), (0, .ref (ad 14)), (1, .int x), (2, .int y), (3, .int z), (4, .int q)]) dX8_hear_10 (by decide) rfl ?_
  refine gj_iload C dX8_hear_12 0 rfl ?_
  refine gj_if_lt C 63 dX8_hear_14 (by decide) (fun c_2 => ?_) (fun c_2 => ?_)
  · exact RT _ _ _ (by rw [show thS T x y z q = T by unfold thS; rw [← ey_1, if_pos c_2]]) dX8_hear_63
  · refine gj_iload C dX8_hear_17 0 rfl ?_
    refine gj_bipush C (v := 21) (by decide) dX8_hear_19 ?_
    refine gj_icmp_ge C 63 dX8_hear_21 (by decide) (fun c_3 => ?_) (fun c_3 => ?_)
    · exact RT _ _ _ (by rw [show thS T x y z q = T by unfold thS; rw [← ey_1, if_neg c_2, if_pos c_3]]) dX8_hear_63
    · obtain ⟨sN, hsN, rfl⟩ := st_n c_2 c_3
      refine gj_aload_n C 0 dX8_hear_24 rfl 1 rfl ?_
      refine gj_get C 14 (by decide) (twS_a _ _ _ _) inX8 rfl 0 (by decide) w_170 (v := .ref (ad 15)) rfl dX8_hear_25 ?_
      refine gj_iload C dX8_hear_28 0 rfl ?_
      refine gj_alda C 5 15 (by decide) (twS_b _ _ _ _) rfl (vp_in_nI (by omega) (by omega)) (a := ad (16 + sN)) (qR_n ad 16 (by omega)) dX8_hear_30 ?_
      refine gj_iload_n C 1 dX8_hear_31 rfl 2 rfl ?_
      refine gj_dup2_11 C rfl rfl dX8_hear_32 ?_
      refine gj_iald C (16 + sN) (by omega) (twS_r _ _ _ _ hsN) hx dX8_hear_33 ?_
      refine gj_iconst C (v := 1) (by decide) dX8_hear_34 ?_
      refine gj_iadd C dX8_hear_35 ?_
      refine gj_iast C (16 + sN) (by omega) (twS_r _ _ _ _ hsN) hx dX8_hear_36 ?_
      refine gj_aload_n C 0 dX8_hear_37 rfl 1 rfl ?_
      refine gj_get C 14 (by decide) (up_nx (by omega) ((twS_a _ _ _ _))) inX8 rfl 0 (by decide) w_170 (v := .ref (ad 15)) rfl dX8_hear_38 ?_
      refine gj_iload C dX8_hear_41 0 rfl ?_
      refine gj_alda C 5 15 (by decide) (up_nx (by omega) ((twS_b _ _ _ _))) rfl (vp_in_nI (by omega) (by omega)) (a := ad (16 + sN)) (qR_n ad 16 (by omega)) dX8_hear_43 ?_
      refine gj_iload_n C 2 dX8_hear_44 rfl 3 rfl ?_
      refine gj_dup2_11 C rfl rfl dX8_hear_45 ?_
      refine gj_iald C (16 + sN) (by omega) (va_up_self _ _ _) hy dX8_hear_46 ?_
      refine gj_iconst C (v := 1) (by decide) dX8_hear_47 ?_
      refine gj_iadd C dX8_hear_48 ?_
      refine gj_iast C (16 + sN) (by omega) (va_up_self _ _ _) hy dX8_hear_49 ?_
      refine gj_setf (bx_uu _ _ _ _) ?_
      refine gj_aload_n C 0 dX8_hear_50 rfl 1 rfl ?_
      refine gj_get C 14 (by decide) (up_nx (by omega) ((twS_a _ _ _ _))) inX8 rfl 0 (by decide) w_170 (v := .ref (ad 15)) rfl dX8_hear_51 ?_
      refine gj_iload C dX8_hear_54 0 rfl ?_
      refine gj_alda C 5 15 (by decide) (up_nx (by omega) ((twS_b _ _ _ _))) rfl (vp_in_nI (by omega) (by omega)) (a := ad (16 + sN)) (qR_n ad 16 (by omega)) dX8_hear_56 ?_
      refine gj_iload_n C 3 dX8_hear_57 rfl 4 rfl ?_
      refine gj_dup2_11 C rfl rfl dX8_hear_58 ?_
      refine gj_iald C (16 + sN) (by omega) (va_up_self _ _ _) hz dX8_hear_59 ?_
      refine gj_iconst C (v := 1) (by decide) dX8_hear_60 ?_
      refine gj_iadd C dX8_hear_61 ?_
      refine gj_iast C (16 + sN) (by omega) (va_up_self _ _ _) hz dX8_hear_62 ?_
      refine gj_setf (bx_uu _ _ _ _) ?_
      exact RT _ _ _ (by rw [show thS T x y z q = updT T sN (v3 (T sN) x y z) by unfold thS; rw [← ey_1, if_neg c_2, if_neg c_3, nI_clamp (show sN < 2 ^ 31 by omega)]]; exact upB_up ca _ T _ hsN) dX8_hear_63
theorem tal_S (l : Launch) (D : va_G) (ca ss ad : Nat → Nat) : gTal l D ca ss ad (twS ca ad) thS 14 := by
  refine ⟨fun st g k e hk => ?_, by decide, yX8_hear, cX8_hear, 6, RX8, 8, 1, TX8, by decide, w_571, w_572, mc_X8_hear, rfl, fun st g => ⟨_, twS_a _ _ _ _⟩, fun st g x z w q h1 h2 h3 => c_X8_hear st x z w q h1 h2 h3⟩
  unfold twS
  rw [up_comm (g := g) (show (14 : Nat) ≠ k by omega), up_comm (show (15 : Nat) ≠ k by omega), upB_comm ca _ st e (Or.inl (by omega))]
set_option maxHeartbeats 400000 in
set_option maxRecDepth 100000 in
theorem c_X7_hear {l : Launch} {D : va_G} {ca ss ad : Nat → Nat} {f : Nat → va_E} (tl : Int32) (T : Nat → Nat → Int32) (x y z q : Int32) (hx : vp_in x 96) (hy : vp_in y 96) (hz : vp_in z 96) : gMv l D ca ss ad 108 yX7_hear cX7_hear 9 none 0 (twP ca ad tl T f) [.ref (ad 37), .int x, .int y, .int z, .int q] (fun u => u = twP ca ad tl (thP tl T x y z q) f) := by
  refine gMv_ofK (by decide +kernel) (Nat.le_of_ble_eq_true rfl) (lv0 := [(0, .ref (ad 37)), (1, .int x), (2, .int y), (3, .int z), (4, .int q)]) rfl (fun pT eT sT mT aT below meth cT AT QT C RT => ?_)
  have C : gX pT sT mT aT meth cT AT D ca ss 9 RX7 cX7_hear none := C
  refine gj_iload C dX7_hear_0 4 rfl ?_
  refine gj_aload_n C 0 dX7_hear_2 rfl 0 rfl ?_
  refine gj_get C 37 (by decide) (twP_a _ _ _ _ _) inX7 rfl 1 (by decide) w_183 (v := .int tl) rfl dX7_hear_3 ?_
  refine gj_icmp_le C 10 dX7_hear_6 (by decide) (fun c_1 => ?_) (fun c_1 => ?_)
  · refine gj_iload_n C 1 dX7_hear_10 rfl 1 rfl ?_
    refine gj_bipush C (v := 12) (by decide) dX7_hear_11 ?_
    refine gj_idiv C (by decide) dX7_hear_13 ?_
    refine gj_istore C (lv' := [(5, .int (x / 12)), (0, .ref (ad 37)), (1, .int x), (2, .int y), (3, .int z), (4, .int q)]) dX7_hear_14 (by decide) rfl ?_
    refine gj_iload_n C 2 dX7_hear_16 rfl 3 rfl ?_
    refine gj_bipush C (v := 12) (by decide) dX7_hear_17 ?_
    refine gj_idiv C (by decide) dX7_hear_19 ?_
    refine gj_istore C (lv' := [(6, .int (y / 12)), (5, .int (x / 12)), (0, .ref (ad 37)), (1, .int x), (2, .int y), (3, .int z), (4, .int q)]) dX7_hear_20 (by decide) rfl ?_
    refine gj_iload_n C 3 dX7_hear_22 rfl 5 rfl ?_
    refine gj_bipush C (v := 12) (by decide) dX7_hear_23 ?_
    refine gj_idiv C (by decide) dX7_hear_25 ?_
    refine gj_istore C (lv' := [(7, .int (z / 12)), (6, .int (y / 12)), (5, .int (x / 12)), (0, .ref (ad 37)), (1, .int x), (2, .int y), (3, .int z), (4, .int q)]) dX7_hear_26 (by decide) rfl ?_
    refine gj_iconst C (v := 0) (by decide) dX7_hear_28 ?_
    refine gj_seti (y := nI 0) rfl ?_
    refine gj_istore C (lv' := [(8, .int (nI 0)), (7, .int (z / 12)), (6, .int (y / 12)), (5, .int (x / 12)), (0, .ref (ad 37)), (1, .int x), (2, .int y), (3, .int z), (4, .int q)]) dX7_hear_29 (by decide) rfl ?_
    refine gj_setf (g := twP ca ad tl (sprN T x y z 0) f) rfl ?_
    have loop_2 : ∀ (m0 t0 : Nat), t0 + m0 = 8 → gJ pT l eT (Rm 0) sT mT aT below meth cT AT QT D ad 108 9 (twP ca ad tl (sprN T x y z t0) f) [(8, .int (nI t0)), (7, .int (z / 12)), (6, .int (y / 12)), (5, .int (x / 12)), (0, .ref (ad 37)), (1, .int x), (2, .int y), (3, .int z), (4, .int q)] 31 [] := by
      intro m0
      induction m0 with
      | zero =>
        intro t0 hk_t0  
        obtain rfl : t0 = 8 := (by omega)
        refine gj_iload C dX7_hear_31 0 rfl ?_
        refine gj_bipush C (v := 8) (by decide) dX7_hear_33 ?_
        refine gj_icmp_ge C 104 dX7_hear_35 (by decide) (fun c_4 => ?_) (fun c_4 => absurd (Int32.le_refl _) c_4)
        exact RT _ _ _ (by rw [show thP tl T x y z q = sprN T x y z 8 by unfold thP; rw [if_pos c_1]]) dX7_hear_104
      | succ m0 ih_3 =>
        intro t0 hk_t0  
        refine gj_iload C dX7_hear_31 0 rfl ?_
        refine gj_bipush C (v := 8) (by decide) dX7_hear_33 ?_
        refine gj_icmp_ge C 104 dX7_hear_35 (by decide) (fun c_5 => absurd c_5 (show ¬ (8 : Int32) ≤ nI t0 from nI_ge (b := 8) (by omega) (by omega))) (fun c_5 => ?_)
        refine gj_iload C dX7_hear_38 0 rfl ?_
        refine gj_iload C dX7_hear_40 3 rfl ?_
        refine gj_icmp_eq C 98 dX7_hear_42 (by decide) (fun c_6 => ?_) (fun c_6 => ?_)
        · refine gj_iinc C (v := nI (t0 + 1)) (lv' := [(8, .int (nI (t0 + 1))), (7, .int (z / 12)), (6, .int (y / 12)), (5, .int (x / 12)), (0, .ref (ad 37)), (1, .int x), (2, .int y), (3, .int z), (4, .int q)]) dX7_hear_98 0 rfl (nI_1 _) (by decide) rfl ?_
          refine gj_goto C 31 dX7_hear_101 (by decide) ?_
          refine gj_setf (g := twP ca ad tl (sprN T x y z (t0 + 1)) f) (by rw [show sprN T x y z (t0 + 1) = sprN T x y z t0 from (if_pos c_6).trans (rfl)]) ?_
          refine gj_lv [0, 1, 2, 3, 4, 5, 6, 7, 8] rfl ?_
          exact ih_3 (t0 + 1) (by omega)
        · refine gj_iload C dX7_hear_45 0 rfl ?_
          refine gj_iload C dX7_hear_47 2 rfl ?_
          refine gj_icmp_eq C 98 dX7_hear_49 (by decide) (fun c_7 => ?_) (fun c_7 => ?_)
          · refine gj_iinc C (v := nI (t0 + 1)) (lv' := [(8, .int (nI (t0 + 1))), (7, .int (z / 12)), (6, .int (y / 12)), (5, .int (x / 12)), (0, .ref (ad 37)), (1, .int x), (2, .int y), (3, .int z), (4, .int q)]) dX7_hear_98 0 rfl (nI_1 _) (by decide) rfl ?_
            refine gj_goto C 31 dX7_hear_101 (by decide) ?_
            refine gj_setf (g := twP ca ad tl (sprN T x y z (t0 + 1)) f) (by rw [show sprN T x y z (t0 + 1) = sprN T x y z t0 from (if_neg c_6).trans ((if_pos c_7).trans (rfl))]) ?_
            refine gj_lv [0, 1, 2, 3, 4, 5, 6, 7, 8] rfl ?_
            exact ih_3 (t0 + 1) (by omega)
          · refine gj_iload C dX7_hear_52 0 rfl ?_
            refine gj_iload C dX7_hear_54 1 rfl ?_
            refine gj_icmp_eq C 98 dX7_hear_56 (by decide) (fun c_8 => ?_) (fun c_8 => ?_)
            · refine gj_iinc C (v := nI (t0 + 1)) (lv' := [(8, .int (nI (t0 + 1))), (7, .int (z / 12)), (6, .int (y / 12)), (5, .int (x / 12)), (0, .ref (ad 37)), (1, .int x), (2, .int y), (3, .int z), (4, .int q)]) dX7_hear_98 0 rfl (nI_1 _) (by decide) rfl ?_
              refine gj_goto C 31 dX7_hear_101 (by decide) ?_
              refine gj_setf (g := twP ca ad tl (sprN T x y z (t0 + 1)) f) (by rw [show sprN T x y z (t0 + 1) = sprN T x y z t0 from (if_neg c_6).trans ((if_neg c_7).trans ((if_pos c_8).trans (rfl)))]) ?_
              refine gj_lv [0, 1, 2, 3, 4, 5, 6, 7, 8] rfl ?_
              exact ih_3 (t0 + 1) (by omega)
            · refine gj_aload_n C 0 dX7_hear_59 rfl 4 rfl ?_
              refine gj_get C 37 (by decide) (twP_a _ _ _ _ _) inX7 rfl 0 (by decide) w_181 (v := .ref (ad 38)) rfl dX7_hear_60 ?_
              refine gj_iload C dX7_hear_63 0 rfl ?_
              refine gj_alda C 5 38 (by decide) (twP_b _ _ _ _ _) rfl (vp_in_nI (by omega) (by omega)) (a := ad (39 + t0)) (qR_n ad 39 (by omega)) dX7_hear_65 ?_
              refine gj_iload_n C 1 dX7_hear_66 rfl 5 rfl ?_
              refine gj_dup2_11 C rfl rfl dX7_hear_67 ?_
              refine gj_iald C (39 + t0) (by omega) (twP_r _ _ _ _ _ (by omega)) hx dX7_hear_68 ?_
              refine gj_iconst C (v := 1) (by decide) dX7_hear_69 ?_
              refine gj_iadd C dX7_hear_70 ?_
              refine gj_iast C (39 + t0) (by omega) (twP_r _ _ _ _ _ (by omega)) hx dX7_hear_71 ?_
              refine gj_aload_n C 0 dX7_hear_72 rfl 4 rfl ?_
              refine gj_get C 37 (by decide) (up_nx (by omega) ((twP_a _ _ _ _ _))) inX7 rfl 0 (by decide) w_181 (v := .ref (ad 38)) rfl dX7_hear_73 ?_
              refine gj_iload C dX7_hear_76 0 rfl ?_
              refine gj_alda C 5 38 (by decide) (up_nx (by omega) ((twP_b _ _ _ _ _))) rfl (vp_in_nI (by omega) (by omega)) (a := ad (39 + t0)) (qR_n ad 39 (by omega)) dX7_hear_78 ?_
              refine gj_iload_n C 2 dX7_hear_79 rfl 6 rfl ?_
              refine gj_dup2_11 C rfl rfl dX7_hear_80 ?_
              refine gj_iald C (39 + t0) (by omega) (va_up_self _ _ _) hy dX7_hear_81 ?_
              refine gj_iconst C (v := 1) (by decide) dX7_hear_82 ?_
              refine gj_iadd C dX7_hear_83 ?_
              refine gj_iast C (39 + t0) (by omega) (va_up_self _ _ _) hy dX7_hear_84 ?_
              refine gj_setf (bx_uu _ _ _ _) ?_
              refine gj_aload_n C 0 dX7_hear_85 rfl 4 rfl ?_
              refine gj_get C 37 (by decide) (up_nx (by omega) ((twP_a _ _ _ _ _))) inX7 rfl 0 (by decide) w_181 (v := .ref (ad 38)) rfl dX7_hear_86 ?_
              refine gj_iload C dX7_hear_89 0 rfl ?_
              refine gj_alda C 5 38 (by decide) (up_nx (by omega) ((twP_b _ _ _ _ _))) rfl (vp_in_nI (by omega) (by omega)) (a := ad (39 + t0)) (qR_n ad 39 (by omega)) dX7_hear_91 ?_
              refine gj_iload_n C 3 dX7_hear_92 rfl 7 rfl ?_
              refine gj_dup2_11 C rfl rfl dX7_hear_93 ?_
              refine gj_iald C (39 + t0) (by omega) (va_up_self _ _ _) hz dX7_hear_94 ?_
              refine gj_iconst C (v := 1) (by decide) dX7_hear_95 ?_
              refine gj_iadd C dX7_hear_96 ?_
              refine gj_iast C (39 + t0) (by omega) (va_up_self _ _ _) hz dX7_hear_97 ?_
              refine gj_setf (bx_uu _ _ _ _) ?_
              refine gj_iinc C (v := nI (t0 + 1)) (lv' := [(8, .int (nI (t0 + 1))), (7, .int (z / 12)), (6, .int (y / 12)), (5, .int (x / 12)), (0, .ref (ad 37)), (1, .int x), (2, .int y), (3, .int z), (4, .int q)]) dX7_hear_98 0 rfl (nI_1 _) (by decide) rfl ?_
              refine gj_goto C 31 dX7_hear_101 (by decide) ?_
              refine gj_setf (g := twP ca ad tl (sprN T x y z (t0 + 1)) f) (by rw [show sprN T x y z (t0 + 1) = _ from (if_neg c_6).trans ((if_neg c_7).trans ((if_neg c_8).trans (rfl)))]; exact upB_up ca _ _ _ (by omega)) ?_
              refine gj_lv [0, 1, 2, 3, 4, 5, 6, 7, 8] rfl ?_
              exact ih_3 (t0 + 1) (by omega)
    refine gj_lv [0, 1, 2, 3, 4, 5, 6, 7, 8] rfl ?_
    exact loop_2 (8 - 0) 0 (by omega)
  · exact RT _ _ _ (by rw [show thP tl T x y z q = T by unfold thP; rw [if_neg c_1]]) dX7_hear_9
theorem tal_P (l : Launch) (D : va_G) (ca ss ad : Nat → Nat) (tl : Int32) : gTal l D ca ss ad (twP ca ad tl) (thP tl) 37 := by
  refine ⟨fun st g k e hk => ?_, by decide, yX7_hear, cX7_hear, 9, RX7, 7, 2, TX7, by decide, w_568, w_569, mc_X7_hear, rfl, fun st g => ⟨_, twP_a _ _ _ _ _⟩, fun st g x z w q h1 h2 h3 => c_X7_hear tl st x z w q h1 h2 h3⟩
  unfold twP
  rw [up_comm (g := g) (show (37 : Nat) ≠ k by omega), up_comm (show (38 : Nat) ≠ k by omega), upB_comm ca _ st e (Or.inl (by omega))]
set_option maxHeartbeats 400000 in
set_option maxRecDepth 100000 in
theorem c_X8_begin {l : Launch} {D : va_G} {ca ss ad : Nat → Nat} {f : Nat → va_E}  (T : Nat → Nat → Int32) (hc0 : f 14 = .inr (8, [.ref (ad 15)])) (hc1 : f 15 = .inl (ca 5, 21, .inr (.inr (.inr (.inr (qR ad 16)))))) (hT : ∀ s, s < 21 → f (16 + s) = .inl (ca 0, 96, .inl (T s))) : gMv l D ca ss ad 108 yX8_begin cX8_begin 2 none 1 f [.ref (ad 14)] (fun u => u = upB ca f 16 21 (fun _ => kI 0)) := by
  refine gMv_ofK (by decide +kernel) (Nat.le_of_ble_eq_true rfl) (lv0 := [(0, .ref (ad 14))]) rfl (fun pT eT sT mT aT below meth cT AT QT C RT => ?_)
  have C : gX pT sT mT aT meth cT AT D ca ss 2 RX8 cX8_begin none := C
  refine gj_iconst C (v := 0) (by decide) dX8_begin_0 ?_
  refine gj_seti (y := nI 0) rfl ?_
  refine gj_istore_n C (lv' := [(1, .int (nI 0)), (0, .ref (ad 14))]) 1 dX8_begin_1 rfl (by decide) rfl ?_
  refine gj_setf (g := upB ca f 16 21 (zT T 0)) (by rw [zT_0, upB_id ca f T hT]) ?_
  have loop_1 : ∀ (m0 t0 : Nat), t0 + m0 = 21 → gJ pT l eT (Rm 1) sT mT aT below meth cT AT QT D ad 108 2 (upB ca f 16 21 (zT T t0)) [(1, .int (nI t0)), (0, .ref (ad 14))] 2 [] := by
    intro m0
    induction m0 with
    | zero =>
      intro t0 hk_t0  
      obtain rfl : t0 = 21 := (by omega)
      refine gj_iload_n C 1 dX8_begin_2 rfl 0 rfl ?_
      refine gj_bipush C (v := 21) (by decide) dX8_begin_3 ?_
      refine gj_icmp_ge C 24 dX8_begin_5 (by decide) (fun c_3 => ?_) (fun c_3 => absurd (Int32.le_refl _) c_3)
      refine gj_setf (g := upB ca f 16 21 (fun _ => kI 0)) (upB_ext ca f (zT_e T 21)) ?_
      exact RT _ _ _ rfl dX8_begin_24
    | succ m0 ih_2 =>
      intro t0 hk_t0  
      refine gj_iload_n C 1 dX8_begin_2 rfl 0 rfl ?_
      refine gj_bipush C (v := 21) (by decide) dX8_begin_3 ?_
      refine gj_icmp_ge C 24 dX8_begin_5 (by decide) (fun c_4 => absurd c_4 (show ¬ (21 : Int32) ≤ nI t0 from nI_ge (b := 21) (by omega) (by omega))) (fun c_4 => ?_)
      refine gj_aload_n C 0 dX8_begin_8 rfl 1 rfl ?_
      refine gj_get C 14 (by decide) ((upB_out ca _ _ (by decide)).trans hc0) inX8 rfl 0 (by decide) w_170 (v := .ref (ad 15)) rfl dX8_begin_9 ?_
      refine gj_iload_n C 1 dX8_begin_12 rfl 0 rfl ?_
      refine gj_alda C 5 15 (by decide) ((upB_out ca _ _ (by decide)).trans hc1) rfl (vp_in_nI (by omega) (by omega)) (a := ad (16 + t0)) (qR_n ad 16 (by omega)) dX8_begin_13 ?_
      refine gj_iconst C (v := 0) (by decide) dX8_begin_14 ?_
      refine gj_callSv C w_516 w_683 (c_J7_fill_53178 (16 + t0) (0 : Int32) 96 (zT T t0 t0) (upB_in ca _ _ (by omega)) (by omega) (by omega)) mc_J7_fill_53178 ⟨Nat.le_of_ble_eq_true rfl, Nat.le_of_ble_eq_true rfl⟩ (rest := []) rfl (Nat.le_of_ble_eq_true rfl) dX8_begin_15 (fun u h => ?_)
      subst h
      refine gj_iinc C (v := nI (t0 + 1)) (lv' := [(1, .int (nI (t0 + 1))), (0, .ref (ad 14))]) dX8_begin_18 0 rfl (nI_1 _) (by decide) rfl ?_
      refine gj_goto C 2 dX8_begin_21 (by decide) ?_
      refine gj_setf (g := upB ca f 16 21 (zT T (t0 + 1))) (by rw [← zT_s]; exact upB_up ca _ _ _ (by omega)) ?_
      refine gj_lv [0, 1] rfl ?_
      exact ih_2 (t0 + 1) (by omega)
  refine gj_lv [0, 1] rfl ?_
  exact loop_1 (21 - 0) 0 (by omega)
set_option maxHeartbeats 400000 in
set_option maxRecDepth 100000 in
theorem c_X7_begin {l : Launch} {D : va_G} {ca ss ad : Nat → Nat} {f : Nat → va_E} (tl q : Int32) (T : Nat → Nat → Int32) (hc0 : f 37 = .inr (7, [.ref (ad 38), .int tl])) (hc1 : f 38 = .inl (ca 5, 8, .inr (.inr (.inr (.inr (qR ad 39)))))) (hT : ∀ s, s < 8 → f (39 + s) = .inl (ca 0, 96, .inl (T s))) : gMv l D ca ss ad 108 yX7_begin cX7_begin 3 none 1 f [.ref (ad 37), .int q] (fun u => u = va_up (upB ca f 39 8 (fun _ => kI 0)) 37 (.inr (7, [.ref (ad 38), .int q]))) := by
  refine gMv_ofK (by decide +kernel) (Nat.le_of_ble_eq_true rfl) (lv0 := [(0, .ref (ad 37)), (1, .int q)]) rfl (fun pT eT sT mT aT below meth cT AT QT C RT => ?_)
  have C : gX pT sT mT aT meth cT AT D ca ss 3 RX7 cX7_begin none := C
  refine gj_iconst C (v := 0) (by decide) dX7_begin_0 ?_
  refine gj_seti (y := nI 0) rfl ?_
  refine gj_istore_n C (lv' := [(2, .int (nI 0)), (0, .ref (ad 37)), (1, .int q)]) 2 dX7_begin_1 rfl (by decide) rfl ?_
  refine gj_setf (g := upB ca f 39 8 (zT T 0)) (by rw [zT_0, upB_id ca f T hT]) ?_
  have loop_1 : ∀ (m0 t0 : Nat), t0 + m0 = 8 → gJ pT l eT (Rm 1) sT mT aT below meth cT AT QT D ad 108 3 (upB ca f 39 8 (zT T t0)) [(2, .int (nI t0)), (0, .ref (ad 37)), (1, .int q)] 2 [] := by
    intro m0
    induction m0 with
    | zero =>
      intro t0 hk_t0  
      obtain rfl : t0 = 8 := (by omega)
      refine gj_iload_n C 2 dX7_begin_2 rfl 0 rfl ?_
      refine gj_bipush C (v := 8) (by decide) dX7_begin_3 ?_
      refine gj_icmp_ge C 24 dX7_begin_5 (by decide) (fun c_3 => ?_) (fun c_3 => absurd (Int32.le_refl _) c_3)
      refine gj_setf (g := upB ca f 39 8 (fun _ => kI 0)) (upB_ext ca f (zT_e T 8)) ?_
      refine gj_aload_n C 0 dX7_begin_24 rfl 1 rfl ?_
      refine gj_iload_n C 1 dX7_begin_25 rfl 2 rfl ?_
      refine gj_putS C 37 (by decide) ((upB_out ca _ _ (by decide)).trans hc0) inX7 rfl 1 (by decide) tyX7 tyX7_ok nmX7 w_183 rfl (v := .int q) (fs' := [.ref (ad 38), .int q]) rfl rfl (Nat.le_of_ble_eq_true rfl) rfl dX7_begin_26 ?_
      exact RT _ _ _ rfl dX7_begin_29
    | succ m0 ih_2 =>
      intro t0 hk_t0  
      refine gj_iload_n C 2 dX7_begin_2 rfl 0 rfl ?_
      refine gj_bipush C (v := 8) (by decide) dX7_begin_3 ?_
      refine gj_icmp_ge C 24 dX7_begin_5 (by decide) (fun c_4 => absurd c_4 (show ¬ (8 : Int32) ≤ nI t0 from nI_ge (b := 8) (by omega) (by omega))) (fun c_4 => ?_)
      refine gj_aload_n C 0 dX7_begin_8 rfl 1 rfl ?_
      refine gj_get C 37 (by decide) ((upB_out ca _ _ (by decide)).trans hc0) inX7 rfl 0 (by decide) w_181 (v := .ref (ad 38)) rfl dX7_begin_9 ?_
      refine gj_iload_n C 2 dX7_begin_12 rfl 0 rfl ?_
      refine gj_alda C 5 38 (by decide) ((upB_out ca _ _ (by decide)).trans hc1) rfl (vp_in_nI (by omega) (by omega)) (a := ad (39 + t0)) (qR_n ad 39 (by omega)) dX7_begin_13 ?_
      refine gj_iconst C (v := 0) (by decide) dX7_begin_14 ?_
      refine gj_callSv C w_516 w_700 (c_J7_fill_53178 (39 + t0) (0 : Int32) 96 (zT T t0 t0) (upB_in ca _ _ (by omega)) (by omega) (by omega)) mc_J7_fill_53178 ⟨Nat.le_of_ble_eq_true rfl, Nat.le_of_ble_eq_true rfl⟩ (rest := []) rfl (Nat.le_of_ble_eq_true rfl) dX7_begin_15 (fun u h => ?_)
      subst h
      refine gj_iinc C (v := nI (t0 + 1)) (lv' := [(2, .int (nI (t0 + 1))), (0, .ref (ad 37)), (1, .int q)]) dX7_begin_18 0 rfl (nI_1 _) (by decide) rfl ?_
      refine gj_goto C 2 dX7_begin_21 (by decide) ?_
      refine gj_setf (g := upB ca f 39 8 (zT T (t0 + 1))) (by rw [← zT_s]; exact upB_up ca _ _ _ (by omega)) ?_
      refine gj_lv [0, 1, 2] rfl ?_
      exact ih_2 (t0 + 1) (by omega)
  refine gj_lv [0, 1, 2] rfl ?_
  exact loop_1 (8 - 0) 0 (by omega)
set_option maxHeartbeats 400000 in
set_option maxRecDepth 100000 in
theorem c_sum0 {l : Launch} {D : va_G} {ca ss ad : Nat → Nat} {f : Nat → va_E} (sN : Nat) (T : Nat → Nat → Int32) (hs : sN < 21) (h0 : sN = 0) : gMr l D ca ss ad 108 yX8_sumUpTo cX8_sumUpTo 3 (some (.array .int)) 0 (twS ca ad T f) [.ref (ad 14), .int (nI sN)] (fun r u => r = ad (16 + sN) ∧ u = twS ca ad (sumT T sN) f) := by
  refine gMr_ofK (Or.inr ⟨_, rfl⟩) (by decide +kernel) (Nat.le_of_ble_eq_true rfl) (lv0 := [(0, .ref (ad 14)), (1, .int (nI sN))]) rfl (fun pT eT sT mT aT below meth cT AT QT C RT => ?_)
  have C : gX pT sT mT aT meth cT AT D ca ss 3 RX8 cX8_sumUpTo (some (.array .int)) := C
  refine gj_iconst C (v := 0) (by decide) dX8_sumUpTo_0 ?_
  refine gj_istore_n C (lv' := [(2, .int 0), (0, .ref (ad 14)), (1, .int (nI sN))]) 2 dX8_sumUpTo_1 rfl (by decide) rfl ?_
  refine gj_iload_n C 1 dX8_sumUpTo_2 rfl 2 rfl ?_
  refine gj_if_le C 39 dX8_sumUpTo_3 (by decide) (fun c_1 => ?_) (fun c_1 => absurd (show nI sN ≤ 0 by rw [h0]; exact Int32.le_refl _) c_1)
  refine gj_aload_n C 0 dX8_sumUpTo_39 rfl 1 rfl ?_
  refine gj_get C 14 (by decide) (twS_a _ _ _ _) inX8 rfl 0 (by decide) w_170 (v := .ref (ad 15)) rfl dX8_sumUpTo_40 ?_
  refine gj_iload_n C 1 dX8_sumUpTo_43 rfl 2 rfl ?_
  refine gj_alda C 5 15 (by decide) (twS_b _ _ _ _) rfl (vp_in_nI (by omega) (by omega)) (a := ad (16 + sN)) (qR_n ad 16 (by omega)) dX8_sumUpTo_44 ?_
  exact RT _ _ _ _ ⟨rfl, by rw [show sumT T sN = T from if_pos h0]⟩ dX8_sumUpTo_45
theorem nI_sub1 {n : Nat} (h : 0 < n) (hn : n < 2 ^ 30) : nI n - 1 = nI (n - 1) := by
  rw [i32_eq]
  have e1 : (1 : Int32).toInt = 1 := rfl
  rw [i32_sub (by rw [nI_toInt (by omega)]; omega) (by rw [nI_toInt (by omega)]; omega), nI_toInt (by omega), nI_toInt (by omega), e1]
  omega
set_option maxHeartbeats 400000 in
set_option maxRecDepth 100000 in
theorem c_sum1 {l : Launch} {D : va_G} {ca ss ad : Nat → Nat} {f : Nat → va_E} (sN : Nat) (T : Nat → Nat → Int32) (hs : sN < 21) (h0 : 0 < sN) : gMr l D ca ss ad 108 yX8_sumUpTo cX8_sumUpTo 3 (some (.array .int)) 0 (twS ca ad T f) [.ref (ad 14), .int (nI sN)] (fun r u => r = ad (16 + sN) ∧ u = twS ca ad (sumT T sN) f) := by
  refine gMr_ofK (Or.inr ⟨_, rfl⟩) (by decide +kernel) (Nat.le_of_ble_eq_true rfl) (lv0 := [(0, .ref (ad 14)), (1, .int (nI sN))]) rfl (fun pT eT sT mT aT below meth cT AT QT C RT => ?_)
  have C : gX pT sT mT aT meth cT AT D ca ss 3 RX8 cX8_sumUpTo (some (.array .int)) := C
  refine gj_iconst C (v := 0) (by decide) dX8_sumUpTo_0 ?_
  refine gj_seti (y := nI 0) rfl ?_
  refine gj_istore_n C (lv' := [(2, .int (nI 0)), (0, .ref (ad 14)), (1, .int (nI sN))]) 2 dX8_sumUpTo_1 rfl (by decide) rfl ?_
  refine gj_setf (g := twS ca ad (updT T sN (aF (T sN) (T (sN - 1)) 0)) f) (by rw [aF_0, updT_id]) ?_
  have loop_1 : ∀ (m0 t0 : Nat), t0 + m0 = 96 → gJ pT l eT (Rm 0) sT mT aT below meth cT AT QT D ad 108 3 (twS ca ad (updT T sN (aF (T sN) (T (sN - 1)) t0)) f) [(2, .int (nI t0)), (0, .ref (ad 14)), (1, .int (nI sN))] 2 [] := by
    intro m0
    induction m0 with
    | zero =>
      intro t0 hk_t0  
      obtain rfl : t0 = 96 := (by omega)
      refine gj_iload_n C 1 dX8_sumUpTo_2 rfl 2 rfl ?_
      refine gj_if_le C 39 dX8_sumUpTo_3 (by decide) (fun c_3 => absurd c_3 (show ¬ nI sN ≤ 0 from nI_ge (a := 0) (by omega) (by omega))) (fun c_3 => ?_)
      refine gj_iload_n C 2 dX8_sumUpTo_6 rfl 0 rfl ?_
      refine gj_bipush C (v := 96) (by decide) dX8_sumUpTo_7 ?_
      refine gj_icmp_ge C 39 dX8_sumUpTo_9 (by decide) (fun c_4 => ?_) (fun c_4 => absurd (Int32.le_refl _) c_4)
      refine gj_aload_n C 0 dX8_sumUpTo_39 rfl 1 rfl ?_
      refine gj_get C 14 (by decide) (twS_a _ _ _ _) inX8 rfl 0 (by decide) w_170 (v := .ref (ad 15)) rfl dX8_sumUpTo_40 ?_
      refine gj_iload_n C 1 dX8_sumUpTo_43 rfl 2 rfl ?_
      refine gj_alda C 5 15 (by decide) (twS_b _ _ _ _) rfl (vp_in_nI (by omega) (by omega)) (a := ad (16 + sN)) (qR_n ad 16 (by omega)) dX8_sumUpTo_44 ?_
      exact RT _ _ _ _ ⟨rfl, by rw [show sumT T sN = _ from if_neg (by omega)]⟩ dX8_sumUpTo_45
    | succ m0 ih_2 =>
      intro t0 hk_t0  
      refine gj_iload_n C 1 dX8_sumUpTo_2 rfl 2 rfl ?_
      refine gj_if_le C 39 dX8_sumUpTo_3 (by decide) (fun c_5 => absurd c_5 (show ¬ nI sN ≤ 0 from nI_ge (a := 0) (by omega) (by omega))) (fun c_5 => ?_)
      refine gj_iload_n C 2 dX8_sumUpTo_6 rfl 0 rfl ?_
      refine gj_bipush C (v := 96) (by decide) dX8_sumUpTo_7 ?_
      refine gj_icmp_ge C 39 dX8_sumUpTo_9 (by decide) (fun c_6 => absurd c_6 (show ¬ (96 : Int32) ≤ nI t0 from nI_ge (b := 96) (by omega) (by omega))) (fun c_6 => ?_)
      refine gj_aload_n C 0 dX8_sumUpTo_12 rfl 1 rfl ?_
      refine gj_get C 14 (by decide) (twS_a _ _ _ _) inX8 rfl 0 (by decide) w_170 (v := .ref (ad 15)) rfl dX8_sumUpTo_13 ?_
      refine gj_iload_n C 1 dX8_sumUpTo_16 rfl 2 rfl ?_
      refine gj_alda C 5 15 (by decide) (twS_b _ _ _ _) rfl (vp_in_nI (by omega) (by omega)) (a := ad (16 + sN)) (qR_n ad 16 (by omega)) dX8_sumUpTo_17 ?_
      refine gj_iload_n C 2 dX8_sumUpTo_18 rfl 0 rfl ?_
      refine gj_dup2_11 C rfl rfl dX8_sumUpTo_19 ?_
      refine gj_iald C (16 + sN) (by omega) ((twS_r _ _ _ _ hs).trans (by rw [updT_s])) (vp_in_nI (by omega) (by omega)) dX8_sumUpTo_20 ?_
      refine gj_seti (congrArg _ (nI_clamp (show t0 < 2 ^ 31 by omega))) ?_
      refine gj_aload_n C 0 dX8_sumUpTo_21 rfl 1 rfl ?_
      refine gj_get C 14 (by decide) (twS_a _ _ _ _) inX8 rfl 0 (by decide) w_170 (v := .ref (ad 15)) rfl dX8_sumUpTo_22 ?_
      refine gj_iload_n C 1 dX8_sumUpTo_25 rfl 2 rfl ?_
      refine gj_iconst C (v := 1) (by decide) dX8_sumUpTo_26 ?_
      refine gj_isub C dX8_sumUpTo_27 ?_
      refine gj_seti (y := nI (sN - 1)) (nI_sub1 h0 (by omega)) ?_
      refine gj_alda C 5 15 (by decide) (twS_b _ _ _ _) rfl (vp_in_nI (by omega) (by omega)) (a := ad (16 + sN - 1)) ((qR_n ad 16 (show sN - 1 < 2 ^ 31 by omega)).trans (by rw [show 16 + (sN - 1) = 16 + sN - 1 by omega])) dX8_sumUpTo_28 ?_
      refine gj_iload_n C 2 dX8_sumUpTo_29 rfl 0 rfl ?_
      refine gj_iald C (16 + sN - 1) (by omega) ((congrArg _ (show 16 + sN - 1 = 16 + (sN - 1) by omega)).trans ((twS_r _ _ _ _ (show sN - 1 < 21 by omega)).trans (by rw [updT_n _ _ (by omega)]))) (vp_in_nI (by omega) (by omega)) dX8_sumUpTo_30 ?_
      refine gj_seti (congrArg _ (nI_clamp (show t0 < 2 ^ 31 by omega))) ?_
      refine gj_iadd C dX8_sumUpTo_31 ?_
      refine gj_iast C (16 + sN) (by omega) ((twS_r _ _ _ _ hs).trans (by rw [updT_s])) (vp_in_nI (by omega) (by omega)) dX8_sumUpTo_32 ?_
      refine gj_iinc C (v := nI (t0 + 1)) (lv' := [(2, .int (nI (t0 + 1))), (0, .ref (ad 14)), (1, .int (nI sN))]) dX8_sumUpTo_33 0 rfl (nI_1 _) (by decide) rfl ?_
      refine gj_goto C 2 dX8_sumUpTo_36 (by decide) ?_
      refine gj_setf (g := twS ca ad (updT T sN (aF (T sN) (T (sN - 1)) (t0 + 1))) f) (by rw [nI_clamp (show t0 < 2 ^ 31 by omega), aF_s]; exact (upB_up ca _ _ _ hs).trans (congrArg (upB ca _ 16 21) (updT_u _ _ _ _))) ?_
      refine gj_lv [0, 1, 2] rfl ?_
      exact ih_2 (t0 + 1) (by omega)
  refine gj_lv [0, 1, 2] rfl ?_
  exact loop_1 (96 - 0) 0 (by omega)
set_option maxHeartbeats 400000 in
set_option maxRecDepth 100000 in
theorem c_X10_become {l : Launch} {D : va_G} {ca ss ad : Nat → Nat} {f : Nat → va_E} (i j d e : Nat) (hS0 hP0 sz0 hS1 hP1 sz1 : Int32) (g0 g1 : Nat → Int32) (hci : f i = .inr (9, [.ref (ad j), .int hS0, .int hP0, .int sz0])) (hcj : f j = .inl (ca 0, 32, .inl g0)) (hcd : f d = .inr (9, [.ref (ad e), .int hS1, .int hP1, .int sz1])) (hce : f e = .inl (ca 0, 32, .inl g1)) (hi : i < 108) (hj : j < 108) (hd : d < 108) (he : e < 108) (hij : i ≠ j) (hid : i ≠ d) (hie : i ≠ e) (hjd : j ≠ d) (hje : j ≠ e) (hde : d ≠ e) (hz1 : hS1 = 0 ∨ hS1 = 1) (hz2 : hP1 = 0 ∨ hP1 = 1) : gMv l D ca ss ad 108 yX10_become cX10_become 2 none 1 f [.ref (ad i), .ref (ad d)] (fun u => u = va_up (va_up f j (.inl (ca 0, 32, .inl g1))) i (.inr (9, [.ref (ad j), .int hS1, .int hP1, .int sz1]))) := by
  refine gMv_ofK (by decide +kernel) (Nat.le_of_ble_eq_true rfl) (lv0 := [(0, .ref (ad i)), (1, .ref (ad d))]) rfl (fun pT eT sT mT aT below meth cT AT QT C RT => ?_)
  have C : gX pT sT mT aT meth cT AT D ca ss 2 RX10 cX10_become none := C
  refine gj_aload_n C 1 dX10_become_0 rfl 1 rfl ?_
  refine gj_get C d hd hcd inX10 rfl 0 (by decide) w_327 (v := .ref (ad e)) rfl dX10_become_1 ?_
  refine gj_iconst C (v := 0) (by decide) dX10_become_4 ?_
  refine gj_aload_n C 0 dX10_become_5 rfl 0 rfl ?_
  refine gj_get C i hi hci inX10 rfl 0 (by decide) w_327 (v := .ref (ad j)) rfl dX10_become_6 ?_
  refine gj_iconst C (v := 0) (by decide) dX10_become_9 ?_
  refine gj_aload_n C 0 dX10_become_10 rfl 0 rfl ?_
  refine gj_get C i hi hci inX10 rfl 0 (by decide) w_327 (v := .ref (ad j)) rfl dX10_become_11 ?_
  refine gj_alen C 0 j hj hcj rfl (v := 32) rfl dX10_become_14 ?_
  refine gj_copyi C e j he hj hce hcj (by decide) (by decide) (by decide) (by decide) (by decide) w_725 w_727 w_726 w_69 ⟨Nat.le_of_ble_eq_true rfl, Nat.le_of_ble_eq_true rfl⟩ (Nat.le_of_ble_eq_true rfl) dX10_become_15 ?_
  refine gj_extI (g' := g1) j hj (va_up_self _ _ _) (cpy_all g1 g0 32) ?_
  refine gj_setf (bx_uu _ _ _ _) ?_
  refine gj_aload_n C 0 dX10_become_18 rfl 0 rfl ?_
  refine gj_aload_n C 1 dX10_become_19 rfl 1 rfl ?_
  refine gj_get C d hd (up_nx (fun z => hjd z.symm) (hcd)) inX10 rfl 1 (by decide) w_328 (v := .int hS1) rfl dX10_become_20 ?_
  refine gj_putS C i hi (up_nx hij (hci)) inX10 rfl 1 (by decide) tyX10 tyX10_ok nmX10 w_328 rfl (v := .int hS1) (fs' := [.ref (ad j), .int hS1, .int hP0, .int sz0]) (by rcases hz1 with q | q <;> rw [q] <;> rfl) (by rcases hz1 with q | q <;> rw [q] <;> rfl) (Nat.le_of_ble_eq_true rfl) rfl dX10_become_23 ?_
  refine gj_aload_n C 0 dX10_become_26 rfl 0 rfl ?_
  refine gj_aload_n C 1 dX10_become_27 rfl 1 rfl ?_
  refine gj_get C d hd (up_nx (fun z => hid z.symm) (up_nx (fun z => hjd z.symm) (hcd))) inX10 rfl 2 (by decide) w_329 (v := .int hP1) rfl dX10_become_28 ?_
  refine gj_putS C i hi (va_up_self _ _ _) inX10 rfl 2 (by decide) tyX10 tyX10_ok nmX10 w_329 rfl (v := .int hP1) (fs' := [.ref (ad j), .int hS1, .int hP1, .int sz0]) (by rcases hz2 with q | q <;> rw [q] <;> rfl) (by rcases hz2 with q | q <;> rw [q] <;> rfl) (Nat.le_of_ble_eq_true rfl) rfl dX10_become_31 ?_
  refine gj_setf (bx_uu _ _ _ _) ?_
  refine gj_aload_n C 0 dX10_become_34 rfl 0 rfl ?_
  refine gj_aload_n C 1 dX10_become_35 rfl 1 rfl ?_
  refine gj_get C d hd (up_nx (fun z => hid z.symm) (up_nx (fun z => hjd z.symm) (hcd))) inX10 rfl 3 (by decide) w_330 (v := .int sz1) rfl dX10_become_36 ?_
  refine gj_putS C i hi (va_up_self _ _ _) inX10 rfl 3 (by decide) tyX10 tyX10_ok nmX10 w_330 rfl (v := .int sz1) (fs' := [.ref (ad j), .int hS1, .int hP1, .int sz1]) rfl rfl (Nat.le_of_ble_eq_true rfl) rfl dX10_become_39 ?_
  refine gj_setf (bx_uu _ _ _ _) ?_
  exact RT _ _ _ rfl dX10_become_42
