/-! PAIRS: see -/
theorem if5 {α : Type} {A B C E F : Prop} [Decidable A] [Decidable B] [Decidable C] [Decidable E] [Decidable F] {x y : α} (h : ¬ (¬ A ∧ ¬ B ∧ ¬ C ∧ ¬ E ∧ ¬ F)) : (if A then x else if B then x else if C then x else if E then x else if F then x else y) = x := by
  by_cases a : A
  · rw [if_pos a]
  · rw [if_neg a]
    by_cases b : B
    · rw [if_pos b]
    · rw [if_neg b]
      by_cases c : C
      · rw [if_pos c]
      · rw [if_neg c]
        by_cases e : E
        · rw [if_pos e]
        · rw [if_neg e]
          by_cases f : F
          · rw [if_pos f]
          · exact absurd ⟨a, b, c, e, f⟩ h
theorem if6 {α : Type} {A B C E F G : Prop} [Decidable A] [Decidable B] [Decidable C] [Decidable E] [Decidable F] [Decidable G] {x y : α} (h : ¬ (¬ A ∧ ¬ B ∧ ¬ C ∧ ¬ E ∧ ¬ F ∧ ¬ G)) : (if A then x else if B then x else if C then x else if E then x else if F then x else if G then x else y) = x := by
  by_cases a : A
  · rw [if_pos a]
  · rw [if_neg a, if5 (fun q => h ⟨a, q⟩)]
theorem neg_in {x : Int32} (h : in100 x) : (-x).toInt = -x.toInt := by
  unfold in100 at h
  have e : -x = 0 - x := (Int32.zero_sub x).symm
  have z : (0 : Int32).toInt = 0 := rfl
  rw [e, i32_sub (by omega) (by omega), z]
  omega
theorem neg_100 {x : Int32} (h : in100 x) : in100 (-x) := by
  have e := neg_in h
  unfold in100 at h ⊢
  omega
theorem neg_z {x : Int32} (h : -x = 0) : x = 0 := by
  have q : - -x = -(0 : Int32) := congrArg (fun z => -z) h
  rw [Int32.neg_neg] at q
  exact q.trans (by decide)
theorem r1_ok {y z : Int32} (hy : in100 y) (hz : in100 z) : ∀ k, (in100 (r1 y z k).1 ∧ in100 (r1 y z k).2) ∧ ((r1 y z k).1 = 0 → (r1 y z k).2 = 0 → y = 0 ∧ z = 0)
  | 0 => ⟨⟨hy, hz⟩, fun a b => ⟨a, b⟩⟩
  | k + 1 => by
    obtain ⟨⟨a, b⟩, c⟩ := r1_ok hy hz k
    exact ⟨⟨neg_100 b, a⟩, fun p q => c q (neg_z p)⟩
theorem r2_ok {y z : Int32} (hy : in100 y) (hz : in100 z) : ∀ k, (in100 (r2 y z k).1 ∧ in100 (r2 y z k).2) ∧ ((r2 y z k).1 = 0 → (r2 y z k).2 = 0 → y = 0 ∧ z = 0)
  | 0 => ⟨⟨hy, hz⟩, fun a b => ⟨a, b⟩⟩
  | k + 1 => by
    obtain ⟨⟨a, b⟩, c⟩ := r2_ok hy hz k
    exact ⟨⟨b, neg_100 a⟩, fun p q => c (neg_z q) p⟩
theorem r3_ok {y z : Int32} (hy : in100 y) (hz : in100 z) : ∀ k, (in100 (r3 y z k).1 ∧ in100 (r3 y z k).2) ∧ ((r3 y z k).1 = 0 → (r3 y z k).2 = 0 → y = 0 ∧ z = 0)
  | 0 => ⟨⟨hy, hz⟩, fun a b => ⟨a, b⟩⟩
  | k + 1 => by
    obtain ⟨⟨a, b⟩, c⟩ := r3_ok hy hz k
    exact ⟨⟨neg_100 b, a⟩, fun p q => c q (neg_z p)⟩
theorem cut_id {v : Int32} (h : in100 v) : nCut v = v := by
  unfold in100 at h
  unfold nCut s_X12_lesser s_X12_greater
  have e1 : (-100 : Int32).toInt = -100 := rfl
  have e2 : (100 : Int32).toInt = 100 := rfl
  by_cases a : v ≤ -100
  · have e : v = -100 := by rw [i32_eq, e1]; rw [i32_le, e1] at a; omega
    subst e
    decide
  · rw [if_neg a]
    by_cases b : 100 ≤ v
    · rw [if_pos b]; rw [i32_le, e2] at b; rw [i32_eq, e2]; omega
    · rw [if_neg b]
theorem cut_100 (v : Int32) : in100 (nCut v) := by
  unfold nCut s_X12_lesser s_X12_greater in100
  have e1 : (-100 : Int32).toInt = -100 := rfl
  have e2 : (100 : Int32).toInt = 100 := rfl
  by_cases a : v ≤ -100
  · rw [if_pos a, if_neg (by decide), e1]; omega
  · rw [if_neg a]
    by_cases b : 100 ≤ v
    · rw [if_pos b, e2]; omega
    · rw [if_neg b]
      rw [i32_le, e1] at a
      rw [i32_le, e2] at b
      omega
theorem noise_eq (v q d : Int32) : cNoise v q d = nNoise v q d := by
  unfold cNoise nNoise nCut s_X12_lesser s_X12_greater
  generalize v + nLot d (2 * q + 1) - q = w
  have e1 : (-100 : Int32).toInt = -100 := rfl
  have e2 : (100 : Int32).toInt = 100 := rfl
  by_cases a : w ≤ -100
  · rw [if_pos a, if_neg (show ¬ (100 : Int32) ≤ -100 by decide)]
    have b : w < 100 := by rw [i32_le, e1] at a; rw [i32_lt, e2]; omega
    rw [if_pos b]
    exact if_neg (by rw [i32_lt]; rw [i32_le] at a; omega)
  · rw [if_neg a]
    by_cases b : 100 ≤ w
    · have c : ¬ w < 100 := by rw [i32_le] at b; rw [i32_lt]; omega
      rw [if_neg c, if_pos b, if_pos (by decide)]
    · have c : w < 100 := by rw [i32_le] at b; rw [i32_lt]; omega
      rw [if_pos c, if_neg b, if_pos (by rw [i32_lt]; rw [i32_le] at a; omega)]
theorem zfix_100 {x y z : Int32} (h : in100 z) : in100 (zFix x y z) := by
  unfold zFix
  repeat' split
  · unfold in100; decide
  · exact h
  · exact h
  · exact h
theorem zfix_nz (x y z : Int32) : ¬ (x = 0 ∧ y = 0 ∧ zFix x y z = 0) := by
  intro q
  have e := q.2.2
  unfold zFix at e
  rw [if_pos q.1, if_pos q.2.1] at e
  by_cases a : z = 0
  · rw [if_pos a] at e; exact absurd e (by decide)
  · rw [if_neg a] at e; exact a e
theorem zfix_id {x y z : Int32} (h : ¬ (x = 0 ∧ y = 0 ∧ z = 0)) : zFix x y z = z := by
  unfold zFix
  by_cases a : x = 0
  · rw [if_pos a]
    by_cases b : y = 0
    · rw [if_pos b, if_neg (fun c => h ⟨a, b, c⟩)]
    · rw [if_neg b]
  · rw [if_neg a]
theorem dLay_dj {gS gP : Nat → Int32} {i : Nat} (hi : i < 8) (x y z : Int32) : dLay (dj gS gP) i x y z = dj gS (w3 gP i x y (zFix x y z)) := by
  unfold dLay
  rw [add_m1 (by omega), dj_w1]
def seX (gS gP : Nat → Int32) (a b c : Nat) (q : Int32) (d : Int32) (i : Nat) : Int32 := if q = 0 then nCut (qX (dj gS gP) i a b c) else nNoise (qX (dj gS gP) i a b c) q d
def seY (gS gP : Nat → Int32) (a b c : Nat) (q : Int32) (d : Int32) (i : Nat) : Int32 := if q = 0 then nCut (qY (dj gS gP) i a b c) else nNoise (qY (dj gS gP) i a b c) q (nDraw d)
def seZ (gS gP : Nat → Int32) (a b : Nat) (q : Int32) (d : Int32) (i : Nat) : Int32 := if q = 0 then nCut (qZ (dj gS gP) i a b) else nNoise (qZ (dj gS gP) i a b) q (nDraw (nDraw d))
theorem se_100X (gS gP : Nat → Int32) (a b c : Nat) (q d : Int32) (i : Nat) : in100 (seX gS gP a b c q d i) := by
  unfold seX; split
  · exact cut_100 _
  · exact cut_100 _
theorem se_100Y (gS gP : Nat → Int32) (a b c : Nat) (q d : Int32) (i : Nat) : in100 (seY gS gP a b c q d i) := by
  unfold seY; split
  · exact cut_100 _
  · exact cut_100 _
theorem se_100Z (gS gP : Nat → Int32) (a b : Nat) (q d : Int32) (i : Nat) : in100 (seZ gS gP a b q d i) := by
  unfold seZ; split
  · exact cut_100 _
  · exact cut_100 _
/-- the class's step -/
theorem see_c {gS gP : Nat → Int32} {n0 a b c i : Nat} {q : Int32} {g : Nat → Int32} {sd : Int32} (hi : i < n0) (hn : n0 ≤ 12) (hd : dOk (dj gS gP)) (nz : nzD gS n0) (hq : 1 ≤ q ↔ ¬ q = 0) : cSee gS n0 a b c q g sd (i + 1) = (w3 (cSee gS n0 a b c q g sd i).1 i (seX gS gP a b c q (cSee gS n0 a b c q g sd i).2 i) (seY gS gP a b c q (cSee gS n0 a b c q g sd i).2 i) (zFix (seX gS gP a b c q (cSee gS n0 a b c q g sd i).2 i) (seY gS gP a b c q (cSee gS n0 a b c q g sd i).2 i) (seZ gS gP a b q (cSee gS n0 a b c q g sd i).2 i)), if q = 0 then (cSee gS n0 a b c q g sd i).2 else nDraw (nDraw (nDraw (cSee gS n0 a b c q g sd i).2))) := by
  have o0 : cSx gS n0 i 0 = oX (dj gS gP) i := partS (w := 0) hi hn (by omega)
  have o1 : cSx gS n0 i 1 = oY (dj gS gP) i := partS (w := 1) hi hn (by omega)
  have o2 : cSx gS n0 i 2 = oZ (dj gS gP) i := partS (w := 2) hi hn (by omega)
  have x : (sQ3 gS n0 a b c i).1 = qX (dj gS gP) i a b c := by
    show (r3 (r2 (cSx gS n0 i 0) (r1 (cSx gS n0 i 1) (cSx gS n0 i 2) a).2 b).1 (r1 (cSx gS n0 i 1) (cSx gS n0 i 2) a).1 c).1 = _
    rw [o0, o1, o2]; rfl
  have y : (sQ3 gS n0 a b c i).2 = qY (dj gS gP) i a b c := by
    show (r3 (r2 (cSx gS n0 i 0) (r1 (cSx gS n0 i 1) (cSx gS n0 i 2) a).2 b).1 (r1 (cSx gS n0 i 1) (cSx gS n0 i 2) a).1 c).2 = _
    rw [o0, o1, o2]; rfl
  have z : (sQ2 gS n0 a b i).2 = qZ (dj gS gP) i a b := by
    show (r2 (cSx gS n0 i 0) (r1 (cSx gS n0 i 1) (cSx gS n0 i 2) a).2 b).2 = _
    rw [o0, o1, o2]; rfl
  show (if 1 ≤ q then (w3 (cSee gS n0 a b c q g sd i).1 i (cNoise (sQ3 gS n0 a b c i).1 q (cSee gS n0 a b c q g sd i).2) (cNoise (sQ3 gS n0 a b c i).2 q (nDraw (cSee gS n0 a b c q g sd i).2)) (zFix (cNoise (sQ3 gS n0 a b c i).1 q (cSee gS n0 a b c q g sd i).2) (cNoise (sQ3 gS n0 a b c i).2 q (nDraw (cSee gS n0 a b c q g sd i).2)) (cNoise (sQ2 gS n0 a b i).2 q (nDraw (nDraw (cSee gS n0 a b c q g sd i).2)))), nDraw (nDraw (nDraw (cSee gS n0 a b c q g sd i).2))) else (w3 (cSee gS n0 a b c q g sd i).1 i (sQ3 gS n0 a b c i).1 (sQ3 gS n0 a b c i).2 (sQ2 gS n0 a b i).2, (cSee gS n0 a b c q g sd i).2)) = _
  rw [x, y, z]
  generalize cSee gS n0 a b c q g sd i = S
  unfold seX seY seZ
  by_cases e : q = 0
  · rw [if_neg (fun h => hq.mp h e), if_pos e, if_pos e, if_pos e, if_pos e]
    have ok := of_okS hd hn nz hi
    have k0 : in100 (oX (dj gS gP) i) := ok.1 0 (by omega)
    have k1 : in100 (oY (dj gS gP) i) := ok.1 1 (by omega)
    have k2 : in100 (oZ (dj gS gP) i) := ok.1 2 (by omega)
    have kz : ¬ (oX (dj gS gP) i = 0 ∧ oY (dj gS gP) i = 0 ∧ oZ (dj gS gP) i = 0) := by
      intro h
      refine ok.2 ⟨?_, ?_, ?_⟩
      · exact (congrArg Int32.toInt h.1)
      · exact (congrArg Int32.toInt h.2.1)
      · exact (congrArg Int32.toInt h.2.2)
    obtain ⟨⟨a1, a2⟩, a3⟩ := r1_ok k1 k2 a
    obtain ⟨⟨b1, b2⟩, b3⟩ := r2_ok k0 a2 b
    obtain ⟨⟨c1, c2⟩, c3⟩ := r3_ok b1 a1 c
    have X1 : nCut (qX (dj gS gP) i a b c) = qX (dj gS gP) i a b c := cut_id c1
    have Y1 : nCut (qY (dj gS gP) i a b c) = qY (dj gS gP) i a b c := cut_id c2
    have Z1 : nCut (qZ (dj gS gP) i a b) = qZ (dj gS gP) i a b := cut_id b2
    rw [X1, Y1, Z1, zfix_id]
    intro h
    obtain ⟨hx, hy, hz⟩ := h
    obtain ⟨p1, p2⟩ := c3 hx hy
    obtain ⟨p3, p4⟩ := b3 p1 hz
    obtain ⟨p5, p6⟩ := a3 p2 p4
    exact kz ⟨p3, p5, p6⟩
  · rw [if_pos (hq.mpr e), if_neg e, if_neg e, if_neg e, if_neg e, noise_eq, noise_eq, noise_eq]
theorem see_m {gS g : Nat → Int32} {a b c i : Nat} {q d : Int32} (hi : i < 8) : seeF a b c q i (dj gS g, d) = (dj gS (w3 g i (seX gS g a b c q d i) (seY gS g a b c q d i) (zFix (seX gS g a b c q d i) (seY gS g a b c q d i) (seZ gS g a b q d i))), if q = 0 then d else nDraw (nDraw (nDraw d))) := by
  show (if q = 0 then (see0 i a b c (dj gS g), d) else (see1 i a b c q d (dj gS g), nDraw (nDraw (nDraw d)))) = _
  unfold seX seY seZ
  by_cases e : q = 0
  · rw [if_pos e, if_pos e, if_pos e, if_pos e, if_pos e]
    unfold see0
    rw [dLay_dj hi]
  · rw [if_neg e, if_neg e, if_neg e, if_neg e, if_neg e]
    unfold see1
    rw [dLay_dj hi]
theorem se_dj {gS g h : Nat → Int32} {i : Nat} (hi : i < 12) : oX (dj gS g) i = oX (dj gS h) i ∧ oY (dj gS g) i = oY (dj gS h) i ∧ oZ (dj gS g) i = oZ (dj gS h) i := by
  refine ⟨?_, ?_, ?_⟩
  · exact (ofS (w := 0) hi (by omega)).trans (ofS (w := 0) hi (by omega)).symm
  · exact (ofS (w := 1) hi (by omega)).trans (ofS (w := 1) hi (by omega)).symm
  · exact (ofS (w := 2) hi (by omega)).trans (ofS (w := 2) hi (by omega)).symm
theorem se_free {gS g h : Nat → Int32} {a b c i : Nat} (hi : i < 12) : qX (dj gS g) i a b c = qX (dj gS h) i a b c ∧ qY (dj gS g) i a b c = qY (dj gS h) i a b c ∧ qZ (dj gS g) i a b = qZ (dj gS h) i a b := by
  obtain ⟨e0, e1, e2⟩ := se_dj (gS := gS) (g := g) (h := h) hi
  unfold qX qY qZ
  rw [e0, e1, e2]
  exact ⟨rfl, rfl, rfl⟩
theorem se_freeX {gS g h : Nat → Int32} {a b c i : Nat} {q d : Int32} (hi : i < 12) : seX gS g a b c q d i = seX gS h a b c q d i ∧ seY gS g a b c q d i = seY gS h a b c q d i ∧ seZ gS g a b q d i = seZ gS h a b q d i := by
  obtain ⟨e0, e1, e2⟩ := se_free (gS := gS) (g := g) (h := h) (a := a) (b := b) (c := c) hi
  unfold seX seY seZ
  rw [e0, e1, e2]
  exact ⟨rfl, rfl, rfl⟩
theorem see_all {gS gP : Nat → Int32} {n0 a b c : Nat} {q sd : Int32} (hn : n0 ≤ 12) (hd : dOk (dj gS gP)) (nz : nzD gS n0) (hq : 1 ≤ q ↔ ¬ q = 0) : ∀ i, i ≤ 8 → i ≤ n0 → seeN a b c q (dj gS gP, sd) i = (dj gS (cSee gS n0 a b c q gP sd i).1, (cSee gS n0 a b c q gP sd i).2) ∧ dOk (dj gS (cSee gS n0 a b c q gP sd i).1) ∧ nzD (cSee gS n0 a b c q gP sd i).1 i
  | 0, _, _ => ⟨rfl, hd, fun i hi => absurd hi (by omega)⟩
  | i + 1, h8, h0 => by
    obtain ⟨e, hd', hz⟩ := see_all hn hd nz hq i (by omega) (by omega)
    have sc := see_c (gP := gP) (a := a) (b := b) (c := c) (g := gP) (sd := sd) (show i < n0 by omega) hn hd nz hq
    have em : seeN a b c q (dj gS gP, sd) (i + 1) = seeF a b c q i (seeN a b c q (dj gS gP, sd) i) := rfl
    rw [em, e, see_m (by omega), sc]
    generalize cSee gS n0 a b c q gP sd i = S at hd' hz ⊢
    obtain ⟨x, y, z⟩ := se_freeX (gS := gS) (g := S.1) (h := gP) (a := a) (b := b) (c := c) (q := q) (d := S.2) (show i < 12 by omega)
    rw [x, y, z]
    exact ⟨rfl, dOk_w1 hd' (se_100X _ _ _ _ _ _ _ _) (se_100Y _ _ _ _ _ _ _ _) (zfix_100 (se_100Z _ _ _ _ _ _ _)), nzD_w hz (zfix_nz _ _ _)⟩
theorem less8n {n : Nat} (hn : n ≤ 12) : (s_X12_lesser (8 : Int32) (nI n)).toInt = if n ≤ 8 then (n : Int) else 8 := by
  unfold s_X12_lesser
  have e : (8 : Int32).toInt = 8 := rfl
  by_cases h : nI n ≤ 8
  · rw [if_pos h]
    rw [i32_le, nI_toInt (by omega), e] at h
    rw [if_pos (by omega), nI_toInt (by omega)]
  · rw [if_neg h]
    rw [i32_le, nI_toInt (by omega), e] at h
    rw [if_neg (by omega), e]
theorem p_see {l : Launch} {D : va_G} {ca ss ad : Nat → Nat} (n a b c sd q : Int32) : gPr l D ca ss ad yX11_see cX11_see 9 2 yX12_see cX12_see 8 3 [.int n, .int a, .int b, .int c, .int sd, .int q] := by
  intro f hJ
  have hJ' := hJ
  obtain ⟨la, n0, n1, gS, gP, se, tS, tP, tZ, tG, fm, ln, sG, mn, tr, tm, ho, fo, sz, it, hC, hM, hR⟩ := hJ
  have hC' := hC
  obtain ⟨hc0, hI, hT, hS⟩ := hC
  have hR' := hR
  obtain ⟨wO, h0, h1, nzS, nzP, hTR, hTO, hHR, hSR⟩ := hR
  have hI' := hI
  obtain ⟨⟨hn0, hn1, d2, d3, d4, d5, d6⟩, hCel, lo', ma', bt, bc, sp, sc, fk, bk, sk, e1, -⟩ := hI
  have z0 : (0 : Int32).toInt = 0 := rfl
  have z3 : (3 : Int32).toInt = 3 := rfl
  have z8 : (8 : Int32).toInt = 8 := rfl
  have y0 : (0 : Int64).toInt = 0 := rfl
  have y3 : (3 : Int64).toInt = 3 := rfl
  have hl := less8n hn0
  have cA : (¬ s_X11_isWithin n (0 : Int32) (8 : Int32) = 0 ∧ ¬ nI n0 < n ∧ ¬ s_X11_isWithin q (0 : Int32) (3 : Int32) = 0 ∧ ¬ s_X11_isWithin a (0 : Int32) (3 : Int32) = 0 ∧ ¬ s_X11_isWithin b (0 : Int32) (3 : Int32) = 0 ∧ ¬ s_X11_isWithin c (0 : Int32) (3 : Int32) = 0) ↔ ((0 ≤ n.toInt ∧ n.toInt ≤ 8 ∧ n.toInt ≤ n0) ∧ (0 ≤ a.toInt ∧ a.toInt ≤ 3) ∧ (0 ≤ b.toInt ∧ b.toInt ≤ 3) ∧ (0 ≤ c.toInt ∧ c.toInt ≤ 3) ∧ (0 ≤ q.toInt ∧ q.toInt ≤ 3)) := by
    rw [in_yes, in_yes, in_yes, in_yes, in_yes, i32_lt, nI_toInt (by omega), z0, z3, z8]
    omega
  have cB : (¬ s_X12_in n.toInt64 (0 : Int64) (s_X12_lesser (8 : Int32) (nI n0)).toInt64 = 0 ∧ ¬ s_X12_in a.toInt64 (0 : Int64) (3 : Int64) = 0 ∧ ¬ s_X12_in b.toInt64 (0 : Int64) (3 : Int64) = 0 ∧ ¬ s_X12_in c.toInt64 (0 : Int64) (3 : Int64) = 0 ∧ ¬ s_X12_in q.toInt64 (0 : Int64) (3 : Int64) = 0) ↔ ((0 ≤ n.toInt ∧ n.toInt ≤ 8 ∧ n.toInt ≤ n0) ∧ (0 ≤ a.toInt ∧ a.toInt ≤ 3) ∧ (0 ≤ b.toInt ∧ b.toInt ≤ 3) ∧ (0 ≤ c.toInt ∧ c.toInt ≤ 3) ∧ (0 ≤ q.toInt ∧ q.toInt ≤ 3)) := by
    rw [min_yes, min_yes, min_yes, min_yes, min_yes, i32_w, i32_w, i32_w, i32_w, i32_w, i32_w, hl, y0, y3]
    by_cases h8 : n0 ≤ 8
    · rw [if_pos h8]; omega
    · rw [if_neg h8]; omega
  by_cases ok : ((0 ≤ n.toInt ∧ n.toInt ≤ 8 ∧ n.toInt ≤ n0) ∧ (0 ≤ a.toInt ∧ a.toInt ≤ 3) ∧ (0 ≤ b.toInt ∧ b.toInt ≤ 3) ∧ (0 ≤ c.toInt ∧ c.toInt ≤ 3) ∧ (0 ≤ q.toInt ∧ q.toInt ≤ 3))
  · obtain ⟨A1, A2, A3, A4, A5, A6⟩ := cA.mpr ok
    obtain ⟨B1, B2, B3, B4, B5⟩ := cB.mpr ok
    have hq : 1 ≤ q ↔ ¬ q = 0 := by
      have z1 : (1 : Int32).toInt = 1 := rfl
      rw [i32_le, i32_eq, z0, z1]
      omega
    obtain ⟨N, hN, rfl⟩ := ln_n (x := n) (by omega)
    have eN : (nI N).toNatClampNeg = N := nI_clamp (by omega)
    obtain ⟨X, hX, rfl⟩ := ln_n (x := a) (by omega)
    have eX : (nI X).toNatClampNeg = X := nI_clamp (by omega)
    obtain ⟨Y, hY, rfl⟩ := ln_n (x := b) (by omega)
    have eY : (nI Y).toNatClampNeg = Y := nI_clamp (by omega)
    obtain ⟨Z, hZ, rfl⟩ := ln_n (x := c) (by omega)
    have eZ : (nI Z).toNatClampNeg = Z := nI_clamp (by omega)
    have hN2 : N ≤ 8 ∧ N ≤ n0 := by
      have := ok.1
      rw [nI_toInt (by omega)] at this
      omega
    obtain ⟨s1, s2, s3⟩ := see_all (a := X) (b := Y) (c := Z) (q := q) (sd := sd) hn0 wO.2.2.1 nzS hq N hN2.1 hN2.2
    refine ⟨nI N, fun u => cSI ca ad n0 N gS (cSee gS n0 X Y Z q gP sd N).1 se u ∧ ∀ k, k = 0 ∨ 69 ≤ k → u k = f k, gMi_mono (c_see (nI N) (nI X) (nI Y) (nI Z) sd q la n0 n1 gS gP se hc0 hI') (fun r u h => by rw [if_neg A1, if_neg A2, if_neg A3, if_neg A4, if_neg A5, if_neg A6, eN, eX, eY, eZ] at h; exact h), fun u hu => ?_⟩
    have hMu := JM_c hM (fun k h _ => hu.2 k (by omega))
    have hCu := JC_n hC' hu.1 hu.2
    obtain ⟨dr, lo, ma, pa, tu, su, vo, so, ro, us, pl, sur, far, mo, sta, spa, sf, b87, b88, b89, b90, b91, b92, b93, b94, b95, b96, b97, b98, b99, b100, b101, b102, b103, b104, b105, b106, b107⟩ := hMu
    refine gMm b87 (c_X12_see (l := l) (D := D) (ss := ss) (nI N) (nI X) (nI Y) (nI Z) sd q la dr (-1) lo ma pa tu su (dj gS gP) mn b87 b92 b93) (fun r u' h => ?_)
    unfold s_X12_see at h
    rw [h0, if_neg B1, if_neg B2, if_neg B3, if_neg B4, if_neg B5, eN, eX, eY, eZ, s1] at h
    obtain ⟨rfl, rfl⟩ := pair_eq h
    exact ⟨rfl, ⟨la, n0, N, gS, (cSee gS n0 X Y Z q gP sd N).1, se, tS, tP, tZ, tG, fm, ln, sG, upd mn 1 (nI N), tr, tm, ho, fo, sz, it, JC_c hCu (fun k hk => up_nx (by omega) (up_nx (by omega) (up_nx (by omega) (rfl)))), ⟨(cSee gS n0 X Y Z q gP sd N).2, lo, ma, pa, tu, su, vo, so, ro, us, pl, sur, far, mo, sta, spa, sf, up_nx (by decide) (up_nx (by decide) (va_up_self _ _ _)), up_nx (by decide) (up_nx (by decide) (up_nx (by decide) (b88))), up_nx (by decide) (up_nx (by decide) (up_nx (by decide) (b89))), up_nx (by decide) (up_nx (by decide) (up_nx (by decide) (b90))), up_nx (by decide) (up_nx (by decide) (up_nx (by decide) (b91))), up_nx (by decide) (va_up_self _ _ _), va_up_self _ _ _, up_nx (by decide) (up_nx (by decide) (up_nx (by decide) (b94))), up_nx (by decide) (up_nx (by decide) (up_nx (by decide) (b95))), up_nx (by decide) (up_nx (by decide) (up_nx (by decide) (b96))), up_nx (by decide) (up_nx (by decide) (up_nx (by decide) (b97))), up_nx (by decide) (up_nx (by decide) (up_nx (by decide) (b98))), up_nx (by decide) (up_nx (by decide) (up_nx (by decide) (b99))), up_nx (by decide) (up_nx (by decide) (up_nx (by decide) (b100))), up_nx (by decide) (up_nx (by decide) (up_nx (by decide) (b101))), up_nx (by decide) (up_nx (by decide) (up_nx (by decide) (b102))), up_nx (by decide) (up_nx (by decide) (up_nx (by decide) (b103))), up_nx (by decide) (up_nx (by decide) (up_nx (by decide) (b104))), up_nx (by decide) (up_nx (by decide) (up_nx (by decide) (b105))), up_nx (by decide) (up_nx (by decide) (up_nx (by decide) (b106))), up_nx (by decide) (up_nx (by decide) (up_nx (by decide) (b107)))⟩, ⟨wO.1, hN2.1, s2, wO.2.2.2⟩, mn_u1.trans h0, pk_us, nzS, s3, hTR, hTO, hHR, hSR⟩⟩
  · have kA := fun z => ok (cA.mp z)
    have kB := fun z => ok (cB.mp z)
    refine ⟨-2, fun u => u = f, gMi_mono (c_see n a b c sd q la n0 n1 gS gP se hc0 hI') (fun r u h => by rw [if6 kA] at h; exact h), fun u hu => ?_⟩
    subst hu
    obtain ⟨dr, lo, ma, pa, tu, su, vo, so, ro, us, pl, sur, far, mo, sta, spa, sf, a87, a88, a89, a90, a91, a92, a93, a94, a95, a96, a97, a98, a99, a100, a101, a102, a103, a104, a105, a106, a107⟩ := hM
    refine gMm a87 (c_X12_see (l := l) (D := D) (ss := ss) n a b c sd q la dr (-1) lo ma pa tu su (dj gS gP) mn a87 a92 a93) (fun r u' h => ?_)
    unfold s_X12_see at h
    rw [h0, if5 kB] at h
    obtain ⟨rfl, rfl⟩ := pair_eq h
    exact ⟨rfl, hJ'⟩

