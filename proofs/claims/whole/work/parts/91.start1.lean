/-! THE START: the world behind the two makings -/
theorem gWn_app (a b : Nat → Nat) (M N : Nat) (F G : Nat → va_E) : gWn a M F ++ gWn b N G = gWn (fun k => if k < M then a k else b (k - M)) (M + N) (fun k => if k < M then F k else G (k - M)) := by
  unfold gWn
  have h1 : (List.range M).map (fun k => (a k, F k)) = (List.range M).map (fun k => ((if k < M then a k else b (k - M)), (if k < M then F k else G (k - M)))) := List.map_congr_left (fun k hk => by
    have hk := List.mem_range.mp hk
    rw [if_pos hk, if_pos hk])
  have h2 : (List.range N).map (fun k => (b k, G k)) = ((List.range N).map (fun k => M + k)).map (fun k => ((if k < M then a k else b (k - M)), (if k < M then F k else G (k - M)))) := by
    rw [List.map_map]
    refine List.map_congr_left (fun k hk => ?_)
    show (b k, G k) = ((if M + k < M then a (M + k) else b (M + k - M)), (if M + k < M then F (M + k) else G (M + k - M)))
    rw [if_neg (by omega), if_neg (by omega), Nat.add_sub_cancel_left]
  rw [h1, h2, ← List.map_append, ← List.range_add]
theorem kP_ext {D : va_G} {ad : Nat → Nat} {N : Nat} {f g : Nat → va_E} {H : Heap} (h : ∀ k, k < N → f k = g k ∨ ∃ (cA : ClassId) (nn : Nat) (x y : (Nat → Int32) ⊕ (Nat → Int64) ⊕ (Nat → UInt32) ⊕ (Nat → UInt64) ⊕ (Nat → Option Nat)), f k = .inl (cA, nn, x) ∧ g k = .inl (cA, nn, y) ∧ vp_cell cA (nn, x) = vp_cell cA (nn, y)) (hP : va_P D vwCl (gWn ad N f) H) : va_P D vwCl (gWn ad N g) H := by
  intro k q hk
  obtain ⟨hkN, rfl⟩ := gWn_inv hk
  have h0 := hP k (ad k, f k) (gWn_get hkN rfl)
  rcases h k hkN with e | ⟨cA, nn, x, y, e1, e2, e3⟩
  · rw [← e]; exact h0
  · rw [e1] at h0
    rw [e2]
    show H[ad k]? = some (vp_cell cA (nn, y))
    rw [← e3]
    exact h0
theorem kD_ext {A : Nat → Prop} {ad : Nat → Nat} {N : Nat} {f g : Nat → va_E} (hD : va_D A (gWn ad N f)) : va_D A (gWn ad N g) := by
  refine ⟨fun i j x y hi hj e => ?_, fun k x hx => ?_⟩
  · obtain ⟨hiN, rfl⟩ := gWn_inv hi
    obtain ⟨hjN, rfl⟩ := gWn_inv hj
    exact hD.1 i j (ad i, f i) (ad j, f j) (gWn_get hiN rfl) (gWn_get hjN rfl) e
  · obtain ⟨hkN, rfl⟩ := gWn_inv hx
    exact hD.2 k (ad k, f k) (gWn_get hkN rfl)
def adW (a b : Nat → Nat) : Nat → Nat := fun k => if k < 87 then a k else b (k - 87)
def fW (ca ad : Nat → Nat) : Nat → va_E := fun k => if k < 87 then starF ca ad k else modelF ca (fun j => ad (87 + j)) (k - 87)
theorem adW_lo {a b : Nat → Nat} {k : Nat} (h : k < 87) : adW a b k = a k := if_pos h
theorem adW_hi (a b : Nat → Nat) : (fun j => adW a b (87 + j)) = b := by
  funext j
  unfold adW
  rw [if_neg (by omega), Nat.add_sub_cancel_left]
theorem qR_ext {cA : ClassId} {a b : Nat → Nat} {n o : Nat} (h : o + n ≤ 87) : vp_cell cA (n, .inr (.inr (.inr (.inr (qR a o))))) = vp_cell cA (n, .inr (.inr (.inr (.inr (qR (adW a b) o))))) := vp_q_ext (fun j hj => by
  unfold qR
  rw [adW_lo (by omega)])
theorem q2_ext {cA : ClassId} {a b : Nat → Nat} {n o : Nat} (h : o + 2 * n ≤ 88) : vp_cell cA (n, .inr (.inr (.inr (.inr (q2 a o))))) = vp_cell cA (n, .inr (.inr (.inr (.inr (q2 (adW a b) o))))) := vp_q_ext (fun j hj => by
  unfold q2
  rw [adW_lo (by omega)])
set_option maxHeartbeats 4000000 in
set_option maxRecDepth 100000 in
theorem starF_ext (ca a b : Nat → Nat) : ∀ k, k < 87 → starF ca a k = starF ca (adW a b) k ∨ ∃ (cA : ClassId) (nn : Nat) (x y : (Nat → Int32) ⊕ (Nat → Int64) ⊕ (Nat → UInt32) ⊕ (Nat → UInt64) ⊕ (Nat → Option Nat)), starF ca a k = .inl (cA, nn, x) ∧ starF ca (adW a b) k = .inl (cA, nn, y) ∧ vp_cell cA (nn, x) = vp_cell cA (nn, y)
  | 0, _ => Or.inl rfl
  | 1, _ => Or.inl rfl
  | 2, _ => Or.inl rfl
  | 3, _ => Or.inl rfl
  | 4, _ => Or.inl rfl
  | 5, _ => Or.inl rfl
  | 6, _ => Or.inl rfl
  | 7, _ => Or.inl rfl
  | 8, _ => Or.inl rfl
  | 9, _ => Or.inl rfl
  | 10, _ => Or.inl rfl
  | 11, _ => Or.inl rfl
  | 12, _ => Or.inl rfl
  | 13, _ => Or.inl rfl
  | 14, _ => Or.inl rfl
  | 15, _ => Or.inr ⟨ca 5, 21, .inr (.inr (.inr (.inr (qR a 16)))), .inr (.inr (.inr (.inr (qR (adW a b) 16)))), rfl, rfl, qR_ext (Nat.le_of_ble_eq_true rfl)⟩
  | 16, _ => Or.inl rfl
  | 17, _ => Or.inl rfl
  | 18, _ => Or.inl rfl
  | 19, _ => Or.inl rfl
  | 20, _ => Or.inl rfl
  | 21, _ => Or.inl rfl
  | 22, _ => Or.inl rfl
  | 23, _ => Or.inl rfl
  | 24, _ => Or.inl rfl
  | 25, _ => Or.inl rfl
  | 26, _ => Or.inl rfl
  | 27, _ => Or.inl rfl
  | 28, _ => Or.inl rfl
  | 29, _ => Or.inl rfl
  | 30, _ => Or.inl rfl
  | 31, _ => Or.inl rfl
  | 32, _ => Or.inl rfl
  | 33, _ => Or.inl rfl
  | 34, _ => Or.inl rfl
  | 35, _ => Or.inl rfl
  | 36, _ => Or.inl rfl
  | 37, _ => Or.inl rfl
  | 38, _ => Or.inr ⟨ca 5, 8, .inr (.inr (.inr (.inr (qR a 39)))), .inr (.inr (.inr (.inr (qR (adW a b) 39)))), rfl, rfl, qR_ext (Nat.le_of_ble_eq_true rfl)⟩
  | 39, _ => Or.inl rfl
  | 40, _ => Or.inl rfl
  | 41, _ => Or.inl rfl
  | 42, _ => Or.inl rfl
  | 43, _ => Or.inl rfl
  | 44, _ => Or.inl rfl
  | 45, _ => Or.inl rfl
  | 46, _ => Or.inl rfl
  | 47, _ => Or.inl rfl
  | 48, _ => Or.inl rfl
  | 49, _ => Or.inl rfl
  | 50, _ => Or.inl rfl
  | 51, _ => Or.inl rfl
  | 52, _ => Or.inl rfl
  | 53, _ => Or.inl rfl
  | 54, _ => Or.inl rfl
  | 55, _ => Or.inl rfl
  | 56, _ => Or.inl rfl
  | 57, _ => Or.inl rfl
  | 58, _ => Or.inl rfl
  | 59, _ => Or.inl rfl
  | 60, _ => Or.inl rfl
  | 61, _ => Or.inl rfl
  | 62, _ => Or.inl rfl
  | 63, _ => Or.inl rfl
  | 64, _ => Or.inl rfl
  | 65, _ => Or.inl rfl
  | 66, _ => Or.inl rfl
  | 67, _ => Or.inl rfl
  | 68, _ => Or.inl rfl
  | 69, _ => Or.inr ⟨ca 4, 4, .inr (.inr (.inr (.inr (q2 a 71)))), .inr (.inr (.inr (.inr (q2 (adW a b) 71)))), rfl, rfl, q2_ext (Nat.le_of_ble_eq_true rfl)⟩
  | 70, _ => Or.inr ⟨ca 3, 4, .inr (.inr (.inr (.inr (q2 a 79)))), .inr (.inr (.inr (.inr (q2 (adW a b) 79)))), rfl, rfl, q2_ext (Nat.le_of_ble_eq_true rfl)⟩
  | 71, _ => Or.inl rfl
  | 72, _ => Or.inl rfl
  | 73, _ => Or.inl rfl
  | 74, _ => Or.inl rfl
  | 75, _ => Or.inl rfl
  | 76, _ => Or.inl rfl
  | 77, _ => Or.inl rfl
  | 78, _ => Or.inl rfl
  | 79, _ => Or.inl rfl
  | 80, _ => Or.inl rfl
  | 81, _ => Or.inl rfl
  | 82, _ => Or.inl rfl
  | 83, _ => Or.inl rfl
  | 84, _ => Or.inl rfl
  | 85, _ => Or.inl rfl
  | 86, _ => Or.inl rfl
  | k + 87, h => absurd h (by omega)
theorem fW_ext (ca a b : Nat → Nat) : ∀ k, k < 108 → (if k < 87 then starF ca a k else modelF ca b (k - 87)) = fW ca (adW a b) k ∨ ∃ (cA : ClassId) (nn : Nat) (x y : (Nat → Int32) ⊕ (Nat → Int64) ⊕ (Nat → UInt32) ⊕ (Nat → UInt64) ⊕ (Nat → Option Nat)), (if k < 87 then starF ca a k else modelF ca b (k - 87)) = .inl (cA, nn, x) ∧ fW ca (adW a b) k = .inl (cA, nn, y) ∧ vp_cell cA (nn, x) = vp_cell cA (nn, y) := by
  intro k hk
  unfold fW
  by_cases h : k < 87
  · rw [if_pos h, if_pos h]
    exact starF_ext ca a b k h
  · rw [if_neg h, if_neg h, adW_hi]
    exact Or.inl rfl
/-- both are made: the world in one -/
theorem kj_both {p : Program} {l : Launch} {e : Env} {R : Room} {s : State} {m : MethodId} {args : Array Value} {below : List Frame} {meth : Method} {c : Code} {A : Nat → Prop} {Q : State → Prop} {D : va_G} {n : Nat} {cells slots : Nat} {lv : List (Nat × Value)} {pc : Nat} {rest : List Value} (ca a b : Nat → Nat) (k : kJ p l e R s m args below meth c A Q D n (gWn (adW a b) 108 (fW ca (adW a b))) cells slots lv pc rest) : kJ p l e R s m args below meth c A Q D n (gWn a 87 (starF ca a) ++ gWn b 21 (modelF ca b)) cells slots lv pc rest := by
  intro H locs ls hP hD hS hl
  rw [gWn_app] at hP hD
  exact k H locs ls (kP_ext (fW_ext ca a b) hP) (kD_ext hD) hS hl
theorem dj0 : dj (kI 0) (kI 0) = kI 0 := by
  funext j
  unfold dj kI
  split <;> rfl
abbrev se0 : Nat → Int32 := fun j => gFirst.getD j 0
abbrev tS0 : Nat → Int32 := fun t => if t = 1 then 0 else 1
abbrev tP0 : Nat → Int32 := fun t => if t = 0 then 0 else 1
theorem c4 {t : Nat} (h : t < 4) : t = 0 ∨ t = 1 ∨ t = 2 ∨ t = 3 := by omega
theorem jr0 : JR 0 0 (kI 0) (kI 0) se0 tS0 tP0 (kI 0) (fun _ => kI 0) (kI (-1)) (kI 0) (fun _ => kI 0) (kI 0) (kI 0) (kI 0) (fun j => nI j) (kI (-1)) (kI 0) (kI 0) := by
  refine ⟨⟨by omega, by omega, ?_, by decide, by decide, by decide, by decide⟩, rfl, rfl, fun i hi => absurd hi (by omega), fun i hi => absurd hi (by omega), ?_, ?_, ?_, ?_⟩
  · rw [dj0]
    intro j hj
    show -100 ≤ (0 : Int32).toInt ∧ (0 : Int32).toInt ≤ 100
    decide
  · intro t ht
    exact ⟨rfl, by show 0 ≤ (0 : Int32).toInt ∧ (0 : Int32).toInt ≤ 8; decide, fun j hj => rfl⟩
  · intro a m ha hm
    have hm : (m : Int) < (0 : Int32).toInt := hm
    have z : (0 : Int32).toInt = 0 := rfl
    omega
  · intro t ht
    rcases c4 ht with rfl | rfl | rfl | rfl <;> decide
  · intro t ht
    refine ⟨rfl, by show -1 ≤ (-1 : Int32).toInt ∧ (-1 : Int32).toInt ≤ 2; decide, by show 0 ≤ (0 : Int32).toInt ∧ (0 : Int32).toInt ≤ 60; decide, fun q => absurd rfl q⟩
set_option maxHeartbeats 4000000 in
set_option maxRecDepth 100000 in
theorem jc0 (ca ad : Nat → Nat) : JC ca ad 0 0 0 (kI 0) (kI 0) se0 tS0 tP0 (kI 0) (fun _ => kI 0) (kI (-1)) (kI 0) (fun _ => kI 0) (fW ca ad) := by
  refine ⟨rfl, ⟨⟨by omega, by omega, rfl, rfl, rfl, rfl, rfl⟩, ⟨⟨0, 0, kI 0, kI 0, kI 0, kI 0, rfl, rfl, rfl, rfl, rfl⟩, ⟨0, 0, kI 0, rfl, rfl⟩, ⟨rfl, rfl, fun _ => kI 0, ?_⟩, ⟨⟨0, rfl⟩, rfl, fun _ => kI 0, ?_⟩, ⟨0, 0, 0, 0, kI 0, kI 0, kI 0, kI 0, kI 0, kI 0, kL, kL, rfl, rfl, rfl, rfl, rfl, rfl, rfl, rfl, rfl, rfl, rfl⟩, ⟨0, 0, 0, 0, kI 0, kI 0, kI 0, kI 0, kI 0, kI 0, kL, kL, rfl, rfl, rfl, rfl, rfl, rfl, rfl, rfl, rfl, rfl, rfl⟩⟩, ⟨0, 0, 0, 0, 0, 0, 0, 0, 0, rfl, Or.inl rfl, Or.inl rfl, Or.inl rfl⟩⟩, ⟨rfl, ?_⟩, ⟨rfl, ?_⟩⟩
  · intro s hs
    rcases (show s = 0 ∨ s = 1 ∨ s = 2 ∨ s = 3 ∨ s = 4 ∨ s = 5 ∨ s = 6 ∨ s = 7 ∨ s = 8 ∨ s = 9 ∨ s = 10 ∨ s = 11 ∨ s = 12 ∨ s = 13 ∨ s = 14 ∨ s = 15 ∨ s = 16 ∨ s = 17 ∨ s = 18 ∨ s = 19 ∨ s = 20 by omega) with rfl | rfl | rfl | rfl | rfl | rfl | rfl | rfl | rfl | rfl | rfl | rfl | rfl | rfl | rfl | rfl | rfl | rfl | rfl | rfl | rfl <;> rfl
  · intro s hs
    rcases (show s = 0 ∨ s = 1 ∨ s = 2 ∨ s = 3 ∨ s = 4 ∨ s = 5 ∨ s = 6 ∨ s = 7 by omega) with rfl | rfl | rfl | rfl | rfl | rfl | rfl | rfl <;> rfl
  · intro t ht
    rcases c4 ht with rfl | rfl | rfl | rfl
    · exact ⟨Or.inr rfl, Or.inl rfl, by decide, rfl, rfl⟩
    · exact ⟨Or.inl rfl, Or.inr rfl, by decide, rfl, rfl⟩
    · exact ⟨Or.inr rfl, Or.inr rfl, by decide, rfl, rfl⟩
    · exact ⟨Or.inr rfl, Or.inr rfl, by decide, rfl, rfl⟩
  · intro t ht
    rcases c4 ht with rfl | rfl | rfl | rfl <;> exact ⟨by decide, rfl, rfl⟩
set_option maxHeartbeats 4000000 in
set_option maxRecDepth 100000 in
theorem jm0 (ca ad : Nat → Nat) : JM ca ad 0 (kI 0) (kI 0) se0 (kI 0) (kI 0) (fun j => nI j) (kI (-1)) (kI 0) (kI 0) (fW ca ad) := ⟨0, 0, 0, 0, 0, 0, kI 0, kI 0, kI 0, kI 0, kI 0, kI 0, kI 0, kI 0, kL, kL, kL, rfl, rfl, rfl, rfl, rfl, rfl, rfl, rfl, rfl, rfl, rfl, rfl, rfl, rfl, rfl, rfl, rfl, rfl, rfl, rfl, rfl⟩
theorem jj0 (ca ad : Nat → Nat) : JJ ca ad (fW ca ad) := ⟨0, 0, 0, kI 0, kI 0, se0, tS0, tP0, kI 0, fun _ => kI 0, kI (-1), kI 0, fun _ => kI 0, kI 0, kI 0, kI 0, fun j => nI j, kI (-1), kI 0, kI 0, jc0 ca ad, (by rw [dj0]; exact jm0 ca ad), jr0⟩
