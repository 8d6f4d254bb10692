-- ===== PART A: goes FIRST, ahead of the names: the tables' words, and 'selects' of the private methods out of them =====
/-- a private method of a class that the tables say can be made, by its rows of tables_1 -/
def lw_okq (q : MethodName × Nat) : Prop := (q.1.cls ≠ "java/lang/invoke/MethodHandle" ∧ q.1.cls ≠ "java/lang/invoke/VarHandle") ∧ Cond.instantiable q.1.cls q.2 ∈ tables_1 ∧ Cond.privateMethod q.1 ∈ tables_1 ∧ Cond.instanceMethod q.1 ∈ tables_1
theorem lw_p0 : lw_okq (⟨"StarTracker", "isOne", "(II)Z"⟩, 4) := ⟨⟨by decide +kernel, by decide +kernel⟩, List.mem_of_getElem? (i := 19) (by decide +kernel), List.mem_of_getElem? (i := 364) (by decide +kernel), List.mem_of_getElem? (i := 365) (by decide +kernel)⟩
theorem lw_p1 : lw_okq (⟨"StarTracker", "find", "(I)I"⟩, 4) := ⟨⟨by decide +kernel, by decide +kernel⟩, List.mem_of_getElem? (i := 19) (by decide +kernel), List.mem_of_getElem? (i := 390) (by decide +kernel), List.mem_of_getElem? (i := 391) (by decide +kernel)⟩
theorem lw_p2 : lw_okq (⟨"StarTracker$Matcher", "listStarTriangles", "(II)V"⟩, 6) := ⟨⟨by decide +kernel, by decide +kernel⟩, List.mem_of_getElem? (i := 62) (by decide +kernel), List.mem_of_getElem? (i := 476) (by decide +kernel), List.mem_of_getElem? (i := 477) (by decide +kernel)⟩
theorem lw_p3 : lw_okq (⟨"StarTracker$Matcher", "listStarTriangle", "(IIII)V"⟩, 6) := ⟨⟨by decide +kernel, by decide +kernel⟩, List.mem_of_getElem? (i := 62) (by decide +kernel), List.mem_of_getElem? (i := 480) (by decide +kernel), List.mem_of_getElem? (i := 481) (by decide +kernel)⟩
theorem lw_p4 : lw_okq (⟨"StarTracker$Matcher", "starSide", "(II)I"⟩, 6) := ⟨⟨by decide +kernel, by decide +kernel⟩, List.mem_of_getElem? (i := 62) (by decide +kernel), List.mem_of_getElem? (i := 484) (by decide +kernel), List.mem_of_getElem? (i := 485) (by decide +kernel)⟩
theorem lw_p5 : lw_okq (⟨"StarTracker$Matcher", "lookAround", "(IIIILStarTracker$Tally;)V"⟩, 6) := ⟨⟨by decide +kernel, by decide +kernel⟩, List.mem_of_getElem? (i := 62) (by decide +kernel), List.mem_of_getElem? (i := 489) (by decide +kernel), List.mem_of_getElem? (i := 490) (by decide +kernel)⟩
theorem lw_p6 : lw_okq (⟨"StarTracker$Matcher", "spotSide", "(II)I"⟩, 6) := ⟨⟨by decide +kernel, by decide +kernel⟩, List.mem_of_getElem? (i := 62) (by decide +kernel), List.mem_of_getElem? (i := 493) (by decide +kernel), List.mem_of_getElem? (i := 494) (by decide +kernel)⟩
theorem lw_p7 : lw_okq (⟨"StarTracker$Matcher", "tellOrders", "(IIIILStarTracker$Tally;)V"⟩, 6) := ⟨⟨by decide +kernel, by decide +kernel⟩, List.mem_of_getElem? (i := 62) (by decide +kernel), List.mem_of_getElem? (i := 500) (by decide +kernel), List.mem_of_getElem? (i := 501) (by decide +kernel)⟩
theorem lw_p8 : lw_okq (⟨"StarTracker$Fix", "takePairs", "(II[II)V"⟩, 12) := ⟨⟨by decide +kernel, by decide +kernel⟩, List.mem_of_getElem? (i := 137) (by decide +kernel), List.mem_of_getElem? (i := 527) (by decide +kernel), List.mem_of_getElem? (i := 528) (by decide +kernel)⟩
theorem lw_p9 : lw_okq (⟨"StarTracker$Fix", "surestPair", "(II[II)I"⟩, 12) := ⟨⟨by decide +kernel, by decide +kernel⟩, List.mem_of_getElem? (i := 137) (by decide +kernel), List.mem_of_getElem? (i := 532) (by decide +kernel), List.mem_of_getElem? (i := 533) (by decide +kernel)⟩
theorem lw_p10 : lw_okq (⟨"StarTracker$Fix", "findTurn", "(LStarTracker$Directions;LStarTracker$Directions;)V"⟩, 12) := ⟨⟨by decide +kernel, by decide +kernel⟩, List.mem_of_getElem? (i := 137) (by decide +kernel), List.mem_of_getElem? (i := 537) (by decide +kernel), List.mem_of_getElem? (i := 538) (by decide +kernel)⟩
theorem lw_p11 : lw_okq (⟨"StarTracker$Arms", "multiply", "(III)V"⟩, 1) := ⟨⟨by decide +kernel, by decide +kernel⟩, List.mem_of_getElem? (i := 143) (by decide +kernel), List.mem_of_getElem? (i := 546) (by decide +kernel), List.mem_of_getElem? (i := 547) (by decide +kernel)⟩
theorem lw_p12 : lw_okq (⟨"StarTracker$Fix", "findPlace", "(IIII)V"⟩, 12) := ⟨⟨by decide +kernel, by decide +kernel⟩, List.mem_of_getElem? (i := 137) (by decide +kernel), List.mem_of_getElem? (i := 555) (by decide +kernel), List.mem_of_getElem? (i := 556) (by decide +kernel)⟩
theorem lw_p13 : lw_okq (⟨"StarTracker$Fix", "confirmSpots", "(ILStarTracker$Directions;II)V"⟩, 12) := ⟨⟨by decide +kernel, by decide +kernel⟩, List.mem_of_getElem? (i := 137) (by decide +kernel), List.mem_of_getElem? (i := 575) (by decide +kernel), List.mem_of_getElem? (i := 576) (by decide +kernel)⟩
theorem lw_p14 : lw_okq (⟨"StarTracker$Fix", "nearestStar", "(IIIII)I"⟩, 12) := ⟨⟨by decide +kernel, by decide +kernel⟩, List.mem_of_getElem? (i := 137) (by decide +kernel), List.mem_of_getElem? (i := 579) (by decide +kernel), List.mem_of_getElem? (i := 580) (by decide +kernel)⟩
theorem lw_p15 : lw_okq (⟨"StarTracker$Fix", "farOf", "(IIII)J"⟩, 12) := ⟨⟨by decide +kernel, by decide +kernel⟩, List.mem_of_getElem? (i := 137) (by decide +kernel), List.mem_of_getElem? (i := 583) (by decide +kernel), List.mem_of_getElem? (i := 584) (by decide +kernel)⟩
def lw_privs_1 : List (MethodName × Nat) := [(⟨"StarTracker", "isOne", "(II)Z"⟩, 4), (⟨"StarTracker", "find", "(I)I"⟩, 4), (⟨"StarTracker$Matcher", "listStarTriangles", "(II)V"⟩, 6), (⟨"StarTracker$Matcher", "listStarTriangle", "(IIII)V"⟩, 6), (⟨"StarTracker$Matcher", "starSide", "(II)I"⟩, 6), (⟨"StarTracker$Matcher", "lookAround", "(IIIILStarTracker$Tally;)V"⟩, 6), (⟨"StarTracker$Matcher", "spotSide", "(II)I"⟩, 6), (⟨"StarTracker$Matcher", "tellOrders", "(IIIILStarTracker$Tally;)V"⟩, 6), (⟨"StarTracker$Fix", "takePairs", "(II[II)V"⟩, 12), (⟨"StarTracker$Fix", "surestPair", "(II[II)I"⟩, 12), (⟨"StarTracker$Fix", "findTurn", "(LStarTracker$Directions;LStarTracker$Directions;)V"⟩, 12), (⟨"StarTracker$Arms", "multiply", "(III)V"⟩, 1), (⟨"StarTracker$Fix", "findPlace", "(IIII)V"⟩, 12), (⟨"StarTracker$Fix", "confirmSpots", "(ILStarTracker$Directions;II)V"⟩, 12), (⟨"StarTracker$Fix", "nearestStar", "(IIIII)I"⟩, 12), (⟨"StarTracker$Fix", "farOf", "(IIII)J"⟩, 12)]
theorem lw_r1 : ∀ q ∈ lw_privs_1, lw_okq q := List.forall_mem_cons.mpr ⟨lw_p0, List.forall_mem_cons.mpr ⟨lw_p1, List.forall_mem_cons.mpr ⟨lw_p2, List.forall_mem_cons.mpr ⟨lw_p3, List.forall_mem_cons.mpr ⟨lw_p4, List.forall_mem_cons.mpr ⟨lw_p5, List.forall_mem_cons.mpr ⟨lw_p6, List.forall_mem_cons.mpr ⟨lw_p7, List.forall_mem_cons.mpr ⟨lw_p8, List.forall_mem_cons.mpr ⟨lw_p9, List.forall_mem_cons.mpr ⟨lw_p10, List.forall_mem_cons.mpr ⟨lw_p11, List.forall_mem_cons.mpr ⟨lw_p12, List.forall_mem_cons.mpr ⟨lw_p13, List.forall_mem_cons.mpr ⟨lw_p14, List.forall_mem_cons.mpr ⟨lw_p15, fun _ h => absurd h List.not_mem_nil⟩⟩⟩⟩⟩⟩⟩⟩⟩⟩⟩⟩⟩⟩⟩⟩
theorem lw_p16 : lw_okq (⟨"StarTrackerModel", "finds", "(I)I"⟩, 28) := ⟨⟨by decide +kernel, by decide +kernel⟩, List.mem_of_getElem? (i := 791) (by decide +kernel), List.mem_of_getElem? (i := 895) (by decide +kernel), List.mem_of_getElem? (i := 896) (by decide +kernel)⟩
theorem lw_p17 : lw_okq (⟨"StarTrackerModel", "lacks", "(III)I"⟩, 28) := ⟨⟨by decide +kernel, by decide +kernel⟩, List.mem_of_getElem? (i := 791) (by decide +kernel), List.mem_of_getElem? (i := 907) (by decide +kernel), List.mem_of_getElem? (i := 908) (by decide +kernel)⟩
theorem lw_p18 : lw_okq (⟨"StarTrackerModel", "lays", "(IIIII)V"⟩, 28) := ⟨⟨by decide +kernel, by decide +kernel⟩, List.mem_of_getElem? (i := 791) (by decide +kernel), List.mem_of_getElem? (i := 938) (by decide +kernel), List.mem_of_getElem? (i := 939) (by decide +kernel)⟩
theorem lw_p19 : lw_okq (⟨"StarTrackerModel", "isThere", "(II)Z"⟩, 28) := ⟨⟨by decide +kernel, by decide +kernel⟩, List.mem_of_getElem? (i := 791) (by decide +kernel), List.mem_of_getElem? (i := 950) (by decide +kernel), List.mem_of_getElem? (i := 951) (by decide +kernel)⟩
theorem lw_p20 : lw_okq (⟨"StarTrackerModel", "of", "(III)I"⟩, 28) := ⟨⟨by decide +kernel, by decide +kernel⟩, List.mem_of_getElem? (i := 791) (by decide +kernel), List.mem_of_getElem? (i := 954) (by decide +kernel), List.mem_of_getElem? (i := 955) (by decide +kernel)⟩
theorem lw_p21 : lw_okq (⟨"StarTrackerModel", "sees", "(IIIII)V"⟩, 28) := ⟨⟨by decide +kernel, by decide +kernel⟩, List.mem_of_getElem? (i := 791) (by decide +kernel), List.mem_of_getElem? (i := 970) (by decide +kernel), List.mem_of_getElem? (i := 971) (by decide +kernel)⟩
theorem lw_p22 : lw_okq (⟨"StarTrackerModel", "noisy", "(II)I"⟩, 28) := ⟨⟨by decide +kernel, by decide +kernel⟩, List.mem_of_getElem? (i := 791) (by decide +kernel), List.mem_of_getElem? (i := 974) (by decide +kernel), List.mem_of_getElem? (i := 975) (by decide +kernel)⟩
theorem lw_p23 : lw_okq (⟨"StarTrackerModel", "lot", "(I)I"⟩, 28) := ⟨⟨by decide +kernel, by decide +kernel⟩, List.mem_of_getElem? (i := 791) (by decide +kernel), List.mem_of_getElem? (i := 978) (by decide +kernel), List.mem_of_getElem? (i := 979) (by decide +kernel)⟩
theorem lw_p24 : lw_okq (⟨"StarTrackerModel", "sideOf", "(III)I"⟩, 28) := ⟨⟨by decide +kernel, by decide +kernel⟩, List.mem_of_getElem? (i := 791) (by decide +kernel), List.mem_of_getElem? (i := 997) (by decide +kernel), List.mem_of_getElem? (i := 998) (by decide +kernel)⟩
theorem lw_p25 : lw_okq (⟨"StarTrackerModel", "isTriangle", "(IIII)Z"⟩, 28) := ⟨⟨by decide +kernel, by decide +kernel⟩, List.mem_of_getElem? (i := 791) (by decide +kernel), List.mem_of_getElem? (i := 1005) (by decide +kernel), List.mem_of_getElem? (i := 1006) (by decide +kernel)⟩
theorem lw_p26 : lw_okq (⟨"StarTrackerModel", "keyOf", "(IIIII)I"⟩, 28) := ⟨⟨by decide +kernel, by decide +kernel⟩, List.mem_of_getElem? (i := 791) (by decide +kernel), List.mem_of_getElem? (i := 1009) (by decide +kernel), List.mem_of_getElem? (i := 1010) (by decide +kernel)⟩
theorem lw_p27 : lw_okq (⟨"StarTrackerModel", "find", "()V"⟩, 28) := ⟨⟨by decide +kernel, by decide +kernel⟩, List.mem_of_getElem? (i := 791) (by decide +kernel), List.mem_of_getElem? (i := 1017) (by decide +kernel), List.mem_of_getElem? (i := 1018) (by decide +kernel)⟩
theorem lw_p28 : lw_okq (⟨"StarTrackerModel", "votesAll", "()V"⟩, 28) := ⟨⟨by decide +kernel, by decide +kernel⟩, List.mem_of_getElem? (i := 791) (by decide +kernel), List.mem_of_getElem? (i := 1021) (by decide +kernel), List.mem_of_getElem? (i := 1022) (by decide +kernel)⟩
theorem lw_p29 : lw_okq (⟨"StarTrackerModel", "looksAt", "(III)V"⟩, 28) := ⟨⟨by decide +kernel, by decide +kernel⟩, List.mem_of_getElem? (i := 791) (by decide +kernel), List.mem_of_getElem? (i := 1025) (by decide +kernel), List.mem_of_getElem? (i := 1026) (by decide +kernel)⟩
theorem lw_p30 : lw_okq (⟨"StarTrackerModel", "meets", "(IIIIII)V"⟩, 28) := ⟨⟨by decide +kernel, by decide +kernel⟩, List.mem_of_getElem? (i := 791) (by decide +kernel), List.mem_of_getElem? (i := 1029) (by decide +kernel), List.mem_of_getElem? (i := 1030) (by decide +kernel)⟩
theorem lw_p31 : lw_okq (⟨"StarTrackerModel", "tries", "(IIIIII)V"⟩, 28) := ⟨⟨by decide +kernel, by decide +kernel⟩, List.mem_of_getElem? (i := 791) (by decide +kernel), List.mem_of_getElem? (i := 1036) (by decide +kernel), List.mem_of_getElem? (i := 1037) (by decide +kernel)⟩
def lw_privs_2 : List (MethodName × Nat) := [(⟨"StarTrackerModel", "finds", "(I)I"⟩, 28), (⟨"StarTrackerModel", "lacks", "(III)I"⟩, 28), (⟨"StarTrackerModel", "lays", "(IIIII)V"⟩, 28), (⟨"StarTrackerModel", "isThere", "(II)Z"⟩, 28), (⟨"StarTrackerModel", "of", "(III)I"⟩, 28), (⟨"StarTrackerModel", "sees", "(IIIII)V"⟩, 28), (⟨"StarTrackerModel", "noisy", "(II)I"⟩, 28), (⟨"StarTrackerModel", "lot", "(I)I"⟩, 28), (⟨"StarTrackerModel", "sideOf", "(III)I"⟩, 28), (⟨"StarTrackerModel", "isTriangle", "(IIII)Z"⟩, 28), (⟨"StarTrackerModel", "keyOf", "(IIIII)I"⟩, 28), (⟨"StarTrackerModel", "find", "()V"⟩, 28), (⟨"StarTrackerModel", "votesAll", "()V"⟩, 28), (⟨"StarTrackerModel", "looksAt", "(III)V"⟩, 28), (⟨"StarTrackerModel", "meets", "(IIIIII)V"⟩, 28), (⟨"StarTrackerModel", "tries", "(IIIIII)V"⟩, 28)]
theorem lw_r2 : ∀ q ∈ lw_privs_2, lw_okq q := List.forall_mem_cons.mpr ⟨lw_p16, List.forall_mem_cons.mpr ⟨lw_p17, List.forall_mem_cons.mpr ⟨lw_p18, List.forall_mem_cons.mpr ⟨lw_p19, List.forall_mem_cons.mpr ⟨lw_p20, List.forall_mem_cons.mpr ⟨lw_p21, List.forall_mem_cons.mpr ⟨lw_p22, List.forall_mem_cons.mpr ⟨lw_p23, List.forall_mem_cons.mpr ⟨lw_p24, List.forall_mem_cons.mpr ⟨lw_p25, List.forall_mem_cons.mpr ⟨lw_p26, List.forall_mem_cons.mpr ⟨lw_p27, List.forall_mem_cons.mpr ⟨lw_p28, List.forall_mem_cons.mpr ⟨lw_p29, List.forall_mem_cons.mpr ⟨lw_p30, List.forall_mem_cons.mpr ⟨lw_p31, fun _ h => absurd h List.not_mem_nil⟩⟩⟩⟩⟩⟩⟩⟩⟩⟩⟩⟩⟩⟩⟩⟩
theorem lw_p32 : lw_okq (⟨"StarTrackerModel", "isLike", "(IIII)Z"⟩, 28) := ⟨⟨by decide +kernel, by decide +kernel⟩, List.mem_of_getElem? (i := 791) (by decide +kernel), List.mem_of_getElem? (i := 1040) (by decide +kernel), List.mem_of_getElem? (i := 1041) (by decide +kernel)⟩
theorem lw_p33 : lw_okq (⟨"StarTrackerModel", "takes", "()V"⟩, 28) := ⟨⟨by decide +kernel, by decide +kernel⟩, List.mem_of_getElem? (i := 791) (by decide +kernel), List.mem_of_getElem? (i := 1044) (by decide +kernel), List.mem_of_getElem? (i := 1045) (by decide +kernel)⟩
theorem lw_p34 : lw_okq (⟨"StarTrackerModel", "turning", "()V"⟩, 28) := ⟨⟨by decide +kernel, by decide +kernel⟩, List.mem_of_getElem? (i := 791) (by decide +kernel), List.mem_of_getElem? (i := 1048) (by decide +kernel), List.mem_of_getElem? (i := 1049) (by decide +kernel)⟩
theorem lw_p35 : lw_okq (⟨"StarTrackerModel", "spotOf", "(I)I"⟩, 28) := ⟨⟨by decide +kernel, by decide +kernel⟩, List.mem_of_getElem? (i := 791) (by decide +kernel), List.mem_of_getElem? (i := 1052) (by decide +kernel), List.mem_of_getElem? (i := 1053) (by decide +kernel)⟩
theorem lw_p36 : lw_okq (⟨"StarTrackerModel", "arms", "([JIII)V"⟩, 28) := ⟨⟨by decide +kernel, by decide +kernel⟩, List.mem_of_getElem? (i := 791) (by decide +kernel), List.mem_of_getElem? (i := 1056) (by decide +kernel), List.mem_of_getElem? (i := 1057) (by decide +kernel)⟩
theorem lw_p37 : lw_okq (⟨"StarTrackerModel", "coordinate", "(II)I"⟩, 28) := ⟨⟨by decide +kernel, by decide +kernel⟩, List.mem_of_getElem? (i := 791) (by decide +kernel), List.mem_of_getElem? (i := 1066) (by decide +kernel), List.mem_of_getElem? (i := 1067) (by decide +kernel)⟩
theorem lw_p38 : lw_okq (⟨"StarTrackerModel", "confirms", "()V"⟩, 28) := ⟨⟨by decide +kernel, by decide +kernel⟩, List.mem_of_getElem? (i := 791) (by decide +kernel), List.mem_of_getElem? (i := 1073) (by decide +kernel), List.mem_of_getElem? (i := 1074) (by decide +kernel)⟩
theorem lw_p39 : lw_okq (⟨"StarTrackerModel", "farOf", "(II)I"⟩, 28) := ⟨⟨by decide +kernel, by decide +kernel⟩, List.mem_of_getElem? (i := 791) (by decide +kernel), List.mem_of_getElem? (i := 1077) (by decide +kernel), List.mem_of_getElem? (i := 1078) (by decide +kernel)⟩
theorem lw_p40 : lw_okq (⟨"StarTrackerModel", "looksBy", "(I)I"⟩, 28) := ⟨⟨by decide +kernel, by decide +kernel⟩, List.mem_of_getElem? (i := 791) (by decide +kernel), List.mem_of_getElem? (i := 1081) (by decide +kernel), List.mem_of_getElem? (i := 1082) (by decide +kernel)⟩
theorem lw_p41 : lw_okq (⟨"StarTrackerModel", "takenBy", "(II)I"⟩, 28) := ⟨⟨by decide +kernel, by decide +kernel⟩, List.mem_of_getElem? (i := 791) (by decide +kernel), List.mem_of_getElem? (i := 1096) (by decide +kernel), List.mem_of_getElem? (i := 1097) (by decide +kernel)⟩
theorem lw_p42 : lw_okq (⟨"StarTrackerModel", "placeBy", "(II)I"⟩, 28) := ⟨⟨by decide +kernel, by decide +kernel⟩, List.mem_of_getElem? (i := 791) (by decide +kernel), List.mem_of_getElem? (i := 1108) (by decide +kernel), List.mem_of_getElem? (i := 1109) (by decide +kernel)⟩
theorem lw_p43 : lw_okq (⟨"StarTrackerModel", "confirmedBy", "(II)I"⟩, 28) := ⟨⟨by decide +kernel, by decide +kernel⟩, List.mem_of_getElem? (i := 791) (by decide +kernel), List.mem_of_getElem? (i := 1116) (by decide +kernel), List.mem_of_getElem? (i := 1117) (by decide +kernel)⟩
theorem lw_p44 : lw_okq (⟨"StarTrackerModel", "wrongNow", "()I"⟩, 28) := ⟨⟨by decide +kernel, by decide +kernel⟩, List.mem_of_getElem? (i := 791) (by decide +kernel), List.mem_of_getElem? (i := 1124) (by decide +kernel), List.mem_of_getElem? (i := 1125) (by decide +kernel)⟩
theorem lw_p45 : lw_okq (⟨"StarTrackerModel", "betterBy", "(I)I"⟩, 28) := ⟨⟨by decide +kernel, by decide +kernel⟩, List.mem_of_getElem? (i := 791) (by decide +kernel), List.mem_of_getElem? (i := 1132) (by decide +kernel), List.mem_of_getElem? (i := 1133) (by decide +kernel)⟩
theorem lw_p46 : lw_okq (⟨"StarTrackerModel", "spareBy", "(I)I"⟩, 28) := ⟨⟨by decide +kernel, by decide +kernel⟩, List.mem_of_getElem? (i := 791) (by decide +kernel), List.mem_of_getElem? (i := 1140) (by decide +kernel), List.mem_of_getElem? (i := 1141) (by decide +kernel)⟩
theorem lw_p47 : lw_okq (⟨"StarTrackerModel", "isThing", "(II)Z"⟩, 28) := ⟨⟨by decide +kernel, by decide +kernel⟩, List.mem_of_getElem? (i := 791) (by decide +kernel), List.mem_of_getElem? (i := 1163) (by decide +kernel), List.mem_of_getElem? (i := 1164) (by decide +kernel)⟩
def lw_privs_3 : List (MethodName × Nat) := [(⟨"StarTrackerModel", "isLike", "(IIII)Z"⟩, 28), (⟨"StarTrackerModel", "takes", "()V"⟩, 28), (⟨"StarTrackerModel", "turning", "()V"⟩, 28), (⟨"StarTrackerModel", "spotOf", "(I)I"⟩, 28), (⟨"StarTrackerModel", "arms", "([JIII)V"⟩, 28), (⟨"StarTrackerModel", "coordinate", "(II)I"⟩, 28), (⟨"StarTrackerModel", "confirms", "()V"⟩, 28), (⟨"StarTrackerModel", "farOf", "(II)I"⟩, 28), (⟨"StarTrackerModel", "looksBy", "(I)I"⟩, 28), (⟨"StarTrackerModel", "takenBy", "(II)I"⟩, 28), (⟨"StarTrackerModel", "placeBy", "(II)I"⟩, 28), (⟨"StarTrackerModel", "confirmedBy", "(II)I"⟩, 28), (⟨"StarTrackerModel", "wrongNow", "()I"⟩, 28), (⟨"StarTrackerModel", "betterBy", "(I)I"⟩, 28), (⟨"StarTrackerModel", "spareBy", "(I)I"⟩, 28), (⟨"StarTrackerModel", "isThing", "(II)Z"⟩, 28)]
theorem lw_r3 : ∀ q ∈ lw_privs_3, lw_okq q := List.forall_mem_cons.mpr ⟨lw_p32, List.forall_mem_cons.mpr ⟨lw_p33, List.forall_mem_cons.mpr ⟨lw_p34, List.forall_mem_cons.mpr ⟨lw_p35, List.forall_mem_cons.mpr ⟨lw_p36, List.forall_mem_cons.mpr ⟨lw_p37, List.forall_mem_cons.mpr ⟨lw_p38, List.forall_mem_cons.mpr ⟨lw_p39, List.forall_mem_cons.mpr ⟨lw_p40, List.forall_mem_cons.mpr ⟨lw_p41, List.forall_mem_cons.mpr ⟨lw_p42, List.forall_mem_cons.mpr ⟨lw_p43, List.forall_mem_cons.mpr ⟨lw_p44, List.forall_mem_cons.mpr ⟨lw_p45, List.forall_mem_cons.mpr ⟨lw_p46, List.forall_mem_cons.mpr ⟨lw_p47, fun _ h => absurd h List.not_mem_nil⟩⟩⟩⟩⟩⟩⟩⟩⟩⟩⟩⟩⟩⟩⟩⟩
theorem lw_p48 : lw_okq (⟨"StarTrackerModel", "shareBy", "(III)I"⟩, 28) := ⟨⟨by decide +kernel, by decide +kernel⟩, List.mem_of_getElem? (i := 791) (by decide +kernel), List.mem_of_getElem? (i := 1171) (by decide +kernel), List.mem_of_getElem? (i := 1172) (by decide +kernel)⟩
theorem lw_p49 : lw_okq (⟨"StarTrackerModel", "product", "(III)I"⟩, 28) := ⟨⟨by decide +kernel, by decide +kernel⟩, List.mem_of_getElem? (i := 791) (by decide +kernel), List.mem_of_getElem? (i := 1175) (by decide +kernel), List.mem_of_getElem? (i := 1176) (by decide +kernel)⟩
theorem lw_p50 : lw_okq (⟨"StarTrackerModel", "manyThings", "()I"⟩, 28) := ⟨⟨by decide +kernel, by decide +kernel⟩, List.mem_of_getElem? (i := 791) (by decide +kernel), List.mem_of_getElem? (i := 1192) (by decide +kernel), List.mem_of_getElem? (i := 1193) (by decide +kernel)⟩
theorem lw_p51 : lw_okq (⟨"StarTrackerModel", "manyWrong", "()I"⟩, 28) := ⟨⟨by decide +kernel, by decide +kernel⟩, List.mem_of_getElem? (i := 791) (by decide +kernel), List.mem_of_getElem? (i := 1196) (by decide +kernel), List.mem_of_getElem? (i := 1197) (by decide +kernel)⟩
theorem lw_p52 : lw_okq (⟨"StarTrackerModel", "tellsSky", "(J)J"⟩, 28) := ⟨⟨by decide +kernel, by decide +kernel⟩, List.mem_of_getElem? (i := 791) (by decide +kernel), List.mem_of_getElem? (i := 1210) (by decide +kernel), List.mem_of_getElem? (i := 1211) (by decide +kernel)⟩
def lw_privs_4 : List (MethodName × Nat) := [(⟨"StarTrackerModel", "shareBy", "(III)I"⟩, 28), (⟨"StarTrackerModel", "product", "(III)I"⟩, 28), (⟨"StarTrackerModel", "manyThings", "()I"⟩, 28), (⟨"StarTrackerModel", "manyWrong", "()I"⟩, 28), (⟨"StarTrackerModel", "tellsSky", "(J)J"⟩, 28)]
theorem lw_r4 : ∀ q ∈ lw_privs_4, lw_okq q := List.forall_mem_cons.mpr ⟨lw_p48, List.forall_mem_cons.mpr ⟨lw_p49, List.forall_mem_cons.mpr ⟨lw_p50, List.forall_mem_cons.mpr ⟨lw_p51, List.forall_mem_cons.mpr ⟨lw_p52, fun _ h => absurd h List.not_mem_nil⟩⟩⟩⟩⟩
def lw_privs : List (MethodName × Nat) := lw_privs_1 ++ (lw_privs_2 ++ (lw_privs_3 ++ (lw_privs_4)))
def lw_tbl : List Cond := k2_sels lw_privs ++ tables_1
theorem lw_privs_ok : ∀ q ∈ lw_privs, lw_okq q := by
  show ∀ q ∈ lw_privs_1 ++ (lw_privs_2 ++ (lw_privs_3 ++ (lw_privs_4))), lw_okq q
  exact List.forall_mem_append.mpr ⟨lw_r1, List.forall_mem_append.mpr ⟨lw_r2, List.forall_mem_append.mpr ⟨lw_r3, lw_r4⟩⟩⟩

def RX0 : String := "StarTracker$Arms"
def TX0 : u_T := fun k => match k with
  | _ => ("StarTracker$Arms", "parts", "[J", true)
def tyX0 : Nat → FieldType := fun k => match k with
  | _ => .array .long
abbrev wsX00 : List Cond := u_ws RX0 TX0 1
theorem nmX0 : ∀ a, a < 1 → ∀ b, b < 1 → a ≠ b → (TX0 a).2.1 ≠ (TX0 b).2.1 := by decide +kernel
theorem tyX0_ok : ∀ k, k < 1 → parseFieldDescriptor (TX0 k).2.2.1 = some (tyX0 k) := by decide +kernel
abbrev cX0_init : ByteArray := prog_2_method_1_code
def yX0_init : MethodName := ⟨RX0, "<init>", "()V"⟩
abbrev cX0_build : ByteArray := prog_2_method_2_code
def yX0_build : MethodName := ⟨RX0, "build", "(LStarTracker$Directions;II)V"⟩
abbrev cX0_multiply : ByteArray := prog_2_method_3_code
def yX0_multiply : MethodName := ⟨RX0, "multiply", "(III)V"⟩
abbrev cX0_isFlat : ByteArray := prog_2_method_4_code
def yX0_isFlat : MethodName := ⟨RX0, "isFlat", "()Z"⟩
abbrev cX0_part : ByteArray := prog_2_method_5_code
def yX0_part : MethodName := ⟨RX0, "part", "(II)J"⟩
abbrev cX0_square : ByteArray := prog_2_method_6_code
def yX0_square : MethodName := ⟨RX0, "square", "(I)J"⟩
abbrev cX0_times : ByteArray := prog_2_method_7_code
def yX0_times : MethodName := ⟨RX0, "times", "(IIII)J"⟩
def RX1 : String := "StarTracker$Directions"
def TX1 : u_T := fun k => match k with
  | 0 => ("StarTracker$Directions", "parts", "[I", true)
  | 1 => ("StarTracker$Directions", "room", "I", true)
  | _ => ("StarTracker$Directions", "size", "I", false)
def tyX1 : Nat → FieldType := fun k => match k with
  | 0 => .array .int
  | 1 => .int
  | _ => .int
abbrev wsX10 : List Cond := u_ws RX1 TX1 3
theorem nmX1 : ∀ a, a < 3 → ∀ b, b < 3 → a ≠ b → (TX1 a).2.1 ≠ (TX1 b).2.1 := by decide +kernel
theorem tyX1_ok : ∀ k, k < 3 → parseFieldDescriptor (TX1 k).2.2.1 = some (tyX1 k) := by decide +kernel
abbrev cX1_init : ByteArray := prog_3_method_1_code
def yX1_init : MethodName := ⟨RX1, "<init>", "(I)V"⟩
abbrev cX1_size : ByteArray := prog_3_method_2_code
def yX1_size : MethodName := ⟨RX1, "size", "()I"⟩
abbrev cX1_isFull : ByteArray := prog_3_method_3_code
def yX1_isFull : MethodName := ⟨RX1, "isFull", "()Z"⟩
abbrev cX1_has : ByteArray := prog_3_method_4_code
def yX1_has : MethodName := ⟨RX1, "has", "(I)Z"⟩
abbrev cX1_part : ByteArray := prog_3_method_5_code
def yX1_part : MethodName := ⟨RX1, "part", "(II)I"⟩
abbrev cX1_append : ByteArray := prog_3_method_6_code
def yX1_append : MethodName := ⟨RX1, "append", "(III)V"⟩
abbrev cX1_dropLast : ByteArray := prog_3_method_7_code
def yX1_dropLast : MethodName := ⟨RX1, "dropLast", "()V"⟩
abbrev cX1_empty : ByteArray := prog_3_method_8_code
def yX1_empty : MethodName := ⟨RX1, "empty", "()V"⟩
abbrev cX1_quarter : ByteArray := prog_3_method_9_code
def yX1_quarter : MethodName := ⟨RX1, "quarter", "(III)V"⟩
abbrev cX1_blur : ByteArray := prog_3_method_10_code
def yX1_blur : MethodName := ⟨RX1, "blur", "(III)I"⟩
abbrev cX1_sideOf : ByteArray := prog_3_method_11_code
def yX1_sideOf : MethodName := ⟨RX1, "sideOf", "(II)I"⟩
abbrev cX1_fillSides : ByteArray := prog_3_method_12_code
def yX1_fillSides : MethodName := ⟨RX1, "fillSides", "([I)V"⟩
def RX2 : String := "StarTracker$Fix"
def TX2 : u_T := fun k => match k with
  | 0 => ("StarTracker$Fix", "takenStar", "[I", true)
  | 1 => ("StarTracker$Fix", "takenRank", "[I", true)
  | 2 => ("StarTracker$Fix", "takenSpots", "[I", true)
  | 3 => ("StarTracker$Fix", "confirmedStar", "[I", true)
  | 4 => ("StarTracker$Fix", "confirmedFar", "[I", true)
  | 5 => ("StarTracker$Fix", "places", "[I", true)
  | 6 => ("StarTracker$Fix", "starArms", "LStarTracker$Arms;", true)
  | 7 => ("StarTracker$Fix", "spotArms", "LStarTracker$Arms;", true)
  | 8 => ("StarTracker$Fix", "usedStars", "I", false)
  | 9 => ("StarTracker$Fix", "takenCount", "I", false)
  | 10 => ("StarTracker$Fix", "confirmedCount", "I", false)
  | _ => ("StarTracker$Fix", "turned", "Z", false)
def tyX2 : Nat → FieldType := fun k => match k with
  | 0 => .array .int
  | 1 => .array .int
  | 2 => .array .int
  | 3 => .array .int
  | 4 => .array .int
  | 5 => .array .int
  | 6 => .object "StarTracker$Arms"
  | 7 => .object "StarTracker$Arms"
  | 8 => .int
  | 9 => .int
  | 10 => .int
  | _ => .boolean
abbrev wsX20 : List Cond := u_ws RX2 TX2 12
theorem nmX2 : ∀ a, a < 12 → ∀ b, b < 12 → a ≠ b → (TX2 a).2.1 ≠ (TX2 b).2.1 := by decide +kernel
theorem tyX2_ok : ∀ k, k < 12 → parseFieldDescriptor (TX2 k).2.2.1 = some (tyX2 k) := by decide +kernel
abbrev cX2_init : ByteArray := prog_4_method_1_code
def yX2_init : MethodName := ⟨RX2, "<init>", "()V"⟩
abbrev cX2_solve : ByteArray := prog_4_method_2_code
def yX2_solve : MethodName := ⟨RX2, "solve", "(LStarTracker$Directions;LStarTracker$Directions;[I[II)V"⟩
abbrev cX2_takePairs : ByteArray := prog_4_method_3_code
def yX2_takePairs : MethodName := ⟨RX2, "takePairs", "(II[II)V"⟩
abbrev cX2_surestPair : ByteArray := prog_4_method_4_code
def yX2_surestPair : MethodName := ⟨RX2, "surestPair", "(II[II)I"⟩
abbrev cX2_findTurn : ByteArray := prog_4_method_5_code
def yX2_findTurn : MethodName := ⟨RX2, "findTurn", "(LStarTracker$Directions;LStarTracker$Directions;)V"⟩
abbrev cX2_findPlace : ByteArray := prog_4_method_6_code
def yX2_findPlace : MethodName := ⟨RX2, "findPlace", "(IIII)V"⟩
abbrev cX2_confirmSpots : ByteArray := prog_4_method_7_code
def yX2_confirmSpots : MethodName := ⟨RX2, "confirmSpots", "(ILStarTracker$Directions;II)V"⟩
abbrev cX2_nearestStar : ByteArray := prog_4_method_8_code
def yX2_nearestStar : MethodName := ⟨RX2, "nearestStar", "(IIIII)I"⟩
abbrev cX2_farOf : ByteArray := prog_4_method_9_code
def yX2_farOf : MethodName := ⟨RX2, "farOf", "(IIII)J"⟩
abbrev cX2_wrongBits : ByteArray := prog_4_method_10_code
def yX2_wrongBits : MethodName := ⟨RX2, "wrongBits", "()I"⟩
def RX3 : String := "StarTracker$Matcher"
def TX3 : u_T := fun k => match k with
  | 0 => ("StarTracker$Matcher", "starSides", "[I", true)
  | 1 => ("StarTracker$Matcher", "spotSides", "[I", true)
  | 2 => ("StarTracker$Matcher", "starTriangles", "[I", true)
  | 3 => ("StarTracker$Matcher", "starKeys", "[I", true)
  | 4 => ("StarTracker$Matcher", "starTriangleCount", "I", false)
  | _ => ("StarTracker$Matcher", "lookedAt", "I", false)
def tyX3 : Nat → FieldType := fun k => match k with
  | 0 => .array .int
  | 1 => .array .int
  | 2 => .array .int
  | 3 => .array .int
  | 4 => .int
  | _ => .int
abbrev wsX30 : List Cond := u_ws RX3 TX3 6
theorem nmX3 : ∀ a, a < 6 → ∀ b, b < 6 → a ≠ b → (TX3 a).2.1 ≠ (TX3 b).2.1 := by decide +kernel
theorem tyX3_ok : ∀ k, k < 6 → parseFieldDescriptor (TX3 k).2.2.1 = some (tyX3 k) := by decide +kernel
abbrev cX3_init : ByteArray := prog_5_method_1_code
def yX3_init : MethodName := ⟨RX3, "<init>", "()V"⟩
abbrev cX3_walk : ByteArray := prog_5_method_2_code
def yX3_walk : MethodName := ⟨RX3, "walk", "(LStarTracker$Directions;LStarTracker$Directions;ILStarTracker$Tally;)V"⟩
abbrev cX3_listStarTriangles : ByteArray := prog_5_method_3_code
def yX3_listStarTriangles : MethodName := ⟨RX3, "listStarTriangles", "(II)V"⟩
abbrev cX3_listStarTriangle : ByteArray := prog_5_method_4_code
def yX3_listStarTriangle : MethodName := ⟨RX3, "listStarTriangle", "(IIII)V"⟩
abbrev cX3_lookAround : ByteArray := prog_5_method_5_code
def yX3_lookAround : MethodName := ⟨RX3, "lookAround", "(IIIILStarTracker$Tally;)V"⟩
abbrev cX3_tellOrders : ByteArray := prog_5_method_6_code
def yX3_tellOrders : MethodName := ⟨RX3, "tellOrders", "(IIIILStarTracker$Tally;)V"⟩
abbrev cX3_starSide : ByteArray := prog_5_method_7_code
def yX3_starSide : MethodName := ⟨RX3, "starSide", "(II)I"⟩
abbrev cX3_spotSide : ByteArray := prog_5_method_8_code
def yX3_spotSide : MethodName := ⟨RX3, "spotSide", "(II)I"⟩
def RX4 : String := "StarTracker$PlainTally"
def TX4 : u_T := fun k => match k with
  | 0 => ("StarTracker$PlainTally", "table", "[I", true)
  | 1 => ("StarTracker$PlainTally", "tolerance", "I", false)
  | _ => ("StarTracker$PlainTally", "matched", "I", false)
def tyX4 : Nat → FieldType := fun k => match k with
  | 0 => .array .int
  | 1 => .int
  | _ => .int
abbrev wsX40 : List Cond := u_ws RX4 TX4 3
theorem nmX4 : ∀ a, a < 3 → ∀ b, b < 3 → a ≠ b → (TX4 a).2.1 ≠ (TX4 b).2.1 := by decide +kernel
theorem tyX4_ok : ∀ k, k < 3 → parseFieldDescriptor (TX4 k).2.2.1 = some (tyX4 k) := by decide +kernel
abbrev cX4_init : ByteArray := prog_6_method_1_code
def yX4_init : MethodName := ⟨RX4, "<init>", "()V"⟩
abbrev cX4_begin : ByteArray := prog_6_method_2_code
def yX4_begin : MethodName := ⟨RX4, "begin", "(I)V"⟩
abbrev cX4_hear : ByteArray := prog_6_method_3_code
def yX4_hear : MethodName := ⟨RX4, "hear", "(IIII)V"⟩
def RX5 : String := "StarTracker$Sheet"
def TX5 : u_T := fun k => match k with
  | 0 => ("StarTracker$Sheet", "items", "[I", true)
  | 1 => ("StarTracker$Sheet", "form", "I", false)
  | _ => ("StarTracker$Sheet", "length", "I", false)
def tyX5 : Nat → FieldType := fun k => match k with
  | 0 => .array .int
  | 1 => .int
  | _ => .int
abbrev wsX50 : List Cond := u_ws RX5 TX5 3
theorem nmX5 : ∀ a, a < 3 → ∀ b, b < 3 → a ≠ b → (TX5 a).2.1 ≠ (TX5 b).2.1 := by decide +kernel
theorem tyX5_ok : ∀ k, k < 3 → parseFieldDescriptor (TX5 k).2.2.1 = some (tyX5 k) := by decide +kernel
abbrev cX5_init : ByteArray := prog_7_method_1_code
def yX5_init : MethodName := ⟨RX5, "<init>", "()V"⟩
abbrev cX5_isLost : ByteArray := prog_7_method_2_code
def yX5_isLost : MethodName := ⟨RX5, "isLost", "()Z"⟩
abbrev cX5_length : ByteArray := prog_7_method_3_code
def yX5_length : MethodName := ⟨RX5, "length", "()I"⟩
abbrev cX5_renew : ByteArray := prog_7_method_4_code
def yX5_renew : MethodName := ⟨RX5, "renew", "(II)V"⟩
abbrev cX5_faultOf : ByteArray := prog_7_method_5_code
def yX5_faultOf : MethodName := ⟨RX5, "faultOf", "(II)I"⟩
abbrev cX5_item : ByteArray := prog_7_method_6_code
def yX5_item : MethodName := ⟨RX5, "item", "(I)I"⟩
abbrev cX5_store : ByteArray := prog_7_method_7_code
def yX5_store : MethodName := ⟨RX5, "store", "(II)V"⟩
abbrev cX5_hasRun : ByteArray := prog_7_method_8_code
def yX5_hasRun : MethodName := ⟨RX5, "hasRun", "(II)Z"⟩
abbrev cX5_takeRun : ByteArray := prog_7_method_9_code
def yX5_takeRun : MethodName := ⟨RX5, "takeRun", "(LStarTracker$Sheet;III)V"⟩
def RX6 : String := "StarTracker$Sight"
def TX6 : u_T := fun k => match k with
  | 0 => ("StarTracker$Sight", "stars", "LStarTracker$Directions;", true)
  | 1 => ("StarTracker$Sight", "spots", "LStarTracker$Directions;", true)
  | 2 => ("StarTracker$Sight", "settings", "[I", true)
  | 3 => ("StarTracker$Sight", "matcher", "LStarTracker$Matcher;", true)
  | 4 => ("StarTracker$Sight", "plain", "LStarTracker$PlainTally;", true)
  | 5 => ("StarTracker$Sight", "steps", "LStarTracker$StepTally;", true)
  | 6 => ("StarTracker$Sight", "spares", "LStarTracker$SpareTally;", true)
  | 7 => ("StarTracker$Sight", "fix", "LStarTracker$Fix;", true)
  | 8 => ("StarTracker$Sight", "trial", "LStarTracker$Fix;", true)
  | 9 => ("StarTracker$Sight", "lookedAt", "I", false)
  | 10 => ("StarTracker$Sight", "matched", "I", false)
  | 11 => ("StarTracker$Sight", "betterTolerance", "I", false)
  | 12 => ("StarTracker$Sight", "betterConfirmed", "I", false)
  | 13 => ("StarTracker$Sight", "spareSpot", "I", false)
  | 14 => ("StarTracker$Sight", "spareConfirmed", "I", false)
  | 15 => ("StarTracker$Sight", "fixKnown", "Z", false)
  | 16 => ("StarTracker$Sight", "betterKnown", "Z", false)
  | _ => ("StarTracker$Sight", "spareKnown", "Z", false)
def tyX6 : Nat → FieldType := fun k => match k with
  | 0 => .object "StarTracker$Directions"
  | 1 => .object "StarTracker$Directions"
  | 2 => .array .int
  | 3 => .object "StarTracker$Matcher"
  | 4 => .object "StarTracker$PlainTally"
  | 5 => .object "StarTracker$StepTally"
  | 6 => .object "StarTracker$SpareTally"
  | 7 => .object "StarTracker$Fix"
  | 8 => .object "StarTracker$Fix"
  | 9 => .int
  | 10 => .int
  | 11 => .int
  | 12 => .int
  | 13 => .int
  | 14 => .int
  | 15 => .boolean
  | 16 => .boolean
  | _ => .boolean
abbrev wsX60 : List Cond := u_ws RX6 TX6 18
theorem nmX6 : ∀ a, a < 18 → ∀ b, b < 18 → a ≠ b → (TX6 a).2.1 ≠ (TX6 b).2.1 := by decide +kernel
theorem tyX6_ok : ∀ k, k < 18 → parseFieldDescriptor (TX6 k).2.2.1 = some (tyX6 k) := by decide +kernel
abbrev cX6_init : ByteArray := prog_8_method_1_code
def yX6_init : MethodName := ⟨RX6, "<init>", "()V"⟩
abbrev cX6_rowOf : ByteArray := prog_8_method_2_code
def yX6_rowOf : MethodName := ⟨RX6, "rowOf", "(I)LStarTracker$Directions;"⟩
abbrev cX6_forget : ByteArray := prog_8_method_3_code
def yX6_forget : MethodName := ⟨RX6, "forget", "()V"⟩
abbrev cX6_known : ByteArray := prog_8_method_4_code
def yX6_known : MethodName := ⟨RX6, "known", "()LStarTracker$Sight;"⟩
abbrev cX6_findBetter : ByteArray := prog_8_method_5_code
def yX6_findBetter : MethodName := ⟨RX6, "findBetter", "()V"⟩
abbrev cX6_findSpare : ByteArray := prog_8_method_6_code
def yX6_findSpare : MethodName := ⟨RX6, "findSpare", "()V"⟩
def RX7 : String := "StarTracker$SpareTally"
def TX7 : u_T := fun k => match k with
  | 0 => ("StarTracker$SpareTally", "tables", "[[I", true)
  | _ => ("StarTracker$SpareTally", "tolerance", "I", false)
def tyX7 : Nat → FieldType := fun k => match k with
  | 0 => .array (.array .int)
  | _ => .int
abbrev wsX70 : List Cond := u_ws RX7 TX7 2
theorem nmX7 : ∀ a, a < 2 → ∀ b, b < 2 → a ≠ b → (TX7 a).2.1 ≠ (TX7 b).2.1 := by decide +kernel
theorem tyX7_ok : ∀ k, k < 2 → parseFieldDescriptor (TX7 k).2.2.1 = some (tyX7 k) := by decide +kernel
abbrev cX7_init : ByteArray := prog_9_method_1_code
def yX7_init : MethodName := ⟨RX7, "<init>", "()V"⟩
abbrev cX7_begin : ByteArray := prog_9_method_2_code
def yX7_begin : MethodName := ⟨RX7, "begin", "(I)V"⟩
abbrev cX7_hear : ByteArray := prog_9_method_3_code
def yX7_hear : MethodName := ⟨RX7, "hear", "(IIII)V"⟩
def RX8 : String := "StarTracker$StepTally"
def TX8 : u_T := fun k => match k with
  | _ => ("StarTracker$StepTally", "tables", "[[I", true)
def tyX8 : Nat → FieldType := fun k => match k with
  | _ => .array (.array .int)
abbrev wsX80 : List Cond := u_ws RX8 TX8 1
theorem nmX8 : ∀ a, a < 1 → ∀ b, b < 1 → a ≠ b → (TX8 a).2.1 ≠ (TX8 b).2.1 := by decide +kernel
theorem tyX8_ok : ∀ k, k < 1 → parseFieldDescriptor (TX8 k).2.2.1 = some (tyX8 k) := by decide +kernel
abbrev cX8_init : ByteArray := prog_10_method_1_code
def yX8_init : MethodName := ⟨RX8, "<init>", "()V"⟩
abbrev cX8_begin : ByteArray := prog_10_method_2_code
def yX8_begin : MethodName := ⟨RX8, "begin", "()V"⟩
abbrev cX8_hear : ByteArray := prog_10_method_3_code
def yX8_hear : MethodName := ⟨RX8, "hear", "(IIII)V"⟩
abbrev cX8_sumUpTo : ByteArray := prog_10_method_4_code
def yX8_sumUpTo : MethodName := ⟨RX8, "sumUpTo", "(I)[I"⟩
def RX9 : String := "StarTracker$Tally"
def TX9 : u_T := fun k => match k with
  | _ => ("", "", "", false)
def tyX9 : Nat → FieldType := fun k => match k with
  | _ => .int
abbrev wsX90 : List Cond := u_ws RX9 TX9 0
theorem nmX9 : ∀ a, a < 0 → ∀ b, b < 0 → a ≠ b → (TX9 a).2.1 ≠ (TX9 b).2.1 := by decide +kernel
theorem tyX9_ok : ∀ k, k < 0 → parseFieldDescriptor (TX9 k).2.2.1 = some (tyX9 k) := by decide +kernel
abbrev cX9_init : ByteArray := prog_11_method_1_code
def yX9_init : MethodName := ⟨RX9, "<init>", "()V"⟩
def RX10 : String := "StarTracker$Tray"
def TX10 : u_T := fun k => match k with
  | 0 => ("StarTracker$Tray", "things", "[I", true)
  | 1 => ("StarTracker$Tray", "holdsStars", "Z", false)
  | 2 => ("StarTracker$Tray", "holdsSpots", "Z", false)
  | _ => ("StarTracker$Tray", "size", "I", false)
def tyX10 : Nat → FieldType := fun k => match k with
  | 0 => .array .int
  | 1 => .boolean
  | 2 => .boolean
  | _ => .int
abbrev wsX100 : List Cond := u_ws RX10 TX10 4
theorem nmX10 : ∀ a, a < 4 → ∀ b, b < 4 → a ≠ b → (TX10 a).2.1 ≠ (TX10 b).2.1 := by decide +kernel
theorem tyX10_ok : ∀ k, k < 4 → parseFieldDescriptor (TX10 k).2.2.1 = some (tyX10 k) := by decide +kernel
abbrev cX10_init : ByteArray := prog_12_method_1_code
def yX10_init : MethodName := ⟨RX10, "<init>", "(ZZ)V"⟩
abbrev cX10_holds : ByteArray := prog_12_method_2_code
def yX10_holds : MethodName := ⟨RX10, "holds", "(I)Z"⟩
abbrev cX10_has : ByteArray := prog_12_method_3_code
def yX10_has : MethodName := ⟨RX10, "has", "(I)Z"⟩
abbrev cX10_append : ByteArray := prog_12_method_4_code
def yX10_append : MethodName := ⟨RX10, "append", "(IIII)V"⟩
abbrev cX10_become : ByteArray := prog_12_method_5_code
def yX10_become : MethodName := ⟨RX10, "become", "(LStarTracker$Tray;)V"⟩
abbrev cX10_column : ByteArray := prog_12_method_6_code
def yX10_column : MethodName := ⟨RX10, "column", "(II)I"⟩
abbrev cX10_product : ByteArray := prog_12_method_7_code
def yX10_product : MethodName := ⟨RX10, "product", "(II)I"⟩
def RX11 : String := "StarTracker"
def TX11 : u_T := fun k => match k with
  | 0 => ("StarTracker", "sight", "LStarTracker$Sight;", true)
  | 1 => ("StarTracker", "trays", "[LStarTracker$Tray;", true)
  | 2 => ("StarTracker", "sheets", "[LStarTracker$Sheet;", true)
  | _ => ("StarTracker", "latestFinding", "I", false)
def tyX11 : Nat → FieldType := fun k => match k with
  | 0 => .object "StarTracker$Sight"
  | 1 => .array (.object "StarTracker$Tray")
  | 2 => .array (.object "StarTracker$Sheet")
  | _ => .int
abbrev wsX110 : List Cond := u_ws RX11 TX11 4
theorem nmX11 : ∀ a, a < 4 → ∀ b, b < 4 → a ≠ b → (TX11 a).2.1 ≠ (TX11 b).2.1 := by decide +kernel
theorem tyX11_ok : ∀ k, k < 4 → parseFieldDescriptor (TX11 k).2.2.1 = some (tyX11 k) := by decide +kernel
abbrev cX11_init : ByteArray := prog_1_method_1_code
def yX11_init : MethodName := ⟨RX11, "<init>", "()V"⟩
abbrev cX11_add : ByteArray := prog_1_method_2_code
def yX11_add : MethodName := ⟨RX11, "add", "(IIII)I"⟩
abbrev cX11_back : ByteArray := prog_1_method_3_code
def yX11_back : MethodName := ⟨RX11, "back", "(I)I"⟩
abbrev cX11_at : ByteArray := prog_1_method_4_code
def yX11_at : MethodName := ⟨RX11, "at", "(III)I"⟩
abbrev cX11_read : ByteArray := prog_1_method_5_code
def yX11_read : MethodName := ⟨RX11, "read", "(II)I"⟩
abbrev cX11_see : ByteArray := prog_1_method_6_code
def yX11_see : MethodName := ⟨RX11, "see", "(IIIIII)I"⟩
abbrev cX11_set : ByteArray := prog_1_method_7_code
def yX11_set : MethodName := ⟨RX11, "set", "(II)I"⟩
abbrev cX11_side : ByteArray := prog_1_method_8_code
def yX11_side : MethodName := ⟨RX11, "side", "(III)I"⟩
abbrev cX11_key : ByteArray := prog_1_method_9_code
def yX11_key : MethodName := ⟨RX11, "key", "(IIIII)I"⟩
abbrev cX11_looks : ByteArray := prog_1_method_10_code
def yX11_looks : MethodName := ⟨RX11, "looks", "(I)I"⟩
abbrev cX11_votes : ByteArray := prog_1_method_11_code
def yX11_votes : MethodName := ⟨RX11, "votes", "(II)I"⟩
abbrev cX11_taken : ByteArray := prog_1_method_12_code
def yX11_taken : MethodName := ⟨RX11, "taken", "(II)I"⟩
abbrev cX11_turn : ByteArray := prog_1_method_13_code
def yX11_turn : MethodName := ⟨RX11, "turn", "()I"⟩
abbrev cX11_place : ByteArray := prog_1_method_14_code
def yX11_place : MethodName := ⟨RX11, "place", "(II)I"⟩
abbrev cX11_confirmed : ByteArray := prog_1_method_15_code
def yX11_confirmed : MethodName := ⟨RX11, "confirmed", "(II)I"⟩
abbrev cX11_wrong : ByteArray := prog_1_method_16_code
def yX11_wrong : MethodName := ⟨RX11, "wrong", "()I"⟩
abbrev cX11_better : ByteArray := prog_1_method_17_code
def yX11_better : MethodName := ⟨RX11, "better", "(I)I"⟩
abbrev cX11_spare : ByteArray := prog_1_method_18_code
def yX11_spare : MethodName := ⟨RX11, "spare", "(I)I"⟩
abbrev cX11_put : ByteArray := prog_1_method_19_code
def yX11_put : MethodName := ⟨RX11, "put", "(III)I"⟩
abbrev cX11_fork : ByteArray := prog_1_method_20_code
def yX11_fork : MethodName := ⟨RX11, "fork", "(II)I"⟩
abbrev cX11_take : ByteArray := prog_1_method_21_code
def yX11_take : MethodName := ⟨RX11, "take", "(I)I"⟩
abbrev cX11_thing : ByteArray := prog_1_method_22_code
def yX11_thing : MethodName := ⟨RX11, "thing", "(III)I"⟩
abbrev cX11_share : ByteArray := prog_1_method_23_code
def yX11_share : MethodName := ⟨RX11, "share", "(III)I"⟩
abbrev cX11_sheet : ByteArray := prog_1_method_24_code
def yX11_sheet : MethodName := ⟨RX11, "sheet", "(III)I"⟩
abbrev cX11_lose : ByteArray := prog_1_method_25_code
def yX11_lose : MethodName := ⟨RX11, "lose", "(I)I"⟩
abbrev cX11_lay : ByteArray := prog_1_method_26_code
def yX11_lay : MethodName := ⟨RX11, "lay", "(IIII)I"⟩
abbrev cX11_get : ByteArray := prog_1_method_27_code
def yX11_get : MethodName := ⟨RX11, "get", "(III)I"⟩
abbrev cX11_copy : ByteArray := prog_1_method_28_code
def yX11_copy : MethodName := ⟨RX11, "copy", "(IIIII)I"⟩
abbrev cX11_write : ByteArray := prog_1_method_29_code
def yX11_write : MethodName := ⟨RX11, "write", "(I)I"⟩
abbrev cX11_count : ByteArray := prog_1_method_30_code
def yX11_count : MethodName := ⟨RX11, "count", "(I)I"⟩
abbrev cX11_digest : ByteArray := prog_1_method_31_code
def yX11_digest : MethodName := ⟨RX11, "digest", "()J"⟩
abbrev cX11_find : ByteArray := prog_1_method_32_code
def yX11_find : MethodName := ⟨RX11, "find", "(I)I"⟩
abbrev cX11_isOne : ByteArray := prog_1_method_33_code
def yX11_isOne : MethodName := ⟨RX11, "isOne", "(II)Z"⟩
abbrev cX11_isKind : ByteArray := prog_1_method_34_code
def yX11_isKind : MethodName := ⟨RX11, "isKind", "(I)Z"⟩
abbrev cX11_isTray : ByteArray := prog_1_method_35_code
def yX11_isTray : MethodName := ⟨RX11, "isTray", "(I)Z"⟩
abbrev cX11_isSheet : ByteArray := prog_1_method_36_code
def yX11_isSheet : MethodName := ⟨RX11, "isSheet", "(I)Z"⟩
abbrev cX11_isForm : ByteArray := prog_1_method_37_code
def yX11_isForm : MethodName := ⟨RX11, "isForm", "(I)Z"⟩
abbrev cX11_isWithin : ByteArray := prog_1_method_38_code
def yX11_isWithin : MethodName := ⟨RX11, "isWithin", "(III)Z"⟩
abbrev cX11_mayBeDirection : ByteArray := prog_1_method_39_code
def yX11_mayBeDirection : MethodName := ⟨RX11, "mayBeDirection", "(III)Z"⟩
abbrev cX11_trianglesOf : ByteArray := prog_1_method_40_code
def yX11_trianglesOf : MethodName := ⟨RX11, "trianglesOf", "(I)I"⟩
abbrev cX11_pairOf : ByteArray := prog_1_method_41_code
def yX11_pairOf : MethodName := ⟨RX11, "pairOf", "(II)I"⟩
abbrev cX11_keyNumber : ByteArray := prog_1_method_42_code
def yX11_keyNumber : MethodName := ⟨RX11, "keyNumber", "(IIIII)I"⟩
abbrev cX11_floatBits : ByteArray := prog_1_method_43_code
def yX11_floatBits : MethodName := ⟨RX11, "floatBits", "(II)I"⟩
def RX12 : String := "StarTrackerModel"
def TX12 : u_T := fun k => match k with
  | 0 => ("StarTrackerModel", "forms", "[I", true)
  | 1 => ("StarTrackerModel", "sizes", "[I", true)
  | 2 => ("StarTrackerModel", "items", "[I", true)
  | 3 => ("StarTrackerModel", "moved", "[I", true)
  | 4 => ("StarTrackerModel", "latest", "I", false)
  | 5 => ("StarTrackerModel", "dir", "[I", true)
  | 6 => ("StarTrackerModel", "many", "[I", true)
  | 7 => ("StarTrackerModel", "settings", "[I", true)
  | 8 => ("StarTrackerModel", "drawn", "I", false)
  | 9 => ("StarTrackerModel", "gone", "I", false)
  | 10 => ("StarTrackerModel", "lookedAt", "I", false)
  | 11 => ("StarTrackerModel", "matches", "I", false)
  | 12 => ("StarTrackerModel", "votes", "[I", true)
  | 13 => ("StarTrackerModel", "starOf", "[I", true)
  | 14 => ("StarTrackerModel", "rankOf", "[I", true)
  | 15 => ("StarTrackerModel", "used", "[Z", true)
  | 16 => ("StarTrackerModel", "pairs", "I", false)
  | 17 => ("StarTrackerModel", "isTurn", "Z", false)
  | 18 => ("StarTrackerModel", "starArm", "[J", true)
  | 19 => ("StarTrackerModel", "spotArm", "[J", true)
  | 20 => ("StarTrackerModel", "self", "[J", true)
  | 21 => ("StarTrackerModel", "placeOf", "[I", true)
  | 22 => ("StarTrackerModel", "sure", "[I", true)
  | 23 => ("StarTrackerModel", "far", "[I", true)
  | 24 => ("StarTrackerModel", "manySure", "I", false)
  | 25 => ("StarTrackerModel", "tray", "[I", true)
  | 26 => ("StarTrackerModel", "trayMany", "[I", true)
  | _ => ("StarTrackerModel", "holds", "[I", true)
def tyX12 : Nat → FieldType := fun k => match k with
  | 0 => .array .int
  | 1 => .array .int
  | 2 => .array .int
  | 3 => .array .int
  | 4 => .int
  | 5 => .array .int
  | 6 => .array .int
  | 7 => .array .int
  | 8 => .int
  | 9 => .int
  | 10 => .int
  | 11 => .int
  | 12 => .array .int
  | 13 => .array .int
  | 14 => .array .int
  | 15 => .array .boolean
  | 16 => .int
  | 17 => .boolean
  | 18 => .array .long
  | 19 => .array .long
  | 20 => .array .long
  | 21 => .array .int
  | 22 => .array .int
  | 23 => .array .int
  | 24 => .int
  | 25 => .array .int
  | 26 => .array .int
  | _ => .array .int
abbrev wsX120 : List Cond := u_ws RX12 TX12 28
theorem nmX12 : ∀ a, a < 28 → ∀ b, b < 28 → a ≠ b → (TX12 a).2.1 ≠ (TX12 b).2.1 := by decide +kernel
theorem tyX12_ok : ∀ k, k < 28 → parseFieldDescriptor (TX12 k).2.2.1 = some (tyX12 k) := by decide +kernel
abbrev cX12_init : ByteArray := prog_14_method_1_code
def yX12_init : MethodName := ⟨RX12, "<init>", "()V"⟩
abbrev cX12_in : ByteArray := prog_14_method_3_code
def yX12_in : MethodName := ⟨RX12, "in", "(JJJ)Z"⟩
abbrev cX12_isTwo : ByteArray := prog_14_method_4_code
def yX12_isTwo : MethodName := ⟨RX12, "isTwo", "(I)Z"⟩
abbrev cX12_isIn : ByteArray := prog_14_method_5_code
def yX12_isIn : MethodName := ⟨RX12, "isIn", "(II)Z"⟩
abbrev cX12_lesser : ByteArray := prog_14_method_6_code
def yX12_lesser : MethodName := ⟨RX12, "lesser", "(II)I"⟩
abbrev cX12_greater : ByteArray := prog_14_method_7_code
def yX12_greater : MethodName := ⟨RX12, "greater", "(II)I"⟩
abbrev cX12_finds : ByteArray := prog_14_method_8_code
def yX12_finds : MethodName := ⟨RX12, "finds", "(I)I"⟩
abbrev cX12_isSheet : ByteArray := prog_14_method_9_code
def yX12_isSheet : MethodName := ⟨RX12, "isSheet", "(I)Z"⟩
abbrev cX12_sheet : ByteArray := prog_14_method_10_code
def yX12_sheet : MethodName := ⟨RX12, "sheet", "(III)I"⟩
abbrev cX12_lose : ByteArray := prog_14_method_11_code
def yX12_lose : MethodName := ⟨RX12, "lose", "(I)I"⟩
abbrev cX12_lacks : ByteArray := prog_14_method_12_code
def yX12_lacks : MethodName := ⟨RX12, "lacks", "(III)I"⟩
abbrev cX12_cut : ByteArray := prog_14_method_13_code
def yX12_cut : MethodName := ⟨RX12, "cut", "(II)I"⟩
abbrev cX12_lay : ByteArray := prog_14_method_14_code
def yX12_lay : MethodName := ⟨RX12, "lay", "(IIII)I"⟩
abbrev cX12_get : ByteArray := prog_14_method_15_code
def yX12_get : MethodName := ⟨RX12, "get", "(III)I"⟩
abbrev cX12_copy : ByteArray := prog_14_method_16_code
def yX12_copy : MethodName := ⟨RX12, "copy", "(IIIII)I"⟩
abbrev cX12_isDirection : ByteArray := prog_14_method_17_code
def yX12_isDirection : MethodName := ⟨RX12, "isDirection", "(III)Z"⟩
abbrev cX12_most : ByteArray := prog_14_method_18_code
def yX12_most : MethodName := ⟨RX12, "most", "(I)I"⟩
abbrev cX12_lays : ByteArray := prog_14_method_19_code
def yX12_lays : MethodName := ⟨RX12, "lays", "(IIIII)V"⟩
abbrev cX12_add : ByteArray := prog_14_method_20_code
def yX12_add : MethodName := ⟨RX12, "add", "(IIII)I"⟩
abbrev cX12_back : ByteArray := prog_14_method_21_code
def yX12_back : MethodName := ⟨RX12, "back", "(I)I"⟩
abbrev cX12_isThere : ByteArray := prog_14_method_22_code
def yX12_isThere : MethodName := ⟨RX12, "isThere", "(II)Z"⟩
abbrev cX12_of : ByteArray := prog_14_method_23_code
def yX12_of : MethodName := ⟨RX12, "of", "(III)I"⟩
abbrev cX12_at : ByteArray := prog_14_method_24_code
def yX12_at : MethodName := ⟨RX12, "at", "(III)I"⟩
abbrev cX12_read : ByteArray := prog_14_method_25_code
def yX12_read : MethodName := ⟨RX12, "read", "(II)I"⟩
abbrev cX12_lot : ByteArray := prog_14_method_26_code
def yX12_lot : MethodName := ⟨RX12, "lot", "(I)I"⟩
abbrev cX12_noisy : ByteArray := prog_14_method_27_code
def yX12_noisy : MethodName := ⟨RX12, "noisy", "(II)I"⟩
abbrev cX12_sees : ByteArray := prog_14_method_28_code
def yX12_sees : MethodName := ⟨RX12, "sees", "(IIIII)V"⟩
abbrev cX12_see : ByteArray := prog_14_method_29_code
def yX12_see : MethodName := ⟨RX12, "see", "(IIIIII)I"⟩
abbrev cX12_set : ByteArray := prog_14_method_30_code
def yX12_set : MethodName := ⟨RX12, "set", "(II)I"⟩
abbrev cX12_sideOf : ByteArray := prog_14_method_31_code
def yX12_sideOf : MethodName := ⟨RX12, "sideOf", "(III)I"⟩
abbrev cX12_side : ByteArray := prog_14_method_32_code
def yX12_side : MethodName := ⟨RX12, "side", "(III)I"⟩
abbrev cX12_keyOf : ByteArray := prog_14_method_33_code
def yX12_keyOf : MethodName := ⟨RX12, "keyOf", "(IIIII)I"⟩
abbrev cX12_isTriangle : ByteArray := prog_14_method_34_code
def yX12_isTriangle : MethodName := ⟨RX12, "isTriangle", "(IIII)Z"⟩
abbrev cX12_key : ByteArray := prog_14_method_35_code
def yX12_key : MethodName := ⟨RX12, "key", "(IIIII)I"⟩
abbrev cX12_apart : ByteArray := prog_14_method_36_code
def yX12_apart : MethodName := ⟨RX12, "apart", "(II)I"⟩
abbrev cX12_isLike : ByteArray := prog_14_method_37_code
def yX12_isLike : MethodName := ⟨RX12, "isLike", "(IIII)Z"⟩
abbrev cX12_tries : ByteArray := prog_14_method_38_code
def yX12_tries : MethodName := ⟨RX12, "tries", "(IIIIII)V"⟩
abbrev cX12_meets : ByteArray := prog_14_method_39_code
def yX12_meets : MethodName := ⟨RX12, "meets", "(IIIIII)V"⟩
abbrev cX12_looksAt : ByteArray := prog_14_method_40_code
def yX12_looksAt : MethodName := ⟨RX12, "looksAt", "(III)V"⟩
abbrev cX12_votesAll : ByteArray := prog_14_method_41_code
def yX12_votesAll : MethodName := ⟨RX12, "votesAll", "()V"⟩
abbrev cX12_takes : ByteArray := prog_14_method_42_code
def yX12_takes : MethodName := ⟨RX12, "takes", "()V"⟩
abbrev cX12_multiplies : ByteArray := prog_14_method_43_code
def yX12_multiplies : MethodName := ⟨RX12, "multiplies", "([JIII)V"⟩
abbrev cX12_arms : ByteArray := prog_14_method_44_code
def yX12_arms : MethodName := ⟨RX12, "arms", "([JIII)V"⟩
abbrev cX12_nearest : ByteArray := prog_14_method_45_code
def yX12_nearest : MethodName := ⟨RX12, "nearest", "(JJ)J"⟩
abbrev cX12_coordinate : ByteArray := prog_14_method_46_code
def yX12_coordinate : MethodName := ⟨RX12, "coordinate", "(II)I"⟩
abbrev cX12_spotOf : ByteArray := prog_14_method_47_code
def yX12_spotOf : MethodName := ⟨RX12, "spotOf", "(I)I"⟩
abbrev cX12_isNone : ByteArray := prog_14_method_48_code
def yX12_isNone : MethodName := ⟨RX12, "isNone", "([J)Z"⟩
abbrev cX12_turning : ByteArray := prog_14_method_49_code
def yX12_turning : MethodName := ⟨RX12, "turning", "()V"⟩
abbrev cX12_farOf : ByteArray := prog_14_method_50_code
def yX12_farOf : MethodName := ⟨RX12, "farOf", "(II)I"⟩
abbrev cX12_confirms : ByteArray := prog_14_method_51_code
def yX12_confirms : MethodName := ⟨RX12, "confirms", "()V"⟩
abbrev cX12_find : ByteArray := prog_14_method_52_code
def yX12_find : MethodName := ⟨RX12, "find", "()V"⟩
abbrev cX12_threes : ByteArray := prog_14_method_53_code
def yX12_threes : MethodName := ⟨RX12, "threes", "(I)I"⟩
abbrev cX12_looksBy : ByteArray := prog_14_method_54_code
def yX12_looksBy : MethodName := ⟨RX12, "looksBy", "(I)I"⟩
abbrev cX12_looks : ByteArray := prog_14_method_55_code
def yX12_looks : MethodName := ⟨RX12, "looks", "(I)I"⟩
abbrev cX12_votes : ByteArray := prog_14_method_56_code
def yX12_votes : MethodName := ⟨RX12, "votes", "(II)I"⟩
abbrev cX12_takenBy : ByteArray := prog_14_method_57_code
def yX12_takenBy : MethodName := ⟨RX12, "takenBy", "(II)I"⟩
abbrev cX12_taken : ByteArray := prog_14_method_58_code
def yX12_taken : MethodName := ⟨RX12, "taken", "(II)I"⟩
abbrev cX12_turn : ByteArray := prog_14_method_59_code
def yX12_turn : MethodName := ⟨RX12, "turn", "()I"⟩
abbrev cX12_placeBy : ByteArray := prog_14_method_60_code
def yX12_placeBy : MethodName := ⟨RX12, "placeBy", "(II)I"⟩
abbrev cX12_place : ByteArray := prog_14_method_61_code
def yX12_place : MethodName := ⟨RX12, "place", "(II)I"⟩
abbrev cX12_confirmedBy : ByteArray := prog_14_method_62_code
def yX12_confirmedBy : MethodName := ⟨RX12, "confirmedBy", "(II)I"⟩
abbrev cX12_confirmed : ByteArray := prog_14_method_63_code
def yX12_confirmed : MethodName := ⟨RX12, "confirmed", "(II)I"⟩
abbrev cX12_wrongNow : ByteArray := prog_14_method_64_code
def yX12_wrongNow : MethodName := ⟨RX12, "wrongNow", "()I"⟩
abbrev cX12_wrong : ByteArray := prog_14_method_65_code
def yX12_wrong : MethodName := ⟨RX12, "wrong", "()I"⟩
abbrev cX12_betterBy : ByteArray := prog_14_method_66_code
def yX12_betterBy : MethodName := ⟨RX12, "betterBy", "(I)I"⟩
abbrev cX12_better : ByteArray := prog_14_method_67_code
def yX12_better : MethodName := ⟨RX12, "better", "(I)I"⟩
abbrev cX12_spareBy : ByteArray := prog_14_method_68_code
def yX12_spareBy : MethodName := ⟨RX12, "spareBy", "(I)I"⟩
abbrev cX12_spare : ByteArray := prog_14_method_69_code
def yX12_spare : MethodName := ⟨RX12, "spare", "(I)I"⟩
abbrev cX12_isTray : ByteArray := prog_14_method_70_code
def yX12_isTray : MethodName := ⟨RX12, "isTray", "(I)Z"⟩
abbrev cX12_put : ByteArray := prog_14_method_71_code
def yX12_put : MethodName := ⟨RX12, "put", "(III)I"⟩
abbrev cX12_fork : ByteArray := prog_14_method_72_code
def yX12_fork : MethodName := ⟨RX12, "fork", "(II)I"⟩
abbrev cX12_take : ByteArray := prog_14_method_73_code
def yX12_take : MethodName := ⟨RX12, "take", "(I)I"⟩
abbrev cX12_isThing : ByteArray := prog_14_method_74_code
def yX12_isThing : MethodName := ⟨RX12, "isThing", "(II)Z"⟩
abbrev cX12_thing : ByteArray := prog_14_method_75_code
def yX12_thing : MethodName := ⟨RX12, "thing", "(III)I"⟩
abbrev cX12_product : ByteArray := prog_14_method_76_code
def yX12_product : MethodName := ⟨RX12, "product", "(III)I"⟩
abbrev cX12_quotient : ByteArray := prog_14_method_77_code
def yX12_quotient : MethodName := ⟨RX12, "quotient", "(II)I"⟩
abbrev cX12_shareBy : ByteArray := prog_14_method_78_code
def yX12_shareBy : MethodName := ⟨RX12, "shareBy", "(III)I"⟩
abbrev cX12_share : ByteArray := prog_14_method_79_code
def yX12_share : MethodName := ⟨RX12, "share", "(III)I"⟩
abbrev cX12_write : ByteArray := prog_14_method_80_code
def yX12_write : MethodName := ⟨RX12, "write", "(I)I"⟩
abbrev cX12_manyThings : ByteArray := prog_14_method_81_code
def yX12_manyThings : MethodName := ⟨RX12, "manyThings", "()I"⟩
abbrev cX12_manyWrong : ByteArray := prog_14_method_82_code
def yX12_manyWrong : MethodName := ⟨RX12, "manyWrong", "()I"⟩
abbrev cX12_count : ByteArray := prog_14_method_83_code
def yX12_count : MethodName := ⟨RX12, "count", "(I)I"⟩
abbrev cX12_tellsSky : ByteArray := prog_14_method_84_code
def yX12_tellsSky : MethodName := ⟨RX12, "tellsSky", "(J)J"⟩
abbrev cX12_digest : ByteArray := prog_14_method_85_code
def yX12_digest : MethodName := ⟨RX12, "digest", "()J"⟩
def RJx8e188 : String := "java/lang/Cloneable"
def TJx8e188 : u_T := fun k => match k with
  | _ => ("", "", "", false)
def tyJx8e188 : Nat → FieldType := fun k => match k with
  | _ => .int
abbrev wsJx8e1880 : List Cond := u_ws RJx8e188 TJx8e188 0
theorem nmJx8e188 : ∀ a, a < 0 → ∀ b, b < 0 → a ≠ b → (TJx8e188 a).2.1 ≠ (TJx8e188 b).2.1 := by decide +kernel
theorem tyJx8e188_ok : ∀ k, k < 0 → parseFieldDescriptor (TJx8e188 k).2.2.1 = some (tyJx8e188 k) := by decide +kernel
def RJ6 : String := "java/lang/Integer"
def TJ6 : u_T := fun k => match k with
  | _ => ("", "", "", false)
def tyJ6 : Nat → FieldType := fun k => match k with
  | _ => .int
abbrev wsJ60 : List Cond := u_ws RJ6 TJ6 0
theorem nmJ6 : ∀ a, a < 0 → ∀ b, b < 0 → a ≠ b → (TJ6 a).2.1 ≠ (TJ6 b).2.1 := by decide +kernel
theorem tyJ6_ok : ∀ k, k < 0 → parseFieldDescriptor (TJ6 k).2.2.1 = some (tyJ6 k) := by decide +kernel
abbrev cJ6_bitCount_0f7a4 : ByteArray := prog_16_method_49_code
def yJ6_bitCount_0f7a4 : MethodName := ⟨RJ6, "bitCount", "(I)I"⟩
def RJ9 : String := "java/lang/Math"
def TJ9 : u_T := fun k => match k with
  | _ => ("", "", "", false)
def tyJ9 : Nat → FieldType := fun k => match k with
  | _ => .int
abbrev wsJ90 : List Cond := u_ws RJ9 TJ9 0
theorem nmJ9 : ∀ a, a < 0 → ∀ b, b < 0 → a ≠ b → (TJ9 a).2.1 ≠ (TJ9 b).2.1 := by decide +kernel
theorem tyJ9_ok : ∀ k, k < 0 → parseFieldDescriptor (TJ9 k).2.2.1 = some (tyJ9 k) := by decide +kernel
abbrev cJ9_floorDiv_f86c9 : ByteArray := prog_17_method_49_code
def yJ9_floorDiv_f86c9 : MethodName := ⟨RJ9, "floorDiv", "(JJ)J"⟩
abbrev cJ9_abs_0f7a4 : ByteArray := prog_17_method_59_code
def yJ9_abs_0f7a4 : MethodName := ⟨RJ9, "abs", "(I)I"⟩
abbrev cJ9_abs_067f4 : ByteArray := prog_17_method_61_code
def yJ9_abs_067f4 : MethodName := ⟨RJ9, "abs", "(J)J"⟩
abbrev cJ9_max_7cf53 : ByteArray := prog_17_method_65_code
def yJ9_max_7cf53 : MethodName := ⟨RJ9, "max", "(II)I"⟩
abbrev cJ9_min_7cf53 : ByteArray := prog_17_method_69_code
def yJ9_min_7cf53 : MethodName := ⟨RJ9, "min", "(II)I"⟩
def RJ10 : String := "java/lang/System"
def TJ10 : u_T := fun k => match k with
  | _ => ("", "", "", false)
def tyJ10 : Nat → FieldType := fun k => match k with
  | _ => .int
abbrev wsJ100 : List Cond := u_ws RJ10 TJ10 0
theorem nmJ10 : ∀ a, a < 0 → ∀ b, b < 0 → a ≠ b → (TJ10 a).2.1 ≠ (TJ10 b).2.1 := by decide +kernel
theorem tyJ10_ok : ∀ k, k < 0 → parseFieldDescriptor (TJ10 k).2.2.1 = some (tyJ10 k) := by decide +kernel
def RJ7 : String := "java/util/Arrays"
def TJ7 : u_T := fun k => match k with
  | _ => ("", "", "", false)
def tyJ7 : Nat → FieldType := fun k => match k with
  | _ => .int
abbrev wsJ70 : List Cond := u_ws RJ7 TJ7 0
theorem nmJ7 : ∀ a, a < 0 → ∀ b, b < 0 → a ≠ b → (TJ7 a).2.1 ≠ (TJ7 b).2.1 := by decide +kernel
theorem tyJ7_ok : ∀ k, k < 0 → parseFieldDescriptor (TJ7 k).2.2.1 = some (tyJ7 k) := by decide +kernel
abbrev cJ7_fill_53178 : ByteArray := prog_19_method_103_code
def yJ7_fill_53178 : MethodName := ⟨RJ7, "fill", "([II)V"⟩
def RL : String := "StarTrackerLaw"
abbrev cL_law : ByteArray := code
def yL_law : MethodName := ⟨RL, "law", "([I)Z"⟩
