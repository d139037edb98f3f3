-- ===== PART A: goes FIRST, ahead of the names: the tables' words, and 'selects' of the private methods out of them =====
/-- a private method of a class that the tables say can be made, by its rows of tables_1 -/
def lw_okq (q : MethodName × Nat) : Prop := (q.1.cls ≠ "java/lang/invoke/MethodHandle" ∧ q.1.cls ≠ "java/lang/invoke/VarHandle") ∧ Cond.instantiable q.1.cls q.2 ∈ tables_1 ∧ Cond.privateMethod q.1 ∈ tables_1 ∧ Cond.instanceMethod q.1 ∈ tables_1
theorem lw_p0 : lw_okq (⟨"OfferTurn", "found", "(I)I"⟩, 14) := ⟨⟨by decide +kernel, by decide +kernel⟩, List.mem_of_getElem? (i := 14) (by decide +kernel), List.mem_of_getElem? (i := 323) (by decide +kernel), List.mem_of_getElem? (i := 324) (by decide +kernel)⟩
theorem lw_p1 : lw_okq (⟨"OfferTurn", "placeRefused", "(LOfferTurn$Shelf;II)I"⟩, 14) := ⟨⟨by decide +kernel, by decide +kernel⟩, List.mem_of_getElem? (i := 14) (by decide +kernel), List.mem_of_getElem? (i := 342) (by decide +kernel), List.mem_of_getElem? (i := 343) (by decide +kernel)⟩
theorem lw_p2 : lw_okq (⟨"OfferTurn", "tell", "(I)V"⟩, 14) := ⟨⟨by decide +kernel, by decide +kernel⟩, List.mem_of_getElem? (i := 14) (by decide +kernel), List.mem_of_getElem? (i := 360) (by decide +kernel), List.mem_of_getElem? (i := 361) (by decide +kernel)⟩
theorem lw_p3 : lw_okq (⟨"OfferTurn$Reader", "readStores", "()V"⟩, 6) := ⟨⟨by decide +kernel, by decide +kernel⟩, List.mem_of_getElem? (i := 41) (by decide +kernel), List.mem_of_getElem? (i := 426) (by decide +kernel), List.mem_of_getElem? (i := 427) (by decide +kernel)⟩
theorem lw_p4 : lw_okq (⟨"OfferTurn$Reader", "skipBlanks", "()V"⟩, 6) := ⟨⟨by decide +kernel, by decide +kernel⟩, List.mem_of_getElem? (i := 41) (by decide +kernel), List.mem_of_getElem? (i := 430) (by decide +kernel), List.mem_of_getElem? (i := 431) (by decide +kernel)⟩
theorem lw_p5 : lw_okq (⟨"OfferTurn$Reader", "sign", "()I"⟩, 6) := ⟨⟨by decide +kernel, by decide +kernel⟩, List.mem_of_getElem? (i := 41) (by decide +kernel), List.mem_of_getElem? (i := 434) (by decide +kernel), List.mem_of_getElem? (i := 435) (by decide +kernel)⟩
theorem lw_p6 : lw_okq (⟨"OfferTurn$Reader", "figure", "(II)I"⟩, 6) := ⟨⟨by decide +kernel, by decide +kernel⟩, List.mem_of_getElem? (i := 41) (by decide +kernel), List.mem_of_getElem? (i := 438) (by decide +kernel), List.mem_of_getElem? (i := 439) (by decide +kernel)⟩
theorem lw_p7 : lw_okq (⟨"OfferTurn$Reader", "readGods", "()V"⟩, 6) := ⟨⟨by decide +kernel, by decide +kernel⟩, List.mem_of_getElem? (i := 41) (by decide +kernel), List.mem_of_getElem? (i := 442) (by decide +kernel), List.mem_of_getElem? (i := 443) (by decide +kernel)⟩
theorem lw_p8 : lw_okq (⟨"OfferTurn$Reader", "readGod", "(I)V"⟩, 6) := ⟨⟨by decide +kernel, by decide +kernel⟩, List.mem_of_getElem? (i := 41) (by decide +kernel), List.mem_of_getElem? (i := 446) (by decide +kernel), List.mem_of_getElem? (i := 447) (by decide +kernel)⟩
theorem lw_p9 : lw_okq (⟨"OfferTurn$Reader", "kind", "()I"⟩, 6) := ⟨⟨by decide +kernel, by decide +kernel⟩, List.mem_of_getElem? (i := 41) (by decide +kernel), List.mem_of_getElem? (i := 450) (by decide +kernel), List.mem_of_getElem? (i := 451) (by decide +kernel)⟩
theorem lw_p10 : lw_okq (⟨"OfferTurn$Reader", "neighbour", "(IZ)I"⟩, 6) := ⟨⟨by decide +kernel, by decide +kernel⟩, List.mem_of_getElem? (i := 41) (by decide +kernel), List.mem_of_getElem? (i := 456) (by decide +kernel), List.mem_of_getElem? (i := 457) (by decide +kernel)⟩
theorem lw_p11 : lw_okq (⟨"OfferTurn", "traitOf", "(II)I"⟩, 14) := ⟨⟨by decide +kernel, by decide +kernel⟩, List.mem_of_getElem? (i := 14) (by decide +kernel), List.mem_of_getElem? (i := 498) (by decide +kernel), List.mem_of_getElem? (i := 499) (by decide +kernel)⟩
theorem lw_p12 : lw_okq (⟨"OfferTurn$Village", "noted", "(II)I"⟩, 4) := ⟨⟨by decide +kernel, by decide +kernel⟩, List.mem_of_getElem? (i := 137) (by decide +kernel), List.mem_of_getElem? (i := 516) (by decide +kernel), List.mem_of_getElem? (i := 517) (by decide +kernel)⟩
theorem lw_p13 : lw_okq (⟨"OfferTurn", "shortOfGoing", "(I)I"⟩, 14) := ⟨⟨by decide +kernel, by decide +kernel⟩, List.mem_of_getElem? (i := 14) (by decide +kernel), List.mem_of_getElem? (i := 524) (by decide +kernel), List.mem_of_getElem? (i := 525) (by decide +kernel)⟩
theorem lw_p14 : lw_okq (⟨"OfferTurn", "noGods", "()Z"⟩, 14) := ⟨⟨by decide +kernel, by decide +kernel⟩, List.mem_of_getElem? (i := 14) (by decide +kernel), List.mem_of_getElem? (i := 546) (by decide +kernel), List.mem_of_getElem? (i := 547) (by decide +kernel)⟩
theorem lw_p15 : lw_okq (⟨"OfferTurn$Scene", "fedBy", "(LOfferTurn$Gods;I)I"⟩, 10) := ⟨⟨by decide +kernel, by decide +kernel⟩, List.mem_of_getElem? (i := 145) (by decide +kernel), List.mem_of_getElem? (i := 573) (by decide +kernel), List.mem_of_getElem? (i := 574) (by decide +kernel)⟩
def lw_privs_1 : List (MethodName × Nat) := [(⟨"OfferTurn", "found", "(I)I"⟩, 14), (⟨"OfferTurn", "placeRefused", "(LOfferTurn$Shelf;II)I"⟩, 14), (⟨"OfferTurn", "tell", "(I)V"⟩, 14), (⟨"OfferTurn$Reader", "readStores", "()V"⟩, 6), (⟨"OfferTurn$Reader", "skipBlanks", "()V"⟩, 6), (⟨"OfferTurn$Reader", "sign", "()I"⟩, 6), (⟨"OfferTurn$Reader", "figure", "(II)I"⟩, 6), (⟨"OfferTurn$Reader", "readGods", "()V"⟩, 6), (⟨"OfferTurn$Reader", "readGod", "(I)V"⟩, 6), (⟨"OfferTurn$Reader", "kind", "()I"⟩, 6), (⟨"OfferTurn$Reader", "neighbour", "(IZ)I"⟩, 6), (⟨"OfferTurn", "traitOf", "(II)I"⟩, 14), (⟨"OfferTurn$Village", "noted", "(II)I"⟩, 4), (⟨"OfferTurn", "shortOfGoing", "(I)I"⟩, 14), (⟨"OfferTurn", "noGods", "()Z"⟩, 14), (⟨"OfferTurn$Scene", "fedBy", "(LOfferTurn$Gods;I)I"⟩, 10)]
theorem lw_r1 : ∀ q ∈ lw_privs_1, lw_okq q := List.forall_mem_cons.mpr ⟨lw_p0, List.forall_mem_cons.mpr ⟨lw_p1, List.forall_mem_cons.mpr ⟨lw_p2, List.forall_mem_cons.mpr ⟨lw_p3, List.forall_mem_cons.mpr ⟨lw_p4, List.forall_mem_cons.mpr ⟨lw_p5, List.forall_mem_cons.mpr ⟨lw_p6, List.forall_mem_cons.mpr ⟨lw_p7, List.forall_mem_cons.mpr ⟨lw_p8, List.forall_mem_cons.mpr ⟨lw_p9, List.forall_mem_cons.mpr ⟨lw_p10, List.forall_mem_cons.mpr ⟨lw_p11, List.forall_mem_cons.mpr ⟨lw_p12, List.forall_mem_cons.mpr ⟨lw_p13, List.forall_mem_cons.mpr ⟨lw_p14, List.forall_mem_cons.mpr ⟨lw_p15, fun _ h => absurd h List.not_mem_nil⟩⟩⟩⟩⟩⟩⟩⟩⟩⟩⟩⟩⟩⟩⟩⟩
theorem lw_p16 : lw_okq (⟨"OfferTurn$Scene", "awake", "(LOfferTurn$Gods;)I"⟩, 10) := ⟨⟨by decide +kernel, by decide +kernel⟩, List.mem_of_getElem? (i := 145) (by decide +kernel), List.mem_of_getElem? (i := 578) (by decide +kernel), List.mem_of_getElem? (i := 579) (by decide +kernel)⟩
theorem lw_p17 : lw_okq (⟨"OfferTurn$Scene", "hungerAfter", "(LOfferTurn$Gods;II)I"⟩, 10) := ⟨⟨by decide +kernel, by decide +kernel⟩, List.mem_of_getElem? (i := 145) (by decide +kernel), List.mem_of_getElem? (i := 611) (by decide +kernel), List.mem_of_getElem? (i := 612) (by decide +kernel)⟩
theorem lw_p18 : lw_okq (⟨"OfferTurn$Scene", "send", "(LOfferTurn$Gods;I)V"⟩, 10) := ⟨⟨by decide +kernel, by decide +kernel⟩, List.mem_of_getElem? (i := 145) (by decide +kernel), List.mem_of_getElem? (i := 616) (by decide +kernel), List.mem_of_getElem? (i := 617) (by decide +kernel)⟩
theorem lw_p19 : lw_okq (⟨"OfferTurn", "isKeepingPlace", "(I)Z"⟩, 14) := ⟨⟨by decide +kernel, by decide +kernel⟩, List.mem_of_getElem? (i := 14) (by decide +kernel), List.mem_of_getElem? (i := 671) (by decide +kernel), List.mem_of_getElem? (i := 672) (by decide +kernel)⟩
theorem lw_p20 : lw_okq (⟨"OfferTurn$Plans", "start", "(LOfferTurn$Scene;I)V"⟩, 13) := ⟨⟨by decide +kernel, by decide +kernel⟩, List.mem_of_getElem? (i := 212) (by decide +kernel), List.mem_of_getElem? (i := 698) (by decide +kernel), List.mem_of_getElem? (i := 699) (by decide +kernel)⟩
theorem lw_p21 : lw_okq (⟨"OfferTurn$Plans", "weigh", "(LOfferTurn$Scene;)V"⟩, 13) := ⟨⟨by decide +kernel, by decide +kernel⟩, List.mem_of_getElem? (i := 212) (by decide +kernel), List.mem_of_getElem? (i := 709) (by decide +kernel), List.mem_of_getElem? (i := 710) (by decide +kernel)⟩
theorem lw_p22 : lw_okq (⟨"OfferTurn$Plans", "goOn", "(LOfferTurn$Gods;II)Z"⟩, 13) := ⟨⟨by decide +kernel, by decide +kernel⟩, List.mem_of_getElem? (i := 212) (by decide +kernel), List.mem_of_getElem? (i := 715) (by decide +kernel), List.mem_of_getElem? (i := 716) (by decide +kernel)⟩
theorem lw_p23 : lw_okq (⟨"OfferTurn$Plans", "isWanted", "(I)Z"⟩, 13) := ⟨⟨by decide +kernel, by decide +kernel⟩, List.mem_of_getElem? (i := 212) (by decide +kernel), List.mem_of_getElem? (i := 721) (by decide +kernel), List.mem_of_getElem? (i := 722) (by decide +kernel)⟩
theorem lw_p24 : lw_okq (⟨"OfferTurn", "holdsNumbersOnly", "(I)Z"⟩, 14) := ⟨⟨by decide +kernel, by decide +kernel⟩, List.mem_of_getElem? (i := 14) (by decide +kernel), List.mem_of_getElem? (i := 735) (by decide +kernel), List.mem_of_getElem? (i := 736) (by decide +kernel)⟩
theorem lw_p25 : lw_okq (⟨"OfferTurn", "startTrial", "()V"⟩, 14) := ⟨⟨by decide +kernel, by decide +kernel⟩, List.mem_of_getElem? (i := 14) (by decide +kernel), List.mem_of_getElem? (i := 739) (by decide +kernel), List.mem_of_getElem? (i := 740) (by decide +kernel)⟩
theorem lw_p26 : lw_okq (⟨"OfferTurn", "tellFraction", "(II)V"⟩, 14) := ⟨⟨by decide +kernel, by decide +kernel⟩, List.mem_of_getElem? (i := 14) (by decide +kernel), List.mem_of_getElem? (i := 759) (by decide +kernel), List.mem_of_getElem? (i := 760) (by decide +kernel)⟩
theorem lw_p27 : lw_okq (⟨"OfferTurn", "bookRefused", "(II)I"⟩, 14) := ⟨⟨by decide +kernel, by decide +kernel⟩, List.mem_of_getElem? (i := 14) (by decide +kernel), List.mem_of_getElem? (i := 815) (by decide +kernel), List.mem_of_getElem? (i := 816) (by decide +kernel)⟩
theorem lw_p28 : lw_okq (⟨"OfferTurn", "fittingPatiences", "(III)I"⟩, 14) := ⟨⟨by decide +kernel, by decide +kernel⟩, List.mem_of_getElem? (i := 14) (by decide +kernel), List.mem_of_getElem? (i := 819) (by decide +kernel), List.mem_of_getElem? (i := 820) (by decide +kernel)⟩
theorem lw_p29 : lw_okq (⟨"OfferTurn", "bookFitsOthers", "(II)Z"⟩, 14) := ⟨⟨by decide +kernel, by decide +kernel⟩, List.mem_of_getElem? (i := 14) (by decide +kernel), List.mem_of_getElem? (i := 823) (by decide +kernel), List.mem_of_getElem? (i := 824) (by decide +kernel)⟩
theorem lw_p30 : lw_okq (⟨"OfferTurn", "mostLeftBy", "(II)I"⟩, 14) := ⟨⟨by decide +kernel, by decide +kernel⟩, List.mem_of_getElem? (i := 14) (by decide +kernel), List.mem_of_getElem? (i := 836) (by decide +kernel), List.mem_of_getElem? (i := 837) (by decide +kernel)⟩
theorem lw_p31 : lw_okq (⟨"OfferTurn", "howManyKept", "()I"⟩, 14) := ⟨⟨by decide +kernel, by decide +kernel⟩, List.mem_of_getElem? (i := 14) (by decide +kernel), List.mem_of_getElem? (i := 868) (by decide +kernel), List.mem_of_getElem? (i := 869) (by decide +kernel)⟩
def lw_privs_2 : List (MethodName × Nat) := [(⟨"OfferTurn$Scene", "awake", "(LOfferTurn$Gods;)I"⟩, 10), (⟨"OfferTurn$Scene", "hungerAfter", "(LOfferTurn$Gods;II)I"⟩, 10), (⟨"OfferTurn$Scene", "send", "(LOfferTurn$Gods;I)V"⟩, 10), (⟨"OfferTurn", "isKeepingPlace", "(I)Z"⟩, 14), (⟨"OfferTurn$Plans", "start", "(LOfferTurn$Scene;I)V"⟩, 13), (⟨"OfferTurn$Plans", "weigh", "(LOfferTurn$Scene;)V"⟩, 13), (⟨"OfferTurn$Plans", "goOn", "(LOfferTurn$Gods;II)Z"⟩, 13), (⟨"OfferTurn$Plans", "isWanted", "(I)Z"⟩, 13), (⟨"OfferTurn", "holdsNumbersOnly", "(I)Z"⟩, 14), (⟨"OfferTurn", "startTrial", "()V"⟩, 14), (⟨"OfferTurn", "tellFraction", "(II)V"⟩, 14), (⟨"OfferTurn", "bookRefused", "(II)I"⟩, 14), (⟨"OfferTurn", "fittingPatiences", "(III)I"⟩, 14), (⟨"OfferTurn", "bookFitsOthers", "(II)Z"⟩, 14), (⟨"OfferTurn", "mostLeftBy", "(II)I"⟩, 14), (⟨"OfferTurn", "howManyKept", "()I"⟩, 14)]
theorem lw_r2 : ∀ q ∈ lw_privs_2, lw_okq q := List.forall_mem_cons.mpr ⟨lw_p16, List.forall_mem_cons.mpr ⟨lw_p17, List.forall_mem_cons.mpr ⟨lw_p18, List.forall_mem_cons.mpr ⟨lw_p19, List.forall_mem_cons.mpr ⟨lw_p20, List.forall_mem_cons.mpr ⟨lw_p21, List.forall_mem_cons.mpr ⟨lw_p22, List.forall_mem_cons.mpr ⟨lw_p23, List.forall_mem_cons.mpr ⟨lw_p24, List.forall_mem_cons.mpr ⟨lw_p25, List.forall_mem_cons.mpr ⟨lw_p26, List.forall_mem_cons.mpr ⟨lw_p27, List.forall_mem_cons.mpr ⟨lw_p28, List.forall_mem_cons.mpr ⟨lw_p29, List.forall_mem_cons.mpr ⟨lw_p30, List.forall_mem_cons.mpr ⟨lw_p31, fun _ h => absurd h List.not_mem_nil⟩⟩⟩⟩⟩⟩⟩⟩⟩⟩⟩⟩⟩⟩⟩⟩
theorem lw_p32 : lw_okq (⟨"OfferTurnModel", "meets", "(I)I"⟩, 39) := ⟨⟨by decide +kernel, by decide +kernel⟩, List.mem_of_getElem? (i := 896) (by decide +kernel), List.mem_of_getElem? (i := 1052) (by decide +kernel), List.mem_of_getElem? (i := 1053) (by decide +kernel)⟩
theorem lw_p33 : lw_okq (⟨"OfferTurnModel", "rowAt", "(II)I"⟩, 39) := ⟨⟨by decide +kernel, by decide +kernel⟩, List.mem_of_getElem? (i := 896) (by decide +kernel), List.mem_of_getElem? (i := 1060) (by decide +kernel), List.mem_of_getElem? (i := 1061) (by decide +kernel)⟩
theorem lw_p34 : lw_okq (⟨"OfferTurnModel", "tells", "(II)I"⟩, 39) := ⟨⟨by decide +kernel, by decide +kernel⟩, List.mem_of_getElem? (i := 896) (by decide +kernel), List.mem_of_getElem? (i := 1064) (by decide +kernel), List.mem_of_getElem? (i := 1065) (by decide +kernel)⟩
theorem lw_p35 : lw_okq (⟨"OfferTurnModel", "faultOf", "(I)I"⟩, 39) := ⟨⟨by decide +kernel, by decide +kernel⟩, List.mem_of_getElem? (i := 896) (by decide +kernel), List.mem_of_getElem? (i := 1099) (by decide +kernel), List.mem_of_getElem? (i := 1100) (by decide +kernel)⟩
theorem lw_p36 : lw_okq (⟨"OfferTurnModel", "byteAt", "(II)I"⟩, 39) := ⟨⟨by decide +kernel, by decide +kernel⟩, List.mem_of_getElem? (i := 896) (by decide +kernel), List.mem_of_getElem? (i := 1103) (by decide +kernel), List.mem_of_getElem? (i := 1104) (by decide +kernel)⟩
theorem lw_p37 : lw_okq (⟨"OfferTurnModel", "readsGod", "(I)Z"⟩, 39) := ⟨⟨by decide +kernel, by decide +kernel⟩, List.mem_of_getElem? (i := 896) (by decide +kernel), List.mem_of_getElem? (i := 1107) (by decide +kernel), List.mem_of_getElem? (i := 1108) (by decide +kernel)⟩
theorem lw_p38 : lw_okq (⟨"OfferTurnModel", "figure", "(III)Z"⟩, 39) := ⟨⟨by decide +kernel, by decide +kernel⟩, List.mem_of_getElem? (i := 896) (by decide +kernel), List.mem_of_getElem? (i := 1114) (by decide +kernel), List.mem_of_getElem? (i := 1115) (by decide +kernel)⟩
theorem lw_p39 : lw_okq (⟨"OfferTurnModel", "readsStores", "(I)Z"⟩, 39) := ⟨⟨by decide +kernel, by decide +kernel⟩, List.mem_of_getElem? (i := 896) (by decide +kernel), List.mem_of_getElem? (i := 1118) (by decide +kernel), List.mem_of_getElem? (i := 1119) (by decide +kernel)⟩
theorem lw_p40 : lw_okq (⟨"OfferTurnModel", "place", "(III)V"⟩, 39) := ⟨⟨by decide +kernel, by decide +kernel⟩, List.mem_of_getElem? (i := 896) (by decide +kernel), List.mem_of_getElem? (i := 1126) (by decide +kernel), List.mem_of_getElem? (i := 1127) (by decide +kernel)⟩
theorem lw_p41 : lw_okq (⟨"OfferTurnModel", "isGod", "(I)Z"⟩, 39) := ⟨⟨by decide +kernel, by decide +kernel⟩, List.mem_of_getElem? (i := 896) (by decide +kernel), List.mem_of_getElem? (i := 1134) (by decide +kernel), List.mem_of_getElem? (i := 1135) (by decide +kernel)⟩
theorem lw_p42 : lw_okq (⟨"OfferTurnModel", "godTells", "(II)I"⟩, 39) := ⟨⟨by decide +kernel, by decide +kernel⟩, List.mem_of_getElem? (i := 896) (by decide +kernel), List.mem_of_getElem? (i := 1138) (by decide +kernel), List.mem_of_getElem? (i := 1139) (by decide +kernel)⟩
theorem lw_p43 : lw_okq (⟨"OfferTurnModel", "v", "(II)I"⟩, 39) := ⟨⟨by decide +kernel, by decide +kernel⟩, List.mem_of_getElem? (i := 896) (by decide +kernel), List.mem_of_getElem? (i := 1142) (by decide +kernel), List.mem_of_getElem? (i := 1143) (by decide +kernel)⟩
theorem lw_p44 : lw_okq (⟨"OfferTurnModel", "kind", "(I)I"⟩, 39) := ⟨⟨by decide +kernel, by decide +kernel⟩, List.mem_of_getElem? (i := 896) (by decide +kernel), List.mem_of_getElem? (i := 1150) (by decide +kernel), List.mem_of_getElem? (i := 1151) (by decide +kernel)⟩
theorem lw_p45 : lw_okq (⟨"OfferTurnModel", "abides", "(I)I"⟩, 39) := ⟨⟨by decide +kernel, by decide +kernel⟩, List.mem_of_getElem? (i := 896) (by decide +kernel), List.mem_of_getElem? (i := 1154) (by decide +kernel), List.mem_of_getElem? (i := 1155) (by decide +kernel)⟩
theorem lw_p46 : lw_okq (⟨"OfferTurnModel", "isGone", "(II)Z"⟩, 39) := ⟨⟨by decide +kernel, by decide +kernel⟩, List.mem_of_getElem? (i := 896) (by decide +kernel), List.mem_of_getElem? (i := 1158) (by decide +kernel), List.mem_of_getElem? (i := 1159) (by decide +kernel)⟩
theorem lw_p47 : lw_okq (⟨"OfferTurnModel", "patienceOf", "(I)I"⟩, 39) := ⟨⟨by decide +kernel, by decide +kernel⟩, List.mem_of_getElem? (i := 896) (by decide +kernel), List.mem_of_getElem? (i := 1162) (by decide +kernel), List.mem_of_getElem? (i := 1163) (by decide +kernel)⟩
def lw_privs_3 : List (MethodName × Nat) := [(⟨"OfferTurnModel", "meets", "(I)I"⟩, 39), (⟨"OfferTurnModel", "rowAt", "(II)I"⟩, 39), (⟨"OfferTurnModel", "tells", "(II)I"⟩, 39), (⟨"OfferTurnModel", "faultOf", "(I)I"⟩, 39), (⟨"OfferTurnModel", "byteAt", "(II)I"⟩, 39), (⟨"OfferTurnModel", "readsGod", "(I)Z"⟩, 39), (⟨"OfferTurnModel", "figure", "(III)Z"⟩, 39), (⟨"OfferTurnModel", "readsStores", "(I)Z"⟩, 39), (⟨"OfferTurnModel", "place", "(III)V"⟩, 39), (⟨"OfferTurnModel", "isGod", "(I)Z"⟩, 39), (⟨"OfferTurnModel", "godTells", "(II)I"⟩, 39), (⟨"OfferTurnModel", "v", "(II)I"⟩, 39), (⟨"OfferTurnModel", "kind", "(I)I"⟩, 39), (⟨"OfferTurnModel", "abides", "(I)I"⟩, 39), (⟨"OfferTurnModel", "isGone", "(II)Z"⟩, 39), (⟨"OfferTurnModel", "patienceOf", "(I)I"⟩, 39)]
theorem lw_r3 : ∀ q ∈ lw_privs_3, lw_okq q := List.forall_mem_cons.mpr ⟨lw_p32, List.forall_mem_cons.mpr ⟨lw_p33, List.forall_mem_cons.mpr ⟨lw_p34, List.forall_mem_cons.mpr ⟨lw_p35, List.forall_mem_cons.mpr ⟨lw_p36, List.forall_mem_cons.mpr ⟨lw_p37, List.forall_mem_cons.mpr ⟨lw_p38, List.forall_mem_cons.mpr ⟨lw_p39, List.forall_mem_cons.mpr ⟨lw_p40, List.forall_mem_cons.mpr ⟨lw_p41, List.forall_mem_cons.mpr ⟨lw_p42, List.forall_mem_cons.mpr ⟨lw_p43, List.forall_mem_cons.mpr ⟨lw_p44, List.forall_mem_cons.mpr ⟨lw_p45, List.forall_mem_cons.mpr ⟨lw_p46, List.forall_mem_cons.mpr ⟨lw_p47, fun _ h => absurd h List.not_mem_nil⟩⟩⟩⟩⟩⟩⟩⟩⟩⟩⟩⟩⟩⟩⟩⟩
theorem lw_p48 : lw_okq (⟨"OfferTurnModel", "isNumber", "(I)Z"⟩, 39) := ⟨⟨by decide +kernel, by decide +kernel⟩, List.mem_of_getElem? (i := 896) (by decide +kernel), List.mem_of_getElem? (i := 1188) (by decide +kernel), List.mem_of_getElem? (i := 1189) (by decide +kernel)⟩
theorem lw_p49 : lw_okq (⟨"OfferTurnModel", "costOf", "(II)I"⟩, 39) := ⟨⟨by decide +kernel, by decide +kernel⟩, List.mem_of_getElem? (i := 896) (by decide +kernel), List.mem_of_getElem? (i := 1192) (by decide +kernel), List.mem_of_getElem? (i := 1193) (by decide +kernel)⟩
theorem lw_p50 : lw_okq (⟨"OfferTurnModel", "isUp", "(II)Z"⟩, 39) := ⟨⟨by decide +kernel, by decide +kernel⟩, List.mem_of_getElem? (i := 896) (by decide +kernel), List.mem_of_getElem? (i := 1196) (by decide +kernel), List.mem_of_getElem? (i := 1197) (by decide +kernel)⟩
theorem lw_p51 : lw_okq (⟨"OfferTurnModel", "sleeps", "(II)Z"⟩, 39) := ⟨⟨by decide +kernel, by decide +kernel⟩, List.mem_of_getElem? (i := 896) (by decide +kernel), List.mem_of_getElem? (i := 1200) (by decide +kernel), List.mem_of_getElem? (i := 1201) (by decide +kernel)⟩
theorem lw_p52 : lw_okq (⟨"OfferTurnModel", "isSleeper", "(I)Z"⟩, 39) := ⟨⟨by decide +kernel, by decide +kernel⟩, List.mem_of_getElem? (i := 896) (by decide +kernel), List.mem_of_getElem? (i := 1204) (by decide +kernel), List.mem_of_getElem? (i := 1205) (by decide +kernel)⟩
theorem lw_p53 : lw_okq (⟨"OfferTurnModel", "fedBy", "(II)I"⟩, 39) := ⟨⟨by decide +kernel, by decide +kernel⟩, List.mem_of_getElem? (i := 896) (by decide +kernel), List.mem_of_getElem? (i := 1208) (by decide +kernel), List.mem_of_getElem? (i := 1209) (by decide +kernel)⟩
theorem lw_p54 : lw_okq (⟨"OfferTurnModel", "isFull", "(I)Z"⟩, 39) := ⟨⟨by decide +kernel, by decide +kernel⟩, List.mem_of_getElem? (i := 896) (by decide +kernel), List.mem_of_getElem? (i := 1215) (by decide +kernel), List.mem_of_getElem? (i := 1216) (by decide +kernel)⟩
theorem lw_p55 : lw_okq (⟨"OfferTurnModel", "goesBy", "(I)V"⟩, 39) := ⟨⟨by decide +kernel, by decide +kernel⟩, List.mem_of_getElem? (i := 896) (by decide +kernel), List.mem_of_getElem? (i := 1219) (by decide +kernel), List.mem_of_getElem? (i := 1220) (by decide +kernel)⟩
theorem lw_p56 : lw_okq (⟨"OfferTurnModel", "goes", "(II)Z"⟩, 39) := ⟨⟨by decide +kernel, by decide +kernel⟩, List.mem_of_getElem? (i := 896) (by decide +kernel), List.mem_of_getElem? (i := 1223) (by decide +kernel), List.mem_of_getElem? (i := 1224) (by decide +kernel)⟩
theorem lw_p57 : lw_okq (⟨"OfferTurnModel", "hungers", "(III)V"⟩, 39) := ⟨⟨by decide +kernel, by decide +kernel⟩, List.mem_of_getElem? (i := 896) (by decide +kernel), List.mem_of_getElem? (i := 1227) (by decide +kernel), List.mem_of_getElem? (i := 1228) (by decide +kernel)⟩
theorem lw_p58 : lw_okq (⟨"OfferTurnModel", "isJealous", "(I)Z"⟩, 39) := ⟨⟨by decide +kernel, by decide +kernel⟩, List.mem_of_getElem? (i := 896) (by decide +kernel), List.mem_of_getElem? (i := 1231) (by decide +kernel), List.mem_of_getElem? (i := 1232) (by decide +kernel)⟩
theorem lw_p59 : lw_okq (⟨"OfferTurnModel", "sends", "(I)V"⟩, 39) := ⟨⟨by decide +kernel, by decide +kernel⟩, List.mem_of_getElem? (i := 896) (by decide +kernel), List.mem_of_getElem? (i := 1238) (by decide +kernel), List.mem_of_getElem? (i := 1239) (by decide +kernel)⟩
theorem lw_p60 : lw_okq (⟨"OfferTurnModel", "needDays", "(ZII)I"⟩, 39) := ⟨⟨by decide +kernel, by decide +kernel⟩, List.mem_of_getElem? (i := 896) (by decide +kernel), List.mem_of_getElem? (i := 1278) (by decide +kernel), List.mem_of_getElem? (i := 1279) (by decide +kernel)⟩
theorem lw_p61 : lw_okq (⟨"OfferTurnModel", "mostOf", "(I)I"⟩, 39) := ⟨⟨by decide +kernel, by decide +kernel⟩, List.mem_of_getElem? (i := 896) (by decide +kernel), List.mem_of_getElem? (i := 1282) (by decide +kernel), List.mem_of_getElem? (i := 1283) (by decide +kernel)⟩
theorem lw_p62 : lw_okq (⟨"OfferTurnModel", "noPlan", "(I)V"⟩, 39) := ⟨⟨by decide +kernel, by decide +kernel⟩, List.mem_of_getElem? (i := 896) (by decide +kernel), List.mem_of_getElem? (i := 1287) (by decide +kernel), List.mem_of_getElem? (i := 1288) (by decide +kernel)⟩
theorem lw_p63 : lw_okq (⟨"OfferTurnModel", "nextPlan", "()Z"⟩, 39) := ⟨⟨by decide +kernel, by decide +kernel⟩, List.mem_of_getElem? (i := 896) (by decide +kernel), List.mem_of_getElem? (i := 1291) (by decide +kernel), List.mem_of_getElem? (i := 1292) (by decide +kernel)⟩
def lw_privs_4 : List (MethodName × Nat) := [(⟨"OfferTurnModel", "isNumber", "(I)Z"⟩, 39), (⟨"OfferTurnModel", "costOf", "(II)I"⟩, 39), (⟨"OfferTurnModel", "isUp", "(II)Z"⟩, 39), (⟨"OfferTurnModel", "sleeps", "(II)Z"⟩, 39), (⟨"OfferTurnModel", "isSleeper", "(I)Z"⟩, 39), (⟨"OfferTurnModel", "fedBy", "(II)I"⟩, 39), (⟨"OfferTurnModel", "isFull", "(I)Z"⟩, 39), (⟨"OfferTurnModel", "goesBy", "(I)V"⟩, 39), (⟨"OfferTurnModel", "goes", "(II)Z"⟩, 39), (⟨"OfferTurnModel", "hungers", "(III)V"⟩, 39), (⟨"OfferTurnModel", "isJealous", "(I)Z"⟩, 39), (⟨"OfferTurnModel", "sends", "(I)V"⟩, 39), (⟨"OfferTurnModel", "needDays", "(ZII)I"⟩, 39), (⟨"OfferTurnModel", "mostOf", "(I)I"⟩, 39), (⟨"OfferTurnModel", "noPlan", "(I)V"⟩, 39), (⟨"OfferTurnModel", "nextPlan", "()Z"⟩, 39)]
theorem lw_r4 : ∀ q ∈ lw_privs_4, lw_okq q := List.forall_mem_cons.mpr ⟨lw_p48, List.forall_mem_cons.mpr ⟨lw_p49, List.forall_mem_cons.mpr ⟨lw_p50, List.forall_mem_cons.mpr ⟨lw_p51, List.forall_mem_cons.mpr ⟨lw_p52, List.forall_mem_cons.mpr ⟨lw_p53, List.forall_mem_cons.mpr ⟨lw_p54, List.forall_mem_cons.mpr ⟨lw_p55, List.forall_mem_cons.mpr ⟨lw_p56, List.forall_mem_cons.mpr ⟨lw_p57, List.forall_mem_cons.mpr ⟨lw_p58, List.forall_mem_cons.mpr ⟨lw_p59, List.forall_mem_cons.mpr ⟨lw_p60, List.forall_mem_cons.mpr ⟨lw_p61, List.forall_mem_cons.mpr ⟨lw_p62, List.forall_mem_cons.mpr ⟨lw_p63, fun _ h => absurd h List.not_mem_nil⟩⟩⟩⟩⟩⟩⟩⟩⟩⟩⟩⟩⟩⟩⟩⟩
theorem lw_p64 : lw_okq (⟨"OfferTurnModel", "layPlan", "()I"⟩, 39) := ⟨⟨by decide +kernel, by decide +kernel⟩, List.mem_of_getElem? (i := 896) (by decide +kernel), List.mem_of_getElem? (i := 1295) (by decide +kernel), List.mem_of_getElem? (i := 1296) (by decide +kernel)⟩
theorem lw_p65 : lw_okq (⟨"OfferTurnModel", "copyValley", "(II)V"⟩, 39) := ⟨⟨by decide +kernel, by decide +kernel⟩, List.mem_of_getElem? (i := 896) (by decide +kernel), List.mem_of_getElem? (i := 1299) (by decide +kernel), List.mem_of_getElem? (i := 1300) (by decide +kernel)⟩
theorem lw_p66 : lw_okq (⟨"OfferTurnModel", "isStarved", "(II)Z"⟩, 39) := ⟨⟨by decide +kernel, by decide +kernel⟩, List.mem_of_getElem? (i := 896) (by decide +kernel), List.mem_of_getElem? (i := 1303) (by decide +kernel), List.mem_of_getElem? (i := 1304) (by decide +kernel)⟩
theorem lw_p67 : lw_okq (⟨"OfferTurnModel", "keepPlan", "()V"⟩, 39) := ⟨⟨by decide +kernel, by decide +kernel⟩, List.mem_of_getElem? (i := 896) (by decide +kernel), List.mem_of_getElem? (i := 1307) (by decide +kernel), List.mem_of_getElem? (i := 1308) (by decide +kernel)⟩
theorem lw_p68 : lw_okq (⟨"OfferTurnModel", "planToRow", "(I)V"⟩, 39) := ⟨⟨by decide +kernel, by decide +kernel⟩, List.mem_of_getElem? (i := 896) (by decide +kernel), List.mem_of_getElem? (i := 1311) (by decide +kernel), List.mem_of_getElem? (i := 1312) (by decide +kernel)⟩
theorem lw_p69 : lw_okq (⟨"OfferTurnModel", "needPlan", "(I)I"⟩, 39) := ⟨⟨by decide +kernel, by decide +kernel⟩, List.mem_of_getElem? (i := 896) (by decide +kernel), List.mem_of_getElem? (i := 1319) (by decide +kernel), List.mem_of_getElem? (i := 1320) (by decide +kernel)⟩
theorem lw_p70 : lw_okq (⟨"OfferTurnModel", "fraction", "(JJI)I"⟩, 39) := ⟨⟨by decide +kernel, by decide +kernel⟩, List.mem_of_getElem? (i := 896) (by decide +kernel), List.mem_of_getElem? (i := 1331) (by decide +kernel), List.mem_of_getElem? (i := 1332) (by decide +kernel)⟩
theorem lw_p71 : lw_okq (⟨"OfferTurnModel", "lastTurn", "(IIZ)I"⟩, 39) := ⟨⟨by decide +kernel, by decide +kernel⟩, List.mem_of_getElem? (i := 896) (by decide +kernel), List.mem_of_getElem? (i := 1359) (by decide +kernel), List.mem_of_getElem? (i := 1360) (by decide +kernel)⟩
theorem lw_p72 : lw_okq (⟨"OfferTurnModel", "sentOf", "(I)I"⟩, 39) := ⟨⟨by decide +kernel, by decide +kernel⟩, List.mem_of_getElem? (i := 896) (by decide +kernel), List.mem_of_getElem? (i := 1363) (by decide +kernel), List.mem_of_getElem? (i := 1364) (by decide +kernel)⟩
theorem lw_p73 : lw_okq (⟨"OfferTurnModel", "twoTurns", "(IIZ)I"⟩, 39) := ⟨⟨by decide +kernel, by decide +kernel⟩, List.mem_of_getElem? (i := 896) (by decide +kernel), List.mem_of_getElem? (i := 1367) (by decide +kernel), List.mem_of_getElem? (i := 1368) (by decide +kernel)⟩
theorem lw_p74 : lw_okq (⟨"OfferTurnModel", "threeTurns", "(II)I"⟩, 39) := ⟨⟨by decide +kernel, by decide +kernel⟩, List.mem_of_getElem? (i := 896) (by decide +kernel), List.mem_of_getElem? (i := 1371) (by decide +kernel), List.mem_of_getElem? (i := 1372) (by decide +kernel)⟩
theorem lw_p75 : lw_okq (⟨"OfferTurnModel", "whole", "(II)I"⟩, 39) := ⟨⟨by decide +kernel, by decide +kernel⟩, List.mem_of_getElem? (i := 896) (by decide +kernel), List.mem_of_getElem? (i := 1375) (by decide +kernel), List.mem_of_getElem? (i := 1376) (by decide +kernel)⟩
theorem lw_p76 : lw_okq (⟨"OfferTurnModel", "needBook", "(II)I"⟩, 39) := ⟨⟨by decide +kernel, by decide +kernel⟩, List.mem_of_getElem? (i := 896) (by decide +kernel), List.mem_of_getElem? (i := 1383) (by decide +kernel), List.mem_of_getElem? (i := 1384) (by decide +kernel)⟩
theorem lw_p77 : lw_okq (⟨"OfferTurnModel", "fitting", "(III)I"⟩, 39) := ⟨⟨by decide +kernel, by decide +kernel⟩, List.mem_of_getElem? (i := 896) (by decide +kernel), List.mem_of_getElem? (i := 1387) (by decide +kernel), List.mem_of_getElem? (i := 1388) (by decide +kernel)⟩
theorem lw_p78 : lw_okq (⟨"OfferTurnModel", "leftBy", "(II)I"⟩, 39) := ⟨⟨by decide +kernel, by decide +kernel⟩, List.mem_of_getElem? (i := 896) (by decide +kernel), List.mem_of_getElem? (i := 1399) (by decide +kernel), List.mem_of_getElem? (i := 1400) (by decide +kernel)⟩
theorem lw_p79 : lw_okq (⟨"OfferTurnModel", "counted", "(I)I"⟩, 39) := ⟨⟨by decide +kernel, by decide +kernel⟩, List.mem_of_getElem? (i := 896) (by decide +kernel), List.mem_of_getElem? (i := 1415) (by decide +kernel), List.mem_of_getElem? (i := 1416) (by decide +kernel)⟩
def lw_privs_5 : List (MethodName × Nat) := [(⟨"OfferTurnModel", "layPlan", "()I"⟩, 39), (⟨"OfferTurnModel", "copyValley", "(II)V"⟩, 39), (⟨"OfferTurnModel", "isStarved", "(II)Z"⟩, 39), (⟨"OfferTurnModel", "keepPlan", "()V"⟩, 39), (⟨"OfferTurnModel", "planToRow", "(I)V"⟩, 39), (⟨"OfferTurnModel", "needPlan", "(I)I"⟩, 39), (⟨"OfferTurnModel", "fraction", "(JJI)I"⟩, 39), (⟨"OfferTurnModel", "lastTurn", "(IIZ)I"⟩, 39), (⟨"OfferTurnModel", "sentOf", "(I)I"⟩, 39), (⟨"OfferTurnModel", "twoTurns", "(IIZ)I"⟩, 39), (⟨"OfferTurnModel", "threeTurns", "(II)I"⟩, 39), (⟨"OfferTurnModel", "whole", "(II)I"⟩, 39), (⟨"OfferTurnModel", "needBook", "(II)I"⟩, 39), (⟨"OfferTurnModel", "fitting", "(III)I"⟩, 39), (⟨"OfferTurnModel", "leftBy", "(II)I"⟩, 39), (⟨"OfferTurnModel", "counted", "(I)I"⟩, 39)]
theorem lw_r5 : ∀ q ∈ lw_privs_5, lw_okq q := List.forall_mem_cons.mpr ⟨lw_p64, List.forall_mem_cons.mpr ⟨lw_p65, List.forall_mem_cons.mpr ⟨lw_p66, List.forall_mem_cons.mpr ⟨lw_p67, List.forall_mem_cons.mpr ⟨lw_p68, List.forall_mem_cons.mpr ⟨lw_p69, List.forall_mem_cons.mpr ⟨lw_p70, List.forall_mem_cons.mpr ⟨lw_p71, List.forall_mem_cons.mpr ⟨lw_p72, List.forall_mem_cons.mpr ⟨lw_p73, List.forall_mem_cons.mpr ⟨lw_p74, List.forall_mem_cons.mpr ⟨lw_p75, List.forall_mem_cons.mpr ⟨lw_p76, List.forall_mem_cons.mpr ⟨lw_p77, List.forall_mem_cons.mpr ⟨lw_p78, List.forall_mem_cons.mpr ⟨lw_p79, fun _ h => absurd h List.not_mem_nil⟩⟩⟩⟩⟩⟩⟩⟩⟩⟩⟩⟩⟩⟩⟩⟩
theorem lw_p80 : lw_okq (⟨"OfferTurnModel", "mix", "(J)V"⟩, 39) := ⟨⟨by decide +kernel, by decide +kernel⟩, List.mem_of_getElem? (i := 896) (by decide +kernel), List.mem_of_getElem? (i := 1424) (by decide +kernel), List.mem_of_getElem? (i := 1425) (by decide +kernel)⟩
theorem lw_p81 : lw_okq (⟨"OfferTurnModel", "mixValley", "()V"⟩, 39) := ⟨⟨by decide +kernel, by decide +kernel⟩, List.mem_of_getElem? (i := 896) (by decide +kernel), List.mem_of_getElem? (i := 1429) (by decide +kernel), List.mem_of_getElem? (i := 1430) (by decide +kernel)⟩
def lw_privs_6 : List (MethodName × Nat) := [(⟨"OfferTurnModel", "mix", "(J)V"⟩, 39), (⟨"OfferTurnModel", "mixValley", "()V"⟩, 39)]
theorem lw_r6 : ∀ q ∈ lw_privs_6, lw_okq q := List.forall_mem_cons.mpr ⟨lw_p80, List.forall_mem_cons.mpr ⟨lw_p81, fun _ h => absurd h List.not_mem_nil⟩⟩
def lw_privs : List (MethodName × Nat) := lw_privs_1 ++ (lw_privs_2 ++ (lw_privs_3 ++ (lw_privs_4 ++ (lw_privs_5 ++ (lw_privs_6)))))
def lw_tbl : List Cond := k2_sels lw_privs ++ tables_1
theorem lw_privs_ok : ∀ q ∈ lw_privs, lw_okq q := by
  show ∀ q ∈ lw_privs_1 ++ (lw_privs_2 ++ (lw_privs_3 ++ (lw_privs_4 ++ (lw_privs_5 ++ (lw_privs_6))))), lw_okq q
  exact List.forall_mem_append.mpr ⟨lw_r1, List.forall_mem_append.mpr ⟨lw_r2, List.forall_mem_append.mpr ⟨lw_r3, List.forall_mem_append.mpr ⟨lw_r4, List.forall_mem_append.mpr ⟨lw_r5, lw_r6⟩⟩⟩⟩⟩
def RX0 : String := "OfferTurn$Gods"
def TX0 : u_T := fun k => match k with
  | 0 => ("OfferTurn$Gods", "many", "I", false)
  | 1 => ("OfferTurn$Gods", "all", "I", false)
  | 2 => ("OfferTurn$Gods", "sleepers", "I", false)
  | 3 => ("OfferTurn$Gods", "kinds", "[I", true)
  | 4 => ("OfferTurn$Gods", "foods", "[I", true)
  | 5 => ("OfferTurn$Gods", "patiences", "[I", true)
  | 6 => ("OfferTurn$Gods", "goods", "[I", true)
  | 7 => ("OfferTurn$Gods", "harms", "[I", true)
  | 8 => ("OfferTurn$Gods", "neighbours", "[I", true)
  | 9 => ("OfferTurn$Gods", "tables", "[I", true)
  | 10 => ("OfferTurn$Gods", "foes", "[I", true)
  | _ => ("OfferTurn$Gods", "spites", "[I", true)
def tyX0 : Nat → FieldType := fun k => match k with
  | 0 => .int
  | 1 => .int
  | 2 => .int
  | 3 => .array .int
  | 4 => .array .int
  | 5 => .array .int
  | 6 => .array .int
  | 7 => .array .int
  | 8 => .array .int
  | 9 => .array .int
  | 10 => .array .int
  | _ => .array .int
abbrev wsX00 : List Cond := u_ws RX0 TX0 12
theorem nmX0 : ∀ a, a < 12 → ∀ b, b < 12 → a ≠ b → (TX0 a).2.1 ≠ (TX0 b).2.1 := by decide +kernel
theorem tyX0_ok : ∀ k, k < 12 → parseFieldDescriptor (TX0 k).2.2.1 = some (tyX0 k) := by decide +kernel
abbrev cX0_init : ByteArray := prog_2_method_1_code
def yX0_init : MethodName := ⟨RX0, "<init>", "()V"⟩
abbrev cX0_has : ByteArray := prog_2_method_2_code
def yX0_has : MethodName := ⟨RX0, "has", "(I)Z"⟩
abbrev cX0_hasNumber : ByteArray := prog_2_method_3_code
def yX0_hasNumber : MethodName := ⟨RX0, "hasNumber", "(I)Z"⟩
abbrev cX0_isOfKind : ByteArray := prog_2_method_4_code
def yX0_isOfKind : MethodName := ⟨RX0, "isOfKind", "(II)Z"⟩
abbrev cX0_howManyOfKind : ByteArray := prog_2_method_5_code
def yX0_howManyOfKind : MethodName := ⟨RX0, "howManyOfKind", "(I)I"⟩
abbrev cX0_leavingHunger : ByteArray := prog_2_method_6_code
def yX0_leavingHunger : MethodName := ⟨RX0, "leavingHunger", "(I)I"⟩
abbrev cX0_settle : ByteArray := prog_2_method_7_code
def yX0_settle : MethodName := ⟨RX0, "settle", "()V"⟩
abbrev cX0_take : ByteArray := prog_2_method_8_code
def yX0_take : MethodName := ⟨RX0, "take", "(LOfferTurn$Gods;)V"⟩
def RX1 : String := "OfferTurn$Plans"
def TX1 : u_T := fun k => match k with
  | 0 => ("OfferTurn$Plans", "scenes", "[LOfferTurn$Scene;", true)
  | 1 => ("OfferTurn$Plans", "numbers", "[I", true)
  | 2 => ("OfferTurn$Plans", "days", "I", false)
  | 3 => ("OfferTurn$Plans", "unfed", "I", false)
  | 4 => ("OfferTurn$Plans", "isHarmless", "Z", false)
  | 5 => ("OfferTurn$Plans", "isFirstEnough", "Z", false)
  | 6 => ("OfferTurn$Plans", "found", "I", false)
  | 7 => ("OfferTurn$Plans", "harmlessFound", "I", false)
  | 8 => ("OfferTurn$Plans", "most", "I", false)
  | 9 => ("OfferTurn$Plans", "leastHarm", "I", false)
  | 10 => ("OfferTurn$Plans", "mostGood", "I", false)
  | 11 => ("OfferTurn$Plans", "leastTaken", "I", false)
  | _ => ("OfferTurn$Plans", "bestPlan", "[I", true)
def tyX1 : Nat → FieldType := fun k => match k with
  | 0 => .array (.object "OfferTurn$Scene")
  | 1 => .array .int
  | 2 => .int
  | 3 => .int
  | 4 => .boolean
  | 5 => .boolean
  | 6 => .int
  | 7 => .int
  | 8 => .int
  | 9 => .int
  | 10 => .int
  | 11 => .int
  | _ => .array .int
abbrev wsX10 : List Cond := u_ws RX1 TX1 13
theorem nmX1 : ∀ a, a < 13 → ∀ b, b < 13 → a ≠ b → (TX1 a).2.1 ≠ (TX1 b).2.1 := by decide +kernel
theorem tyX1_ok : ∀ k, k < 13 → parseFieldDescriptor (TX1 k).2.2.1 = some (tyX1 k) := by decide +kernel
abbrev cX1_init : ByteArray := prog_3_method_1_code
def yX1_init : MethodName := ⟨RX1, "<init>", "()V"⟩
abbrev cX1_seekAll : ByteArray := prog_3_method_2_code
def yX1_seekAll : MethodName := ⟨RX1, "seekAll", "(LOfferTurn$Gods;LOfferTurn$Scene;I)V"⟩
abbrev cX1_seekHarmless : ByteArray := prog_3_method_3_code
def yX1_seekHarmless : MethodName := ⟨RX1, "seekHarmless", "(LOfferTurn$Gods;LOfferTurn$Scene;IZ)V"⟩
abbrev cX1_seekUnfed : ByteArray := prog_3_method_4_code
def yX1_seekUnfed : MethodName := ⟨RX1, "seekUnfed", "(LOfferTurn$Gods;LOfferTurn$Scene;II)V"⟩
abbrev cX1_duel : ByteArray := prog_3_method_5_code
def yX1_duel : MethodName := ⟨RX1, "duel", "(LOfferTurn$Gods;LOfferTurn$Scene;II)I"⟩
abbrev cX1_firstOfDuel : ByteArray := prog_3_method_6_code
def yX1_firstOfDuel : MethodName := ⟨RX1, "firstOfDuel", "()I"⟩
abbrev cX1_start : ByteArray := prog_3_method_7_code
def yX1_start : MethodName := ⟨RX1, "start", "(LOfferTurn$Scene;I)V"⟩
abbrev cX1_walk : ByteArray := prog_3_method_8_code
def yX1_walk : MethodName := ⟨RX1, "walk", "(LOfferTurn$Plans;LOfferTurn$Gods;I)V"⟩
abbrev cX1_goOn : ByteArray := prog_3_method_9_code
def yX1_goOn : MethodName := ⟨RX1, "goOn", "(LOfferTurn$Gods;II)Z"⟩
abbrev cX1_isWanted : ByteArray := prog_3_method_10_code
def yX1_isWanted : MethodName := ⟨RX1, "isWanted", "(I)Z"⟩
abbrev cX1_weigh : ByteArray := prog_3_method_11_code
def yX1_weigh : MethodName := ⟨RX1, "weigh", "(LOfferTurn$Scene;)V"⟩
abbrev cX1_valueOfDuel : ByteArray := prog_3_method_12_code
def yX1_valueOfDuel : MethodName := ⟨RX1, "valueOfDuel", "(LOfferTurn$Plans;LOfferTurn$Gods;II)I"⟩
def RX2 : String := "OfferTurn$Reader"
def TX2 : u_T := fun k => match k with
  | 0 => ("OfferTurn$Reader", "gods", "LOfferTurn$Gods;", true)
  | 1 => ("OfferTurn$Reader", "stores", "[I", true)
  | 2 => ("OfferTurn$Reader", "signs", "[I", true)
  | 3 => ("OfferTurn$Reader", "size", "I", false)
  | 4 => ("OfferTurn$Reader", "place", "I", false)
  | _ => ("OfferTurn$Reader", "stop", "I", false)
def tyX2 : Nat → FieldType := fun k => match k with
  | 0 => .object "OfferTurn$Gods"
  | 1 => .array .int
  | 2 => .array .int
  | 3 => .int
  | 4 => .int
  | _ => .int
abbrev wsX20 : List Cond := u_ws RX2 TX2 6
theorem nmX2 : ∀ a, a < 6 → ∀ b, b < 6 → a ≠ b → (TX2 a).2.1 ≠ (TX2 b).2.1 := by decide +kernel
theorem tyX2_ok : ∀ k, k < 6 → parseFieldDescriptor (TX2 k).2.2.1 = some (tyX2 k) := by decide +kernel
abbrev cX2_init : ByteArray := prog_4_method_1_code
def yX2_init : MethodName := ⟨RX2, "<init>", "()V"⟩
abbrev cX2_firstFault : ByteArray := prog_4_method_2_code
def yX2_firstFault : MethodName := ⟨RX2, "firstFault", "(LOfferTurn$Shelf;I)I"⟩
abbrev cX2_readStores : ByteArray := prog_4_method_3_code
def yX2_readStores : MethodName := ⟨RX2, "readStores", "()V"⟩
abbrev cX2_readGods : ByteArray := prog_4_method_4_code
def yX2_readGods : MethodName := ⟨RX2, "readGods", "()V"⟩
abbrev cX2_readGod : ByteArray := prog_4_method_5_code
def yX2_readGod : MethodName := ⟨RX2, "readGod", "(I)V"⟩
abbrev cX2_sign : ByteArray := prog_4_method_6_code
def yX2_sign : MethodName := ⟨RX2, "sign", "()I"⟩
abbrev cX2_skipBlanks : ByteArray := prog_4_method_7_code
def yX2_skipBlanks : MethodName := ⟨RX2, "skipBlanks", "()V"⟩
abbrev cX2_kind : ByteArray := prog_4_method_8_code
def yX2_kind : MethodName := ⟨RX2, "kind", "()I"⟩
abbrev cX2_figure : ByteArray := prog_4_method_9_code
def yX2_figure : MethodName := ⟨RX2, "figure", "(II)I"⟩
abbrev cX2_neighbour : ByteArray := prog_4_method_10_code
def yX2_neighbour : MethodName := ⟨RX2, "neighbour", "(IZ)I"⟩
def RX3 : String := "OfferTurn$Scene"
def TX3 : u_T := fun k => match k with
  | 0 => ("OfferTurn$Scene", "day", "I", false)
  | 1 => ("OfferTurn$Scene", "gone", "I", false)
  | 2 => ("OfferTurn$Scene", "everFed", "I", false)
  | 3 => ("OfferTurn$Scene", "good", "I", false)
  | 4 => ("OfferTurn$Scene", "harm", "I", false)
  | 5 => ("OfferTurn$Scene", "taken", "I", false)
  | 6 => ("OfferTurn$Scene", "stores", "[I", true)
  | 7 => ("OfferTurn$Scene", "hungers", "[I", true)
  | 8 => ("OfferTurn$Scene", "fed", "I", false)
  | _ => ("OfferTurn$Scene", "sendings", "[I", true)
def tyX3 : Nat → FieldType := fun k => match k with
  | 0 => .int
  | 1 => .int
  | 2 => .int
  | 3 => .int
  | 4 => .int
  | 5 => .int
  | 6 => .array .int
  | 7 => .array .int
  | 8 => .int
  | _ => .array .int
abbrev wsX30 : List Cond := u_ws RX3 TX3 10
theorem nmX3 : ∀ a, a < 10 → ∀ b, b < 10 → a ≠ b → (TX3 a).2.1 ≠ (TX3 b).2.1 := by decide +kernel
theorem tyX3_ok : ∀ k, k < 10 → parseFieldDescriptor (TX3 k).2.2.1 = some (tyX3 k) := by decide +kernel
abbrev cX3_init : ByteArray := prog_5_method_1_code
def yX3_init : MethodName := ⟨RX3, "<init>", "()V"⟩
abbrev cX3_begin : ByteArray := prog_5_method_2_code
def yX3_begin : MethodName := ⟨RX3, "begin", "([I)V"⟩
abbrev cX3_forgetSums : ByteArray := prog_5_method_3_code
def yX3_forgetSums : MethodName := ⟨RX3, "forgetSums", "()V"⟩
abbrev cX3_take : ByteArray := prog_5_method_4_code
def yX3_take : MethodName := ⟨RX3, "take", "(LOfferTurn$Scene;)V"⟩
abbrev cX3_save : ByteArray := prog_5_method_5_code
def yX3_save : MethodName := ⟨RX3, "save", "([II)V"⟩
abbrev cX3_load : ByteArray := prog_5_method_6_code
def yX3_load : MethodName := ⟨RX3, "load", "([II)V"⟩
abbrev cX3_isGone : ByteArray := prog_5_method_7_code
def yX3_isGone : MethodName := ⟨RX3, "isGone", "(I)Z"⟩
abbrev cX3_wasEverFed : ByteArray := prog_5_method_8_code
def yX3_wasEverFed : MethodName := ⟨RX3, "wasEverFed", "(I)Z"⟩
abbrev cX3_isOddDay : ByteArray := prog_5_method_9_code
def yX3_isOddDay : MethodName := ⟨RX3, "isOddDay", "()Z"⟩
abbrev cX3_sendAway : ByteArray := prog_5_method_10_code
def yX3_sendAway : MethodName := ⟨RX3, "sendAway", "(I)V"⟩
abbrev cX3_worth : ByteArray := prog_5_method_11_code
def yX3_worth : MethodName := ⟨RX3, "worth", "()I"⟩
abbrev cX3_sentBy : ByteArray := prog_5_method_12_code
def yX3_sentBy : MethodName := ⟨RX3, "sentBy", "(I)I"⟩
abbrev cX3_awake : ByteArray := prog_5_method_13_code
def yX3_awake : MethodName := ⟨RX3, "awake", "(LOfferTurn$Gods;)I"⟩
abbrev cX3_fedBy : ByteArray := prog_5_method_14_code
def yX3_fedBy : MethodName := ⟨RX3, "fedBy", "(LOfferTurn$Gods;I)I"⟩
abbrev cX3_costOf : ByteArray := prog_5_method_15_code
def yX3_costOf : MethodName := ⟨RX3, "costOf", "(LOfferTurn$Gods;I)I"⟩
abbrev cX3_goOn : ByteArray := prog_5_method_16_code
def yX3_goOn : MethodName := ⟨RX3, "goOn", "(LOfferTurn$Gods;I)Z"⟩
abbrev cX3_spendDay : ByteArray := prog_5_method_17_code
def yX3_spendDay : MethodName := ⟨RX3, "spendDay", "(LOfferTurn$Gods;II)V"⟩
abbrev cX3_hungerAfter : ByteArray := prog_5_method_18_code
def yX3_hungerAfter : MethodName := ⟨RX3, "hungerAfter", "(LOfferTurn$Gods;II)I"⟩
abbrev cX3_send : ByteArray := prog_5_method_19_code
def yX3_send : MethodName := ⟨RX3, "send", "(LOfferTurn$Gods;I)V"⟩
def RX4 : String := "OfferTurn$Shelf"
def TX4 : u_T := fun k => match k with
  | 0 => ("OfferTurn$Shelf", "places", "[[I", true)
  | _ => ("OfferTurn$Shelf", "sizes", "[I", true)
def tyX4 : Nat → FieldType := fun k => match k with
  | 0 => .array (.array .int)
  | _ => .array .int
abbrev wsX40 : List Cond := u_ws RX4 TX4 2
theorem nmX4 : ∀ a, a < 2 → ∀ b, b < 2 → a ≠ b → (TX4 a).2.1 ≠ (TX4 b).2.1 := by decide +kernel
theorem tyX4_ok : ∀ k, k < 2 → parseFieldDescriptor (TX4 k).2.2.1 = some (tyX4 k) := by decide +kernel
abbrev cX4_init : ByteArray := prog_6_method_1_code
def yX4_init : MethodName := ⟨RX4, "<init>", "([[I)V"⟩
abbrev cX4_has : ByteArray := prog_6_method_2_code
def yX4_has : MethodName := ⟨RX4, "has", "(I)Z"⟩
abbrev cX4_isThere : ByteArray := prog_6_method_3_code
def yX4_isThere : MethodName := ⟨RX4, "isThere", "(I)Z"⟩
abbrev cX4_size : ByteArray := prog_6_method_4_code
def yX4_size : MethodName := ⟨RX4, "size", "(I)I"⟩
abbrev cX4_holds : ByteArray := prog_6_method_5_code
def yX4_holds : MethodName := ⟨RX4, "holds", "(III)Z"⟩
abbrev cX4_read : ByteArray := prog_6_method_6_code
def yX4_read : MethodName := ⟨RX4, "read", "(II)I"⟩
abbrev cX4_write : ByteArray := prog_6_method_7_code
def yX4_write : MethodName := ⟨RX4, "write", "(III)V"⟩
abbrev cX4_make : ByteArray := prog_6_method_8_code
def yX4_make : MethodName := ⟨RX4, "make", "(III)V"⟩
abbrev cX4_fill : ByteArray := prog_6_method_9_code
def yX4_fill : MethodName := ⟨RX4, "fill", "(I[II)V"⟩
abbrev cX4_drop : ByteArray := prog_6_method_10_code
def yX4_drop : MethodName := ⟨RX4, "drop", "(I)V"⟩
abbrev cX4_carry : ByteArray := prog_6_method_11_code
def yX4_carry : MethodName := ⟨RX4, "carry", "(IIIII)V"⟩
abbrev cX4_total : ByteArray := prog_6_method_12_code
def yX4_total : MethodName := ⟨RX4, "total", "(I)J"⟩
abbrev cX4_howManyThere : ByteArray := prog_6_method_13_code
def yX4_howManyThere : MethodName := ⟨RX4, "howManyThere", "()I"⟩
abbrev cX4_digestOnto : ByteArray := prog_6_method_14_code
def yX4_digestOnto : MethodName := ⟨RX4, "digestOnto", "(J)J"⟩
def RX5 : String := "OfferTurn$Village"
def TX5 : u_T := fun k => match k with
  | 0 => ("OfferTurn$Village", "gods", "LOfferTurn$Gods;", true)
  | 1 => ("OfferTurn$Village", "now", "LOfferTurn$Scene;", true)
  | 2 => ("OfferTurn$Village", "isKept", "Z", false)
  | _ => ("OfferTurn$Village", "diary", "[I", true)
def tyX5 : Nat → FieldType := fun k => match k with
  | 0 => .object "OfferTurn$Gods"
  | 1 => .object "OfferTurn$Scene"
  | 2 => .boolean
  | _ => .array .int
abbrev wsX50 : List Cond := u_ws RX5 TX5 4
theorem nmX5 : ∀ a, a < 4 → ∀ b, b < 4 → a ≠ b → (TX5 a).2.1 ≠ (TX5 b).2.1 := by decide +kernel
theorem tyX5_ok : ∀ k, k < 4 → parseFieldDescriptor (TX5 k).2.2.1 = some (tyX5 k) := by decide +kernel
abbrev cX5_init : ByteArray := prog_7_method_1_code
def yX5_init : MethodName := ⟨RX5, "<init>", "()V"⟩
abbrev cX5_begin : ByteArray := prog_7_method_2_code
def yX5_begin : MethodName := ⟨RX5, "begin", "(LOfferTurn$Gods;[I)V"⟩
abbrev cX5_take : ByteArray := prog_7_method_3_code
def yX5_take : MethodName := ⟨RX5, "take", "(LOfferTurn$Village;)V"⟩
abbrev cX5_spendDay : ByteArray := prog_7_method_4_code
def yX5_spendDay : MethodName := ⟨RX5, "spendDay", "(I)I"⟩
abbrev cX5_goBackTo : ByteArray := prog_7_method_5_code
def yX5_goBackTo : MethodName := ⟨RX5, "goBackTo", "(I)V"⟩
abbrev cX5_offeringOn : ByteArray := prog_7_method_6_code
def yX5_offeringOn : MethodName := ⟨RX5, "offeringOn", "(I)I"⟩
abbrev cX5_sentOn : ByteArray := prog_7_method_7_code
def yX5_sentOn : MethodName := ⟨RX5, "sentOn", "(II)I"⟩
abbrev cX5_daysSinceFed : ByteArray := prog_7_method_8_code
def yX5_daysSinceFed : MethodName := ⟨RX5, "daysSinceFed", "(I)I"⟩
abbrev cX5_noted : ByteArray := prog_7_method_9_code
def yX5_noted : MethodName := ⟨RX5, "noted", "(II)I"⟩
def RX6 : String := "OfferTurn"
def TX6 : u_T := fun k => match k with
  | 0 => ("OfferTurn", "rows", "LOfferTurn$Shelf;", true)
  | 1 => ("OfferTurn", "texts", "LOfferTurn$Shelf;", true)
  | 2 => ("OfferTurn", "reader", "LOfferTurn$Reader;", true)
  | 3 => ("OfferTurn", "village", "LOfferTurn$Village;", true)
  | 4 => ("OfferTurn", "keptOnes", "[LOfferTurn$Village;", true)
  | 5 => ("OfferTurn", "plans", "LOfferTurn$Plans;", true)
  | 6 => ("OfferTurn", "otherGods", "LOfferTurn$Gods;", true)
  | 7 => ("OfferTurn", "trial", "LOfferTurn$Scene;", true)
  | 8 => ("OfferTurn", "worthsByPatience", "[I", true)
  | 9 => ("OfferTurn", "findingCounts", "[I", true)
  | 10 => ("OfferTurn", "latestFinding", "I", false)
  | 11 => ("OfferTurn", "told", "I", false)
  | 12 => ("OfferTurn", "above", "J", false)
  | _ => ("OfferTurn", "below", "J", false)
def tyX6 : Nat → FieldType := fun k => match k with
  | 0 => .object "OfferTurn$Shelf"
  | 1 => .object "OfferTurn$Shelf"
  | 2 => .object "OfferTurn$Reader"
  | 3 => .object "OfferTurn$Village"
  | 4 => .array (.object "OfferTurn$Village")
  | 5 => .object "OfferTurn$Plans"
  | 6 => .object "OfferTurn$Gods"
  | 7 => .object "OfferTurn$Scene"
  | 8 => .array .int
  | 9 => .array .int
  | 10 => .int
  | 11 => .int
  | 12 => .long
  | _ => .long
abbrev wsX60 : List Cond := u_ws RX6 TX6 14
theorem nmX6 : ∀ a, a < 14 → ∀ b, b < 14 → a ≠ b → (TX6 a).2.1 ≠ (TX6 b).2.1 := by decide +kernel
theorem tyX6_ok : ∀ k, k < 14 → parseFieldDescriptor (TX6 k).2.2.1 = some (tyX6 k) := by decide +kernel
abbrev cX6_init : ByteArray := prog_1_method_1_code
def yX6_init : MethodName := ⟨RX6, "<init>", "()V"⟩
abbrev cX6_row : ByteArray := prog_1_method_2_code
def yX6_row : MethodName := ⟨RX6, "row", "(II)I"⟩
abbrev cX6_lay : ByteArray := prog_1_method_3_code
def yX6_lay : MethodName := ⟨RX6, "lay", "(III)I"⟩
abbrev cX6_at : ByteArray := prog_1_method_4_code
def yX6_at : MethodName := ⟨RX6, "at", "(II)I"⟩
abbrev cX6_tear : ByteArray := prog_1_method_5_code
def yX6_tear : MethodName := ⟨RX6, "tear", "(I)I"⟩
abbrev cX6_copy : ByteArray := prog_1_method_6_code
def yX6_copy : MethodName := ⟨RX6, "copy", "(IIIII)I"⟩
abbrev cX6_mean : ByteArray := prog_1_method_7_code
def yX6_mean : MethodName := ⟨RX6, "mean", "(I)I"⟩
abbrev cX6_text : ByteArray := prog_1_method_8_code
def yX6_text : MethodName := ⟨RX6, "text", "(II)I"⟩
abbrev cX6_put : ByteArray := prog_1_method_9_code
def yX6_put : MethodName := ⟨RX6, "put", "(III)I"⟩
abbrev cX6_fault : ByteArray := prog_1_method_10_code
def yX6_fault : MethodName := ⟨RX6, "fault", "(I)I"⟩
abbrev cX6_valley : ByteArray := prog_1_method_11_code
def yX6_valley : MethodName := ⟨RX6, "valley", "(I)I"⟩
abbrev cX6_god : ByteArray := prog_1_method_12_code
def yX6_god : MethodName := ⟨RX6, "god", "(II)I"⟩
abbrev cX6_mark : ByteArray := prog_1_method_13_code
def yX6_mark : MethodName := ⟨RX6, "mark", "(II)I"⟩
abbrev cX6_store : ByteArray := prog_1_method_14_code
def yX6_store : MethodName := ⟨RX6, "store", "(II)I"⟩
abbrev cX6_stores : ByteArray := prog_1_method_15_code
def yX6_stores : MethodName := ⟨RX6, "stores", "(I)I"⟩
abbrev cX6_patience : ByteArray := prog_1_method_16_code
def yX6_patience : MethodName := ⟨RX6, "patience", "(II)I"⟩
abbrev cX6_offer : ByteArray := prog_1_method_17_code
def yX6_offer : MethodName := ⟨RX6, "offer", "(I)I"⟩
abbrev cX6_may : ByteArray := prog_1_method_18_code
def yX6_may : MethodName := ⟨RX6, "may", "(I)I"⟩
abbrev cX6_rest : ByteArray := prog_1_method_19_code
def yX6_rest : MethodName := ⟨RX6, "rest", "(I)I"⟩
abbrev cX6_sent : ByteArray := prog_1_method_20_code
def yX6_sent : MethodName := ⟨RX6, "sent", "(II)I"⟩
abbrev cX6_offered : ByteArray := prog_1_method_21_code
def yX6_offered : MethodName := ⟨RX6, "offered", "(I)I"⟩
abbrev cX6_undo : ByteArray := prog_1_method_22_code
def yX6_undo : MethodName := ⟨RX6, "undo", "(I)I"⟩
abbrev cX6_sums : ByteArray := prog_1_method_23_code
def yX6_sums : MethodName := ⟨RX6, "sums", "()I"⟩
abbrev cX6_keep : ByteArray := prog_1_method_24_code
def yX6_keep : MethodName := ⟨RX6, "keep", "(I)I"⟩
abbrev cX6_on : ByteArray := prog_1_method_25_code
def yX6_on : MethodName := ⟨RX6, "on", "(I)I"⟩
abbrev cX6_best : ByteArray := prog_1_method_26_code
def yX6_best : MethodName := ⟨RX6, "best", "(II)I"⟩
abbrev cX6_tries : ByteArray := prog_1_method_27_code
def yX6_tries : MethodName := ⟨RX6, "tries", "(I)I"⟩
abbrev cX6_safe : ByteArray := prog_1_method_28_code
def yX6_safe : MethodName := ⟨RX6, "safe", "(II)I"⟩
abbrev cX6_share : ByteArray := prog_1_method_29_code
def yX6_share : MethodName := ⟨RX6, "share", "(I)I"⟩
abbrev cX6_food : ByteArray := prog_1_method_30_code
def yX6_food : MethodName := ⟨RX6, "food", "(I)I"⟩
abbrev cX6_harm : ByteArray := prog_1_method_31_code
def yX6_harm : MethodName := ⟨RX6, "harm", "(I)I"⟩
abbrev cX6_starve : ByteArray := prog_1_method_32_code
def yX6_starve : MethodName := ⟨RX6, "starve", "(I)I"⟩
abbrev cX6_price : ByteArray := prog_1_method_33_code
def yX6_price : MethodName := ⟨RX6, "price", "(II)I"⟩
abbrev cX6_altar : ByteArray := prog_1_method_34_code
def yX6_altar : MethodName := ⟨RX6, "altar", "(IIII)I"⟩
abbrev cX6_turns : ByteArray := prog_1_method_35_code
def yX6_turns : MethodName := ⟨RX6, "turns", "(II)I"⟩
abbrev cX6_fits : ByteArray := prog_1_method_36_code
def yX6_fits : MethodName := ⟨RX6, "fits", "(III)I"⟩
abbrev cX6_whose : ByteArray := prog_1_method_37_code
def yX6_whose : MethodName := ⟨RX6, "whose", "(II)I"⟩
abbrev cX6_ask : ByteArray := prog_1_method_38_code
def yX6_ask : MethodName := ⟨RX6, "ask", "(I)I"⟩
abbrev cX6_year : ByteArray := prog_1_method_39_code
def yX6_year : MethodName := ⟨RX6, "year", "(II)I"⟩
abbrev cX6_asked : ByteArray := prog_1_method_40_code
def yX6_asked : MethodName := ⟨RX6, "asked", "()I"⟩
abbrev cX6_upper : ByteArray := prog_1_method_41_code
def yX6_upper : MethodName := ⟨RX6, "upper", "()J"⟩
abbrev cX6_lower : ByteArray := prog_1_method_42_code
def yX6_lower : MethodName := ⟨RX6, "lower", "()J"⟩
abbrev cX6_count : ByteArray := prog_1_method_43_code
def yX6_count : MethodName := ⟨RX6, "count", "(I)I"⟩
abbrev cX6_finding : ByteArray := prog_1_method_44_code
def yX6_finding : MethodName := ⟨RX6, "finding", "()I"⟩
abbrev cX6_findings : ByteArray := prog_1_method_45_code
def yX6_findings : MethodName := ⟨RX6, "findings", "(I)I"⟩
abbrev cX6_digest : ByteArray := prog_1_method_46_code
def yX6_digest : MethodName := ⟨RX6, "digest", "()J"⟩
abbrev cX6_found : ByteArray := prog_1_method_47_code
def yX6_found : MethodName := ⟨RX6, "found", "(I)I"⟩
abbrev cX6_tell : ByteArray := prog_1_method_48_code
def yX6_tell : MethodName := ⟨RX6, "tell", "(I)V"⟩
abbrev cX6_tellFraction : ByteArray := prog_1_method_49_code
def yX6_tellFraction : MethodName := ⟨RX6, "tellFraction", "(II)V"⟩
abbrev cX6_greatestCommonDivisor : ByteArray := prog_1_method_50_code
def yX6_greatestCommonDivisor : MethodName := ⟨RX6, "greatestCommonDivisor", "(II)I"⟩
abbrev cX6_noGods : ByteArray := prog_1_method_51_code
def yX6_noGods : MethodName := ⟨RX6, "noGods", "()Z"⟩
abbrev cX6_isFood : ByteArray := prog_1_method_52_code
def yX6_isFood : MethodName := ⟨RX6, "isFood", "(I)Z"⟩
abbrev cX6_isPatience : ByteArray := prog_1_method_53_code
def yX6_isPatience : MethodName := ⟨RX6, "isPatience", "(I)Z"⟩
abbrev cX6_isPlanLength : ByteArray := prog_1_method_54_code
def yX6_isPlanLength : MethodName := ⟨RX6, "isPlanLength", "(I)Z"⟩
abbrev cX6_isKeepingPlace : ByteArray := prog_1_method_55_code
def yX6_isKeepingPlace : MethodName := ⟨RX6, "isKeepingPlace", "(I)Z"⟩
abbrev cX6_placeRefused : ByteArray := prog_1_method_56_code
def yX6_placeRefused : MethodName := ⟨RX6, "placeRefused", "(LOfferTurn$Shelf;II)I"⟩
abbrev cX6_traitOf : ByteArray := prog_1_method_57_code
def yX6_traitOf : MethodName := ⟨RX6, "traitOf", "(II)I"⟩
abbrev cX6_shortOfGoing : ByteArray := prog_1_method_58_code
def yX6_shortOfGoing : MethodName := ⟨RX6, "shortOfGoing", "(I)I"⟩
abbrev cX6_howManyKept : ByteArray := prog_1_method_59_code
def yX6_howManyKept : MethodName := ⟨RX6, "howManyKept", "()I"⟩
abbrev cX6_startTrial : ByteArray := prog_1_method_60_code
def yX6_startTrial : MethodName := ⟨RX6, "startTrial", "()V"⟩
abbrev cX6_holdsNumbersOnly : ByteArray := prog_1_method_61_code
def yX6_holdsNumbersOnly : MethodName := ⟨RX6, "holdsNumbersOnly", "(I)Z"⟩
abbrev cX6_bookRefused : ByteArray := prog_1_method_62_code
def yX6_bookRefused : MethodName := ⟨RX6, "bookRefused", "(II)I"⟩
abbrev cX6_fittingPatiences : ByteArray := prog_1_method_63_code
def yX6_fittingPatiences : MethodName := ⟨RX6, "fittingPatiences", "(III)I"⟩
abbrev cX6_bookFitsOthers : ByteArray := prog_1_method_64_code
def yX6_bookFitsOthers : MethodName := ⟨RX6, "bookFitsOthers", "(II)Z"⟩
abbrev cX6_mostLeftBy : ByteArray := prog_1_method_65_code
def yX6_mostLeftBy : MethodName := ⟨RX6, "mostLeftBy", "(II)I"⟩
def RX7 : String := "OfferTurnModel"
def TX7 : u_T := fun k => match k with
  | 0 => ("OfferTurnModel", "latest", "I", false)
  | 1 => ("OfferTurnModel", "came", "[I", true)
  | 2 => ("OfferTurnModel", "asked", "I", false)
  | 3 => ("OfferTurnModel", "upper", "J", false)
  | 4 => ("OfferTurnModel", "lower", "J", false)
  | 5 => ("OfferTurnModel", "sizes", "[I", true)
  | 6 => ("OfferTurnModel", "rows", "[I", true)
  | 7 => ("OfferTurnModel", "copied", "[I", true)
  | 8 => ("OfferTurnModel", "textSizes", "[I", true)
  | 9 => ("OfferTurnModel", "bytes", "[B", true)
  | 10 => ("OfferTurnModel", "n", "I", false)
  | 11 => ("OfferTurnModel", "gods", "[I", true)
  | 12 => ("OfferTurnModel", "readAt", "I", false)
  | 13 => ("OfferTurnModel", "readNumber", "I", false)
  | 14 => ("OfferTurnModel", "readStores", "Z", false)
  | 15 => ("OfferTurnModel", "readMany", "I", false)
  | 16 => ("OfferTurnModel", "readStore", "[I", true)
  | 17 => ("OfferTurnModel", "readGods", "[I", true)
  | 18 => ("OfferTurnModel", "rowsOf", "[I", true)
  | 19 => ("OfferTurnModel", "sentNow", "[I", true)
  | 20 => ("OfferTurnModel", "worthNow", "I", false)
  | 21 => ("OfferTurnModel", "harmNow", "I", false)
  | 22 => ("OfferTurnModel", "costNow", "I", false)
  | 23 => ("OfferTurnModel", "days", "[I", true)
  | 24 => ("OfferTurnModel", "isKept", "[Z", true)
  | 25 => ("OfferTurnModel", "keptNow", "[I", true)
  | 26 => ("OfferTurnModel", "keptPatience", "[I", true)
  | 27 => ("OfferTurnModel", "keptDays", "[I", true)
  | 28 => ("OfferTurnModel", "plan", "[I", true)
  | 29 => ("OfferTurnModel", "planLong", "I", false)
  | 30 => ("OfferTurnModel", "planWorth", "I", false)
  | 31 => ("OfferTurnModel", "planHarm", "I", false)
  | 32 => ("OfferTurnModel", "planGood", "I", false)
  | 33 => ("OfferTurnModel", "planFood", "I", false)
  | 34 => ("OfferTurnModel", "starved", "I", false)
  | 35 => ("OfferTurnModel", "firstPlan", "[I", true)
  | 36 => ("OfferTurnModel", "firstOffer", "I", false)
  | 37 => ("OfferTurnModel", "worthBy", "[I", true)
  | _ => ("OfferTurnModel", "hash", "J", false)
def tyX7 : Nat → FieldType := fun k => match k with
  | 0 => .int
  | 1 => .array .int
  | 2 => .int
  | 3 => .long
  | 4 => .long
  | 5 => .array .int
  | 6 => .array .int
  | 7 => .array .int
  | 8 => .array .int
  | 9 => .array .byte
  | 10 => .int
  | 11 => .array .int
  | 12 => .int
  | 13 => .int
  | 14 => .boolean
  | 15 => .int
  | 16 => .array .int
  | 17 => .array .int
  | 18 => .array .int
  | 19 => .array .int
  | 20 => .int
  | 21 => .int
  | 22 => .int
  | 23 => .array .int
  | 24 => .array .boolean
  | 25 => .array .int
  | 26 => .array .int
  | 27 => .array .int
  | 28 => .array .int
  | 29 => .int
  | 30 => .int
  | 31 => .int
  | 32 => .int
  | 33 => .int
  | 34 => .int
  | 35 => .array .int
  | 36 => .int
  | 37 => .array .int
  | _ => .long
abbrev wsX70 : List Cond := u_ws RX7 TX7 39
theorem nmX7 : ∀ a, a < 39 → ∀ b, b < 39 → a ≠ b → (TX7 a).2.1 ≠ (TX7 b).2.1 := by decide +kernel
theorem tyX7_ok : ∀ k, k < 39 → parseFieldDescriptor (TX7 k).2.2.1 = some (tyX7 k) := by decide +kernel
abbrev cX7_init : ByteArray := prog_9_method_1_code
def yX7_init : MethodName := ⟨RX7, "<init>", "()V"⟩
abbrev cX7_in : ByteArray := prog_9_method_2_code
def yX7_in : MethodName := ⟨RX7, "in", "(III)Z"⟩
abbrev cX7_has : ByteArray := prog_9_method_3_code
def yX7_has : MethodName := ⟨RX7, "has", "(II)Z"⟩
abbrev cX7_bits : ByteArray := prog_9_method_4_code
def yX7_bits : MethodName := ⟨RX7, "bits", "(I)I"⟩
abbrev cX7_lesser : ByteArray := prog_9_method_5_code
def yX7_lesser : MethodName := ⟨RX7, "lesser", "(II)I"⟩
abbrev cX7_greater : ByteArray := prog_9_method_6_code
def yX7_greater : MethodName := ⟨RX7, "greater", "(II)I"⟩
abbrev cX7_meets : ByteArray := prog_9_method_7_code
def yX7_meets : MethodName := ⟨RX7, "meets", "(I)I"⟩
abbrev cX7_finding : ByteArray := prog_9_method_8_code
def yX7_finding : MethodName := ⟨RX7, "finding", "()I"⟩
abbrev cX7_findings : ByteArray := prog_9_method_9_code
def yX7_findings : MethodName := ⟨RX7, "findings", "(I)I"⟩
abbrev cX7_tells : ByteArray := prog_9_method_10_code
def yX7_tells : MethodName := ⟨RX7, "tells", "(II)I"⟩
abbrev cX7_asked : ByteArray := prog_9_method_11_code
def yX7_asked : MethodName := ⟨RX7, "asked", "()I"⟩
abbrev cX7_fraction : ByteArray := prog_9_method_12_code
def yX7_fraction : MethodName := ⟨RX7, "fraction", "(JJI)I"⟩
abbrev cX7_whole : ByteArray := prog_9_method_13_code
def yX7_whole : MethodName := ⟨RX7, "whole", "(II)I"⟩
abbrev cX7_upper : ByteArray := prog_9_method_14_code
def yX7_upper : MethodName := ⟨RX7, "upper", "()J"⟩
abbrev cX7_lower : ByteArray := prog_9_method_15_code
def yX7_lower : MethodName := ⟨RX7, "lower", "()J"⟩
abbrev cX7_isRow : ByteArray := prog_9_method_16_code
def yX7_isRow : MethodName := ⟨RX7, "isRow", "(I)Z"⟩
abbrev cX7_rowAt : ByteArray := prog_9_method_17_code
def yX7_rowAt : MethodName := ⟨RX7, "rowAt", "(II)I"⟩
abbrev cX7_row : ByteArray := prog_9_method_18_code
def yX7_row : MethodName := ⟨RX7, "row", "(II)I"⟩
abbrev cX7_lay : ByteArray := prog_9_method_19_code
def yX7_lay : MethodName := ⟨RX7, "lay", "(III)I"⟩
abbrev cX7_at : ByteArray := prog_9_method_20_code
def yX7_at : MethodName := ⟨RX7, "at", "(II)I"⟩
abbrev cX7_tear : ByteArray := prog_9_method_21_code
def yX7_tear : MethodName := ⟨RX7, "tear", "(I)I"⟩
abbrev cX7_copy : ByteArray := prog_9_method_22_code
def yX7_copy : MethodName := ⟨RX7, "copy", "(IIIII)I"⟩
abbrev cX7_mean : ByteArray := prog_9_method_23_code
def yX7_mean : MethodName := ⟨RX7, "mean", "(I)I"⟩
abbrev cX7_isText : ByteArray := prog_9_method_24_code
def yX7_isText : MethodName := ⟨RX7, "isText", "(I)Z"⟩
abbrev cX7_text : ByteArray := prog_9_method_25_code
def yX7_text : MethodName := ⟨RX7, "text", "(II)I"⟩
abbrev cX7_put : ByteArray := prog_9_method_26_code
def yX7_put : MethodName := ⟨RX7, "put", "(III)I"⟩
abbrev cX7_byteAt : ByteArray := prog_9_method_27_code
def yX7_byteAt : MethodName := ⟨RX7, "byteAt", "(II)I"⟩
abbrev cX7_kindOf : ByteArray := prog_9_method_28_code
def yX7_kindOf : MethodName := ⟨RX7, "kindOf", "(I)I"⟩
abbrev cX7_figure : ByteArray := prog_9_method_29_code
def yX7_figure : MethodName := ⟨RX7, "figure", "(III)Z"⟩
abbrev cX7_readsStores : ByteArray := prog_9_method_30_code
def yX7_readsStores : MethodName := ⟨RX7, "readsStores", "(I)Z"⟩
abbrev cX7_readsGod : ByteArray := prog_9_method_31_code
def yX7_readsGod : MethodName := ⟨RX7, "readsGod", "(I)Z"⟩
abbrev cX7_faultOf : ByteArray := prog_9_method_32_code
def yX7_faultOf : MethodName := ⟨RX7, "faultOf", "(I)I"⟩
abbrev cX7_fault : ByteArray := prog_9_method_33_code
def yX7_fault : MethodName := ⟨RX7, "fault", "(I)I"⟩
abbrev cX7_valley : ByteArray := prog_9_method_34_code
def yX7_valley : MethodName := ⟨RX7, "valley", "(I)I"⟩
abbrev cX7_isGod : ByteArray := prog_9_method_35_code
def yX7_isGod : MethodName := ⟨RX7, "isGod", "(I)Z"⟩
abbrev cX7_kind : ByteArray := prog_9_method_36_code
def yX7_kind : MethodName := ⟨RX7, "kind", "(I)I"⟩
abbrev cX7_patienceOf : ByteArray := prog_9_method_37_code
def yX7_patienceOf : MethodName := ⟨RX7, "patienceOf", "(I)I"⟩
abbrev cX7_abides : ByteArray := prog_9_method_38_code
def yX7_abides : MethodName := ⟨RX7, "abides", "(I)I"⟩
abbrev cX7_isSleeper : ByteArray := prog_9_method_39_code
def yX7_isSleeper : MethodName := ⟨RX7, "isSleeper", "(I)Z"⟩
abbrev cX7_isJealous : ByteArray := prog_9_method_40_code
def yX7_isJealous : MethodName := ⟨RX7, "isJealous", "(I)Z"⟩
abbrev cX7_v : ByteArray := prog_9_method_41_code
def yX7_v : MethodName := ⟨RX7, "v", "(II)I"⟩
abbrev cX7_place : ByteArray := prog_9_method_42_code
def yX7_place : MethodName := ⟨RX7, "place", "(III)V"⟩
abbrev cX7_copyValley : ByteArray := prog_9_method_43_code
def yX7_copyValley : MethodName := ⟨RX7, "copyValley", "(II)V"⟩
abbrev cX7_isGone : ByteArray := prog_9_method_44_code
def yX7_isGone : MethodName := ⟨RX7, "isGone", "(II)Z"⟩
abbrev cX7_sleeps : ByteArray := prog_9_method_45_code
def yX7_sleeps : MethodName := ⟨RX7, "sleeps", "(II)Z"⟩
abbrev cX7_isUp : ByteArray := prog_9_method_46_code
def yX7_isUp : MethodName := ⟨RX7, "isUp", "(II)Z"⟩
abbrev cX7_fedBy : ByteArray := prog_9_method_47_code
def yX7_fedBy : MethodName := ⟨RX7, "fedBy", "(II)I"⟩
abbrev cX7_isNumber : ByteArray := prog_9_method_48_code
def yX7_isNumber : MethodName := ⟨RX7, "isNumber", "(I)Z"⟩
abbrev cX7_costOf : ByteArray := prog_9_method_49_code
def yX7_costOf : MethodName := ⟨RX7, "costOf", "(II)I"⟩
abbrev cX7_hungers : ByteArray := prog_9_method_50_code
def yX7_hungers : MethodName := ⟨RX7, "hungers", "(III)V"⟩
abbrev cX7_sends : ByteArray := prog_9_method_51_code
def yX7_sends : MethodName := ⟨RX7, "sends", "(I)V"⟩
abbrev cX7_goes : ByteArray := prog_9_method_52_code
def yX7_goes : MethodName := ⟨RX7, "goes", "(II)Z"⟩
abbrev cX7_godTells : ByteArray := prog_9_method_53_code
def yX7_godTells : MethodName := ⟨RX7, "godTells", "(II)I"⟩
abbrev cX7_god : ByteArray := prog_9_method_54_code
def yX7_god : MethodName := ⟨RX7, "god", "(II)I"⟩
abbrev cX7_mark : ByteArray := prog_9_method_55_code
def yX7_mark : MethodName := ⟨RX7, "mark", "(II)I"⟩
abbrev cX7_store : ByteArray := prog_9_method_56_code
def yX7_store : MethodName := ⟨RX7, "store", "(II)I"⟩
abbrev cX7_stores : ByteArray := prog_9_method_57_code
def yX7_stores : MethodName := ⟨RX7, "stores", "(I)I"⟩
abbrev cX7_patience : ByteArray := prog_9_method_58_code
def yX7_patience : MethodName := ⟨RX7, "patience", "(II)I"⟩
abbrev cX7_isFull : ByteArray := prog_9_method_59_code
def yX7_isFull : MethodName := ⟨RX7, "isFull", "(I)Z"⟩
abbrev cX7_goesBy : ByteArray := prog_9_method_60_code
def yX7_goesBy : MethodName := ⟨RX7, "goesBy", "(I)V"⟩
abbrev cX7_offer : ByteArray := prog_9_method_61_code
def yX7_offer : MethodName := ⟨RX7, "offer", "(I)I"⟩
abbrev cX7_may : ByteArray := prog_9_method_62_code
def yX7_may : MethodName := ⟨RX7, "may", "(I)I"⟩
abbrev cX7_rest : ByteArray := prog_9_method_63_code
def yX7_rest : MethodName := ⟨RX7, "rest", "(I)I"⟩
abbrev cX7_sent : ByteArray := prog_9_method_64_code
def yX7_sent : MethodName := ⟨RX7, "sent", "(II)I"⟩
abbrev cX7_offered : ByteArray := prog_9_method_65_code
def yX7_offered : MethodName := ⟨RX7, "offered", "(I)I"⟩
abbrev cX7_undo : ByteArray := prog_9_method_66_code
def yX7_undo : MethodName := ⟨RX7, "undo", "(I)I"⟩
abbrev cX7_sums : ByteArray := prog_9_method_67_code
def yX7_sums : MethodName := ⟨RX7, "sums", "()I"⟩
abbrev cX7_keep : ByteArray := prog_9_method_68_code
def yX7_keep : MethodName := ⟨RX7, "keep", "(I)I"⟩
abbrev cX7_on : ByteArray := prog_9_method_69_code
def yX7_on : MethodName := ⟨RX7, "on", "(I)I"⟩
abbrev cX7_noPlan : ByteArray := prog_9_method_70_code
def yX7_noPlan : MethodName := ⟨RX7, "noPlan", "(I)V"⟩
abbrev cX7_nextPlan : ByteArray := prog_9_method_71_code
def yX7_nextPlan : MethodName := ⟨RX7, "nextPlan", "()Z"⟩
abbrev cX7_isStarved : ByteArray := prog_9_method_72_code
def yX7_isStarved : MethodName := ⟨RX7, "isStarved", "(II)Z"⟩
abbrev cX7_layPlan : ByteArray := prog_9_method_73_code
def yX7_layPlan : MethodName := ⟨RX7, "layPlan", "()I"⟩
abbrev cX7_keepPlan : ByteArray := prog_9_method_74_code
def yX7_keepPlan : MethodName := ⟨RX7, "keepPlan", "()V"⟩
abbrev cX7_mostOf : ByteArray := prog_9_method_75_code
def yX7_mostOf : MethodName := ⟨RX7, "mostOf", "(I)I"⟩
abbrev cX7_planToRow : ByteArray := prog_9_method_76_code
def yX7_planToRow : MethodName := ⟨RX7, "planToRow", "(I)V"⟩
abbrev cX7_needDays : ByteArray := prog_9_method_77_code
def yX7_needDays : MethodName := ⟨RX7, "needDays", "(ZII)I"⟩
abbrev cX7_best : ByteArray := prog_9_method_78_code
def yX7_best : MethodName := ⟨RX7, "best", "(II)I"⟩
abbrev cX7_needPlan : ByteArray := prog_9_method_79_code
def yX7_needPlan : MethodName := ⟨RX7, "needPlan", "(I)I"⟩
abbrev cX7_tries : ByteArray := prog_9_method_80_code
def yX7_tries : MethodName := ⟨RX7, "tries", "(I)I"⟩
abbrev cX7_safe : ByteArray := prog_9_method_81_code
def yX7_safe : MethodName := ⟨RX7, "safe", "(II)I"⟩
abbrev cX7_share : ByteArray := prog_9_method_82_code
def yX7_share : MethodName := ⟨RX7, "share", "(I)I"⟩
abbrev cX7_food : ByteArray := prog_9_method_83_code
def yX7_food : MethodName := ⟨RX7, "food", "(I)I"⟩
abbrev cX7_harm : ByteArray := prog_9_method_84_code
def yX7_harm : MethodName := ⟨RX7, "harm", "(I)I"⟩
abbrev cX7_starve : ByteArray := prog_9_method_85_code
def yX7_starve : MethodName := ⟨RX7, "starve", "(I)I"⟩
abbrev cX7_price : ByteArray := prog_9_method_86_code
def yX7_price : MethodName := ⟨RX7, "price", "(II)I"⟩
abbrev cX7_altar : ByteArray := prog_9_method_87_code
def yX7_altar : MethodName := ⟨RX7, "altar", "(IIII)I"⟩
abbrev cX7_sentOf : ByteArray := prog_9_method_88_code
def yX7_sentOf : MethodName := ⟨RX7, "sentOf", "(I)I"⟩
abbrev cX7_lastTurn : ByteArray := prog_9_method_89_code
def yX7_lastTurn : MethodName := ⟨RX7, "lastTurn", "(IIZ)I"⟩
abbrev cX7_twoTurns : ByteArray := prog_9_method_90_code
def yX7_twoTurns : MethodName := ⟨RX7, "twoTurns", "(IIZ)I"⟩
abbrev cX7_threeTurns : ByteArray := prog_9_method_91_code
def yX7_threeTurns : MethodName := ⟨RX7, "threeTurns", "(II)I"⟩
abbrev cX7_turns : ByteArray := prog_9_method_92_code
def yX7_turns : MethodName := ⟨RX7, "turns", "(II)I"⟩
abbrev cX7_needBook : ByteArray := prog_9_method_93_code
def yX7_needBook : MethodName := ⟨RX7, "needBook", "(II)I"⟩
abbrev cX7_fitting : ByteArray := prog_9_method_94_code
def yX7_fitting : MethodName := ⟨RX7, "fitting", "(III)I"⟩
abbrev cX7_fits : ByteArray := prog_9_method_95_code
def yX7_fits : MethodName := ⟨RX7, "fits", "(III)I"⟩
abbrev cX7_whose : ByteArray := prog_9_method_96_code
def yX7_whose : MethodName := ⟨RX7, "whose", "(II)I"⟩
abbrev cX7_leftBy : ByteArray := prog_9_method_97_code
def yX7_leftBy : MethodName := ⟨RX7, "leftBy", "(II)I"⟩
abbrev cX7_ask : ByteArray := prog_9_method_98_code
def yX7_ask : MethodName := ⟨RX7, "ask", "(I)I"⟩
abbrev cX7_year : ByteArray := prog_9_method_99_code
def yX7_year : MethodName := ⟨RX7, "year", "(II)I"⟩
abbrev cX7_counted : ByteArray := prog_9_method_100_code
def yX7_counted : MethodName := ⟨RX7, "counted", "(I)I"⟩
abbrev cX7_count : ByteArray := prog_9_method_101_code
def yX7_count : MethodName := ⟨RX7, "count", "(I)I"⟩
abbrev cX7_mix : ByteArray := prog_9_method_102_code
def yX7_mix : MethodName := ⟨RX7, "mix", "(J)V"⟩
abbrev cX7_mixValley : ByteArray := prog_9_method_103_code
def yX7_mixValley : MethodName := ⟨RX7, "mixValley", "()V"⟩
abbrev cX7_digest : ByteArray := prog_9_method_104_code
def yX7_digest : MethodName := ⟨RX7, "digest", "()J"⟩
def RJ6 : String := "java/lang/Integer"
abbrev cJ6_bitCount_0f7a4 : ByteArray := prog_10_method_49_code
def yJ6_bitCount_0f7a4 : MethodName := ⟨RJ6, "bitCount", "(I)I"⟩
def RJ9 : String := "java/lang/Math"
abbrev cJ9_max_7cf53 : ByteArray := prog_11_method_65_code
def yJ9_max_7cf53 : MethodName := ⟨RJ9, "max", "(II)I"⟩
abbrev cJ9_min_7cf53 : ByteArray := prog_11_method_69_code
def yJ9_min_7cf53 : MethodName := ⟨RJ9, "min", "(II)I"⟩
def RJ10 : String := "java/lang/System"
def RJ7 : String := "java/util/Arrays"
abbrev cJ7_rangeCheck_23922 : ByteArray := prog_13_method_30_code
def yJ7_rangeCheck_23922 : MethodName := ⟨RJ7, "rangeCheck", "(III)V"⟩
abbrev cJ7_fill_53178 : ByteArray := prog_13_method_103_code
def yJ7_fill_53178 : MethodName := ⟨RJ7, "fill", "([II)V"⟩
abbrev cJ7_fill_fda19 : ByteArray := prog_13_method_104_code
def yJ7_fill_fda19 : MethodName := ⟨RJ7, "fill", "([IIII)V"⟩
def RL : String := "OfferTurnLaw"
abbrev cL_law : ByteArray := code
def yL_law : MethodName := ⟨RL, "law", "([I)Z"⟩
/-- the words of all methods: those of the tables that go down into a call -/
def ALL : List Cond := lw_tbl.filter goodWord
theorem al_self : GoodIn ALL ALL := fun w h => ⟨h, good_of_word (List.mem_filter.mp h).2⟩
theorem al_tbl {w : Cond} (h : w ∈ ALL) : w ∈ lw_tbl := (List.mem_filter.mp h).1
theorem al_t {w : Cond} (h : w ∈ tables_1) (hg : goodWord w = true) : w ∈ ALL := List.mem_filter.mpr ⟨List.mem_append_right _ h, hg⟩
theorem al_1 {w : Cond} (h : w ∈ tables_1_1) (hg : goodWord w = true) : w ∈ ALL := al_t (List.mem_append_left _ h) hg
theorem al_2 {w : Cond} (h : w ∈ tables_1_2) (hg : goodWord w = true) : w ∈ ALL := al_t (List.mem_append_right _ (List.mem_append_left _ h)) hg
theorem al_3 {w : Cond} (h : w ∈ tables_1_3) (hg : goodWord w = true) : w ∈ ALL := al_t (List.mem_append_right _ (List.mem_append_right _ (List.mem_append_left _ h))) hg
theorem al_4 {w : Cond} (h : w ∈ tables_1_4) (hg : goodWord w = true) : w ∈ ALL := al_t (List.mem_append_right _ (List.mem_append_right _ (List.mem_append_right _ (List.mem_append_left _ h)))) hg
theorem al_5 {w : Cond} (h : w ∈ tables_1_5) (hg : goodWord w = true) : w ∈ ALL := al_t (List.mem_append_right _ (List.mem_append_right _ (List.mem_append_right _ (List.mem_append_right _ (List.mem_append_left _ h))))) hg
theorem al_6 {w : Cond} (h : w ∈ tables_1_6) (hg : goodWord w = true) : w ∈ ALL := al_t (List.mem_append_right _ (List.mem_append_right _ (List.mem_append_right _ (List.mem_append_right _ (List.mem_append_right _ h))))) hg
theorem lt_1 {w : Cond} (h : w ∈ tables_1_1) : w ∈ lw_tbl := List.mem_append_right _ (List.mem_append_left _ h)
theorem lt_2 {w : Cond} (h : w ∈ tables_1_2) : w ∈ lw_tbl := List.mem_append_right _ (List.mem_append_right _ (List.mem_append_left _ h))
theorem al_s {q : MethodName × Nat} (h : q ∈ lw_privs) : Cond.selects q.1.cls q.1 q.1 ∈ ALL := List.mem_filter.mpr ⟨List.mem_append_left _ (List.mem_map.mpr ⟨q, h, rfl⟩), rfl⟩
theorem u_ws_in {C : String} {T : u_T} {N : Nat} {big : List Cond} (h : ∀ k, k < N → u_lay C T k ∈ big) : ∀ w ∈ u_ws C T N, w ∈ big := fun w hw => by
  obtain ⟨k, hk, rfl⟩ := List.mem_map.mp hw
  exact h k (List.mem_range.mp hk)
theorem al_s1 {q : MethodName × Nat} (h : q ∈ lw_privs_1) : Cond.selects q.1.cls q.1 q.1 ∈ ALL := al_s (List.mem_append_left _ h)
theorem al_s2 {q : MethodName × Nat} (h : q ∈ lw_privs_2) : Cond.selects q.1.cls q.1 q.1 ∈ ALL := al_s (List.mem_append_right _ (List.mem_append_left _ h))
theorem al_s3 {q : MethodName × Nat} (h : q ∈ lw_privs_3) : Cond.selects q.1.cls q.1 q.1 ∈ ALL := al_s (List.mem_append_right _ (List.mem_append_right _ (List.mem_append_left _ h)))
theorem al_s4 {q : MethodName × Nat} (h : q ∈ lw_privs_4) : Cond.selects q.1.cls q.1 q.1 ∈ ALL := al_s (List.mem_append_right _ (List.mem_append_right _ (List.mem_append_right _ (List.mem_append_left _ h))))
theorem al_s5 {q : MethodName × Nat} (h : q ∈ lw_privs_5) : Cond.selects q.1.cls q.1 q.1 ∈ ALL := al_s (List.mem_append_right _ (List.mem_append_right _ (List.mem_append_right _ (List.mem_append_right _ (List.mem_append_left _ h)))))
theorem al_s6 {q : MethodName × Nat} (h : q ∈ lw_privs_6) : Cond.selects q.1.cls q.1 q.1 ∈ ALL := al_s (List.mem_append_right _ (List.mem_append_right _ (List.mem_append_right _ (List.mem_append_right _ (List.mem_append_right _ h)))))
theorem wz_L : Cond.initialized RL ∈ ALL := al_1 (List.mem_of_getElem? (i := 0) rfl) rfl
theorem wz_X6 : Cond.initialized RX6 ∈ ALL := al_1 (List.mem_of_getElem? (i := 1) rfl) rfl
theorem wz_X4 : Cond.initialized RX4 ∈ ALL := al_1 (List.mem_of_getElem? (i := 2) rfl) rfl
theorem wz_J7 : Cond.initialized RJ7 ∈ ALL := al_1 (List.mem_of_getElem? (i := 3) rfl) rfl
theorem wz_X2 : Cond.initialized RX2 ∈ ALL := al_1 (List.mem_of_getElem? (i := 4) rfl) rfl
theorem wz_X0 : Cond.initialized RX0 ∈ ALL := al_1 (List.mem_of_getElem? (i := 5) rfl) rfl
theorem wz_X5 : Cond.initialized RX5 ∈ ALL := al_1 (List.mem_of_getElem? (i := 6) rfl) rfl
theorem wz_X3 : Cond.initialized RX3 ∈ ALL := al_1 (List.mem_of_getElem? (i := 7) rfl) rfl
theorem wz_X1 : Cond.initialized RX1 ∈ ALL := al_1 (List.mem_of_getElem? (i := 8) rfl) rfl
theorem wz_X7 : Cond.initialized RX7 ∈ ALL := al_1 (List.mem_of_getElem? (i := 9) rfl) rfl
theorem wz_J10 : Cond.initialized RJ10 ∈ ALL := al_1 (List.mem_of_getElem? (i := 10) rfl) rfl
theorem wz_J9 : Cond.initialized RJ9 ∈ ALL := al_1 (List.mem_of_getElem? (i := 11) rfl) rfl
theorem wz_J6 : Cond.initialized RJ6 ∈ ALL := al_1 (List.mem_of_getElem? (i := 12) rfl) rfl
theorem wl_L_7 : Cond.classLink RL 7 RX6 ∈ ALL := al_1 (List.mem_of_getElem? (i := 13) rfl) rfl
theorem wn_X6 : Cond.instantiable RX6 14 ∈ ALL := al_1 (List.mem_of_getElem? (i := 14) rfl) rfl
theorem wm_L_9 : Cond.methodLink RL 9 yX6_init ∈ ALL := al_1 (List.mem_of_getElem? (i := 15) rfl) rfl
theorem wi_X6_init : Cond.instanceMethod yX6_init ∈ ALL := al_1 (List.mem_of_getElem? (i := 16) rfl) rfl
theorem wc_X6_init : Cond.code yX6_init cX6_init 1 none ∈ ALL := al_1 (List.mem_of_getElem? (i := 17) rfl) rfl
theorem wm_X6_1 : Cond.methodLink RX6 1 objectInit ∈ ALL := al_1 (List.mem_of_getElem? (i := 18) rfl) rfl
theorem wi_objinit : Cond.instanceMethod objectInit ∈ ALL := al_1 (List.mem_of_getElem? (i := 19) rfl) rfl
theorem wc_objinit : Cond.code objectInit ⟨#[0xb1]⟩ 1 none ∈ ALL := al_1 (List.mem_of_getElem? (i := 20) rfl) rfl
theorem wl_X6_7 : Cond.classLink RX6 7 RX4 ∈ ALL := al_1 (List.mem_of_getElem? (i := 21) rfl) rfl
theorem wn_X4 : Cond.instantiable RX4 2 ∈ ALL := al_1 (List.mem_of_getElem? (i := 22) rfl) rfl
theorem wl_X6_11 : Cond.classLink RX6 11 "[[I" ∈ ALL := al_1 (List.mem_of_getElem? (i := 23) rfl) rfl
theorem wo_array_Jvm_ClassFile_FieldType_int : Cond.arrayOver (Jvm.ClassFile.FieldType.array Jvm.ClassFile.FieldType.int) ∈ lw_tbl := lt_1 (List.mem_of_getElem? (i := 24) rfl)
theorem wm_X6_13 : Cond.methodLink RX6 13 yX4_init ∈ ALL := al_1 (List.mem_of_getElem? (i := 25) rfl) rfl
theorem wi_X4_init : Cond.instanceMethod yX4_init ∈ ALL := al_1 (List.mem_of_getElem? (i := 26) rfl) rfl
theorem wc_X4_init : Cond.code yX4_init cX4_init 2 none ∈ ALL := al_1 (List.mem_of_getElem? (i := 27) rfl) rfl
theorem wm_X4_3 : Cond.methodLink RX4 3 objectInit ∈ ALL := al_1 (List.mem_of_getElem? (i := 28) rfl) rfl
theorem wm_X4_19 : Cond.methodLink RX4 19 yJ7_fill_53178 ∈ ALL := al_1 (List.mem_of_getElem? (i := 29) rfl) rfl
theorem wt_J7_fill_53178 : Cond.static yJ7_fill_53178 ∈ ALL := al_1 (List.mem_of_getElem? (i := 30) rfl) rfl
theorem wc_J7_fill_53178 : Cond.code yJ7_fill_53178 cJ7_fill_53178 4 none ∈ ALL := al_1 (List.mem_of_getElem? (i := 31) rfl) rfl
theorem wf_X4_9 : Cond.fieldLink RX4 9 "OfferTurn$Shelf" "places" "[[I" ∈ ALL := al_1 (List.mem_of_getElem? (i := 32) rfl) rfl
theorem wf_X4_15 : Cond.fieldLink RX4 15 "OfferTurn$Shelf" "sizes" "[I" ∈ ALL := al_1 (List.mem_of_getElem? (i := 33) rfl) rfl
theorem wy_X4_places : Cond.laysFinal RX4 "OfferTurn$Shelf" "places" "[[I" ∈ ALL := al_1 (List.mem_of_getElem? (i := 34) rfl) rfl
theorem wy_X4_sizes : Cond.laysFinal RX4 "OfferTurn$Shelf" "sizes" "[I" ∈ ALL := al_1 (List.mem_of_getElem? (i := 36) rfl) rfl
theorem wa_int : Cond.arrayClass Jvm.ClassFile.FieldType.int ∈ ALL := al_1 (List.mem_of_getElem? (i := 39) rfl) rfl
theorem wl_X6_23 : Cond.classLink RX6 23 RX2 ∈ ALL := al_1 (List.mem_of_getElem? (i := 40) rfl) rfl
theorem wn_X2 : Cond.instantiable RX2 6 ∈ ALL := al_1 (List.mem_of_getElem? (i := 41) rfl) rfl
theorem wmn_X6_25 : Cond.methodLinkNest RX6 25 yX2_init RX6 ∈ lw_tbl := lt_1 (List.mem_of_getElem? (i := 42) rfl)
theorem wi_X2_init : Cond.instanceMethod yX2_init ∈ ALL := al_1 (List.mem_of_getElem? (i := 43) rfl) rfl
theorem wc_X2_init : Cond.code yX2_init cX2_init 1 none ∈ ALL := al_1 (List.mem_of_getElem? (i := 44) rfl) rfl
theorem wm_X2_3 : Cond.methodLink RX2 3 objectInit ∈ ALL := al_1 (List.mem_of_getElem? (i := 45) rfl) rfl
theorem wl_X2_9 : Cond.classLink RX2 9 RX0 ∈ ALL := al_1 (List.mem_of_getElem? (i := 46) rfl) rfl
theorem wn_X0 : Cond.instantiable RX0 12 ∈ ALL := al_1 (List.mem_of_getElem? (i := 47) rfl) rfl
theorem wmn_X2_11 : Cond.methodLinkNest RX2 11 yX0_init RX6 ∈ lw_tbl := lt_1 (List.mem_of_getElem? (i := 48) rfl)
theorem wi_X0_init : Cond.instanceMethod yX0_init ∈ ALL := al_1 (List.mem_of_getElem? (i := 49) rfl) rfl
theorem wc_X0_init : Cond.code yX0_init cX0_init 1 none ∈ ALL := al_1 (List.mem_of_getElem? (i := 50) rfl) rfl
theorem wm_X0_3 : Cond.methodLink RX0 3 objectInit ∈ ALL := al_1 (List.mem_of_getElem? (i := 51) rfl) rfl
theorem wf_X0_9 : Cond.fieldLink RX0 9 "OfferTurn$Gods" "many" "I" ∈ ALL := al_1 (List.mem_of_getElem? (i := 52) rfl) rfl
theorem wf_X2_49 : Cond.fieldLink RX2 49 "OfferTurn$Gods" "many" "I" ∈ ALL := al_1 (List.mem_of_getElem? (i := 53) rfl) rfl
theorem wf_X6_150 : Cond.fieldLink RX6 150 "OfferTurn$Gods" "many" "I" ∈ ALL := al_1 (List.mem_of_getElem? (i := 54) rfl) rfl
theorem wf_X3_100 : Cond.fieldLink RX3 100 "OfferTurn$Gods" "many" "I" ∈ ALL := al_1 (List.mem_of_getElem? (i := 55) rfl) rfl
theorem wf_X0_15 : Cond.fieldLink RX0 15 "OfferTurn$Gods" "all" "I" ∈ ALL := al_1 (List.mem_of_getElem? (i := 56) rfl) rfl
theorem wf_X3_63 : Cond.fieldLink RX3 63 "OfferTurn$Gods" "all" "I" ∈ ALL := al_1 (List.mem_of_getElem? (i := 57) rfl) rfl
theorem wf_X6_297 : Cond.fieldLink RX6 297 "OfferTurn$Gods" "all" "I" ∈ ALL := al_1 (List.mem_of_getElem? (i := 58) rfl) rfl
theorem wf_X0_18 : Cond.fieldLink RX0 18 "OfferTurn$Gods" "sleepers" "I" ∈ ALL := al_1 (List.mem_of_getElem? (i := 59) rfl) rfl
theorem wf_X3_58 : Cond.fieldLink RX3 58 "OfferTurn$Gods" "sleepers" "I" ∈ ALL := al_1 (List.mem_of_getElem? (i := 60) rfl) rfl
theorem wf_X0_21 : Cond.fieldLink RX0 21 "OfferTurn$Gods" "kinds" "[I" ∈ ALL := al_1 (List.mem_of_getElem? (i := 61) rfl) rfl
theorem wf_X2_75 : Cond.fieldLink RX2 75 "OfferTurn$Gods" "kinds" "[I" ∈ ALL := al_1 (List.mem_of_getElem? (i := 62) rfl) rfl
theorem wf_X3_111 : Cond.fieldLink RX3 111 "OfferTurn$Gods" "kinds" "[I" ∈ ALL := al_1 (List.mem_of_getElem? (i := 63) rfl) rfl
theorem wf_X6_360 : Cond.fieldLink RX6 360 "OfferTurn$Gods" "kinds" "[I" ∈ ALL := al_1 (List.mem_of_getElem? (i := 64) rfl) rfl
theorem wf_X0_25 : Cond.fieldLink RX0 25 "OfferTurn$Gods" "foods" "[I" ∈ ALL := al_1 (List.mem_of_getElem? (i := 65) rfl) rfl
theorem wf_X2_81 : Cond.fieldLink RX2 81 "OfferTurn$Gods" "foods" "[I" ∈ ALL := al_1 (List.mem_of_getElem? (i := 66) rfl) rfl
theorem wf_X3_121 : Cond.fieldLink RX3 121 "OfferTurn$Gods" "foods" "[I" ∈ ALL := al_1 (List.mem_of_getElem? (i := 67) rfl) rfl
theorem wf_X6_294 : Cond.fieldLink RX6 294 "OfferTurn$Gods" "foods" "[I" ∈ ALL := al_1 (List.mem_of_getElem? (i := 68) rfl) rfl
theorem wf_X0_28 : Cond.fieldLink RX0 28 "OfferTurn$Gods" "patiences" "[I" ∈ ALL := al_1 (List.mem_of_getElem? (i := 69) rfl) rfl
theorem wf_X2_84 : Cond.fieldLink RX2 84 "OfferTurn$Gods" "patiences" "[I" ∈ ALL := al_1 (List.mem_of_getElem? (i := 70) rfl) rfl
theorem wf_X6_190 : Cond.fieldLink RX6 190 "OfferTurn$Gods" "patiences" "[I" ∈ ALL := al_1 (List.mem_of_getElem? (i := 71) rfl) rfl
theorem wf_X3_136 : Cond.fieldLink RX3 136 "OfferTurn$Gods" "patiences" "[I" ∈ ALL := al_1 (List.mem_of_getElem? (i := 72) rfl) rfl
theorem wf_X0_31 : Cond.fieldLink RX0 31 "OfferTurn$Gods" "goods" "[I" ∈ ALL := al_1 (List.mem_of_getElem? (i := 73) rfl) rfl
theorem wf_X2_87 : Cond.fieldLink RX2 87 "OfferTurn$Gods" "goods" "[I" ∈ ALL := al_1 (List.mem_of_getElem? (i := 74) rfl) rfl
theorem wf_X3_139 : Cond.fieldLink RX3 139 "OfferTurn$Gods" "goods" "[I" ∈ ALL := al_1 (List.mem_of_getElem? (i := 75) rfl) rfl
theorem wf_X6_363 : Cond.fieldLink RX6 363 "OfferTurn$Gods" "goods" "[I" ∈ ALL := al_1 (List.mem_of_getElem? (i := 76) rfl) rfl
theorem wf_X0_34 : Cond.fieldLink RX0 34 "OfferTurn$Gods" "harms" "[I" ∈ ALL := al_1 (List.mem_of_getElem? (i := 77) rfl) rfl
theorem wf_X2_90 : Cond.fieldLink RX2 90 "OfferTurn$Gods" "harms" "[I" ∈ ALL := al_1 (List.mem_of_getElem? (i := 78) rfl) rfl
theorem wf_X3_142 : Cond.fieldLink RX3 142 "OfferTurn$Gods" "harms" "[I" ∈ ALL := al_1 (List.mem_of_getElem? (i := 79) rfl) rfl
theorem wf_X6_366 : Cond.fieldLink RX6 366 "OfferTurn$Gods" "harms" "[I" ∈ ALL := al_1 (List.mem_of_getElem? (i := 80) rfl) rfl
theorem wf_X0_37 : Cond.fieldLink RX0 37 "OfferTurn$Gods" "neighbours" "[I" ∈ ALL := al_1 (List.mem_of_getElem? (i := 81) rfl) rfl
theorem wf_X2_93 : Cond.fieldLink RX2 93 "OfferTurn$Gods" "neighbours" "[I" ∈ ALL := al_1 (List.mem_of_getElem? (i := 82) rfl) rfl
theorem wf_X6_161 : Cond.fieldLink RX6 161 "OfferTurn$Gods" "neighbours" "[I" ∈ ALL := al_1 (List.mem_of_getElem? (i := 83) rfl) rfl
theorem wf_X0_40 : Cond.fieldLink RX0 40 "OfferTurn$Gods" "tables" "[I" ∈ ALL := al_1 (List.mem_of_getElem? (i := 84) rfl) rfl
theorem wf_X3_74 : Cond.fieldLink RX3 74 "OfferTurn$Gods" "tables" "[I" ∈ ALL := al_1 (List.mem_of_getElem? (i := 85) rfl) rfl
theorem wf_X0_43 : Cond.fieldLink RX0 43 "OfferTurn$Gods" "foes" "[I" ∈ ALL := al_1 (List.mem_of_getElem? (i := 86) rfl) rfl
theorem wf_X3_124 : Cond.fieldLink RX3 124 "OfferTurn$Gods" "foes" "[I" ∈ ALL := al_1 (List.mem_of_getElem? (i := 87) rfl) rfl
theorem wf_X0_46 : Cond.fieldLink RX0 46 "OfferTurn$Gods" "spites" "[I" ∈ ALL := al_1 (List.mem_of_getElem? (i := 88) rfl) rfl
theorem wf_X3_127 : Cond.fieldLink RX3 127 "OfferTurn$Gods" "spites" "[I" ∈ ALL := al_1 (List.mem_of_getElem? (i := 89) rfl) rfl
theorem wy_X0_many : Cond.lays RX0 "OfferTurn$Gods" "many" "I" ∈ ALL := al_1 (List.mem_of_getElem? (i := 90) rfl) rfl
theorem wy_X0_all : Cond.lays RX0 "OfferTurn$Gods" "all" "I" ∈ ALL := al_1 (List.mem_of_getElem? (i := 92) rfl) rfl
theorem wy_X0_sleepers : Cond.lays RX0 "OfferTurn$Gods" "sleepers" "I" ∈ ALL := al_1 (List.mem_of_getElem? (i := 94) rfl) rfl
theorem wy_X0_kinds : Cond.laysFinal RX0 "OfferTurn$Gods" "kinds" "[I" ∈ ALL := al_1 (List.mem_of_getElem? (i := 96) rfl) rfl
theorem wy_X0_foods : Cond.laysFinal RX0 "OfferTurn$Gods" "foods" "[I" ∈ ALL := al_1 (List.mem_of_getElem? (i := 98) rfl) rfl
theorem wy_X0_patiences : Cond.laysFinal RX0 "OfferTurn$Gods" "patiences" "[I" ∈ ALL := al_1 (List.mem_of_getElem? (i := 100) rfl) rfl
theorem wy_X0_goods : Cond.laysFinal RX0 "OfferTurn$Gods" "goods" "[I" ∈ ALL := al_1 (List.mem_of_getElem? (i := 102) rfl) rfl
theorem wy_X0_harms : Cond.laysFinal RX0 "OfferTurn$Gods" "harms" "[I" ∈ ALL := al_1 (List.mem_of_getElem? (i := 104) rfl) rfl
theorem wy_X0_neighbours : Cond.laysFinal RX0 "OfferTurn$Gods" "neighbours" "[I" ∈ ALL := al_1 (List.mem_of_getElem? (i := 106) rfl) rfl
theorem wy_X0_tables : Cond.laysFinal RX0 "OfferTurn$Gods" "tables" "[I" ∈ ALL := al_1 (List.mem_of_getElem? (i := 108) rfl) rfl
theorem wy_X0_foes : Cond.laysFinal RX0 "OfferTurn$Gods" "foes" "[I" ∈ ALL := al_1 (List.mem_of_getElem? (i := 110) rfl) rfl
theorem wy_X0_spites : Cond.laysFinal RX0 "OfferTurn$Gods" "spites" "[I" ∈ ALL := al_1 (List.mem_of_getElem? (i := 112) rfl) rfl
theorem wf_X2_12 : Cond.fieldLink RX2 12 "OfferTurn$Reader" "gods" "LOfferTurn$Gods;" ∈ ALL := al_1 (List.mem_of_getElem? (i := 115) rfl) rfl
theorem wf_X6_135 : Cond.fieldLink RX6 135 "OfferTurn$Reader" "gods" "LOfferTurn$Gods;" ∈ ALL := al_1 (List.mem_of_getElem? (i := 116) rfl) rfl
theorem wf_X2_18 : Cond.fieldLink RX2 18 "OfferTurn$Reader" "stores" "[I" ∈ ALL := al_1 (List.mem_of_getElem? (i := 117) rfl) rfl
theorem wf_X6_138 : Cond.fieldLink RX6 138 "OfferTurn$Reader" "stores" "[I" ∈ ALL := al_1 (List.mem_of_getElem? (i := 118) rfl) rfl
theorem wf_X2_22 : Cond.fieldLink RX2 22 "OfferTurn$Reader" "signs" "[I" ∈ ALL := al_1 (List.mem_of_getElem? (i := 119) rfl) rfl
theorem wf_X2_25 : Cond.fieldLink RX2 25 "OfferTurn$Reader" "size" "I" ∈ ALL := al_1 (List.mem_of_getElem? (i := 120) rfl) rfl
theorem wf_X2_29 : Cond.fieldLink RX2 29 "OfferTurn$Reader" "place" "I" ∈ ALL := al_1 (List.mem_of_getElem? (i := 121) rfl) rfl
theorem wf_X2_32 : Cond.fieldLink RX2 32 "OfferTurn$Reader" "stop" "I" ∈ ALL := al_1 (List.mem_of_getElem? (i := 122) rfl) rfl
theorem wy_X2_gods : Cond.laysFinal RX2 "OfferTurn$Reader" "gods" "LOfferTurn$Gods;" ∈ ALL := al_1 (List.mem_of_getElem? (i := 123) rfl) rfl
theorem wy_X2_stores : Cond.laysFinal RX2 "OfferTurn$Reader" "stores" "[I" ∈ ALL := al_1 (List.mem_of_getElem? (i := 125) rfl) rfl
theorem wy_X2_signs : Cond.laysFinal RX2 "OfferTurn$Reader" "signs" "[I" ∈ ALL := al_1 (List.mem_of_getElem? (i := 127) rfl) rfl
theorem wy_X2_size : Cond.lays RX2 "OfferTurn$Reader" "size" "I" ∈ ALL := al_1 (List.mem_of_getElem? (i := 129) rfl) rfl
theorem wy_X2_place : Cond.lays RX2 "OfferTurn$Reader" "place" "I" ∈ ALL := al_1 (List.mem_of_getElem? (i := 131) rfl) rfl
theorem wy_X2_stop : Cond.lays RX2 "OfferTurn$Reader" "stop" "I" ∈ ALL := al_1 (List.mem_of_getElem? (i := 133) rfl) rfl
theorem wl_X6_30 : Cond.classLink RX6 30 RX5 ∈ ALL := al_1 (List.mem_of_getElem? (i := 136) rfl) rfl
theorem wn_X5 : Cond.instantiable RX5 4 ∈ ALL := al_1 (List.mem_of_getElem? (i := 137) rfl) rfl
theorem wmn_X6_32 : Cond.methodLinkNest RX6 32 yX5_init RX6 ∈ lw_tbl := lt_1 (List.mem_of_getElem? (i := 138) rfl)
theorem wi_X5_init : Cond.instanceMethod yX5_init ∈ ALL := al_1 (List.mem_of_getElem? (i := 139) rfl) rfl
theorem wc_X5_init : Cond.code yX5_init cX5_init 1 none ∈ ALL := al_1 (List.mem_of_getElem? (i := 140) rfl) rfl
theorem wm_X5_7 : Cond.methodLink RX5 7 objectInit ∈ ALL := al_1 (List.mem_of_getElem? (i := 141) rfl) rfl
theorem wl_X5_13 : Cond.classLink RX5 13 RX0 ∈ ALL := al_1 (List.mem_of_getElem? (i := 142) rfl) rfl
theorem wmn_X5_15 : Cond.methodLinkNest RX5 15 yX0_init RX6 ∈ lw_tbl := lt_1 (List.mem_of_getElem? (i := 143) rfl)
theorem wl_X5_3 : Cond.classLink RX5 3 RX3 ∈ ALL := al_1 (List.mem_of_getElem? (i := 144) rfl) rfl
theorem wn_X3 : Cond.instantiable RX3 10 ∈ ALL := al_1 (List.mem_of_getElem? (i := 145) rfl) rfl
theorem wmn_X5_20 : Cond.methodLinkNest RX5 20 yX3_init RX6 ∈ lw_tbl := lt_1 (List.mem_of_getElem? (i := 146) rfl)
theorem wi_X3_init : Cond.instanceMethod yX3_init ∈ ALL := al_1 (List.mem_of_getElem? (i := 147) rfl) rfl
theorem wc_X3_init : Cond.code yX3_init cX3_init 1 none ∈ ALL := al_1 (List.mem_of_getElem? (i := 148) rfl) rfl
theorem wm_X3_3 : Cond.methodLink RX3 3 objectInit ∈ ALL := al_1 (List.mem_of_getElem? (i := 149) rfl) rfl
theorem wf_X3_9 : Cond.fieldLink RX3 9 "OfferTurn$Scene" "day" "I" ∈ ALL := al_1 (List.mem_of_getElem? (i := 150) rfl) rfl
theorem wf_X5_44 : Cond.fieldLink RX5 44 "OfferTurn$Scene" "day" "I" ∈ ALL := al_1 (List.mem_of_getElem? (i := 151) rfl) rfl
theorem wf_X6_200 : Cond.fieldLink RX6 200 "OfferTurn$Scene" "day" "I" ∈ ALL := al_1 (List.mem_of_getElem? (i := 152) rfl) rfl
theorem wf_X3_15 : Cond.fieldLink RX3 15 "OfferTurn$Scene" "gone" "I" ∈ ALL := al_1 (List.mem_of_getElem? (i := 153) rfl) rfl
theorem wf_X6_329 : Cond.fieldLink RX6 329 "OfferTurn$Scene" "gone" "I" ∈ ALL := al_1 (List.mem_of_getElem? (i := 154) rfl) rfl
theorem wf_X3_18 : Cond.fieldLink RX3 18 "OfferTurn$Scene" "everFed" "I" ∈ ALL := al_1 (List.mem_of_getElem? (i := 155) rfl) rfl
theorem wf_X3_21 : Cond.fieldLink RX3 21 "OfferTurn$Scene" "good" "I" ∈ ALL := al_1 (List.mem_of_getElem? (i := 156) rfl) rfl
theorem wf_X1_113 : Cond.fieldLink RX1 113 "OfferTurn$Scene" "good" "I" ∈ ALL := al_1 (List.mem_of_getElem? (i := 157) rfl) rfl
theorem wf_X6_218 : Cond.fieldLink RX6 218 "OfferTurn$Scene" "good" "I" ∈ ALL := al_1 (List.mem_of_getElem? (i := 158) rfl) rfl
theorem wf_X3_24 : Cond.fieldLink RX3 24 "OfferTurn$Scene" "harm" "I" ∈ ALL := al_1 (List.mem_of_getElem? (i := 159) rfl) rfl
theorem wf_X1_107 : Cond.fieldLink RX1 107 "OfferTurn$Scene" "harm" "I" ∈ ALL := al_1 (List.mem_of_getElem? (i := 160) rfl) rfl
theorem wf_X6_215 : Cond.fieldLink RX6 215 "OfferTurn$Scene" "harm" "I" ∈ ALL := al_1 (List.mem_of_getElem? (i := 161) rfl) rfl
theorem wf_X3_27 : Cond.fieldLink RX3 27 "OfferTurn$Scene" "taken" "I" ∈ ALL := al_1 (List.mem_of_getElem? (i := 162) rfl) rfl
theorem wf_X1_110 : Cond.fieldLink RX1 110 "OfferTurn$Scene" "taken" "I" ∈ ALL := al_1 (List.mem_of_getElem? (i := 163) rfl) rfl
theorem wf_X3_30 : Cond.fieldLink RX3 30 "OfferTurn$Scene" "stores" "[I" ∈ ALL := al_1 (List.mem_of_getElem? (i := 164) rfl) rfl
theorem wf_X6_186 : Cond.fieldLink RX6 186 "OfferTurn$Scene" "stores" "[I" ∈ ALL := al_1 (List.mem_of_getElem? (i := 165) rfl) rfl
theorem wf_X3_34 : Cond.fieldLink RX3 34 "OfferTurn$Scene" "hungers" "[I" ∈ ALL := al_1 (List.mem_of_getElem? (i := 166) rfl) rfl
theorem wf_X6_369 : Cond.fieldLink RX6 369 "OfferTurn$Scene" "hungers" "[I" ∈ ALL := al_1 (List.mem_of_getElem? (i := 167) rfl) rfl
theorem wf_X3_37 : Cond.fieldLink RX3 37 "OfferTurn$Scene" "fed" "I" ∈ ALL := al_1 (List.mem_of_getElem? (i := 168) rfl) rfl
theorem wf_X5_66 : Cond.fieldLink RX5 66 "OfferTurn$Scene" "fed" "I" ∈ ALL := al_1 (List.mem_of_getElem? (i := 169) rfl) rfl
theorem wf_X1_104 : Cond.fieldLink RX1 104 "OfferTurn$Scene" "fed" "I" ∈ ALL := al_1 (List.mem_of_getElem? (i := 170) rfl) rfl
theorem wf_X3_40 : Cond.fieldLink RX3 40 "OfferTurn$Scene" "sendings" "[I" ∈ ALL := al_1 (List.mem_of_getElem? (i := 171) rfl) rfl
theorem wf_X5_69 : Cond.fieldLink RX5 69 "OfferTurn$Scene" "sendings" "[I" ∈ ALL := al_1 (List.mem_of_getElem? (i := 172) rfl) rfl
theorem wy_X3_day : Cond.lays RX3 "OfferTurn$Scene" "day" "I" ∈ ALL := al_1 (List.mem_of_getElem? (i := 173) rfl) rfl
theorem wy_X3_gone : Cond.lays RX3 "OfferTurn$Scene" "gone" "I" ∈ ALL := al_1 (List.mem_of_getElem? (i := 175) rfl) rfl
theorem wy_X3_everFed : Cond.lays RX3 "OfferTurn$Scene" "everFed" "I" ∈ ALL := al_1 (List.mem_of_getElem? (i := 177) rfl) rfl
theorem wy_X3_good : Cond.lays RX3 "OfferTurn$Scene" "good" "I" ∈ ALL := al_1 (List.mem_of_getElem? (i := 179) rfl) rfl
theorem wy_X3_harm : Cond.lays RX3 "OfferTurn$Scene" "harm" "I" ∈ ALL := al_1 (List.mem_of_getElem? (i := 181) rfl) rfl
theorem wy_X3_taken : Cond.lays RX3 "OfferTurn$Scene" "taken" "I" ∈ ALL := al_1 (List.mem_of_getElem? (i := 183) rfl) rfl
theorem wy_X3_stores : Cond.laysFinal RX3 "OfferTurn$Scene" "stores" "[I" ∈ ALL := al_1 (List.mem_of_getElem? (i := 185) rfl) rfl
theorem wy_X3_hungers : Cond.laysFinal RX3 "OfferTurn$Scene" "hungers" "[I" ∈ ALL := al_1 (List.mem_of_getElem? (i := 187) rfl) rfl
theorem wy_X3_fed : Cond.lays RX3 "OfferTurn$Scene" "fed" "I" ∈ ALL := al_1 (List.mem_of_getElem? (i := 189) rfl) rfl
theorem wy_X3_sendings : Cond.laysFinal RX3 "OfferTurn$Scene" "sendings" "[I" ∈ ALL := al_1 (List.mem_of_getElem? (i := 191) rfl) rfl
theorem wf_X5_16 : Cond.fieldLink RX5 16 "OfferTurn$Village" "gods" "LOfferTurn$Gods;" ∈ ALL := al_1 (List.mem_of_getElem? (i := 194) rfl) rfl
theorem wf_X6_149 : Cond.fieldLink RX6 149 "OfferTurn$Village" "gods" "LOfferTurn$Gods;" ∈ ALL := al_1 (List.mem_of_getElem? (i := 195) rfl) rfl
theorem wf_X5_21 : Cond.fieldLink RX5 21 "OfferTurn$Village" "now" "LOfferTurn$Scene;" ∈ ALL := al_1 (List.mem_of_getElem? (i := 196) rfl) rfl
theorem wf_X6_167 : Cond.fieldLink RX6 167 "OfferTurn$Village" "now" "LOfferTurn$Scene;" ∈ ALL := al_1 (List.mem_of_getElem? (i := 197) rfl) rfl
theorem wf_X5_25 : Cond.fieldLink RX5 25 "OfferTurn$Village" "isKept" "Z" ∈ ALL := al_1 (List.mem_of_getElem? (i := 198) rfl) rfl
theorem wf_X6_145 : Cond.fieldLink RX6 145 "OfferTurn$Village" "isKept" "Z" ∈ ALL := al_1 (List.mem_of_getElem? (i := 199) rfl) rfl
theorem wf_X5_29 : Cond.fieldLink RX5 29 "OfferTurn$Village" "diary" "[I" ∈ ALL := al_1 (List.mem_of_getElem? (i := 200) rfl) rfl
theorem wy_X5_gods : Cond.laysFinal RX5 "OfferTurn$Village" "gods" "LOfferTurn$Gods;" ∈ ALL := al_1 (List.mem_of_getElem? (i := 201) rfl) rfl
theorem wy_X5_now : Cond.laysFinal RX5 "OfferTurn$Village" "now" "LOfferTurn$Scene;" ∈ ALL := al_1 (List.mem_of_getElem? (i := 203) rfl) rfl
theorem wy_X5_isKept : Cond.lays RX5 "OfferTurn$Village" "isKept" "Z" ∈ ALL := al_1 (List.mem_of_getElem? (i := 205) rfl) rfl
theorem wy_X5_diary : Cond.laysFinal RX5 "OfferTurn$Village" "diary" "[I" ∈ ALL := al_1 (List.mem_of_getElem? (i := 207) rfl) rfl
theorem wo_object__OfferTurn_Village : Cond.arrayOver (Jvm.ClassFile.FieldType.object "OfferTurn$Village") ∈ lw_tbl := lt_1 (List.mem_of_getElem? (i := 210) rfl)
theorem wl_X6_41 : Cond.classLink RX6 41 RX1 ∈ ALL := al_1 (List.mem_of_getElem? (i := 211) rfl) rfl
theorem wn_X1 : Cond.instantiable RX1 13 ∈ ALL := al_1 (List.mem_of_getElem? (i := 212) rfl) rfl
theorem wmn_X6_43 : Cond.methodLinkNest RX6 43 yX1_init RX6 ∈ lw_tbl := lt_1 (List.mem_of_getElem? (i := 213) rfl)
theorem wi_X1_init : Cond.instanceMethod yX1_init ∈ ALL := al_1 (List.mem_of_getElem? (i := 214) rfl) rfl
theorem wc_X1_init : Cond.code yX1_init cX1_init 1 none ∈ ALL := al_1 (List.mem_of_getElem? (i := 215) rfl) rfl
theorem wm_X1_3 : Cond.methodLink RX1 3 objectInit ∈ ALL := al_1 (List.mem_of_getElem? (i := 216) rfl) rfl
theorem wl_X1_9 : Cond.classLink RX1 9 RX3 ∈ ALL := al_1 (List.mem_of_getElem? (i := 217) rfl) rfl
theorem wo_object__OfferTurn_Scene : Cond.arrayOver (Jvm.ClassFile.FieldType.object "OfferTurn$Scene") ∈ lw_tbl := lt_1 (List.mem_of_getElem? (i := 218) rfl)
theorem wmn_X1_11 : Cond.methodLinkNest RX1 11 yX3_init RX6 ∈ lw_tbl := lt_1 (List.mem_of_getElem? (i := 219) rfl)
theorem wf_X1_12 : Cond.fieldLink RX1 12 "OfferTurn$Plans" "scenes" "[LOfferTurn$Scene;" ∈ ALL := al_1 (List.mem_of_getElem? (i := 220) rfl) rfl
theorem wf_X1_18 : Cond.fieldLink RX1 18 "OfferTurn$Plans" "numbers" "[I" ∈ ALL := al_1 (List.mem_of_getElem? (i := 221) rfl) rfl
theorem wf_X1_22 : Cond.fieldLink RX1 22 "OfferTurn$Plans" "days" "I" ∈ ALL := al_1 (List.mem_of_getElem? (i := 222) rfl) rfl
theorem wf_X1_26 : Cond.fieldLink RX1 26 "OfferTurn$Plans" "unfed" "I" ∈ ALL := al_1 (List.mem_of_getElem? (i := 223) rfl) rfl
theorem wf_X1_29 : Cond.fieldLink RX1 29 "OfferTurn$Plans" "isHarmless" "Z" ∈ ALL := al_1 (List.mem_of_getElem? (i := 224) rfl) rfl
theorem wf_X1_33 : Cond.fieldLink RX1 33 "OfferTurn$Plans" "isFirstEnough" "Z" ∈ ALL := al_1 (List.mem_of_getElem? (i := 225) rfl) rfl
theorem wf_X1_36 : Cond.fieldLink RX1 36 "OfferTurn$Plans" "found" "I" ∈ ALL := al_1 (List.mem_of_getElem? (i := 226) rfl) rfl
theorem wf_X6_263 : Cond.fieldLink RX6 263 "OfferTurn$Plans" "found" "I" ∈ ALL := al_1 (List.mem_of_getElem? (i := 227) rfl) rfl
theorem wf_X1_39 : Cond.fieldLink RX1 39 "OfferTurn$Plans" "harmlessFound" "I" ∈ ALL := al_1 (List.mem_of_getElem? (i := 228) rfl) rfl
theorem wf_X6_265 : Cond.fieldLink RX6 265 "OfferTurn$Plans" "harmlessFound" "I" ∈ ALL := al_1 (List.mem_of_getElem? (i := 229) rfl) rfl
theorem wf_X1_42 : Cond.fieldLink RX1 42 "OfferTurn$Plans" "most" "I" ∈ ALL := al_1 (List.mem_of_getElem? (i := 230) rfl) rfl
theorem wf_X6_235 : Cond.fieldLink RX6 235 "OfferTurn$Plans" "most" "I" ∈ ALL := al_1 (List.mem_of_getElem? (i := 231) rfl) rfl
theorem wf_X1_45 : Cond.fieldLink RX1 45 "OfferTurn$Plans" "leastHarm" "I" ∈ ALL := al_1 (List.mem_of_getElem? (i := 232) rfl) rfl
theorem wf_X6_278 : Cond.fieldLink RX6 278 "OfferTurn$Plans" "leastHarm" "I" ∈ ALL := al_1 (List.mem_of_getElem? (i := 233) rfl) rfl
theorem wf_X1_48 : Cond.fieldLink RX1 48 "OfferTurn$Plans" "mostGood" "I" ∈ ALL := al_1 (List.mem_of_getElem? (i := 234) rfl) rfl
theorem wf_X6_275 : Cond.fieldLink RX6 275 "OfferTurn$Plans" "mostGood" "I" ∈ ALL := al_1 (List.mem_of_getElem? (i := 235) rfl) rfl
theorem wf_X1_51 : Cond.fieldLink RX1 51 "OfferTurn$Plans" "leastTaken" "I" ∈ ALL := al_1 (List.mem_of_getElem? (i := 236) rfl) rfl
theorem wf_X6_272 : Cond.fieldLink RX6 272 "OfferTurn$Plans" "leastTaken" "I" ∈ ALL := al_1 (List.mem_of_getElem? (i := 237) rfl) rfl
theorem wf_X1_54 : Cond.fieldLink RX1 54 "OfferTurn$Plans" "bestPlan" "[I" ∈ ALL := al_1 (List.mem_of_getElem? (i := 238) rfl) rfl
theorem wf_X6_238 : Cond.fieldLink RX6 238 "OfferTurn$Plans" "bestPlan" "[I" ∈ ALL := al_1 (List.mem_of_getElem? (i := 239) rfl) rfl
theorem wy_X1_scenes : Cond.laysFinal RX1 "OfferTurn$Plans" "scenes" "[LOfferTurn$Scene;" ∈ ALL := al_2 (List.mem_of_getElem? (i := 0) rfl) rfl
theorem wy_X1_numbers : Cond.laysFinal RX1 "OfferTurn$Plans" "numbers" "[I" ∈ ALL := al_2 (List.mem_of_getElem? (i := 2) rfl) rfl
theorem wy_X1_days : Cond.lays RX1 "OfferTurn$Plans" "days" "I" ∈ ALL := al_2 (List.mem_of_getElem? (i := 4) rfl) rfl
theorem wy_X1_unfed : Cond.lays RX1 "OfferTurn$Plans" "unfed" "I" ∈ ALL := al_2 (List.mem_of_getElem? (i := 6) rfl) rfl
theorem wy_X1_isHarmless : Cond.lays RX1 "OfferTurn$Plans" "isHarmless" "Z" ∈ ALL := al_2 (List.mem_of_getElem? (i := 8) rfl) rfl
theorem wy_X1_isFirstEnough : Cond.lays RX1 "OfferTurn$Plans" "isFirstEnough" "Z" ∈ ALL := al_2 (List.mem_of_getElem? (i := 10) rfl) rfl
theorem wy_X1_found : Cond.lays RX1 "OfferTurn$Plans" "found" "I" ∈ ALL := al_2 (List.mem_of_getElem? (i := 12) rfl) rfl
theorem wy_X1_harmlessFound : Cond.lays RX1 "OfferTurn$Plans" "harmlessFound" "I" ∈ ALL := al_2 (List.mem_of_getElem? (i := 14) rfl) rfl
theorem wy_X1_most : Cond.lays RX1 "OfferTurn$Plans" "most" "I" ∈ ALL := al_2 (List.mem_of_getElem? (i := 16) rfl) rfl
theorem wy_X1_leastHarm : Cond.lays RX1 "OfferTurn$Plans" "leastHarm" "I" ∈ ALL := al_2 (List.mem_of_getElem? (i := 18) rfl) rfl
theorem wy_X1_mostGood : Cond.lays RX1 "OfferTurn$Plans" "mostGood" "I" ∈ ALL := al_2 (List.mem_of_getElem? (i := 20) rfl) rfl
theorem wy_X1_leastTaken : Cond.lays RX1 "OfferTurn$Plans" "leastTaken" "I" ∈ ALL := al_2 (List.mem_of_getElem? (i := 22) rfl) rfl
theorem wy_X1_bestPlan : Cond.laysFinal RX1 "OfferTurn$Plans" "bestPlan" "[I" ∈ ALL := al_2 (List.mem_of_getElem? (i := 24) rfl) rfl
theorem wl_X6_48 : Cond.classLink RX6 48 RX0 ∈ ALL := al_2 (List.mem_of_getElem? (i := 27) rfl) rfl
theorem wmn_X6_50 : Cond.methodLinkNest RX6 50 yX0_init RX6 ∈ lw_tbl := lt_2 (List.mem_of_getElem? (i := 28) rfl)
theorem wl_X6_55 : Cond.classLink RX6 55 RX3 ∈ ALL := al_2 (List.mem_of_getElem? (i := 29) rfl) rfl
theorem wmn_X6_57 : Cond.methodLinkNest RX6 57 yX3_init RX6 ∈ lw_tbl := lt_2 (List.mem_of_getElem? (i := 30) rfl)
theorem wf_X6_16 : Cond.fieldLink RX6 16 "OfferTurn" "rows" "LOfferTurn$Shelf;" ∈ ALL := al_2 (List.mem_of_getElem? (i := 31) rfl) rfl
theorem wf_X6_20 : Cond.fieldLink RX6 20 "OfferTurn" "texts" "LOfferTurn$Shelf;" ∈ ALL := al_2 (List.mem_of_getElem? (i := 32) rfl) rfl
theorem wf_X6_26 : Cond.fieldLink RX6 26 "OfferTurn" "reader" "LOfferTurn$Reader;" ∈ ALL := al_2 (List.mem_of_getElem? (i := 33) rfl) rfl
theorem wf_X6_33 : Cond.fieldLink RX6 33 "OfferTurn" "village" "LOfferTurn$Village;" ∈ ALL := al_2 (List.mem_of_getElem? (i := 34) rfl) rfl
theorem wf_X6_37 : Cond.fieldLink RX6 37 "OfferTurn" "keptOnes" "[LOfferTurn$Village;" ∈ ALL := al_2 (List.mem_of_getElem? (i := 35) rfl) rfl
theorem wf_X6_44 : Cond.fieldLink RX6 44 "OfferTurn" "plans" "LOfferTurn$Plans;" ∈ ALL := al_2 (List.mem_of_getElem? (i := 36) rfl) rfl
theorem wf_X6_51 : Cond.fieldLink RX6 51 "OfferTurn" "otherGods" "LOfferTurn$Gods;" ∈ ALL := al_2 (List.mem_of_getElem? (i := 37) rfl) rfl
theorem wf_X6_58 : Cond.fieldLink RX6 58 "OfferTurn" "trial" "LOfferTurn$Scene;" ∈ ALL := al_2 (List.mem_of_getElem? (i := 38) rfl) rfl
theorem wf_X6_62 : Cond.fieldLink RX6 62 "OfferTurn" "worthsByPatience" "[I" ∈ ALL := al_2 (List.mem_of_getElem? (i := 39) rfl) rfl
theorem wf_X6_66 : Cond.fieldLink RX6 66 "OfferTurn" "findingCounts" "[I" ∈ ALL := al_2 (List.mem_of_getElem? (i := 40) rfl) rfl
theorem wf_X6_69 : Cond.fieldLink RX6 69 "OfferTurn" "latestFinding" "I" ∈ ALL := al_2 (List.mem_of_getElem? (i := 41) rfl) rfl
theorem wf_X6_73 : Cond.fieldLink RX6 73 "OfferTurn" "told" "I" ∈ ALL := al_2 (List.mem_of_getElem? (i := 42) rfl) rfl
theorem wf_X6_76 : Cond.fieldLink RX6 76 "OfferTurn" "above" "J" ∈ ALL := al_2 (List.mem_of_getElem? (i := 43) rfl) rfl
theorem wf_X6_80 : Cond.fieldLink RX6 80 "OfferTurn" "below" "J" ∈ ALL := al_2 (List.mem_of_getElem? (i := 44) rfl) rfl
theorem wy_X6_rows : Cond.laysFinal RX6 "OfferTurn" "rows" "LOfferTurn$Shelf;" ∈ ALL := al_2 (List.mem_of_getElem? (i := 45) rfl) rfl
theorem wy_X6_texts : Cond.laysFinal RX6 "OfferTurn" "texts" "LOfferTurn$Shelf;" ∈ ALL := al_2 (List.mem_of_getElem? (i := 47) rfl) rfl
theorem wy_X6_reader : Cond.laysFinal RX6 "OfferTurn" "reader" "LOfferTurn$Reader;" ∈ ALL := al_2 (List.mem_of_getElem? (i := 49) rfl) rfl
theorem wy_X6_village : Cond.laysFinal RX6 "OfferTurn" "village" "LOfferTurn$Village;" ∈ ALL := al_2 (List.mem_of_getElem? (i := 51) rfl) rfl
theorem wy_X6_keptOnes : Cond.laysFinal RX6 "OfferTurn" "keptOnes" "[LOfferTurn$Village;" ∈ ALL := al_2 (List.mem_of_getElem? (i := 53) rfl) rfl
theorem wy_X6_plans : Cond.laysFinal RX6 "OfferTurn" "plans" "LOfferTurn$Plans;" ∈ ALL := al_2 (List.mem_of_getElem? (i := 55) rfl) rfl
theorem wy_X6_otherGods : Cond.laysFinal RX6 "OfferTurn" "otherGods" "LOfferTurn$Gods;" ∈ ALL := al_2 (List.mem_of_getElem? (i := 57) rfl) rfl
theorem wy_X6_trial : Cond.laysFinal RX6 "OfferTurn" "trial" "LOfferTurn$Scene;" ∈ ALL := al_2 (List.mem_of_getElem? (i := 59) rfl) rfl
theorem wy_X6_worthsByPatience : Cond.laysFinal RX6 "OfferTurn" "worthsByPatience" "[I" ∈ ALL := al_2 (List.mem_of_getElem? (i := 61) rfl) rfl
theorem wy_X6_findingCounts : Cond.laysFinal RX6 "OfferTurn" "findingCounts" "[I" ∈ ALL := al_2 (List.mem_of_getElem? (i := 63) rfl) rfl
theorem wy_X6_latestFinding : Cond.lays RX6 "OfferTurn" "latestFinding" "I" ∈ ALL := al_2 (List.mem_of_getElem? (i := 65) rfl) rfl
theorem wy_X6_told : Cond.lays RX6 "OfferTurn" "told" "I" ∈ ALL := al_2 (List.mem_of_getElem? (i := 67) rfl) rfl
theorem wy_X6_above : Cond.lays RX6 "OfferTurn" "above" "J" ∈ ALL := al_2 (List.mem_of_getElem? (i := 69) rfl) rfl
theorem wy_X6_below : Cond.lays RX6 "OfferTurn" "below" "J" ∈ ALL := al_2 (List.mem_of_getElem? (i := 71) rfl) rfl
theorem wm_L_13 : Cond.methodLink RL 13 yX6_row ∈ ALL := al_2 (List.mem_of_getElem? (i := 74) rfl) rfl
theorem wi_X6_row : Cond.instanceMethod yX6_row ∈ ALL := al_2 (List.mem_of_getElem? (i := 75) rfl) rfl
theorem ws_X6_row : Cond.selects RX6 yX6_row yX6_row ∈ ALL := al_2 (List.mem_of_getElem? (i := 76) rfl) rfl
theorem wc_X6_row : Cond.code yX6_row cX6_row 3 (some .int) ∈ ALL := al_2 (List.mem_of_getElem? (i := 77) rfl) rfl
theorem wm_X6_83 : Cond.methodLink RX6 83 yX4_has ∈ ALL := al_2 (List.mem_of_getElem? (i := 78) rfl) rfl
theorem wi_X4_has : Cond.instanceMethod yX4_has ∈ ALL := al_2 (List.mem_of_getElem? (i := 79) rfl) rfl
theorem ws_X4_has : Cond.selects RX4 yX4_has yX4_has ∈ ALL := al_2 (List.mem_of_getElem? (i := 80) rfl) rfl
theorem wc_X4_has : Cond.code yX4_has cX4_has 2 (some .boolean) ∈ ALL := al_2 (List.mem_of_getElem? (i := 81) rfl) rfl
theorem wm_X6_87 : Cond.methodLink RX6 87 yX6_found ∈ ALL := al_2 (List.mem_of_getElem? (i := 82) rfl) rfl
theorem wi_X6_found : Cond.instanceMethod yX6_found ∈ ALL := al_2 (List.mem_of_getElem? (i := 84) rfl) rfl
theorem wc_X6_found : Cond.code yX6_found cX6_found 2 (some .int) ∈ ALL := al_2 (List.mem_of_getElem? (i := 85) rfl) rfl
theorem wm_X6_91 : Cond.methodLink RX6 91 yX4_make ∈ ALL := al_2 (List.mem_of_getElem? (i := 86) rfl) rfl
theorem wi_X4_make : Cond.instanceMethod yX4_make ∈ ALL := al_2 (List.mem_of_getElem? (i := 87) rfl) rfl
theorem ws_X4_make : Cond.selects RX4 yX4_make yX4_make ∈ ALL := al_2 (List.mem_of_getElem? (i := 88) rfl) rfl
theorem wc_X4_make : Cond.code yX4_make cX4_make 4 none ∈ ALL := al_2 (List.mem_of_getElem? (i := 89) rfl) rfl
theorem wm_X4_25 : Cond.methodLink RX4 25 yX4_has ∈ ALL := al_2 (List.mem_of_getElem? (i := 90) rfl) rfl
theorem wm_X4_36 : Cond.methodLink RX4 36 yJ7_fill_fda19 ∈ ALL := al_2 (List.mem_of_getElem? (i := 91) rfl) rfl
theorem wt_J7_fill_fda19 : Cond.static yJ7_fill_fda19 ∈ ALL := al_2 (List.mem_of_getElem? (i := 92) rfl) rfl
theorem wc_J7_fill_fda19 : Cond.code yJ7_fill_fda19 cJ7_fill_fda19 5 none ∈ ALL := al_2 (List.mem_of_getElem? (i := 93) rfl) rfl
theorem wm_J7_13 : Cond.methodLink RJ7 13 yJ7_rangeCheck_23922 ∈ ALL := al_2 (List.mem_of_getElem? (i := 94) rfl) rfl
theorem wt_J7_rangeCheck_23922 : Cond.static yJ7_rangeCheck_23922 ∈ ALL := al_2 (List.mem_of_getElem? (i := 95) rfl) rfl
theorem wc_J7_rangeCheck_23922 : Cond.code yJ7_rangeCheck_23922 cJ7_rangeCheck_23922 3 none ∈ ALL := al_2 (List.mem_of_getElem? (i := 96) rfl) rfl
theorem wm_L_18 : Cond.methodLink RL 18 yX6_lay ∈ ALL := al_2 (List.mem_of_getElem? (i := 97) rfl) rfl
theorem wi_X6_lay : Cond.instanceMethod yX6_lay ∈ ALL := al_2 (List.mem_of_getElem? (i := 98) rfl) rfl
theorem ws_X6_lay : Cond.selects RX6 yX6_lay yX6_lay ∈ ALL := al_2 (List.mem_of_getElem? (i := 99) rfl) rfl
theorem wc_X6_lay : Cond.code yX6_lay cX6_lay 5 (some .int) ∈ ALL := al_2 (List.mem_of_getElem? (i := 100) rfl) rfl
theorem wm_X6_95 : Cond.methodLink RX6 95 yX6_placeRefused ∈ ALL := al_2 (List.mem_of_getElem? (i := 101) rfl) rfl
theorem wi_X6_placeRefused : Cond.instanceMethod yX6_placeRefused ∈ ALL := al_2 (List.mem_of_getElem? (i := 103) rfl) rfl
theorem wc_X6_placeRefused : Cond.code yX6_placeRefused cX6_placeRefused 4 (some .int) ∈ ALL := al_2 (List.mem_of_getElem? (i := 104) rfl) rfl
theorem wm_X6_110 : Cond.methodLink RX6 110 yX4_isThere ∈ ALL := al_2 (List.mem_of_getElem? (i := 105) rfl) rfl
theorem wi_X4_isThere : Cond.instanceMethod yX4_isThere ∈ ALL := al_2 (List.mem_of_getElem? (i := 106) rfl) rfl
theorem ws_X4_isThere : Cond.selects RX4 yX4_isThere yX4_isThere ∈ ALL := al_2 (List.mem_of_getElem? (i := 107) rfl) rfl
theorem wc_X4_isThere : Cond.code yX4_isThere cX4_isThere 2 (some .boolean) ∈ ALL := al_2 (List.mem_of_getElem? (i := 108) rfl) rfl
theorem wm_X6_116 : Cond.methodLink RX6 116 yX4_holds ∈ ALL := al_2 (List.mem_of_getElem? (i := 109) rfl) rfl
theorem wi_X4_holds : Cond.instanceMethod yX4_holds ∈ ALL := al_2 (List.mem_of_getElem? (i := 110) rfl) rfl
theorem ws_X4_holds : Cond.selects RX4 yX4_holds yX4_holds ∈ ALL := al_2 (List.mem_of_getElem? (i := 111) rfl) rfl
theorem wc_X4_holds : Cond.code yX4_holds cX4_holds 4 (some .boolean) ∈ ALL := al_2 (List.mem_of_getElem? (i := 112) rfl) rfl
theorem wm_X4_29 : Cond.methodLink RX4 29 yX4_isThere ∈ ALL := al_2 (List.mem_of_getElem? (i := 113) rfl) rfl
theorem wm_X6_99 : Cond.methodLink RX6 99 yX4_read ∈ ALL := al_2 (List.mem_of_getElem? (i := 114) rfl) rfl
theorem wi_X4_read : Cond.instanceMethod yX4_read ∈ ALL := al_2 (List.mem_of_getElem? (i := 115) rfl) rfl
theorem ws_X4_read : Cond.selects RX4 yX4_read yX4_read ∈ ALL := al_2 (List.mem_of_getElem? (i := 116) rfl) rfl
theorem wc_X4_read : Cond.code yX4_read cX4_read 3 (some .int) ∈ ALL := al_2 (List.mem_of_getElem? (i := 117) rfl) rfl
theorem wm_X4_32 : Cond.methodLink RX4 32 yX4_holds ∈ ALL := al_2 (List.mem_of_getElem? (i := 118) rfl) rfl
theorem wm_X6_103 : Cond.methodLink RX6 103 yX6_tell ∈ ALL := al_2 (List.mem_of_getElem? (i := 119) rfl) rfl
theorem wi_X6_tell : Cond.instanceMethod yX6_tell ∈ ALL := al_2 (List.mem_of_getElem? (i := 121) rfl) rfl
theorem wc_X6_tell : Cond.code yX6_tell cX6_tell 2 none ∈ ALL := al_2 (List.mem_of_getElem? (i := 122) rfl) rfl
theorem wm_X6_107 : Cond.methodLink RX6 107 yX4_write ∈ ALL := al_2 (List.mem_of_getElem? (i := 123) rfl) rfl
theorem wi_X4_write : Cond.instanceMethod yX4_write ∈ ALL := al_2 (List.mem_of_getElem? (i := 124) rfl) rfl
theorem ws_X4_write : Cond.selects RX4 yX4_write yX4_write ∈ ALL := al_2 (List.mem_of_getElem? (i := 125) rfl) rfl
theorem wc_X4_write : Cond.code yX4_write cX4_write 4 none ∈ ALL := al_2 (List.mem_of_getElem? (i := 126) rfl) rfl
theorem wm_L_23 : Cond.methodLink RL 23 yX6_at ∈ ALL := al_2 (List.mem_of_getElem? (i := 127) rfl) rfl
theorem wi_X6_at : Cond.instanceMethod yX6_at ∈ ALL := al_2 (List.mem_of_getElem? (i := 128) rfl) rfl
theorem ws_X6_at : Cond.selects RX6 yX6_at yX6_at ∈ ALL := al_2 (List.mem_of_getElem? (i := 129) rfl) rfl
theorem wc_X6_at : Cond.code yX6_at cX6_at 4 (some .int) ∈ ALL := al_2 (List.mem_of_getElem? (i := 130) rfl) rfl
theorem wm_L_27 : Cond.methodLink RL 27 yX6_tear ∈ ALL := al_2 (List.mem_of_getElem? (i := 131) rfl) rfl
theorem wi_X6_tear : Cond.instanceMethod yX6_tear ∈ ALL := al_2 (List.mem_of_getElem? (i := 132) rfl) rfl
theorem ws_X6_tear : Cond.selects RX6 yX6_tear yX6_tear ∈ ALL := al_2 (List.mem_of_getElem? (i := 133) rfl) rfl
theorem wc_X6_tear : Cond.code yX6_tear cX6_tear 2 (some .int) ∈ ALL := al_2 (List.mem_of_getElem? (i := 134) rfl) rfl
theorem wm_X6_113 : Cond.methodLink RX6 113 yX4_drop ∈ ALL := al_2 (List.mem_of_getElem? (i := 135) rfl) rfl
theorem wi_X4_drop : Cond.instanceMethod yX4_drop ∈ ALL := al_2 (List.mem_of_getElem? (i := 136) rfl) rfl
theorem ws_X4_drop : Cond.selects RX4 yX4_drop yX4_drop ∈ ALL := al_2 (List.mem_of_getElem? (i := 137) rfl) rfl
theorem wc_X4_drop : Cond.code yX4_drop cX4_drop 2 none ∈ ALL := al_2 (List.mem_of_getElem? (i := 138) rfl) rfl
theorem wm_L_32 : Cond.methodLink RL 32 yX6_copy ∈ ALL := al_2 (List.mem_of_getElem? (i := 139) rfl) rfl
theorem wi_X6_copy : Cond.instanceMethod yX6_copy ∈ ALL := al_2 (List.mem_of_getElem? (i := 140) rfl) rfl
theorem ws_X6_copy : Cond.selects RX6 yX6_copy yX6_copy ∈ ALL := al_2 (List.mem_of_getElem? (i := 141) rfl) rfl
theorem wc_X6_copy : Cond.code yX6_copy cX6_copy 6 (some .int) ∈ ALL := al_2 (List.mem_of_getElem? (i := 142) rfl) rfl
theorem wm_X6_120 : Cond.methodLink RX6 120 yX4_carry ∈ ALL := al_2 (List.mem_of_getElem? (i := 143) rfl) rfl
theorem wi_X4_carry : Cond.instanceMethod yX4_carry ∈ ALL := al_2 (List.mem_of_getElem? (i := 144) rfl) rfl
theorem ws_X4_carry : Cond.selects RX4 yX4_carry yX4_carry ∈ ALL := al_2 (List.mem_of_getElem? (i := 145) rfl) rfl
theorem wc_X4_carry : Cond.code yX4_carry cX4_carry 6 none ∈ ALL := al_2 (List.mem_of_getElem? (i := 146) rfl) rfl
theorem wm_X4_46 : Cond.methodLink RX4 46 arraycopyName ∈ ALL := al_2 (List.mem_of_getElem? (i := 147) rfl) rfl
theorem wt_arraycopy : Cond.static arraycopyName ∈ ALL := al_2 (List.mem_of_getElem? (i := 148) rfl) rfl
theorem wv_arraycopy : Cond.native arraycopyName ∈ ALL := al_2 (List.mem_of_getElem? (i := 149) rfl) rfl
theorem wm_L_37 : Cond.methodLink RL 37 yX6_mean ∈ ALL := al_2 (List.mem_of_getElem? (i := 150) rfl) rfl
theorem wi_X6_mean : Cond.instanceMethod yX6_mean ∈ ALL := al_2 (List.mem_of_getElem? (i := 151) rfl) rfl
theorem ws_X6_mean : Cond.selects RX6 yX6_mean yX6_mean ∈ ALL := al_2 (List.mem_of_getElem? (i := 152) rfl) rfl
theorem wc_X6_mean : Cond.code yX6_mean cX6_mean 3 (some .int) ∈ ALL := al_2 (List.mem_of_getElem? (i := 153) rfl) rfl
theorem wm_X6_124 : Cond.methodLink RX6 124 yX4_size ∈ ALL := al_2 (List.mem_of_getElem? (i := 154) rfl) rfl
theorem wi_X4_size : Cond.instanceMethod yX4_size ∈ ALL := al_2 (List.mem_of_getElem? (i := 155) rfl) rfl
theorem ws_X4_size : Cond.selects RX4 yX4_size yX4_size ∈ ALL := al_2 (List.mem_of_getElem? (i := 156) rfl) rfl
theorem wc_X4_size : Cond.code yX4_size cX4_size 2 (some .int) ∈ ALL := al_2 (List.mem_of_getElem? (i := 157) rfl) rfl
theorem wm_X6_127 : Cond.methodLink RX6 127 yX4_total ∈ ALL := al_2 (List.mem_of_getElem? (i := 158) rfl) rfl
theorem wi_X4_total : Cond.instanceMethod yX4_total ∈ ALL := al_2 (List.mem_of_getElem? (i := 159) rfl) rfl
theorem ws_X4_total : Cond.selects RX4 yX4_total yX4_total ∈ ALL := al_2 (List.mem_of_getElem? (i := 160) rfl) rfl
theorem wc_X4_total : Cond.code yX4_total cX4_total 5 (some .long) ∈ ALL := al_2 (List.mem_of_getElem? (i := 161) rfl) rfl
theorem wm_X4_52 : Cond.methodLink RX4 52 yX4_size ∈ ALL := al_2 (List.mem_of_getElem? (i := 162) rfl) rfl
theorem wm_X4_56 : Cond.methodLink RX4 56 yX4_read ∈ ALL := al_2 (List.mem_of_getElem? (i := 163) rfl) rfl
theorem wm_L_41 : Cond.methodLink RL 41 yX6_text ∈ ALL := al_2 (List.mem_of_getElem? (i := 164) rfl) rfl
theorem wi_X6_text : Cond.instanceMethod yX6_text ∈ ALL := al_2 (List.mem_of_getElem? (i := 165) rfl) rfl
theorem ws_X6_text : Cond.selects RX6 yX6_text yX6_text ∈ ALL := al_2 (List.mem_of_getElem? (i := 166) rfl) rfl
theorem wc_X6_text : Cond.code yX6_text cX6_text 3 (some .int) ∈ ALL := al_2 (List.mem_of_getElem? (i := 167) rfl) rfl
theorem wm_L_45 : Cond.methodLink RL 45 yX6_put ∈ ALL := al_2 (List.mem_of_getElem? (i := 168) rfl) rfl
theorem wi_X6_put : Cond.instanceMethod yX6_put ∈ ALL := al_2 (List.mem_of_getElem? (i := 169) rfl) rfl
theorem ws_X6_put : Cond.selects RX6 yX6_put yX6_put ∈ ALL := al_2 (List.mem_of_getElem? (i := 170) rfl) rfl
theorem wc_X6_put : Cond.code yX6_put cX6_put 6 (some .int) ∈ ALL := al_2 (List.mem_of_getElem? (i := 171) rfl) rfl
theorem wm_L_49 : Cond.methodLink RL 49 yX6_fault ∈ ALL := al_2 (List.mem_of_getElem? (i := 172) rfl) rfl
theorem wi_X6_fault : Cond.instanceMethod yX6_fault ∈ ALL := al_2 (List.mem_of_getElem? (i := 173) rfl) rfl
theorem ws_X6_fault : Cond.selects RX6 yX6_fault yX6_fault ∈ ALL := al_2 (List.mem_of_getElem? (i := 174) rfl) rfl
theorem wc_X6_fault : Cond.code yX6_fault cX6_fault 2 (some .int) ∈ ALL := al_2 (List.mem_of_getElem? (i := 175) rfl) rfl
theorem wm_X6_131 : Cond.methodLink RX6 131 yX2_firstFault ∈ ALL := al_2 (List.mem_of_getElem? (i := 176) rfl) rfl
theorem wi_X2_firstFault : Cond.instanceMethod yX2_firstFault ∈ ALL := al_2 (List.mem_of_getElem? (i := 177) rfl) rfl
theorem ws_X2_firstFault : Cond.selects RX2 yX2_firstFault yX2_firstFault ∈ ALL := al_2 (List.mem_of_getElem? (i := 178) rfl) rfl
theorem wc_X2_firstFault : Cond.code yX2_firstFault cX2_firstFault 4 (some .int) ∈ ALL := al_2 (List.mem_of_getElem? (i := 179) rfl) rfl
theorem wm_X2_35 : Cond.methodLink RX2 35 yX4_size ∈ ALL := al_2 (List.mem_of_getElem? (i := 180) rfl) rfl
theorem wm_X2_40 : Cond.methodLink RX2 40 yJ9_min_7cf53 ∈ ALL := al_2 (List.mem_of_getElem? (i := 181) rfl) rfl
theorem wt_J9_min_7cf53 : Cond.static yJ9_min_7cf53 ∈ ALL := al_2 (List.mem_of_getElem? (i := 182) rfl) rfl
theorem wc_J9_min_7cf53 : Cond.code yJ9_min_7cf53 cJ9_min_7cf53 2 (some .int) ∈ ALL := al_2 (List.mem_of_getElem? (i := 183) rfl) rfl
theorem wm_X2_46 : Cond.methodLink RX2 46 yX4_read ∈ ALL := al_2 (List.mem_of_getElem? (i := 184) rfl) rfl
theorem wm_X2_52 : Cond.methodLink RX2 52 yX2_readStores ∈ ALL := al_2 (List.mem_of_getElem? (i := 185) rfl) rfl
theorem wi_X2_readStores : Cond.instanceMethod yX2_readStores ∈ ALL := al_2 (List.mem_of_getElem? (i := 187) rfl) rfl
theorem wc_X2_readStores : Cond.code yX2_readStores cX2_readStores 2 none ∈ ALL := al_2 (List.mem_of_getElem? (i := 188) rfl) rfl
theorem wm_X2_61 : Cond.methodLink RX2 61 yX2_skipBlanks ∈ ALL := al_2 (List.mem_of_getElem? (i := 189) rfl) rfl
theorem wi_X2_skipBlanks : Cond.instanceMethod yX2_skipBlanks ∈ ALL := al_2 (List.mem_of_getElem? (i := 191) rfl) rfl
theorem wc_X2_skipBlanks : Cond.code yX2_skipBlanks cX2_skipBlanks 1 none ∈ ALL := al_2 (List.mem_of_getElem? (i := 192) rfl) rfl
theorem wm_X2_64 : Cond.methodLink RX2 64 yX2_sign ∈ ALL := al_2 (List.mem_of_getElem? (i := 193) rfl) rfl
theorem wi_X2_sign : Cond.instanceMethod yX2_sign ∈ ALL := al_2 (List.mem_of_getElem? (i := 195) rfl) rfl
theorem wc_X2_sign : Cond.code yX2_sign cX2_sign 1 (some .int) ∈ ALL := al_2 (List.mem_of_getElem? (i := 196) rfl) rfl
theorem wm_X2_68 : Cond.methodLink RX2 68 yX2_figure ∈ ALL := al_2 (List.mem_of_getElem? (i := 197) rfl) rfl
theorem wi_X2_figure : Cond.instanceMethod yX2_figure ∈ ALL := al_2 (List.mem_of_getElem? (i := 199) rfl) rfl
theorem wc_X2_figure : Cond.code yX2_figure cX2_figure 4 (some .int) ∈ ALL := al_2 (List.mem_of_getElem? (i := 200) rfl) rfl
theorem wm_X2_55 : Cond.methodLink RX2 55 yX2_readGods ∈ ALL := al_2 (List.mem_of_getElem? (i := 201) rfl) rfl
theorem wi_X2_readGods : Cond.instanceMethod yX2_readGods ∈ ALL := al_2 (List.mem_of_getElem? (i := 203) rfl) rfl
theorem wc_X2_readGods : Cond.code yX2_readGods cX2_readGods 2 none ∈ ALL := al_2 (List.mem_of_getElem? (i := 204) rfl) rfl
theorem wm_X2_71 : Cond.methodLink RX2 71 yX2_readGod ∈ ALL := al_2 (List.mem_of_getElem? (i := 205) rfl) rfl
theorem wi_X2_readGod : Cond.instanceMethod yX2_readGod ∈ ALL := al_2 (List.mem_of_getElem? (i := 207) rfl) rfl
theorem wc_X2_readGod : Cond.code yX2_readGod cX2_readGod 2 none ∈ ALL := al_2 (List.mem_of_getElem? (i := 208) rfl) rfl
theorem wm_X2_78 : Cond.methodLink RX2 78 yX2_kind ∈ ALL := al_2 (List.mem_of_getElem? (i := 209) rfl) rfl
theorem wi_X2_kind : Cond.instanceMethod yX2_kind ∈ ALL := al_2 (List.mem_of_getElem? (i := 211) rfl) rfl
theorem wc_X2_kind : Cond.code yX2_kind cX2_kind 2 (some .int) ∈ ALL := al_2 (List.mem_of_getElem? (i := 212) rfl) rfl
theorem wf_X2_100 : Cond.fieldLink RX2 100 "OfferTurn$Reader" "KIND_LETTERS" "[I" ∈ ALL := al_2 (List.mem_of_getElem? (i := 213) rfl) rfl
theorem wys_X2_KIND_LETTERS : Cond.laysStatic RX2 "KIND_LETTERS" "[I" ∈ lw_tbl := lt_2 (List.mem_of_getElem? (i := 214) rfl)
theorem wm_X2_96 : Cond.methodLink RX2 96 yX2_neighbour ∈ ALL := al_2 (List.mem_of_getElem? (i := 215) rfl) rfl
theorem wi_X2_neighbour : Cond.instanceMethod yX2_neighbour ∈ ALL := al_2 (List.mem_of_getElem? (i := 217) rfl) rfl
theorem wc_X2_neighbour : Cond.code yX2_neighbour cX2_neighbour 5 (some .int) ∈ ALL := al_2 (List.mem_of_getElem? (i := 218) rfl) rfl
theorem wm_X2_58 : Cond.methodLink RX2 58 yX0_settle ∈ ALL := al_2 (List.mem_of_getElem? (i := 219) rfl) rfl
theorem wi_X0_settle : Cond.instanceMethod yX0_settle ∈ ALL := al_2 (List.mem_of_getElem? (i := 220) rfl) rfl
theorem ws_X0_settle : Cond.selects RX0 yX0_settle yX0_settle ∈ ALL := al_2 (List.mem_of_getElem? (i := 221) rfl) rfl
theorem wc_X0_settle : Cond.code yX0_settle cX0_settle 3 none ∈ ALL := al_2 (List.mem_of_getElem? (i := 222) rfl) rfl
theorem wm_X0_53 : Cond.methodLink RX0 53 yX0_isOfKind ∈ ALL := al_2 (List.mem_of_getElem? (i := 223) rfl) rfl
theorem wi_X0_isOfKind : Cond.instanceMethod yX0_isOfKind ∈ ALL := al_2 (List.mem_of_getElem? (i := 224) rfl) rfl
theorem ws_X0_isOfKind : Cond.selects RX0 yX0_isOfKind yX0_isOfKind ∈ ALL := al_2 (List.mem_of_getElem? (i := 225) rfl) rfl
theorem wc_X0_isOfKind : Cond.code yX0_isOfKind cX0_isOfKind 4 (some .boolean) ∈ ALL := al_2 (List.mem_of_getElem? (i := 226) rfl) rfl
theorem wm_X0_49 : Cond.methodLink RX0 49 yX0_has ∈ ALL := al_2 (List.mem_of_getElem? (i := 227) rfl) rfl
theorem wi_X0_has : Cond.instanceMethod yX0_has ∈ ALL := al_2 (List.mem_of_getElem? (i := 228) rfl) rfl
theorem ws_X0_has : Cond.selects RX0 yX0_has yX0_has ∈ ALL := al_2 (List.mem_of_getElem? (i := 229) rfl) rfl
theorem wc_X0_has : Cond.code yX0_has cX0_has 2 (some .boolean) ∈ ALL := al_2 (List.mem_of_getElem? (i := 230) rfl) rfl
theorem wm_L_53 : Cond.methodLink RL 53 yX6_valley ∈ ALL := al_2 (List.mem_of_getElem? (i := 231) rfl) rfl
theorem wi_X6_valley : Cond.instanceMethod yX6_valley ∈ ALL := al_2 (List.mem_of_getElem? (i := 232) rfl) rfl
theorem ws_X6_valley : Cond.selects RX6 yX6_valley yX6_valley ∈ ALL := al_2 (List.mem_of_getElem? (i := 233) rfl) rfl
theorem wc_X6_valley : Cond.code yX6_valley cX6_valley 3 (some .int) ∈ ALL := al_2 (List.mem_of_getElem? (i := 234) rfl) rfl
theorem wm_X6_141 : Cond.methodLink RX6 141 yX5_begin ∈ ALL := al_2 (List.mem_of_getElem? (i := 235) rfl) rfl
theorem wi_X5_begin : Cond.instanceMethod yX5_begin ∈ ALL := al_2 (List.mem_of_getElem? (i := 236) rfl) rfl
theorem ws_X5_begin : Cond.selects RX5 yX5_begin yX5_begin ∈ ALL := al_2 (List.mem_of_getElem? (i := 237) rfl) rfl
theorem wc_X5_begin : Cond.code yX5_begin cX5_begin 3 none ∈ ALL := al_2 (List.mem_of_getElem? (i := 238) rfl) rfl
theorem wm_X5_33 : Cond.methodLink RX5 33 yX0_take ∈ ALL := al_2 (List.mem_of_getElem? (i := 239) rfl) rfl
theorem wi_X0_take : Cond.instanceMethod yX0_take ∈ ALL := al_3 (List.mem_of_getElem? (i := 0) rfl) rfl
theorem ws_X0_take : Cond.selects RX0 yX0_take yX0_take ∈ ALL := al_3 (List.mem_of_getElem? (i := 1) rfl) rfl
theorem wc_X0_take : Cond.code yX0_take cX0_take 3 none ∈ ALL := al_3 (List.mem_of_getElem? (i := 2) rfl) rfl
theorem wm_X5_37 : Cond.methodLink RX5 37 yX3_begin ∈ ALL := al_3 (List.mem_of_getElem? (i := 3) rfl) rfl
theorem wi_X3_begin : Cond.instanceMethod yX3_begin ∈ ALL := al_3 (List.mem_of_getElem? (i := 4) rfl) rfl
theorem ws_X3_begin : Cond.selects RX3 yX3_begin yX3_begin ∈ ALL := al_3 (List.mem_of_getElem? (i := 5) rfl) rfl
theorem wc_X3_begin : Cond.code yX3_begin cX3_begin 3 none ∈ ALL := al_3 (List.mem_of_getElem? (i := 6) rfl) rfl
theorem wm_X3_43 : Cond.methodLink RX3 43 yX3_forgetSums ∈ ALL := al_3 (List.mem_of_getElem? (i := 7) rfl) rfl
theorem wi_X3_forgetSums : Cond.instanceMethod yX3_forgetSums ∈ ALL := al_3 (List.mem_of_getElem? (i := 8) rfl) rfl
theorem ws_X3_forgetSums : Cond.selects RX3 yX3_forgetSums yX3_forgetSums ∈ ALL := al_3 (List.mem_of_getElem? (i := 9) rfl) rfl
theorem wc_X3_forgetSums : Cond.code yX3_forgetSums cX3_forgetSums 1 none ∈ ALL := al_3 (List.mem_of_getElem? (i := 10) rfl) rfl
theorem wm_X3_46 : Cond.methodLink RX3 46 yJ7_fill_53178 ∈ ALL := al_3 (List.mem_of_getElem? (i := 11) rfl) rfl
theorem wm_L_57 : Cond.methodLink RL 57 yX6_god ∈ ALL := al_3 (List.mem_of_getElem? (i := 12) rfl) rfl
theorem wi_X6_god : Cond.instanceMethod yX6_god ∈ ALL := al_3 (List.mem_of_getElem? (i := 13) rfl) rfl
theorem ws_X6_god : Cond.selects RX6 yX6_god yX6_god ∈ ALL := al_3 (List.mem_of_getElem? (i := 14) rfl) rfl
theorem wc_X6_god : Cond.code yX6_god cX6_god 3 (some .int) ∈ ALL := al_3 (List.mem_of_getElem? (i := 15) rfl) rfl
theorem wm_X6_153 : Cond.methodLink RX6 153 yX0_has ∈ ALL := al_3 (List.mem_of_getElem? (i := 16) rfl) rfl
theorem wm_X6_154 : Cond.methodLink RX6 154 yX6_traitOf ∈ ALL := al_3 (List.mem_of_getElem? (i := 17) rfl) rfl
theorem wi_X6_traitOf : Cond.instanceMethod yX6_traitOf ∈ ALL := al_3 (List.mem_of_getElem? (i := 19) rfl) rfl
theorem wc_X6_traitOf : Cond.code yX6_traitOf cX6_traitOf 4 (some .int) ∈ ALL := al_3 (List.mem_of_getElem? (i := 20) rfl) rfl
theorem wm_X6_281 : Cond.methodLink RX6 281 yX3_isGone ∈ ALL := al_3 (List.mem_of_getElem? (i := 21) rfl) rfl
theorem wi_X3_isGone : Cond.instanceMethod yX3_isGone ∈ ALL := al_3 (List.mem_of_getElem? (i := 22) rfl) rfl
theorem ws_X3_isGone : Cond.selects RX3 yX3_isGone yX3_isGone ∈ ALL := al_3 (List.mem_of_getElem? (i := 23) rfl) rfl
theorem wc_X3_isGone : Cond.code yX3_isGone cX3_isGone 2 (some .boolean) ∈ ALL := al_3 (List.mem_of_getElem? (i := 24) rfl) rfl
theorem wm_L_61 : Cond.methodLink RL 61 yX6_mark ∈ ALL := al_3 (List.mem_of_getElem? (i := 25) rfl) rfl
theorem wi_X6_mark : Cond.instanceMethod yX6_mark ∈ ALL := al_3 (List.mem_of_getElem? (i := 26) rfl) rfl
theorem ws_X6_mark : Cond.selects RX6 yX6_mark yX6_mark ∈ ALL := al_3 (List.mem_of_getElem? (i := 27) rfl) rfl
theorem wc_X6_mark : Cond.code yX6_mark cX6_mark 3 (some .int) ∈ ALL := al_3 (List.mem_of_getElem? (i := 28) rfl) rfl
theorem wm_X6_157 : Cond.methodLink RX6 157 yX0_isOfKind ∈ ALL := al_3 (List.mem_of_getElem? (i := 29) rfl) rfl
theorem wm_X6_164 : Cond.methodLink RX6 164 yX5_daysSinceFed ∈ ALL := al_3 (List.mem_of_getElem? (i := 30) rfl) rfl
theorem wi_X5_daysSinceFed : Cond.instanceMethod yX5_daysSinceFed ∈ ALL := al_3 (List.mem_of_getElem? (i := 31) rfl) rfl
theorem ws_X5_daysSinceFed : Cond.selects RX5 yX5_daysSinceFed yX5_daysSinceFed ∈ ALL := al_3 (List.mem_of_getElem? (i := 32) rfl) rfl
theorem wc_X5_daysSinceFed : Cond.code yX5_daysSinceFed cX5_daysSinceFed 4 (some .int) ∈ ALL := al_3 (List.mem_of_getElem? (i := 33) rfl) rfl
theorem wm_X5_79 : Cond.methodLink RX5 79 yX0_has ∈ ALL := al_3 (List.mem_of_getElem? (i := 34) rfl) rfl
theorem wm_X5_75 : Cond.methodLink RX5 75 yX5_noted ∈ ALL := al_3 (List.mem_of_getElem? (i := 35) rfl) rfl
theorem wi_X5_noted : Cond.instanceMethod yX5_noted ∈ ALL := al_3 (List.mem_of_getElem? (i := 37) rfl) rfl
theorem wc_X5_noted : Cond.code yX5_noted cX5_noted 3 (some .int) ∈ ALL := al_3 (List.mem_of_getElem? (i := 38) rfl) rfl
theorem wm_X6_170 : Cond.methodLink RX6 170 yX3_isOddDay ∈ ALL := al_3 (List.mem_of_getElem? (i := 39) rfl) rfl
theorem wi_X3_isOddDay : Cond.instanceMethod yX3_isOddDay ∈ ALL := al_3 (List.mem_of_getElem? (i := 40) rfl) rfl
theorem ws_X3_isOddDay : Cond.selects RX3 yX3_isOddDay yX3_isOddDay ∈ ALL := al_3 (List.mem_of_getElem? (i := 41) rfl) rfl
theorem wc_X3_isOddDay : Cond.code yX3_isOddDay cX3_isOddDay 1 (some .boolean) ∈ ALL := al_3 (List.mem_of_getElem? (i := 42) rfl) rfl
theorem wm_X6_174 : Cond.methodLink RX6 174 yX6_shortOfGoing ∈ ALL := al_3 (List.mem_of_getElem? (i := 43) rfl) rfl
theorem wi_X6_shortOfGoing : Cond.instanceMethod yX6_shortOfGoing ∈ ALL := al_3 (List.mem_of_getElem? (i := 45) rfl) rfl
theorem wc_X6_shortOfGoing : Cond.code yX6_shortOfGoing cX6_shortOfGoing 2 (some .int) ∈ ALL := al_3 (List.mem_of_getElem? (i := 46) rfl) rfl
theorem wm_X6_372 : Cond.methodLink RX6 372 yX0_leavingHunger ∈ ALL := al_3 (List.mem_of_getElem? (i := 47) rfl) rfl
theorem wi_X0_leavingHunger : Cond.instanceMethod yX0_leavingHunger ∈ ALL := al_3 (List.mem_of_getElem? (i := 48) rfl) rfl
theorem ws_X0_leavingHunger : Cond.selects RX0 yX0_leavingHunger yX0_leavingHunger ∈ ALL := al_3 (List.mem_of_getElem? (i := 49) rfl) rfl
theorem wc_X0_leavingHunger : Cond.code yX0_leavingHunger cX0_leavingHunger 2 (some .int) ∈ ALL := al_3 (List.mem_of_getElem? (i := 50) rfl) rfl
theorem wm_X6_355 : Cond.methodLink RX6 355 yJ9_max_7cf53 ∈ ALL := al_3 (List.mem_of_getElem? (i := 51) rfl) rfl
theorem wt_J9_max_7cf53 : Cond.static yJ9_max_7cf53 ∈ ALL := al_3 (List.mem_of_getElem? (i := 52) rfl) rfl
theorem wc_J9_max_7cf53 : Cond.code yJ9_max_7cf53 cJ9_max_7cf53 2 (some .int) ∈ ALL := al_3 (List.mem_of_getElem? (i := 53) rfl) rfl
theorem wm_X6_177 : Cond.methodLink RX6 177 yX3_wasEverFed ∈ ALL := al_3 (List.mem_of_getElem? (i := 54) rfl) rfl
theorem wi_X3_wasEverFed : Cond.instanceMethod yX3_wasEverFed ∈ ALL := al_3 (List.mem_of_getElem? (i := 55) rfl) rfl
theorem ws_X3_wasEverFed : Cond.selects RX3 yX3_wasEverFed yX3_wasEverFed ∈ ALL := al_3 (List.mem_of_getElem? (i := 56) rfl) rfl
theorem wc_X3_wasEverFed : Cond.code yX3_wasEverFed cX3_wasEverFed 2 (some .boolean) ∈ ALL := al_3 (List.mem_of_getElem? (i := 57) rfl) rfl
theorem wm_L_65 : Cond.methodLink RL 65 yX6_store ∈ ALL := al_3 (List.mem_of_getElem? (i := 58) rfl) rfl
theorem wi_X6_store : Cond.instanceMethod yX6_store ∈ ALL := al_3 (List.mem_of_getElem? (i := 59) rfl) rfl
theorem ws_X6_store : Cond.selects RX6 yX6_store yX6_store ∈ ALL := al_3 (List.mem_of_getElem? (i := 60) rfl) rfl
theorem wc_X6_store : Cond.code yX6_store cX6_store 4 (some .int) ∈ ALL := al_3 (List.mem_of_getElem? (i := 61) rfl) rfl
theorem wm_X6_180 : Cond.methodLink RX6 180 yX6_isFood ∈ ALL := al_3 (List.mem_of_getElem? (i := 62) rfl) rfl
theorem wt_X6_isFood : Cond.static yX6_isFood ∈ ALL := al_3 (List.mem_of_getElem? (i := 63) rfl) rfl
theorem wc_X6_isFood : Cond.code yX6_isFood cX6_isFood 1 (some .boolean) ∈ ALL := al_3 (List.mem_of_getElem? (i := 64) rfl) rfl
theorem wm_X6_183 : Cond.methodLink RX6 183 yX6_noGods ∈ ALL := al_3 (List.mem_of_getElem? (i := 65) rfl) rfl
theorem wi_X6_noGods : Cond.instanceMethod yX6_noGods ∈ ALL := al_3 (List.mem_of_getElem? (i := 67) rfl) rfl
theorem wc_X6_noGods : Cond.code yX6_noGods cX6_noGods 1 (some .boolean) ∈ ALL := al_3 (List.mem_of_getElem? (i := 68) rfl) rfl
theorem wm_L_69 : Cond.methodLink RL 69 yX6_stores ∈ ALL := al_3 (List.mem_of_getElem? (i := 69) rfl) rfl
theorem wi_X6_stores : Cond.instanceMethod yX6_stores ∈ ALL := al_3 (List.mem_of_getElem? (i := 70) rfl) rfl
theorem ws_X6_stores : Cond.selects RX6 yX6_stores yX6_stores ∈ ALL := al_3 (List.mem_of_getElem? (i := 71) rfl) rfl
theorem wc_X6_stores : Cond.code yX6_stores cX6_stores 2 (some .int) ∈ ALL := al_3 (List.mem_of_getElem? (i := 72) rfl) rfl
theorem wm_L_73 : Cond.methodLink RL 73 yX6_patience ∈ ALL := al_3 (List.mem_of_getElem? (i := 73) rfl) rfl
theorem wi_X6_patience : Cond.instanceMethod yX6_patience ∈ ALL := al_3 (List.mem_of_getElem? (i := 74) rfl) rfl
theorem ws_X6_patience : Cond.selects RX6 yX6_patience yX6_patience ∈ ALL := al_3 (List.mem_of_getElem? (i := 75) rfl) rfl
theorem wc_X6_patience : Cond.code yX6_patience cX6_patience 4 (some .int) ∈ ALL := al_3 (List.mem_of_getElem? (i := 76) rfl) rfl
theorem wm_X6_187 : Cond.methodLink RX6 187 yX6_isPatience ∈ ALL := al_3 (List.mem_of_getElem? (i := 77) rfl) rfl
theorem wt_X6_isPatience : Cond.static yX6_isPatience ∈ ALL := al_3 (List.mem_of_getElem? (i := 78) rfl) rfl
theorem wc_X6_isPatience : Cond.code yX6_isPatience cX6_isPatience 1 (some .boolean) ∈ ALL := al_3 (List.mem_of_getElem? (i := 79) rfl) rfl
theorem wm_L_77 : Cond.methodLink RL 77 yX6_offer ∈ ALL := al_3 (List.mem_of_getElem? (i := 80) rfl) rfl
theorem wi_X6_offer : Cond.instanceMethod yX6_offer ∈ ALL := al_3 (List.mem_of_getElem? (i := 81) rfl) rfl
theorem ws_X6_offer : Cond.selects RX6 yX6_offer yX6_offer ∈ ALL := al_3 (List.mem_of_getElem? (i := 82) rfl) rfl
theorem wc_X6_offer : Cond.code yX6_offer cX6_offer 2 (some .int) ∈ ALL := al_3 (List.mem_of_getElem? (i := 83) rfl) rfl
theorem wm_X6_193 : Cond.methodLink RX6 193 yX0_hasNumber ∈ ALL := al_3 (List.mem_of_getElem? (i := 84) rfl) rfl
theorem wi_X0_hasNumber : Cond.instanceMethod yX0_hasNumber ∈ ALL := al_3 (List.mem_of_getElem? (i := 85) rfl) rfl
theorem ws_X0_hasNumber : Cond.selects RX0 yX0_hasNumber yX0_hasNumber ∈ ALL := al_3 (List.mem_of_getElem? (i := 86) rfl) rfl
theorem wc_X0_hasNumber : Cond.code yX0_hasNumber cX0_hasNumber 2 (some .boolean) ∈ ALL := al_3 (List.mem_of_getElem? (i := 87) rfl) rfl
theorem wm_X6_196 : Cond.methodLink RX6 196 yX3_costOf ∈ ALL := al_3 (List.mem_of_getElem? (i := 88) rfl) rfl
theorem wi_X3_costOf : Cond.instanceMethod yX3_costOf ∈ ALL := al_3 (List.mem_of_getElem? (i := 89) rfl) rfl
theorem ws_X3_costOf : Cond.selects RX3 yX3_costOf yX3_costOf ∈ ALL := al_3 (List.mem_of_getElem? (i := 90) rfl) rfl
theorem wc_X3_costOf : Cond.code yX3_costOf cX3_costOf 4 (some .int) ∈ ALL := al_3 (List.mem_of_getElem? (i := 91) rfl) rfl
theorem wm_X3_77 : Cond.methodLink RX3 77 yX3_fedBy ∈ ALL := al_3 (List.mem_of_getElem? (i := 92) rfl) rfl
theorem wi_X3_fedBy : Cond.instanceMethod yX3_fedBy ∈ ALL := al_3 (List.mem_of_getElem? (i := 94) rfl) rfl
theorem wc_X3_fedBy : Cond.code yX3_fedBy cX3_fedBy 5 (some .int) ∈ ALL := al_3 (List.mem_of_getElem? (i := 95) rfl) rfl
theorem wm_X3_66 : Cond.methodLink RX3 66 yX0_has ∈ ALL := al_3 (List.mem_of_getElem? (i := 96) rfl) rfl
theorem wm_X3_70 : Cond.methodLink RX3 70 yX3_awake ∈ ALL := al_3 (List.mem_of_getElem? (i := 97) rfl) rfl
theorem wi_X3_awake : Cond.instanceMethod yX3_awake ∈ ALL := al_3 (List.mem_of_getElem? (i := 99) rfl) rfl
theorem wc_X3_awake : Cond.code yX3_awake cX3_awake 3 (some .int) ∈ ALL := al_3 (List.mem_of_getElem? (i := 100) rfl) rfl
theorem wm_X3_81 : Cond.methodLink RX3 81 yJ6_bitCount_0f7a4 ∈ ALL := al_3 (List.mem_of_getElem? (i := 101) rfl) rfl
theorem wt_J6_bitCount_0f7a4 : Cond.static yJ6_bitCount_0f7a4 ∈ ALL := al_3 (List.mem_of_getElem? (i := 102) rfl) rfl
theorem wc_J6_bitCount_0f7a4 : Cond.code yJ6_bitCount_0f7a4 cJ6_bitCount_0f7a4 1 (some .int) ∈ ALL := al_3 (List.mem_of_getElem? (i := 103) rfl) rfl
theorem wk_J6_265 : Cond.constant RJ6 265 (1431655765) ∈ ALL := al_3 (List.mem_of_getElem? (i := 104) rfl) rfl
theorem wk_J6_266 : Cond.constant RJ6 266 (858993459) ∈ ALL := al_3 (List.mem_of_getElem? (i := 105) rfl) rfl
theorem wk_J6_267 : Cond.constant RJ6 267 (252645135) ∈ ALL := al_3 (List.mem_of_getElem? (i := 106) rfl) rfl
theorem wm_X6_203 : Cond.methodLink RX6 203 yX5_spendDay ∈ ALL := al_3 (List.mem_of_getElem? (i := 107) rfl) rfl
theorem wi_X5_spendDay : Cond.instanceMethod yX5_spendDay ∈ ALL := al_3 (List.mem_of_getElem? (i := 108) rfl) rfl
theorem ws_X5_spendDay : Cond.selects RX5 yX5_spendDay yX5_spendDay ∈ ALL := al_3 (List.mem_of_getElem? (i := 109) rfl) rfl
theorem wc_X5_spendDay : Cond.code yX5_spendDay cX5_spendDay 4 (some .int) ∈ ALL := al_3 (List.mem_of_getElem? (i := 110) rfl) rfl
theorem wm_X5_54 : Cond.methodLink RX5 54 yX3_worth ∈ ALL := al_3 (List.mem_of_getElem? (i := 111) rfl) rfl
theorem wi_X3_worth : Cond.instanceMethod yX3_worth ∈ ALL := al_3 (List.mem_of_getElem? (i := 112) rfl) rfl
theorem ws_X3_worth : Cond.selects RX3 yX3_worth yX3_worth ∈ ALL := al_3 (List.mem_of_getElem? (i := 113) rfl) rfl
theorem wc_X3_worth : Cond.code yX3_worth cX3_worth 1 (some .int) ∈ ALL := al_3 (List.mem_of_getElem? (i := 114) rfl) rfl
theorem wm_X5_58 : Cond.methodLink RX5 58 yX3_save ∈ ALL := al_3 (List.mem_of_getElem? (i := 115) rfl) rfl
theorem wi_X3_save : Cond.instanceMethod yX3_save ∈ ALL := al_3 (List.mem_of_getElem? (i := 116) rfl) rfl
theorem ws_X3_save : Cond.selects RX3 yX3_save yX3_save ∈ ALL := al_3 (List.mem_of_getElem? (i := 117) rfl) rfl
theorem wc_X3_save : Cond.code yX3_save cX3_save 3 none ∈ ALL := al_3 (List.mem_of_getElem? (i := 118) rfl) rfl
theorem wm_X3_52 : Cond.methodLink RX3 52 arraycopyName ∈ ALL := al_3 (List.mem_of_getElem? (i := 119) rfl) rfl
theorem wm_X5_62 : Cond.methodLink RX5 62 yX3_goOn ∈ ALL := al_3 (List.mem_of_getElem? (i := 120) rfl) rfl
theorem wi_X3_goOn : Cond.instanceMethod yX3_goOn ∈ ALL := al_3 (List.mem_of_getElem? (i := 121) rfl) rfl
theorem ws_X3_goOn : Cond.selects RX3 yX3_goOn yX3_goOn ∈ ALL := al_3 (List.mem_of_getElem? (i := 122) rfl) rfl
theorem wc_X3_goOn : Cond.code yX3_goOn cX3_goOn 4 (some .boolean) ∈ ALL := al_3 (List.mem_of_getElem? (i := 123) rfl) rfl
theorem wm_X3_87 : Cond.methodLink RX3 87 yX3_costOf ∈ ALL := al_3 (List.mem_of_getElem? (i := 124) rfl) rfl
theorem wm_X3_90 : Cond.methodLink RX3 90 yX3_spendDay ∈ ALL := al_3 (List.mem_of_getElem? (i := 125) rfl) rfl
theorem wi_X3_spendDay : Cond.instanceMethod yX3_spendDay ∈ ALL := al_3 (List.mem_of_getElem? (i := 126) rfl) rfl
theorem ws_X3_spendDay : Cond.selects RX3 yX3_spendDay yX3_spendDay ∈ ALL := al_3 (List.mem_of_getElem? (i := 127) rfl) rfl
theorem wc_X3_spendDay : Cond.code yX3_spendDay cX3_spendDay 7 none ∈ ALL := al_3 (List.mem_of_getElem? (i := 128) rfl) rfl
theorem wm_X3_94 : Cond.methodLink RX3 94 yJ9_max_7cf53 ∈ ALL := al_3 (List.mem_of_getElem? (i := 129) rfl) rfl
theorem wm_X3_103 : Cond.methodLink RX3 103 yX3_hungerAfter ∈ ALL := al_3 (List.mem_of_getElem? (i := 130) rfl) rfl
theorem wi_X3_hungerAfter : Cond.instanceMethod yX3_hungerAfter ∈ ALL := al_3 (List.mem_of_getElem? (i := 132) rfl) rfl
theorem wc_X3_hungerAfter : Cond.code yX3_hungerAfter cX3_hungerAfter 5 (some .int) ∈ ALL := al_3 (List.mem_of_getElem? (i := 133) rfl) rfl
theorem wm_X3_130 : Cond.methodLink RX3 130 yJ9_min_7cf53 ∈ ALL := al_3 (List.mem_of_getElem? (i := 134) rfl) rfl
theorem wm_X3_107 : Cond.methodLink RX3 107 yX3_send ∈ ALL := al_3 (List.mem_of_getElem? (i := 135) rfl) rfl
theorem wi_X3_send : Cond.instanceMethod yX3_send ∈ ALL := al_3 (List.mem_of_getElem? (i := 137) rfl) rfl
theorem wc_X3_send : Cond.code yX3_send cX3_send 3 none ∈ ALL := al_3 (List.mem_of_getElem? (i := 138) rfl) rfl
theorem wm_X3_133 : Cond.methodLink RX3 133 yX3_wasEverFed ∈ ALL := al_3 (List.mem_of_getElem? (i := 139) rfl) rfl
theorem wm_X3_114 : Cond.methodLink RX3 114 yX0_leavingHunger ∈ ALL := al_3 (List.mem_of_getElem? (i := 140) rfl) rfl
theorem wm_X3_117 : Cond.methodLink RX3 117 yX3_sendAway ∈ ALL := al_3 (List.mem_of_getElem? (i := 141) rfl) rfl
theorem wi_X3_sendAway : Cond.instanceMethod yX3_sendAway ∈ ALL := al_3 (List.mem_of_getElem? (i := 142) rfl) rfl
theorem ws_X3_sendAway : Cond.selects RX3 yX3_sendAway yX3_sendAway ∈ ALL := al_3 (List.mem_of_getElem? (i := 143) rfl) rfl
theorem wc_X3_sendAway : Cond.code yX3_sendAway cX3_sendAway 2 none ∈ ALL := al_3 (List.mem_of_getElem? (i := 144) rfl) rfl
theorem wm_X5_48 : Cond.methodLink RX5 48 arraycopyName ∈ ALL := al_3 (List.mem_of_getElem? (i := 145) rfl) rfl
theorem wm_L_81 : Cond.methodLink RL 81 yX6_may ∈ ALL := al_3 (List.mem_of_getElem? (i := 146) rfl) rfl
theorem wi_X6_may : Cond.instanceMethod yX6_may ∈ ALL := al_3 (List.mem_of_getElem? (i := 147) rfl) rfl
theorem ws_X6_may : Cond.selects RX6 yX6_may yX6_may ∈ ALL := al_3 (List.mem_of_getElem? (i := 148) rfl) rfl
theorem wc_X6_may : Cond.code yX6_may cX6_may 2 (some .int) ∈ ALL := al_3 (List.mem_of_getElem? (i := 149) rfl) rfl
theorem wm_L_85 : Cond.methodLink RL 85 yX6_rest ∈ ALL := al_3 (List.mem_of_getElem? (i := 150) rfl) rfl
theorem wi_X6_rest : Cond.instanceMethod yX6_rest ∈ ALL := al_3 (List.mem_of_getElem? (i := 151) rfl) rfl
theorem ws_X6_rest : Cond.selects RX6 yX6_rest yX6_rest ∈ ALL := al_3 (List.mem_of_getElem? (i := 152) rfl) rfl
theorem wc_X6_rest : Cond.code yX6_rest cX6_rest 4 (some .int) ∈ ALL := al_3 (List.mem_of_getElem? (i := 153) rfl) rfl
theorem wm_L_89 : Cond.methodLink RL 89 yX6_sent ∈ ALL := al_3 (List.mem_of_getElem? (i := 154) rfl) rfl
theorem wi_X6_sent : Cond.instanceMethod yX6_sent ∈ ALL := al_3 (List.mem_of_getElem? (i := 155) rfl) rfl
theorem ws_X6_sent : Cond.selects RX6 yX6_sent yX6_sent ∈ ALL := al_3 (List.mem_of_getElem? (i := 156) rfl) rfl
theorem wc_X6_sent : Cond.code yX6_sent cX6_sent 3 (some .int) ∈ ALL := al_3 (List.mem_of_getElem? (i := 157) rfl) rfl
theorem wm_X6_206 : Cond.methodLink RX6 206 yX5_sentOn ∈ ALL := al_3 (List.mem_of_getElem? (i := 158) rfl) rfl
theorem wi_X5_sentOn : Cond.instanceMethod yX5_sentOn ∈ ALL := al_3 (List.mem_of_getElem? (i := 159) rfl) rfl
theorem ws_X5_sentOn : Cond.selects RX5 yX5_sentOn yX5_sentOn ∈ ALL := al_3 (List.mem_of_getElem? (i := 160) rfl) rfl
theorem wc_X5_sentOn : Cond.code yX5_sentOn cX5_sentOn 3 (some .int) ∈ ALL := al_3 (List.mem_of_getElem? (i := 161) rfl) rfl
theorem wm_L_93 : Cond.methodLink RL 93 yX6_offered ∈ ALL := al_3 (List.mem_of_getElem? (i := 162) rfl) rfl
theorem wi_X6_offered : Cond.instanceMethod yX6_offered ∈ ALL := al_3 (List.mem_of_getElem? (i := 163) rfl) rfl
theorem ws_X6_offered : Cond.selects RX6 yX6_offered yX6_offered ∈ ALL := al_3 (List.mem_of_getElem? (i := 164) rfl) rfl
theorem wc_X6_offered : Cond.code yX6_offered cX6_offered 2 (some .int) ∈ ALL := al_3 (List.mem_of_getElem? (i := 165) rfl) rfl
theorem wm_X6_209 : Cond.methodLink RX6 209 yX5_offeringOn ∈ ALL := al_3 (List.mem_of_getElem? (i := 166) rfl) rfl
theorem wi_X5_offeringOn : Cond.instanceMethod yX5_offeringOn ∈ ALL := al_3 (List.mem_of_getElem? (i := 167) rfl) rfl
theorem ws_X5_offeringOn : Cond.selects RX5 yX5_offeringOn yX5_offeringOn ∈ ALL := al_3 (List.mem_of_getElem? (i := 168) rfl) rfl
theorem wc_X5_offeringOn : Cond.code yX5_offeringOn cX5_offeringOn 2 (some .int) ∈ ALL := al_3 (List.mem_of_getElem? (i := 169) rfl) rfl
theorem wm_L_97 : Cond.methodLink RL 97 yX6_undo ∈ ALL := al_3 (List.mem_of_getElem? (i := 170) rfl) rfl
theorem wi_X6_undo : Cond.instanceMethod yX6_undo ∈ ALL := al_3 (List.mem_of_getElem? (i := 171) rfl) rfl
theorem ws_X6_undo : Cond.selects RX6 yX6_undo yX6_undo ∈ ALL := al_3 (List.mem_of_getElem? (i := 172) rfl) rfl
theorem wc_X6_undo : Cond.code yX6_undo cX6_undo 3 (some .int) ∈ ALL := al_3 (List.mem_of_getElem? (i := 173) rfl) rfl
theorem wm_X6_212 : Cond.methodLink RX6 212 yX5_goBackTo ∈ ALL := al_3 (List.mem_of_getElem? (i := 174) rfl) rfl
theorem wi_X5_goBackTo : Cond.instanceMethod yX5_goBackTo ∈ ALL := al_3 (List.mem_of_getElem? (i := 175) rfl) rfl
theorem ws_X5_goBackTo : Cond.selects RX5 yX5_goBackTo yX5_goBackTo ∈ ALL := al_3 (List.mem_of_getElem? (i := 176) rfl) rfl
theorem wc_X5_goBackTo : Cond.code yX5_goBackTo cX5_goBackTo 2 none ∈ ALL := al_3 (List.mem_of_getElem? (i := 177) rfl) rfl
theorem wm_X5_72 : Cond.methodLink RX5 72 yX3_load ∈ ALL := al_3 (List.mem_of_getElem? (i := 178) rfl) rfl
theorem wi_X3_load : Cond.instanceMethod yX3_load ∈ ALL := al_3 (List.mem_of_getElem? (i := 179) rfl) rfl
theorem ws_X3_load : Cond.selects RX3 yX3_load yX3_load ∈ ALL := al_3 (List.mem_of_getElem? (i := 180) rfl) rfl
theorem wc_X3_load : Cond.code yX3_load cX3_load 3 none ∈ ALL := al_3 (List.mem_of_getElem? (i := 181) rfl) rfl
theorem wm_L_101 : Cond.methodLink RL 101 yX6_sums ∈ ALL := al_3 (List.mem_of_getElem? (i := 182) rfl) rfl
theorem wi_X6_sums : Cond.instanceMethod yX6_sums ∈ ALL := al_3 (List.mem_of_getElem? (i := 183) rfl) rfl
theorem ws_X6_sums : Cond.selects RX6 yX6_sums yX6_sums ∈ ALL := al_3 (List.mem_of_getElem? (i := 184) rfl) rfl
theorem wc_X6_sums : Cond.code yX6_sums cX6_sums 1 (some .int) ∈ ALL := al_3 (List.mem_of_getElem? (i := 185) rfl) rfl
theorem wm_L_106 : Cond.methodLink RL 106 yX6_keep ∈ ALL := al_3 (List.mem_of_getElem? (i := 186) rfl) rfl
theorem wi_X6_keep : Cond.instanceMethod yX6_keep ∈ ALL := al_3 (List.mem_of_getElem? (i := 187) rfl) rfl
theorem ws_X6_keep : Cond.selects RX6 yX6_keep yX6_keep ∈ ALL := al_3 (List.mem_of_getElem? (i := 188) rfl) rfl
theorem wc_X6_keep : Cond.code yX6_keep cX6_keep 2 (some .int) ∈ ALL := al_3 (List.mem_of_getElem? (i := 189) rfl) rfl
theorem wm_X6_221 : Cond.methodLink RX6 221 yX6_isKeepingPlace ∈ ALL := al_3 (List.mem_of_getElem? (i := 190) rfl) rfl
theorem wi_X6_isKeepingPlace : Cond.instanceMethod yX6_isKeepingPlace ∈ ALL := al_3 (List.mem_of_getElem? (i := 192) rfl) rfl
theorem wc_X6_isKeepingPlace : Cond.code yX6_isKeepingPlace cX6_isKeepingPlace 2 (some .boolean) ∈ ALL := al_3 (List.mem_of_getElem? (i := 193) rfl) rfl
theorem wm_X6_224 : Cond.methodLink RX6 224 yX5_take ∈ ALL := al_3 (List.mem_of_getElem? (i := 194) rfl) rfl
theorem wi_X5_take : Cond.instanceMethod yX5_take ∈ ALL := al_3 (List.mem_of_getElem? (i := 195) rfl) rfl
theorem ws_X5_take : Cond.selects RX5 yX5_take yX5_take ∈ ALL := al_3 (List.mem_of_getElem? (i := 196) rfl) rfl
theorem wc_X5_take : Cond.code yX5_take cX5_take 3 none ∈ ALL := al_3 (List.mem_of_getElem? (i := 197) rfl) rfl
theorem wm_X5_41 : Cond.methodLink RX5 41 yX3_take ∈ ALL := al_3 (List.mem_of_getElem? (i := 198) rfl) rfl
theorem wi_X3_take : Cond.instanceMethod yX3_take ∈ ALL := al_3 (List.mem_of_getElem? (i := 199) rfl) rfl
theorem ws_X3_take : Cond.selects RX3 yX3_take yX3_take ∈ ALL := al_3 (List.mem_of_getElem? (i := 200) rfl) rfl
theorem wc_X3_take : Cond.code yX3_take cX3_take 3 none ∈ ALL := al_3 (List.mem_of_getElem? (i := 201) rfl) rfl
theorem wm_L_110 : Cond.methodLink RL 110 yX6_on ∈ ALL := al_3 (List.mem_of_getElem? (i := 202) rfl) rfl
theorem wi_X6_on : Cond.instanceMethod yX6_on ∈ ALL := al_3 (List.mem_of_getElem? (i := 203) rfl) rfl
theorem ws_X6_on : Cond.selects RX6 yX6_on yX6_on ∈ ALL := al_3 (List.mem_of_getElem? (i := 204) rfl) rfl
theorem wc_X6_on : Cond.code yX6_on cX6_on 2 (some .int) ∈ ALL := al_3 (List.mem_of_getElem? (i := 205) rfl) rfl
theorem wm_L_114 : Cond.methodLink RL 114 yX6_best ∈ ALL := al_3 (List.mem_of_getElem? (i := 206) rfl) rfl
theorem wi_X6_best : Cond.instanceMethod yX6_best ∈ ALL := al_3 (List.mem_of_getElem? (i := 207) rfl) rfl
theorem ws_X6_best : Cond.selects RX6 yX6_best yX6_best ∈ ALL := al_3 (List.mem_of_getElem? (i := 208) rfl) rfl
theorem wc_X6_best : Cond.code yX6_best cX6_best 3 (some .int) ∈ ALL := al_3 (List.mem_of_getElem? (i := 209) rfl) rfl
theorem wm_X6_228 : Cond.methodLink RX6 228 yX6_isPlanLength ∈ ALL := al_3 (List.mem_of_getElem? (i := 210) rfl) rfl
theorem wt_X6_isPlanLength : Cond.static yX6_isPlanLength ∈ ALL := al_3 (List.mem_of_getElem? (i := 211) rfl) rfl
theorem wc_X6_isPlanLength : Cond.code yX6_isPlanLength cX6_isPlanLength 1 (some .boolean) ∈ ALL := al_3 (List.mem_of_getElem? (i := 212) rfl) rfl
theorem wm_X6_231 : Cond.methodLink RX6 231 yX1_seekAll ∈ ALL := al_3 (List.mem_of_getElem? (i := 213) rfl) rfl
theorem wi_X1_seekAll : Cond.instanceMethod yX1_seekAll ∈ ALL := al_3 (List.mem_of_getElem? (i := 214) rfl) rfl
theorem ws_X1_seekAll : Cond.selects RX1 yX1_seekAll yX1_seekAll ∈ ALL := al_3 (List.mem_of_getElem? (i := 215) rfl) rfl
theorem wc_X1_seekAll : Cond.code yX1_seekAll cX1_seekAll 4 none ∈ ALL := al_3 (List.mem_of_getElem? (i := 216) rfl) rfl
theorem wm_X1_57 : Cond.methodLink RX1 57 yX1_start ∈ ALL := al_3 (List.mem_of_getElem? (i := 217) rfl) rfl
theorem wi_X1_start : Cond.instanceMethod yX1_start ∈ ALL := al_3 (List.mem_of_getElem? (i := 219) rfl) rfl
theorem wc_X1_start : Cond.code yX1_start cX1_start 3 none ∈ ALL := al_3 (List.mem_of_getElem? (i := 220) rfl) rfl
theorem wm_X1_69 : Cond.methodLink RX1 69 yX3_take ∈ ALL := al_3 (List.mem_of_getElem? (i := 221) rfl) rfl
theorem wm_X1_73 : Cond.methodLink RX1 73 yX3_forgetSums ∈ ALL := al_3 (List.mem_of_getElem? (i := 222) rfl) rfl
theorem wm_X1_76 : Cond.methodLink RX1 76 yJ9_min_7cf53 ∈ ALL := al_3 (List.mem_of_getElem? (i := 223) rfl) rfl
theorem wm_X1_82 : Cond.methodLink RX1 82 yJ9_max_7cf53 ∈ ALL := al_3 (List.mem_of_getElem? (i := 224) rfl) rfl
theorem wm_X1_61 : Cond.methodLink RX1 61 yX1_walk ∈ ALL := al_3 (List.mem_of_getElem? (i := 225) rfl) rfl
theorem wt_X1_walk : Cond.static yX1_walk ∈ ALL := al_3 (List.mem_of_getElem? (i := 226) rfl) rfl
theorem wc_X1_walk : Cond.code yX1_walk cX1_walk 4 none ∈ ALL := al_3 (List.mem_of_getElem? (i := 227) rfl) rfl
theorem wm_X1_85 : Cond.methodLink RX1 85 yX1_weigh ∈ ALL := al_3 (List.mem_of_getElem? (i := 228) rfl) rfl
theorem wi_X1_weigh : Cond.instanceMethod yX1_weigh ∈ ALL := al_3 (List.mem_of_getElem? (i := 230) rfl) rfl
theorem wc_X1_weigh : Cond.code yX1_weigh cX1_weigh 3 none ∈ ALL := al_3 (List.mem_of_getElem? (i := 231) rfl) rfl
theorem wm_X1_116 : Cond.methodLink RX1 116 yX3_worth ∈ ALL := al_3 (List.mem_of_getElem? (i := 232) rfl) rfl
theorem wm_X1_120 : Cond.methodLink RX1 120 arraycopyName ∈ ALL := al_3 (List.mem_of_getElem? (i := 233) rfl) rfl
theorem wm_X1_88 : Cond.methodLink RX1 88 yX1_goOn ∈ ALL := al_3 (List.mem_of_getElem? (i := 234) rfl) rfl
theorem wi_X1_goOn : Cond.instanceMethod yX1_goOn ∈ ALL := al_3 (List.mem_of_getElem? (i := 236) rfl) rfl
theorem wc_X1_goOn : Cond.code yX1_goOn cX1_goOn 5 (some .boolean) ∈ ALL := al_3 (List.mem_of_getElem? (i := 237) rfl) rfl
theorem wm_X1_96 : Cond.methodLink RX1 96 yX3_costOf ∈ ALL := al_3 (List.mem_of_getElem? (i := 238) rfl) rfl
theorem wm_X1_100 : Cond.methodLink RX1 100 yX3_spendDay ∈ ALL := al_3 (List.mem_of_getElem? (i := 239) rfl) rfl
theorem wm_X1_92 : Cond.methodLink RX1 92 yX1_isWanted ∈ ALL := al_4 (List.mem_of_getElem? (i := 0) rfl) rfl
theorem wi_X1_isWanted : Cond.instanceMethod yX1_isWanted ∈ ALL := al_4 (List.mem_of_getElem? (i := 2) rfl) rfl
theorem wc_X1_isWanted : Cond.code yX1_isWanted cX1_isWanted 2 (some .boolean) ∈ ALL := al_4 (List.mem_of_getElem? (i := 3) rfl) rfl
theorem wm_X6_241 : Cond.methodLink RX6 241 yX4_fill ∈ ALL := al_4 (List.mem_of_getElem? (i := 4) rfl) rfl
theorem wi_X4_fill : Cond.instanceMethod yX4_fill ∈ ALL := al_4 (List.mem_of_getElem? (i := 5) rfl) rfl
theorem ws_X4_fill : Cond.selects RX4 yX4_fill yX4_fill ∈ ALL := al_4 (List.mem_of_getElem? (i := 6) rfl) rfl
theorem wc_X4_fill : Cond.code yX4_fill cX4_fill 5 none ∈ ALL := al_4 (List.mem_of_getElem? (i := 7) rfl) rfl
theorem wm_X4_39 : Cond.methodLink RX4 39 yX4_make ∈ ALL := al_4 (List.mem_of_getElem? (i := 8) rfl) rfl
theorem wm_X4_43 : Cond.methodLink RX4 43 yX4_write ∈ ALL := al_4 (List.mem_of_getElem? (i := 9) rfl) rfl
theorem wm_L_118 : Cond.methodLink RL 118 yX6_tries ∈ ALL := al_4 (List.mem_of_getElem? (i := 10) rfl) rfl
theorem wi_X6_tries : Cond.instanceMethod yX6_tries ∈ ALL := al_4 (List.mem_of_getElem? (i := 11) rfl) rfl
theorem ws_X6_tries : Cond.selects RX6 yX6_tries yX6_tries ∈ ALL := al_4 (List.mem_of_getElem? (i := 12) rfl) rfl
theorem wc_X6_tries : Cond.code yX6_tries cX6_tries 4 (some .int) ∈ ALL := al_4 (List.mem_of_getElem? (i := 13) rfl) rfl
theorem wm_X6_245 : Cond.methodLink RX6 245 yX6_holdsNumbersOnly ∈ ALL := al_4 (List.mem_of_getElem? (i := 14) rfl) rfl
theorem wi_X6_holdsNumbersOnly : Cond.instanceMethod yX6_holdsNumbersOnly ∈ ALL := al_4 (List.mem_of_getElem? (i := 16) rfl) rfl
theorem wc_X6_holdsNumbersOnly : Cond.code yX6_holdsNumbersOnly cX6_holdsNumbersOnly 3 (some .boolean) ∈ ALL := al_4 (List.mem_of_getElem? (i := 17) rfl) rfl
theorem wm_X6_248 : Cond.methodLink RX6 248 yX6_startTrial ∈ ALL := al_4 (List.mem_of_getElem? (i := 18) rfl) rfl
theorem wi_X6_startTrial : Cond.instanceMethod yX6_startTrial ∈ ALL := al_4 (List.mem_of_getElem? (i := 20) rfl) rfl
theorem wc_X6_startTrial : Cond.code yX6_startTrial cX6_startTrial 1 none ∈ ALL := al_4 (List.mem_of_getElem? (i := 21) rfl) rfl
theorem wm_X6_375 : Cond.methodLink RX6 375 yX3_take ∈ ALL := al_4 (List.mem_of_getElem? (i := 22) rfl) rfl
theorem wm_X6_378 : Cond.methodLink RX6 378 yX3_forgetSums ∈ ALL := al_4 (List.mem_of_getElem? (i := 23) rfl) rfl
theorem wm_X6_251 : Cond.methodLink RX6 251 yX3_goOn ∈ ALL := al_4 (List.mem_of_getElem? (i := 24) rfl) rfl
theorem wm_X6_255 : Cond.methodLink RX6 255 yX3_worth ∈ ALL := al_4 (List.mem_of_getElem? (i := 25) rfl) rfl
theorem wm_L_122 : Cond.methodLink RL 122 yX6_safe ∈ ALL := al_4 (List.mem_of_getElem? (i := 26) rfl) rfl
theorem wi_X6_safe : Cond.instanceMethod yX6_safe ∈ ALL := al_4 (List.mem_of_getElem? (i := 27) rfl) rfl
theorem ws_X6_safe : Cond.selects RX6 yX6_safe yX6_safe ∈ ALL := al_4 (List.mem_of_getElem? (i := 28) rfl) rfl
theorem wc_X6_safe : Cond.code yX6_safe cX6_safe 3 (some .int) ∈ ALL := al_4 (List.mem_of_getElem? (i := 29) rfl) rfl
theorem wm_X6_259 : Cond.methodLink RX6 259 yX1_seekHarmless ∈ ALL := al_4 (List.mem_of_getElem? (i := 30) rfl) rfl
theorem wi_X1_seekHarmless : Cond.instanceMethod yX1_seekHarmless ∈ ALL := al_4 (List.mem_of_getElem? (i := 31) rfl) rfl
theorem ws_X1_seekHarmless : Cond.selects RX1 yX1_seekHarmless yX1_seekHarmless ∈ ALL := al_4 (List.mem_of_getElem? (i := 32) rfl) rfl
theorem wc_X1_seekHarmless : Cond.code yX1_seekHarmless cX1_seekHarmless 5 none ∈ ALL := al_4 (List.mem_of_getElem? (i := 33) rfl) rfl
theorem wm_L_126 : Cond.methodLink RL 126 yX6_share ∈ ALL := al_4 (List.mem_of_getElem? (i := 34) rfl) rfl
theorem wi_X6_share : Cond.instanceMethod yX6_share ∈ ALL := al_4 (List.mem_of_getElem? (i := 35) rfl) rfl
theorem ws_X6_share : Cond.selects RX6 yX6_share yX6_share ∈ ALL := al_4 (List.mem_of_getElem? (i := 36) rfl) rfl
theorem wc_X6_share : Cond.code yX6_share cX6_share 2 (some .int) ∈ ALL := al_4 (List.mem_of_getElem? (i := 37) rfl) rfl
theorem wm_X6_268 : Cond.methodLink RX6 268 yX6_tellFraction ∈ ALL := al_4 (List.mem_of_getElem? (i := 38) rfl) rfl
theorem wi_X6_tellFraction : Cond.instanceMethod yX6_tellFraction ∈ ALL := al_4 (List.mem_of_getElem? (i := 40) rfl) rfl
theorem wc_X6_tellFraction : Cond.code yX6_tellFraction cX6_tellFraction 4 none ∈ ALL := al_4 (List.mem_of_getElem? (i := 41) rfl) rfl
theorem wm_X6_352 : Cond.methodLink RX6 352 yX6_greatestCommonDivisor ∈ ALL := al_4 (List.mem_of_getElem? (i := 42) rfl) rfl
theorem wt_X6_greatestCommonDivisor : Cond.static yX6_greatestCommonDivisor ∈ ALL := al_4 (List.mem_of_getElem? (i := 43) rfl) rfl
theorem wc_X6_greatestCommonDivisor : Cond.code yX6_greatestCommonDivisor cX6_greatestCommonDivisor 6 (some .int) ∈ ALL := al_4 (List.mem_of_getElem? (i := 44) rfl) rfl
theorem wm_L_130 : Cond.methodLink RL 130 yX6_food ∈ ALL := al_4 (List.mem_of_getElem? (i := 45) rfl) rfl
theorem wi_X6_food : Cond.instanceMethod yX6_food ∈ ALL := al_4 (List.mem_of_getElem? (i := 46) rfl) rfl
theorem ws_X6_food : Cond.selects RX6 yX6_food yX6_food ∈ ALL := al_4 (List.mem_of_getElem? (i := 47) rfl) rfl
theorem wc_X6_food : Cond.code yX6_food cX6_food 2 (some .int) ∈ ALL := al_4 (List.mem_of_getElem? (i := 48) rfl) rfl
theorem wm_L_134 : Cond.methodLink RL 134 yX6_harm ∈ ALL := al_4 (List.mem_of_getElem? (i := 49) rfl) rfl
theorem wi_X6_harm : Cond.instanceMethod yX6_harm ∈ ALL := al_4 (List.mem_of_getElem? (i := 50) rfl) rfl
theorem ws_X6_harm : Cond.selects RX6 yX6_harm yX6_harm ∈ ALL := al_4 (List.mem_of_getElem? (i := 51) rfl) rfl
theorem wc_X6_harm : Cond.code yX6_harm cX6_harm 2 (some .int) ∈ ALL := al_4 (List.mem_of_getElem? (i := 52) rfl) rfl
theorem wm_L_138 : Cond.methodLink RL 138 yX6_starve ∈ ALL := al_4 (List.mem_of_getElem? (i := 53) rfl) rfl
theorem wi_X6_starve : Cond.instanceMethod yX6_starve ∈ ALL := al_4 (List.mem_of_getElem? (i := 54) rfl) rfl
theorem ws_X6_starve : Cond.selects RX6 yX6_starve yX6_starve ∈ ALL := al_4 (List.mem_of_getElem? (i := 55) rfl) rfl
theorem wc_X6_starve : Cond.code yX6_starve cX6_starve 7 (some .int) ∈ ALL := al_4 (List.mem_of_getElem? (i := 56) rfl) rfl
theorem wm_X6_284 : Cond.methodLink RX6 284 yX1_seekUnfed ∈ ALL := al_4 (List.mem_of_getElem? (i := 57) rfl) rfl
theorem wi_X1_seekUnfed : Cond.instanceMethod yX1_seekUnfed ∈ ALL := al_4 (List.mem_of_getElem? (i := 58) rfl) rfl
theorem ws_X1_seekUnfed : Cond.selects RX1 yX1_seekUnfed yX1_seekUnfed ∈ ALL := al_4 (List.mem_of_getElem? (i := 59) rfl) rfl
theorem wc_X1_seekUnfed : Cond.code yX1_seekUnfed cX1_seekUnfed 5 none ∈ ALL := al_4 (List.mem_of_getElem? (i := 60) rfl) rfl
theorem wm_L_142 : Cond.methodLink RL 142 yX6_price ∈ ALL := al_4 (List.mem_of_getElem? (i := 61) rfl) rfl
theorem wi_X6_price : Cond.instanceMethod yX6_price ∈ ALL := al_4 (List.mem_of_getElem? (i := 62) rfl) rfl
theorem ws_X6_price : Cond.selects RX6 yX6_price yX6_price ∈ ALL := al_4 (List.mem_of_getElem? (i := 63) rfl) rfl
theorem wc_X6_price : Cond.code yX6_price cX6_price 4 (some .int) ∈ ALL := al_4 (List.mem_of_getElem? (i := 64) rfl) rfl
theorem wm_X6_288 : Cond.methodLink RX6 288 yX3_sendAway ∈ ALL := al_4 (List.mem_of_getElem? (i := 65) rfl) rfl
theorem wm_L_146 : Cond.methodLink RL 146 yX6_altar ∈ ALL := al_4 (List.mem_of_getElem? (i := 66) rfl) rfl
theorem wi_X6_altar : Cond.instanceMethod yX6_altar ∈ ALL := al_4 (List.mem_of_getElem? (i := 67) rfl) rfl
theorem ws_X6_altar : Cond.selects RX6 yX6_altar yX6_altar ∈ ALL := al_4 (List.mem_of_getElem? (i := 68) rfl) rfl
theorem wc_X6_altar : Cond.code yX6_altar cX6_altar 5 (some .int) ∈ ALL := al_4 (List.mem_of_getElem? (i := 69) rfl) rfl
theorem wm_X6_291 : Cond.methodLink RX6 291 yX0_take ∈ ALL := al_4 (List.mem_of_getElem? (i := 70) rfl) rfl
theorem wm_L_151 : Cond.methodLink RL 151 yX6_turns ∈ ALL := al_4 (List.mem_of_getElem? (i := 71) rfl) rfl
theorem wi_X6_turns : Cond.instanceMethod yX6_turns ∈ ALL := al_4 (List.mem_of_getElem? (i := 72) rfl) rfl
theorem ws_X6_turns : Cond.selects RX6 yX6_turns yX6_turns ∈ ALL := al_4 (List.mem_of_getElem? (i := 73) rfl) rfl
theorem wc_X6_turns : Cond.code yX6_turns cX6_turns 3 (some .int) ∈ ALL := al_4 (List.mem_of_getElem? (i := 74) rfl) rfl
theorem wm_X6_300 : Cond.methodLink RX6 300 yX1_duel ∈ ALL := al_4 (List.mem_of_getElem? (i := 75) rfl) rfl
theorem wi_X1_duel : Cond.instanceMethod yX1_duel ∈ ALL := al_4 (List.mem_of_getElem? (i := 76) rfl) rfl
theorem ws_X1_duel : Cond.selects RX1 yX1_duel yX1_duel ∈ ALL := al_4 (List.mem_of_getElem? (i := 77) rfl) rfl
theorem wc_X1_duel : Cond.code yX1_duel cX1_duel 5 (some .int) ∈ ALL := al_4 (List.mem_of_getElem? (i := 78) rfl) rfl
theorem wm_X1_65 : Cond.methodLink RX1 65 yX1_valueOfDuel ∈ ALL := al_4 (List.mem_of_getElem? (i := 79) rfl) rfl
theorem wt_X1_valueOfDuel : Cond.static yX1_valueOfDuel ∈ ALL := al_4 (List.mem_of_getElem? (i := 80) rfl) rfl
theorem wc_X1_valueOfDuel : Cond.code yX1_valueOfDuel cX1_valueOfDuel 9 (some .int) ∈ ALL := al_4 (List.mem_of_getElem? (i := 81) rfl) rfl
theorem wm_X1_126 : Cond.methodLink RX1 126 yX3_sentBy ∈ ALL := al_4 (List.mem_of_getElem? (i := 82) rfl) rfl
theorem wi_X3_sentBy : Cond.instanceMethod yX3_sentBy ∈ ALL := al_4 (List.mem_of_getElem? (i := 83) rfl) rfl
theorem ws_X3_sentBy : Cond.selects RX3 yX3_sentBy yX3_sentBy ∈ ALL := al_4 (List.mem_of_getElem? (i := 84) rfl) rfl
theorem wc_X3_sentBy : Cond.code yX3_sentBy cX3_sentBy 4 (some .int) ∈ ALL := al_4 (List.mem_of_getElem? (i := 85) rfl) rfl
theorem wm_X6_304 : Cond.methodLink RX6 304 yX1_firstOfDuel ∈ ALL := al_4 (List.mem_of_getElem? (i := 86) rfl) rfl
theorem wi_X1_firstOfDuel : Cond.instanceMethod yX1_firstOfDuel ∈ ALL := al_4 (List.mem_of_getElem? (i := 87) rfl) rfl
theorem ws_X1_firstOfDuel : Cond.selects RX1 yX1_firstOfDuel yX1_firstOfDuel ∈ ALL := al_4 (List.mem_of_getElem? (i := 88) rfl) rfl
theorem wc_X1_firstOfDuel : Cond.code yX1_firstOfDuel cX1_firstOfDuel 1 (some .int) ∈ ALL := al_4 (List.mem_of_getElem? (i := 89) rfl) rfl
theorem wm_L_155 : Cond.methodLink RL 155 yX6_fits ∈ ALL := al_4 (List.mem_of_getElem? (i := 90) rfl) rfl
theorem wi_X6_fits : Cond.instanceMethod yX6_fits ∈ ALL := al_4 (List.mem_of_getElem? (i := 91) rfl) rfl
theorem ws_X6_fits : Cond.selects RX6 yX6_fits yX6_fits ∈ ALL := al_4 (List.mem_of_getElem? (i := 92) rfl) rfl
theorem wc_X6_fits : Cond.code yX6_fits cX6_fits 5 (some .int) ∈ ALL := al_4 (List.mem_of_getElem? (i := 93) rfl) rfl
theorem wm_X6_307 : Cond.methodLink RX6 307 yX6_bookRefused ∈ ALL := al_4 (List.mem_of_getElem? (i := 94) rfl) rfl
theorem wi_X6_bookRefused : Cond.instanceMethod yX6_bookRefused ∈ ALL := al_4 (List.mem_of_getElem? (i := 96) rfl) rfl
theorem wc_X6_bookRefused : Cond.code yX6_bookRefused cX6_bookRefused 3 (some .int) ∈ ALL := al_4 (List.mem_of_getElem? (i := 97) rfl) rfl
theorem wm_X6_310 : Cond.methodLink RX6 310 yX6_fittingPatiences ∈ ALL := al_4 (List.mem_of_getElem? (i := 98) rfl) rfl
theorem wi_X6_fittingPatiences : Cond.instanceMethod yX6_fittingPatiences ∈ ALL := al_4 (List.mem_of_getElem? (i := 100) rfl) rfl
theorem wc_X6_fittingPatiences : Cond.code yX6_fittingPatiences cX6_fittingPatiences 6 (some .int) ∈ ALL := al_4 (List.mem_of_getElem? (i := 101) rfl) rfl
theorem wm_X6_381 : Cond.methodLink RX6 381 yX6_bookFitsOthers ∈ ALL := al_4 (List.mem_of_getElem? (i := 102) rfl) rfl
theorem wi_X6_bookFitsOthers : Cond.instanceMethod yX6_bookFitsOthers ∈ ALL := al_4 (List.mem_of_getElem? (i := 104) rfl) rfl
theorem wc_X6_bookFitsOthers : Cond.code yX6_bookFitsOthers cX6_bookFitsOthers 5 (some .boolean) ∈ ALL := al_4 (List.mem_of_getElem? (i := 105) rfl) rfl
theorem wm_L_159 : Cond.methodLink RL 159 yX6_whose ∈ ALL := al_4 (List.mem_of_getElem? (i := 106) rfl) rfl
theorem wi_X6_whose : Cond.instanceMethod yX6_whose ∈ ALL := al_4 (List.mem_of_getElem? (i := 107) rfl) rfl
theorem ws_X6_whose : Cond.selects RX6 yX6_whose yX6_whose ∈ ALL := al_4 (List.mem_of_getElem? (i := 108) rfl) rfl
theorem wc_X6_whose : Cond.code yX6_whose cX6_whose 8 (some .int) ∈ ALL := al_4 (List.mem_of_getElem? (i := 109) rfl) rfl
theorem wm_X6_314 : Cond.methodLink RX6 314 yJ6_bitCount_0f7a4 ∈ ALL := al_4 (List.mem_of_getElem? (i := 110) rfl) rfl
theorem wm_L_163 : Cond.methodLink RL 163 yX6_ask ∈ ALL := al_4 (List.mem_of_getElem? (i := 111) rfl) rfl
theorem wi_X6_ask : Cond.instanceMethod yX6_ask ∈ ALL := al_4 (List.mem_of_getElem? (i := 112) rfl) rfl
theorem ws_X6_ask : Cond.selects RX6 yX6_ask yX6_ask ∈ ALL := al_4 (List.mem_of_getElem? (i := 113) rfl) rfl
theorem wc_X6_ask : Cond.code yX6_ask cX6_ask 6 (some .int) ∈ ALL := al_4 (List.mem_of_getElem? (i := 114) rfl) rfl
theorem wm_X6_319 : Cond.methodLink RX6 319 yX6_mostLeftBy ∈ ALL := al_4 (List.mem_of_getElem? (i := 115) rfl) rfl
theorem wi_X6_mostLeftBy : Cond.instanceMethod yX6_mostLeftBy ∈ ALL := al_4 (List.mem_of_getElem? (i := 117) rfl) rfl
theorem wc_X6_mostLeftBy : Cond.code yX6_mostLeftBy cX6_mostLeftBy 7 (some .int) ∈ ALL := al_4 (List.mem_of_getElem? (i := 118) rfl) rfl
theorem wm_L_167 : Cond.methodLink RL 167 yX6_year ∈ ALL := al_4 (List.mem_of_getElem? (i := 119) rfl) rfl
theorem wi_X6_year : Cond.instanceMethod yX6_year ∈ ALL := al_4 (List.mem_of_getElem? (i := 120) rfl) rfl
theorem ws_X6_year : Cond.selects RX6 yX6_year yX6_year ∈ ALL := al_4 (List.mem_of_getElem? (i := 121) rfl) rfl
theorem wc_X6_year : Cond.code yX6_year cX6_year 8 (some .int) ∈ ALL := al_4 (List.mem_of_getElem? (i := 122) rfl) rfl
theorem wk_X6_322 : Cond.constant RX6 322 (2147483647) ∈ ALL := al_4 (List.mem_of_getElem? (i := 123) rfl) rfl
theorem wk_X6_323 : Cond.constantLong RX6 323 (48271) ∈ ALL := al_4 (List.mem_of_getElem? (i := 124) rfl) rfl
theorem wk_X6_325 : Cond.constantLong RX6 325 (2147483647) ∈ ALL := al_4 (List.mem_of_getElem? (i := 125) rfl) rfl
theorem wk_X6_327 : Cond.constantLong RX6 327 (13) ∈ ALL := al_4 (List.mem_of_getElem? (i := 126) rfl) rfl
theorem wm_L_171 : Cond.methodLink RL 171 yX6_asked ∈ ALL := al_4 (List.mem_of_getElem? (i := 127) rfl) rfl
theorem wi_X6_asked : Cond.instanceMethod yX6_asked ∈ ALL := al_4 (List.mem_of_getElem? (i := 128) rfl) rfl
theorem ws_X6_asked : Cond.selects RX6 yX6_asked yX6_asked ∈ ALL := al_4 (List.mem_of_getElem? (i := 129) rfl) rfl
theorem wc_X6_asked : Cond.code yX6_asked cX6_asked 1 (some .int) ∈ ALL := al_4 (List.mem_of_getElem? (i := 130) rfl) rfl
theorem wm_L_175 : Cond.methodLink RL 175 yX6_upper ∈ ALL := al_4 (List.mem_of_getElem? (i := 131) rfl) rfl
theorem wi_X6_upper : Cond.instanceMethod yX6_upper ∈ ALL := al_4 (List.mem_of_getElem? (i := 132) rfl) rfl
theorem ws_X6_upper : Cond.selects RX6 yX6_upper yX6_upper ∈ ALL := al_4 (List.mem_of_getElem? (i := 133) rfl) rfl
theorem wc_X6_upper : Cond.code yX6_upper cX6_upper 1 (some .long) ∈ ALL := al_4 (List.mem_of_getElem? (i := 134) rfl) rfl
theorem wm_L_180 : Cond.methodLink RL 180 yX6_lower ∈ ALL := al_4 (List.mem_of_getElem? (i := 135) rfl) rfl
theorem wi_X6_lower : Cond.instanceMethod yX6_lower ∈ ALL := al_4 (List.mem_of_getElem? (i := 136) rfl) rfl
theorem ws_X6_lower : Cond.selects RX6 yX6_lower yX6_lower ∈ ALL := al_4 (List.mem_of_getElem? (i := 137) rfl) rfl
theorem wc_X6_lower : Cond.code yX6_lower cX6_lower 1 (some .long) ∈ ALL := al_4 (List.mem_of_getElem? (i := 138) rfl) rfl
theorem wm_L_184 : Cond.methodLink RL 184 yX6_count ∈ ALL := al_4 (List.mem_of_getElem? (i := 139) rfl) rfl
theorem wi_X6_count : Cond.instanceMethod yX6_count ∈ ALL := al_4 (List.mem_of_getElem? (i := 140) rfl) rfl
theorem ws_X6_count : Cond.selects RX6 yX6_count yX6_count ∈ ALL := al_4 (List.mem_of_getElem? (i := 141) rfl) rfl
theorem wc_X6_count : Cond.code yX6_count cX6_count 2 (some .int) ∈ ALL := al_4 (List.mem_of_getElem? (i := 142) rfl) rfl
theorem wm_X6_332 : Cond.methodLink RX6 332 yX0_howManyOfKind ∈ ALL := al_4 (List.mem_of_getElem? (i := 143) rfl) rfl
theorem wi_X0_howManyOfKind : Cond.instanceMethod yX0_howManyOfKind ∈ ALL := al_4 (List.mem_of_getElem? (i := 144) rfl) rfl
theorem ws_X0_howManyOfKind : Cond.selects RX0 yX0_howManyOfKind yX0_howManyOfKind ∈ ALL := al_4 (List.mem_of_getElem? (i := 145) rfl) rfl
theorem wc_X0_howManyOfKind : Cond.code yX0_howManyOfKind cX0_howManyOfKind 4 (some .int) ∈ ALL := al_4 (List.mem_of_getElem? (i := 146) rfl) rfl
theorem wm_X6_335 : Cond.methodLink RX6 335 yX6_howManyKept ∈ ALL := al_4 (List.mem_of_getElem? (i := 147) rfl) rfl
theorem wi_X6_howManyKept : Cond.instanceMethod yX6_howManyKept ∈ ALL := al_4 (List.mem_of_getElem? (i := 149) rfl) rfl
theorem wc_X6_howManyKept : Cond.code yX6_howManyKept cX6_howManyKept 3 (some .int) ∈ ALL := al_4 (List.mem_of_getElem? (i := 150) rfl) rfl
theorem wm_X6_338 : Cond.methodLink RX6 338 yX4_howManyThere ∈ ALL := al_4 (List.mem_of_getElem? (i := 151) rfl) rfl
theorem wi_X4_howManyThere : Cond.instanceMethod yX4_howManyThere ∈ ALL := al_4 (List.mem_of_getElem? (i := 152) rfl) rfl
theorem ws_X4_howManyThere : Cond.selects RX4 yX4_howManyThere yX4_howManyThere ∈ ALL := al_4 (List.mem_of_getElem? (i := 153) rfl) rfl
theorem wc_X4_howManyThere : Cond.code yX4_howManyThere cX4_howManyThere 3 (some .int) ∈ ALL := al_4 (List.mem_of_getElem? (i := 154) rfl) rfl
theorem wm_L_188 : Cond.methodLink RL 188 yX6_finding ∈ ALL := al_4 (List.mem_of_getElem? (i := 155) rfl) rfl
theorem wi_X6_finding : Cond.instanceMethod yX6_finding ∈ ALL := al_4 (List.mem_of_getElem? (i := 156) rfl) rfl
theorem ws_X6_finding : Cond.selects RX6 yX6_finding yX6_finding ∈ ALL := al_4 (List.mem_of_getElem? (i := 157) rfl) rfl
theorem wc_X6_finding : Cond.code yX6_finding cX6_finding 1 (some .int) ∈ ALL := al_4 (List.mem_of_getElem? (i := 158) rfl) rfl
theorem wm_L_192 : Cond.methodLink RL 192 yX6_findings ∈ ALL := al_4 (List.mem_of_getElem? (i := 159) rfl) rfl
theorem wi_X6_findings : Cond.instanceMethod yX6_findings ∈ ALL := al_4 (List.mem_of_getElem? (i := 160) rfl) rfl
theorem ws_X6_findings : Cond.selects RX6 yX6_findings yX6_findings ∈ ALL := al_4 (List.mem_of_getElem? (i := 161) rfl) rfl
theorem wc_X6_findings : Cond.code yX6_findings cX6_findings 2 (some .int) ∈ ALL := al_4 (List.mem_of_getElem? (i := 162) rfl) rfl
theorem wm_L_196 : Cond.methodLink RL 196 yX6_digest ∈ ALL := al_4 (List.mem_of_getElem? (i := 163) rfl) rfl
theorem wi_X6_digest : Cond.instanceMethod yX6_digest ∈ ALL := al_4 (List.mem_of_getElem? (i := 164) rfl) rfl
theorem ws_X6_digest : Cond.selects RX6 yX6_digest yX6_digest ∈ ALL := al_4 (List.mem_of_getElem? (i := 165) rfl) rfl
theorem wc_X6_digest : Cond.code yX6_digest cX6_digest 5 (some .long) ∈ ALL := al_4 (List.mem_of_getElem? (i := 166) rfl) rfl
theorem wk_X6_341 : Cond.constantLong RX6 341 (17) ∈ ALL := al_4 (List.mem_of_getElem? (i := 167) rfl) rfl
theorem wk_X6_343 : Cond.constantLong RX6 343 (31) ∈ ALL := al_4 (List.mem_of_getElem? (i := 168) rfl) rfl
theorem wm_X6_345 : Cond.methodLink RX6 345 yX6_count ∈ ALL := al_4 (List.mem_of_getElem? (i := 169) rfl) rfl
theorem wm_X6_348 : Cond.methodLink RX6 348 yX4_digestOnto ∈ ALL := al_4 (List.mem_of_getElem? (i := 170) rfl) rfl
theorem wi_X4_digestOnto : Cond.instanceMethod yX4_digestOnto ∈ ALL := al_4 (List.mem_of_getElem? (i := 171) rfl) rfl
theorem ws_X4_digestOnto : Cond.selects RX4 yX4_digestOnto yX4_digestOnto ∈ ALL := al_4 (List.mem_of_getElem? (i := 172) rfl) rfl
theorem wc_X4_digestOnto : Cond.code yX4_digestOnto cX4_digestOnto 7 (some .long) ∈ ALL := al_4 (List.mem_of_getElem? (i := 173) rfl) rfl
theorem wk_X4_60 : Cond.constantLong RX4 60 (31) ∈ ALL := al_4 (List.mem_of_getElem? (i := 174) rfl) rfl
theorem wl_L_10 : Cond.classLink RL 10 RX7 ∈ ALL := al_4 (List.mem_of_getElem? (i := 175) rfl) rfl
theorem wn_X7 : Cond.instantiable RX7 39 ∈ ALL := al_4 (List.mem_of_getElem? (i := 176) rfl) rfl
theorem wm_L_12 : Cond.methodLink RL 12 yX7_init ∈ ALL := al_4 (List.mem_of_getElem? (i := 177) rfl) rfl
theorem wi_X7_init : Cond.instanceMethod yX7_init ∈ ALL := al_4 (List.mem_of_getElem? (i := 178) rfl) rfl
theorem wc_X7_init : Cond.code yX7_init cX7_init 2 none ∈ ALL := al_4 (List.mem_of_getElem? (i := 179) rfl) rfl
theorem wm_X7_1 : Cond.methodLink RX7 1 objectInit ∈ ALL := al_4 (List.mem_of_getElem? (i := 180) rfl) rfl
theorem wf_X7_77 : Cond.fieldLink RX7 77 "OfferTurnModel" "latest" "I" ∈ ALL := al_4 (List.mem_of_getElem? (i := 181) rfl) rfl
theorem wf_X7_7 : Cond.fieldLink RX7 7 "OfferTurnModel" "came" "[I" ∈ ALL := al_4 (List.mem_of_getElem? (i := 182) rfl) rfl
theorem wf_X7_84 : Cond.fieldLink RX7 84 "OfferTurnModel" "asked" "I" ∈ ALL := al_4 (List.mem_of_getElem? (i := 183) rfl) rfl
theorem wf_X7_87 : Cond.fieldLink RX7 87 "OfferTurnModel" "upper" "J" ∈ ALL := al_4 (List.mem_of_getElem? (i := 184) rfl) rfl
theorem wf_X7_73 : Cond.fieldLink RX7 73 "OfferTurnModel" "lower" "J" ∈ ALL := al_4 (List.mem_of_getElem? (i := 185) rfl) rfl
theorem wf_X7_13 : Cond.fieldLink RX7 13 "OfferTurnModel" "sizes" "[I" ∈ ALL := al_4 (List.mem_of_getElem? (i := 186) rfl) rfl
theorem wf_X7_16 : Cond.fieldLink RX7 16 "OfferTurnModel" "rows" "[I" ∈ ALL := al_4 (List.mem_of_getElem? (i := 187) rfl) rfl
theorem wf_X7_19 : Cond.fieldLink RX7 19 "OfferTurnModel" "copied" "[I" ∈ ALL := al_4 (List.mem_of_getElem? (i := 188) rfl) rfl
theorem wf_X7_22 : Cond.fieldLink RX7 22 "OfferTurnModel" "textSizes" "[I" ∈ ALL := al_4 (List.mem_of_getElem? (i := 189) rfl) rfl
theorem wf_X7_25 : Cond.fieldLink RX7 25 "OfferTurnModel" "bytes" "[B" ∈ ALL := al_4 (List.mem_of_getElem? (i := 190) rfl) rfl
theorem wf_X7_139 : Cond.fieldLink RX7 139 "OfferTurnModel" "n" "I" ∈ ALL := al_4 (List.mem_of_getElem? (i := 191) rfl) rfl
theorem wf_X7_29 : Cond.fieldLink RX7 29 "OfferTurnModel" "gods" "[I" ∈ ALL := al_4 (List.mem_of_getElem? (i := 192) rfl) rfl
theorem wf_X7_108 : Cond.fieldLink RX7 108 "OfferTurnModel" "readAt" "I" ∈ ALL := al_4 (List.mem_of_getElem? (i := 193) rfl) rfl
theorem wf_X7_114 : Cond.fieldLink RX7 114 "OfferTurnModel" "readNumber" "I" ∈ ALL := al_4 (List.mem_of_getElem? (i := 194) rfl) rfl
theorem wf_X7_120 : Cond.fieldLink RX7 120 "OfferTurnModel" "readStores" "Z" ∈ ALL := al_4 (List.mem_of_getElem? (i := 195) rfl) rfl
theorem wf_X7_127 : Cond.fieldLink RX7 127 "OfferTurnModel" "readMany" "I" ∈ ALL := al_4 (List.mem_of_getElem? (i := 196) rfl) rfl
theorem wf_X7_32 : Cond.fieldLink RX7 32 "OfferTurnModel" "readStore" "[I" ∈ ALL := al_4 (List.mem_of_getElem? (i := 197) rfl) rfl
theorem wf_X7_35 : Cond.fieldLink RX7 35 "OfferTurnModel" "readGods" "[I" ∈ ALL := al_4 (List.mem_of_getElem? (i := 198) rfl) rfl
theorem wf_X7_38 : Cond.fieldLink RX7 38 "OfferTurnModel" "rowsOf" "[I" ∈ ALL := al_4 (List.mem_of_getElem? (i := 199) rfl) rfl
theorem wf_X7_41 : Cond.fieldLink RX7 41 "OfferTurnModel" "sentNow" "[I" ∈ ALL := al_4 (List.mem_of_getElem? (i := 200) rfl) rfl
theorem wf_X7_186 : Cond.fieldLink RX7 186 "OfferTurnModel" "worthNow" "I" ∈ ALL := al_4 (List.mem_of_getElem? (i := 201) rfl) rfl
theorem wf_X7_189 : Cond.fieldLink RX7 189 "OfferTurnModel" "harmNow" "I" ∈ ALL := al_4 (List.mem_of_getElem? (i := 202) rfl) rfl
theorem wf_X7_198 : Cond.fieldLink RX7 198 "OfferTurnModel" "costNow" "I" ∈ ALL := al_4 (List.mem_of_getElem? (i := 203) rfl) rfl
theorem wf_X7_44 : Cond.fieldLink RX7 44 "OfferTurnModel" "days" "[I" ∈ ALL := al_4 (List.mem_of_getElem? (i := 204) rfl) rfl
theorem wf_X7_47 : Cond.fieldLink RX7 47 "OfferTurnModel" "isKept" "[Z" ∈ ALL := al_4 (List.mem_of_getElem? (i := 205) rfl) rfl
theorem wf_X7_51 : Cond.fieldLink RX7 51 "OfferTurnModel" "keptNow" "[I" ∈ ALL := al_4 (List.mem_of_getElem? (i := 206) rfl) rfl
theorem wf_X7_54 : Cond.fieldLink RX7 54 "OfferTurnModel" "keptPatience" "[I" ∈ ALL := al_4 (List.mem_of_getElem? (i := 207) rfl) rfl
theorem wf_X7_57 : Cond.fieldLink RX7 57 "OfferTurnModel" "keptDays" "[I" ∈ ALL := al_4 (List.mem_of_getElem? (i := 208) rfl) rfl
theorem wf_X7_60 : Cond.fieldLink RX7 60 "OfferTurnModel" "plan" "[I" ∈ ALL := al_4 (List.mem_of_getElem? (i := 209) rfl) rfl
theorem wf_X7_226 : Cond.fieldLink RX7 226 "OfferTurnModel" "planLong" "I" ∈ ALL := al_4 (List.mem_of_getElem? (i := 210) rfl) rfl
theorem wf_X7_237 : Cond.fieldLink RX7 237 "OfferTurnModel" "planWorth" "I" ∈ ALL := al_4 (List.mem_of_getElem? (i := 211) rfl) rfl
theorem wf_X7_240 : Cond.fieldLink RX7 240 "OfferTurnModel" "planHarm" "I" ∈ ALL := al_4 (List.mem_of_getElem? (i := 212) rfl) rfl
theorem wf_X7_249 : Cond.fieldLink RX7 249 "OfferTurnModel" "planGood" "I" ∈ ALL := al_4 (List.mem_of_getElem? (i := 213) rfl) rfl
theorem wf_X7_243 : Cond.fieldLink RX7 243 "OfferTurnModel" "planFood" "I" ∈ ALL := al_4 (List.mem_of_getElem? (i := 214) rfl) rfl
theorem wf_X7_63 : Cond.fieldLink RX7 63 "OfferTurnModel" "starved" "I" ∈ ALL := al_4 (List.mem_of_getElem? (i := 215) rfl) rfl
theorem wf_X7_67 : Cond.fieldLink RX7 67 "OfferTurnModel" "firstPlan" "[I" ∈ ALL := al_4 (List.mem_of_getElem? (i := 216) rfl) rfl
theorem wf_X7_280 : Cond.fieldLink RX7 280 "OfferTurnModel" "firstOffer" "I" ∈ ALL := al_4 (List.mem_of_getElem? (i := 217) rfl) rfl
theorem wf_X7_70 : Cond.fieldLink RX7 70 "OfferTurnModel" "worthBy" "[I" ∈ ALL := al_4 (List.mem_of_getElem? (i := 218) rfl) rfl
theorem wf_X7_321 : Cond.fieldLink RX7 321 "OfferTurnModel" "hash" "J" ∈ ALL := al_4 (List.mem_of_getElem? (i := 219) rfl) rfl
theorem wy_X7_latest : Cond.lays RX7 "OfferTurnModel" "latest" "I" ∈ ALL := al_4 (List.mem_of_getElem? (i := 220) rfl) rfl
theorem wy_X7_came : Cond.laysFinal RX7 "OfferTurnModel" "came" "[I" ∈ ALL := al_4 (List.mem_of_getElem? (i := 222) rfl) rfl
theorem wy_X7_asked : Cond.lays RX7 "OfferTurnModel" "asked" "I" ∈ ALL := al_4 (List.mem_of_getElem? (i := 224) rfl) rfl
theorem wy_X7_upper : Cond.lays RX7 "OfferTurnModel" "upper" "J" ∈ ALL := al_4 (List.mem_of_getElem? (i := 226) rfl) rfl
theorem wy_X7_lower : Cond.lays RX7 "OfferTurnModel" "lower" "J" ∈ ALL := al_4 (List.mem_of_getElem? (i := 228) rfl) rfl
theorem wy_X7_sizes : Cond.laysFinal RX7 "OfferTurnModel" "sizes" "[I" ∈ ALL := al_4 (List.mem_of_getElem? (i := 230) rfl) rfl
theorem wy_X7_rows : Cond.laysFinal RX7 "OfferTurnModel" "rows" "[I" ∈ ALL := al_4 (List.mem_of_getElem? (i := 232) rfl) rfl
theorem wy_X7_copied : Cond.laysFinal RX7 "OfferTurnModel" "copied" "[I" ∈ ALL := al_4 (List.mem_of_getElem? (i := 234) rfl) rfl
theorem wy_X7_textSizes : Cond.laysFinal RX7 "OfferTurnModel" "textSizes" "[I" ∈ ALL := al_4 (List.mem_of_getElem? (i := 236) rfl) rfl
theorem wy_X7_bytes : Cond.laysFinal RX7 "OfferTurnModel" "bytes" "[B" ∈ ALL := al_4 (List.mem_of_getElem? (i := 238) rfl) rfl
theorem wy_X7_n : Cond.lays RX7 "OfferTurnModel" "n" "I" ∈ ALL := al_5 (List.mem_of_getElem? (i := 0) rfl) rfl
theorem wy_X7_gods : Cond.laysFinal RX7 "OfferTurnModel" "gods" "[I" ∈ ALL := al_5 (List.mem_of_getElem? (i := 2) rfl) rfl
theorem wy_X7_readAt : Cond.lays RX7 "OfferTurnModel" "readAt" "I" ∈ ALL := al_5 (List.mem_of_getElem? (i := 4) rfl) rfl
theorem wy_X7_readNumber : Cond.lays RX7 "OfferTurnModel" "readNumber" "I" ∈ ALL := al_5 (List.mem_of_getElem? (i := 6) rfl) rfl
theorem wy_X7_readStores : Cond.lays RX7 "OfferTurnModel" "readStores" "Z" ∈ ALL := al_5 (List.mem_of_getElem? (i := 8) rfl) rfl
theorem wy_X7_readMany : Cond.lays RX7 "OfferTurnModel" "readMany" "I" ∈ ALL := al_5 (List.mem_of_getElem? (i := 10) rfl) rfl
theorem wy_X7_readStore : Cond.laysFinal RX7 "OfferTurnModel" "readStore" "[I" ∈ ALL := al_5 (List.mem_of_getElem? (i := 12) rfl) rfl
theorem wy_X7_readGods : Cond.laysFinal RX7 "OfferTurnModel" "readGods" "[I" ∈ ALL := al_5 (List.mem_of_getElem? (i := 14) rfl) rfl
theorem wy_X7_rowsOf : Cond.laysFinal RX7 "OfferTurnModel" "rowsOf" "[I" ∈ ALL := al_5 (List.mem_of_getElem? (i := 16) rfl) rfl
theorem wy_X7_sentNow : Cond.laysFinal RX7 "OfferTurnModel" "sentNow" "[I" ∈ ALL := al_5 (List.mem_of_getElem? (i := 18) rfl) rfl
theorem wy_X7_worthNow : Cond.lays RX7 "OfferTurnModel" "worthNow" "I" ∈ ALL := al_5 (List.mem_of_getElem? (i := 20) rfl) rfl
theorem wy_X7_harmNow : Cond.lays RX7 "OfferTurnModel" "harmNow" "I" ∈ ALL := al_5 (List.mem_of_getElem? (i := 22) rfl) rfl
theorem wy_X7_costNow : Cond.lays RX7 "OfferTurnModel" "costNow" "I" ∈ ALL := al_5 (List.mem_of_getElem? (i := 24) rfl) rfl
theorem wy_X7_days : Cond.laysFinal RX7 "OfferTurnModel" "days" "[I" ∈ ALL := al_5 (List.mem_of_getElem? (i := 26) rfl) rfl
theorem wy_X7_isKept : Cond.laysFinal RX7 "OfferTurnModel" "isKept" "[Z" ∈ ALL := al_5 (List.mem_of_getElem? (i := 28) rfl) rfl
theorem wy_X7_keptNow : Cond.laysFinal RX7 "OfferTurnModel" "keptNow" "[I" ∈ ALL := al_5 (List.mem_of_getElem? (i := 30) rfl) rfl
theorem wy_X7_keptPatience : Cond.laysFinal RX7 "OfferTurnModel" "keptPatience" "[I" ∈ ALL := al_5 (List.mem_of_getElem? (i := 32) rfl) rfl
theorem wy_X7_keptDays : Cond.laysFinal RX7 "OfferTurnModel" "keptDays" "[I" ∈ ALL := al_5 (List.mem_of_getElem? (i := 34) rfl) rfl
theorem wy_X7_plan : Cond.laysFinal RX7 "OfferTurnModel" "plan" "[I" ∈ ALL := al_5 (List.mem_of_getElem? (i := 36) rfl) rfl
theorem wy_X7_planLong : Cond.lays RX7 "OfferTurnModel" "planLong" "I" ∈ ALL := al_5 (List.mem_of_getElem? (i := 38) rfl) rfl
theorem wy_X7_planWorth : Cond.lays RX7 "OfferTurnModel" "planWorth" "I" ∈ ALL := al_5 (List.mem_of_getElem? (i := 40) rfl) rfl
theorem wy_X7_planHarm : Cond.lays RX7 "OfferTurnModel" "planHarm" "I" ∈ ALL := al_5 (List.mem_of_getElem? (i := 42) rfl) rfl
theorem wy_X7_planGood : Cond.lays RX7 "OfferTurnModel" "planGood" "I" ∈ ALL := al_5 (List.mem_of_getElem? (i := 44) rfl) rfl
theorem wy_X7_planFood : Cond.lays RX7 "OfferTurnModel" "planFood" "I" ∈ ALL := al_5 (List.mem_of_getElem? (i := 46) rfl) rfl
theorem wy_X7_starved : Cond.lays RX7 "OfferTurnModel" "starved" "I" ∈ ALL := al_5 (List.mem_of_getElem? (i := 48) rfl) rfl
theorem wy_X7_firstPlan : Cond.laysFinal RX7 "OfferTurnModel" "firstPlan" "[I" ∈ ALL := al_5 (List.mem_of_getElem? (i := 50) rfl) rfl
theorem wy_X7_firstOffer : Cond.lays RX7 "OfferTurnModel" "firstOffer" "I" ∈ ALL := al_5 (List.mem_of_getElem? (i := 52) rfl) rfl
theorem wy_X7_worthBy : Cond.laysFinal RX7 "OfferTurnModel" "worthBy" "[I" ∈ ALL := al_5 (List.mem_of_getElem? (i := 54) rfl) rfl
theorem wy_X7_hash : Cond.lays RX7 "OfferTurnModel" "hash" "J" ∈ ALL := al_5 (List.mem_of_getElem? (i := 56) rfl) rfl
theorem wa_byte : Cond.arrayClass Jvm.ClassFile.FieldType.byte ∈ ALL := al_5 (List.mem_of_getElem? (i := 59) rfl) rfl
theorem wa_boolean : Cond.arrayClass Jvm.ClassFile.FieldType.boolean ∈ ALL := al_5 (List.mem_of_getElem? (i := 60) rfl) rfl
theorem wm_L_191 : Cond.methodLink RL 191 yX7_finding ∈ ALL := al_5 (List.mem_of_getElem? (i := 61) rfl) rfl
theorem wi_X7_finding : Cond.instanceMethod yX7_finding ∈ ALL := al_5 (List.mem_of_getElem? (i := 62) rfl) rfl
theorem ws_X7_finding : Cond.selects RX7 yX7_finding yX7_finding ∈ ALL := al_5 (List.mem_of_getElem? (i := 63) rfl) rfl
theorem wc_X7_finding : Cond.code yX7_finding cX7_finding 1 (some .int) ∈ ALL := al_5 (List.mem_of_getElem? (i := 64) rfl) rfl
theorem wm_L_195 : Cond.methodLink RL 195 yX7_findings ∈ ALL := al_5 (List.mem_of_getElem? (i := 65) rfl) rfl
theorem wi_X7_findings : Cond.instanceMethod yX7_findings ∈ ALL := al_5 (List.mem_of_getElem? (i := 66) rfl) rfl
theorem ws_X7_findings : Cond.selects RX7 yX7_findings yX7_findings ∈ ALL := al_5 (List.mem_of_getElem? (i := 67) rfl) rfl
theorem wc_X7_findings : Cond.code yX7_findings cX7_findings 2 (some .int) ∈ ALL := al_5 (List.mem_of_getElem? (i := 68) rfl) rfl
theorem wm_X7_80 : Cond.methodLink RX7 80 yX7_in ∈ ALL := al_5 (List.mem_of_getElem? (i := 69) rfl) rfl
theorem wt_X7_in : Cond.static yX7_in ∈ ALL := al_5 (List.mem_of_getElem? (i := 70) rfl) rfl
theorem wc_X7_in : Cond.code yX7_in cX7_in 3 (some .boolean) ∈ ALL := al_5 (List.mem_of_getElem? (i := 71) rfl) rfl
theorem wm_L_174 : Cond.methodLink RL 174 yX7_asked ∈ ALL := al_5 (List.mem_of_getElem? (i := 72) rfl) rfl
theorem wi_X7_asked : Cond.instanceMethod yX7_asked ∈ ALL := al_5 (List.mem_of_getElem? (i := 73) rfl) rfl
theorem ws_X7_asked : Cond.selects RX7 yX7_asked yX7_asked ∈ ALL := al_5 (List.mem_of_getElem? (i := 74) rfl) rfl
theorem wc_X7_asked : Cond.code yX7_asked cX7_asked 1 (some .int) ∈ ALL := al_5 (List.mem_of_getElem? (i := 75) rfl) rfl
theorem wm_L_179 : Cond.methodLink RL 179 yX7_upper ∈ ALL := al_5 (List.mem_of_getElem? (i := 76) rfl) rfl
theorem wi_X7_upper : Cond.instanceMethod yX7_upper ∈ ALL := al_5 (List.mem_of_getElem? (i := 77) rfl) rfl
theorem ws_X7_upper : Cond.selects RX7 yX7_upper yX7_upper ∈ ALL := al_5 (List.mem_of_getElem? (i := 78) rfl) rfl
theorem wc_X7_upper : Cond.code yX7_upper cX7_upper 1 (some .long) ∈ ALL := al_5 (List.mem_of_getElem? (i := 79) rfl) rfl
theorem wm_L_183 : Cond.methodLink RL 183 yX7_lower ∈ ALL := al_5 (List.mem_of_getElem? (i := 80) rfl) rfl
theorem wi_X7_lower : Cond.instanceMethod yX7_lower ∈ ALL := al_5 (List.mem_of_getElem? (i := 81) rfl) rfl
theorem ws_X7_lower : Cond.selects RX7 yX7_lower yX7_lower ∈ ALL := al_5 (List.mem_of_getElem? (i := 82) rfl) rfl
theorem wc_X7_lower : Cond.code yX7_lower cX7_lower 1 (some .long) ∈ ALL := al_5 (List.mem_of_getElem? (i := 83) rfl) rfl
theorem wm_L_17 : Cond.methodLink RL 17 yX7_row ∈ ALL := al_5 (List.mem_of_getElem? (i := 84) rfl) rfl
theorem wi_X7_row : Cond.instanceMethod yX7_row ∈ ALL := al_5 (List.mem_of_getElem? (i := 85) rfl) rfl
theorem ws_X7_row : Cond.selects RX7 yX7_row yX7_row ∈ ALL := al_5 (List.mem_of_getElem? (i := 86) rfl) rfl
theorem wc_X7_row : Cond.code yX7_row cX7_row 4 (some .int) ∈ ALL := al_5 (List.mem_of_getElem? (i := 87) rfl) rfl
theorem wm_X7_90 : Cond.methodLink RX7 90 yX7_isRow ∈ ALL := al_5 (List.mem_of_getElem? (i := 88) rfl) rfl
theorem wt_X7_isRow : Cond.static yX7_isRow ∈ ALL := al_5 (List.mem_of_getElem? (i := 89) rfl) rfl
theorem wc_X7_isRow : Cond.code yX7_isRow cX7_isRow 1 (some .boolean) ∈ ALL := al_5 (List.mem_of_getElem? (i := 90) rfl) rfl
theorem wm_X7_94 : Cond.methodLink RX7 94 yX7_meets ∈ ALL := al_5 (List.mem_of_getElem? (i := 91) rfl) rfl
theorem wi_X7_meets : Cond.instanceMethod yX7_meets ∈ ALL := al_5 (List.mem_of_getElem? (i := 93) rfl) rfl
theorem wc_X7_meets : Cond.code yX7_meets cX7_meets 2 (some .int) ∈ ALL := al_5 (List.mem_of_getElem? (i := 94) rfl) rfl
theorem wm_L_22 : Cond.methodLink RL 22 yX7_lay ∈ ALL := al_5 (List.mem_of_getElem? (i := 95) rfl) rfl
theorem wi_X7_lay : Cond.instanceMethod yX7_lay ∈ ALL := al_5 (List.mem_of_getElem? (i := 96) rfl) rfl
theorem ws_X7_lay : Cond.selects RX7 yX7_lay yX7_lay ∈ ALL := al_5 (List.mem_of_getElem? (i := 97) rfl) rfl
theorem wc_X7_lay : Cond.code yX7_lay cX7_lay 5 (some .int) ∈ ALL := al_5 (List.mem_of_getElem? (i := 98) rfl) rfl
theorem wm_X7_98 : Cond.methodLink RX7 98 yX7_rowAt ∈ ALL := al_5 (List.mem_of_getElem? (i := 99) rfl) rfl
theorem wi_X7_rowAt : Cond.instanceMethod yX7_rowAt ∈ ALL := al_5 (List.mem_of_getElem? (i := 101) rfl) rfl
theorem wc_X7_rowAt : Cond.code yX7_rowAt cX7_rowAt 3 (some .int) ∈ ALL := al_5 (List.mem_of_getElem? (i := 102) rfl) rfl
theorem wm_X7_102 : Cond.methodLink RX7 102 yX7_tells ∈ ALL := al_5 (List.mem_of_getElem? (i := 103) rfl) rfl
theorem wi_X7_tells : Cond.instanceMethod yX7_tells ∈ ALL := al_5 (List.mem_of_getElem? (i := 105) rfl) rfl
theorem wc_X7_tells : Cond.code yX7_tells cX7_tells 3 (some .int) ∈ ALL := al_5 (List.mem_of_getElem? (i := 106) rfl) rfl
theorem wm_L_26 : Cond.methodLink RL 26 yX7_at ∈ ALL := al_5 (List.mem_of_getElem? (i := 107) rfl) rfl
theorem wi_X7_at : Cond.instanceMethod yX7_at ∈ ALL := al_5 (List.mem_of_getElem? (i := 108) rfl) rfl
theorem ws_X7_at : Cond.selects RX7 yX7_at yX7_at ∈ ALL := al_5 (List.mem_of_getElem? (i := 109) rfl) rfl
theorem wc_X7_at : Cond.code yX7_at cX7_at 3 (some .int) ∈ ALL := al_5 (List.mem_of_getElem? (i := 110) rfl) rfl
theorem wm_L_31 : Cond.methodLink RL 31 yX7_tear ∈ ALL := al_5 (List.mem_of_getElem? (i := 111) rfl) rfl
theorem wi_X7_tear : Cond.instanceMethod yX7_tear ∈ ALL := al_5 (List.mem_of_getElem? (i := 112) rfl) rfl
theorem ws_X7_tear : Cond.selects RX7 yX7_tear yX7_tear ∈ ALL := al_5 (List.mem_of_getElem? (i := 113) rfl) rfl
theorem wc_X7_tear : Cond.code yX7_tear cX7_tear 2 (some .int) ∈ ALL := al_5 (List.mem_of_getElem? (i := 114) rfl) rfl
theorem wm_L_36 : Cond.methodLink RL 36 yX7_copy ∈ ALL := al_5 (List.mem_of_getElem? (i := 115) rfl) rfl
theorem wi_X7_copy : Cond.instanceMethod yX7_copy ∈ ALL := al_5 (List.mem_of_getElem? (i := 116) rfl) rfl
theorem ws_X7_copy : Cond.selects RX7 yX7_copy yX7_copy ∈ ALL := al_5 (List.mem_of_getElem? (i := 117) rfl) rfl
theorem wc_X7_copy : Cond.code yX7_copy cX7_copy 7 (some .int) ∈ ALL := al_5 (List.mem_of_getElem? (i := 118) rfl) rfl
theorem wm_L_40 : Cond.methodLink RL 40 yX7_mean ∈ ALL := al_5 (List.mem_of_getElem? (i := 119) rfl) rfl
theorem wi_X7_mean : Cond.instanceMethod yX7_mean ∈ ALL := al_5 (List.mem_of_getElem? (i := 120) rfl) rfl
theorem ws_X7_mean : Cond.selects RX7 yX7_mean yX7_mean ∈ ALL := al_5 (List.mem_of_getElem? (i := 121) rfl) rfl
theorem wc_X7_mean : Cond.code yX7_mean cX7_mean 5 (some .int) ∈ ALL := al_5 (List.mem_of_getElem? (i := 122) rfl) rfl
theorem wm_L_44 : Cond.methodLink RL 44 yX7_text ∈ ALL := al_5 (List.mem_of_getElem? (i := 123) rfl) rfl
theorem wi_X7_text : Cond.instanceMethod yX7_text ∈ ALL := al_5 (List.mem_of_getElem? (i := 124) rfl) rfl
theorem ws_X7_text : Cond.selects RX7 yX7_text yX7_text ∈ ALL := al_5 (List.mem_of_getElem? (i := 125) rfl) rfl
theorem wc_X7_text : Cond.code yX7_text cX7_text 4 (some .int) ∈ ALL := al_5 (List.mem_of_getElem? (i := 126) rfl) rfl
theorem wm_X7_105 : Cond.methodLink RX7 105 yX7_isText ∈ ALL := al_5 (List.mem_of_getElem? (i := 127) rfl) rfl
theorem wt_X7_isText : Cond.static yX7_isText ∈ ALL := al_5 (List.mem_of_getElem? (i := 128) rfl) rfl
theorem wc_X7_isText : Cond.code yX7_isText cX7_isText 1 (some .boolean) ∈ ALL := al_5 (List.mem_of_getElem? (i := 129) rfl) rfl
theorem wm_L_48 : Cond.methodLink RL 48 yX7_put ∈ ALL := al_5 (List.mem_of_getElem? (i := 130) rfl) rfl
theorem wi_X7_put : Cond.instanceMethod yX7_put ∈ ALL := al_5 (List.mem_of_getElem? (i := 131) rfl) rfl
theorem ws_X7_put : Cond.selects RX7 yX7_put yX7_put ∈ ALL := al_5 (List.mem_of_getElem? (i := 132) rfl) rfl
theorem wc_X7_put : Cond.code yX7_put cX7_put 5 (some .int) ∈ ALL := al_5 (List.mem_of_getElem? (i := 133) rfl) rfl
theorem wm_L_52 : Cond.methodLink RL 52 yX7_fault ∈ ALL := al_5 (List.mem_of_getElem? (i := 134) rfl) rfl
theorem wi_X7_fault : Cond.instanceMethod yX7_fault ∈ ALL := al_5 (List.mem_of_getElem? (i := 135) rfl) rfl
theorem ws_X7_fault : Cond.selects RX7 yX7_fault yX7_fault ∈ ALL := al_5 (List.mem_of_getElem? (i := 136) rfl) rfl
theorem wc_X7_fault : Cond.code yX7_fault cX7_fault 2 (some .int) ∈ ALL := al_5 (List.mem_of_getElem? (i := 137) rfl) rfl
theorem wm_X7_136 : Cond.methodLink RX7 136 yX7_faultOf ∈ ALL := al_5 (List.mem_of_getElem? (i := 138) rfl) rfl
theorem wi_X7_faultOf : Cond.instanceMethod yX7_faultOf ∈ ALL := al_5 (List.mem_of_getElem? (i := 140) rfl) rfl
theorem wc_X7_faultOf : Cond.code yX7_faultOf cX7_faultOf 2 (some .int) ∈ ALL := al_5 (List.mem_of_getElem? (i := 141) rfl) rfl
theorem wm_X7_111 : Cond.methodLink RX7 111 yX7_byteAt ∈ ALL := al_5 (List.mem_of_getElem? (i := 142) rfl) rfl
theorem wi_X7_byteAt : Cond.instanceMethod yX7_byteAt ∈ ALL := al_5 (List.mem_of_getElem? (i := 144) rfl) rfl
theorem wc_X7_byteAt : Cond.code yX7_byteAt cX7_byteAt 3 (some .int) ∈ ALL := al_5 (List.mem_of_getElem? (i := 145) rfl) rfl
theorem wm_X7_130 : Cond.methodLink RX7 130 yX7_readsGod ∈ ALL := al_5 (List.mem_of_getElem? (i := 146) rfl) rfl
theorem wi_X7_readsGod : Cond.instanceMethod yX7_readsGod ∈ ALL := al_5 (List.mem_of_getElem? (i := 148) rfl) rfl
theorem wc_X7_readsGod : Cond.code yX7_readsGod cX7_readsGod 6 (some .boolean) ∈ ALL := al_5 (List.mem_of_getElem? (i := 149) rfl) rfl
theorem wm_X7_124 : Cond.methodLink RX7 124 yX7_kindOf ∈ ALL := al_5 (List.mem_of_getElem? (i := 150) rfl) rfl
theorem wt_X7_kindOf : Cond.static yX7_kindOf ∈ ALL := al_5 (List.mem_of_getElem? (i := 151) rfl) rfl
theorem wc_X7_kindOf : Cond.code yX7_kindOf cX7_kindOf 1 (some .int) ∈ ALL := al_5 (List.mem_of_getElem? (i := 152) rfl) rfl
theorem wm_X7_117 : Cond.methodLink RX7 117 yX7_figure ∈ ALL := al_5 (List.mem_of_getElem? (i := 153) rfl) rfl
theorem wi_X7_figure : Cond.instanceMethod yX7_figure ∈ ALL := al_5 (List.mem_of_getElem? (i := 155) rfl) rfl
theorem wc_X7_figure : Cond.code yX7_figure cX7_figure 5 (some .boolean) ∈ ALL := al_5 (List.mem_of_getElem? (i := 156) rfl) rfl
theorem wm_X7_133 : Cond.methodLink RX7 133 yX7_readsStores ∈ ALL := al_5 (List.mem_of_getElem? (i := 157) rfl) rfl
theorem wi_X7_readsStores : Cond.instanceMethod yX7_readsStores ∈ ALL := al_5 (List.mem_of_getElem? (i := 159) rfl) rfl
theorem wc_X7_readsStores : Cond.code yX7_readsStores cX7_readsStores 3 (some .boolean) ∈ ALL := al_5 (List.mem_of_getElem? (i := 160) rfl) rfl
theorem wm_L_56 : Cond.methodLink RL 56 yX7_valley ∈ ALL := al_5 (List.mem_of_getElem? (i := 161) rfl) rfl
theorem wi_X7_valley : Cond.instanceMethod yX7_valley ∈ ALL := al_5 (List.mem_of_getElem? (i := 162) rfl) rfl
theorem ws_X7_valley : Cond.selects RX7 yX7_valley yX7_valley ∈ ALL := al_5 (List.mem_of_getElem? (i := 163) rfl) rfl
theorem wc_X7_valley : Cond.code yX7_valley cX7_valley 3 (some .int) ∈ ALL := al_5 (List.mem_of_getElem? (i := 164) rfl) rfl
theorem wm_X7_142 : Cond.methodLink RX7 142 yX7_place ∈ ALL := al_5 (List.mem_of_getElem? (i := 165) rfl) rfl
theorem wi_X7_place : Cond.instanceMethod yX7_place ∈ ALL := al_5 (List.mem_of_getElem? (i := 167) rfl) rfl
theorem wc_X7_place : Cond.code yX7_place cX7_place 4 none ∈ ALL := al_5 (List.mem_of_getElem? (i := 168) rfl) rfl
theorem wm_L_60 : Cond.methodLink RL 60 yX7_god ∈ ALL := al_5 (List.mem_of_getElem? (i := 169) rfl) rfl
theorem wi_X7_god : Cond.instanceMethod yX7_god ∈ ALL := al_5 (List.mem_of_getElem? (i := 170) rfl) rfl
theorem ws_X7_god : Cond.selects RX7 yX7_god yX7_god ∈ ALL := al_5 (List.mem_of_getElem? (i := 171) rfl) rfl
theorem wc_X7_god : Cond.code yX7_god cX7_god 3 (some .int) ∈ ALL := al_5 (List.mem_of_getElem? (i := 172) rfl) rfl
theorem wm_X7_208 : Cond.methodLink RX7 208 yX7_isGod ∈ ALL := al_5 (List.mem_of_getElem? (i := 173) rfl) rfl
theorem wi_X7_isGod : Cond.instanceMethod yX7_isGod ∈ ALL := al_5 (List.mem_of_getElem? (i := 175) rfl) rfl
theorem wc_X7_isGod : Cond.code yX7_isGod cX7_isGod 2 (some .boolean) ∈ ALL := al_5 (List.mem_of_getElem? (i := 176) rfl) rfl
theorem wm_X7_211 : Cond.methodLink RX7 211 yX7_godTells ∈ ALL := al_5 (List.mem_of_getElem? (i := 177) rfl) rfl
theorem wi_X7_godTells : Cond.instanceMethod yX7_godTells ∈ ALL := al_5 (List.mem_of_getElem? (i := 179) rfl) rfl
theorem wc_X7_godTells : Cond.code yX7_godTells cX7_godTells 3 (some .int) ∈ ALL := al_5 (List.mem_of_getElem? (i := 180) rfl) rfl
theorem wm_X7_149 : Cond.methodLink RX7 149 yX7_v ∈ ALL := al_5 (List.mem_of_getElem? (i := 181) rfl) rfl
theorem wi_X7_v : Cond.instanceMethod yX7_v ∈ ALL := al_5 (List.mem_of_getElem? (i := 183) rfl) rfl
theorem wc_X7_v : Cond.code yX7_v cX7_v 3 (some .int) ∈ ALL := al_5 (List.mem_of_getElem? (i := 184) rfl) rfl
theorem wm_L_64 : Cond.methodLink RL 64 yX7_mark ∈ ALL := al_5 (List.mem_of_getElem? (i := 185) rfl) rfl
theorem wi_X7_mark : Cond.instanceMethod yX7_mark ∈ ALL := al_5 (List.mem_of_getElem? (i := 186) rfl) rfl
theorem ws_X7_mark : Cond.selects RX7 yX7_mark yX7_mark ∈ ALL := al_5 (List.mem_of_getElem? (i := 187) rfl) rfl
theorem wc_X7_mark : Cond.code yX7_mark cX7_mark 4 (some .int) ∈ ALL := al_5 (List.mem_of_getElem? (i := 188) rfl) rfl
theorem wm_X7_146 : Cond.methodLink RX7 146 yX7_kind ∈ ALL := al_5 (List.mem_of_getElem? (i := 189) rfl) rfl
theorem wi_X7_kind : Cond.instanceMethod yX7_kind ∈ ALL := al_5 (List.mem_of_getElem? (i := 191) rfl) rfl
theorem wc_X7_kind : Cond.code yX7_kind cX7_kind 2 (some .int) ∈ ALL := al_5 (List.mem_of_getElem? (i := 192) rfl) rfl
theorem wm_X7_162 : Cond.methodLink RX7 162 yX7_abides ∈ ALL := al_5 (List.mem_of_getElem? (i := 193) rfl) rfl
theorem wi_X7_abides : Cond.instanceMethod yX7_abides ∈ ALL := al_5 (List.mem_of_getElem? (i := 195) rfl) rfl
theorem wc_X7_abides : Cond.code yX7_abides cX7_abides 2 (some .int) ∈ ALL := al_5 (List.mem_of_getElem? (i := 196) rfl) rfl
theorem wm_X7_155 : Cond.methodLink RX7 155 yX7_isGone ∈ ALL := al_5 (List.mem_of_getElem? (i := 197) rfl) rfl
theorem wi_X7_isGone : Cond.instanceMethod yX7_isGone ∈ ALL := al_5 (List.mem_of_getElem? (i := 199) rfl) rfl
theorem wc_X7_isGone : Cond.code yX7_isGone cX7_isGone 3 (some .boolean) ∈ ALL := al_5 (List.mem_of_getElem? (i := 200) rfl) rfl
theorem wm_X7_192 : Cond.methodLink RX7 192 yX7_patienceOf ∈ ALL := al_5 (List.mem_of_getElem? (i := 201) rfl) rfl
theorem wi_X7_patienceOf : Cond.instanceMethod yX7_patienceOf ∈ ALL := al_5 (List.mem_of_getElem? (i := 203) rfl) rfl
theorem wc_X7_patienceOf : Cond.code yX7_patienceOf cX7_patienceOf 2 (some .int) ∈ ALL := al_5 (List.mem_of_getElem? (i := 204) rfl) rfl
theorem wm_X7_177 : Cond.methodLink RX7 177 yX7_greater ∈ ALL := al_5 (List.mem_of_getElem? (i := 205) rfl) rfl
theorem wt_X7_greater : Cond.static yX7_greater ∈ ALL := al_5 (List.mem_of_getElem? (i := 206) rfl) rfl
theorem wc_X7_greater : Cond.code yX7_greater cX7_greater 2 (some .int) ∈ ALL := al_5 (List.mem_of_getElem? (i := 207) rfl) rfl
theorem wm_X7_174 : Cond.methodLink RX7 174 yX7_has ∈ ALL := al_5 (List.mem_of_getElem? (i := 208) rfl) rfl
theorem wt_X7_has : Cond.static yX7_has ∈ ALL := al_5 (List.mem_of_getElem? (i := 209) rfl) rfl
theorem wc_X7_has : Cond.code yX7_has cX7_has 2 (some .boolean) ∈ ALL := al_5 (List.mem_of_getElem? (i := 210) rfl) rfl
theorem wm_L_68 : Cond.methodLink RL 68 yX7_store ∈ ALL := al_5 (List.mem_of_getElem? (i := 211) rfl) rfl
theorem wi_X7_store : Cond.instanceMethod yX7_store ∈ ALL := al_5 (List.mem_of_getElem? (i := 212) rfl) rfl
theorem ws_X7_store : Cond.selects RX7 yX7_store yX7_store ∈ ALL := al_5 (List.mem_of_getElem? (i := 213) rfl) rfl
theorem wc_X7_store : Cond.code yX7_store cX7_store 4 (some .int) ∈ ALL := al_5 (List.mem_of_getElem? (i := 214) rfl) rfl
theorem wm_L_72 : Cond.methodLink RL 72 yX7_stores ∈ ALL := al_5 (List.mem_of_getElem? (i := 215) rfl) rfl
theorem wi_X7_stores : Cond.instanceMethod yX7_stores ∈ ALL := al_5 (List.mem_of_getElem? (i := 216) rfl) rfl
theorem ws_X7_stores : Cond.selects RX7 yX7_stores yX7_stores ∈ ALL := al_5 (List.mem_of_getElem? (i := 217) rfl) rfl
theorem wc_X7_stores : Cond.code yX7_stores cX7_stores 2 (some .int) ∈ ALL := al_5 (List.mem_of_getElem? (i := 218) rfl) rfl
theorem wm_L_76 : Cond.methodLink RL 76 yX7_patience ∈ ALL := al_5 (List.mem_of_getElem? (i := 219) rfl) rfl
theorem wi_X7_patience : Cond.instanceMethod yX7_patience ∈ ALL := al_5 (List.mem_of_getElem? (i := 220) rfl) rfl
theorem ws_X7_patience : Cond.selects RX7 yX7_patience yX7_patience ∈ ALL := al_5 (List.mem_of_getElem? (i := 221) rfl) rfl
theorem wc_X7_patience : Cond.code yX7_patience cX7_patience 4 (some .int) ∈ ALL := al_5 (List.mem_of_getElem? (i := 222) rfl) rfl
theorem wm_L_80 : Cond.methodLink RL 80 yX7_offer ∈ ALL := al_5 (List.mem_of_getElem? (i := 223) rfl) rfl
theorem wi_X7_offer : Cond.instanceMethod yX7_offer ∈ ALL := al_5 (List.mem_of_getElem? (i := 224) rfl) rfl
theorem ws_X7_offer : Cond.selects RX7 yX7_offer yX7_offer ∈ ALL := al_5 (List.mem_of_getElem? (i := 225) rfl) rfl
theorem wc_X7_offer : Cond.code yX7_offer cX7_offer 2 (some .int) ∈ ALL := al_5 (List.mem_of_getElem? (i := 226) rfl) rfl
theorem wm_X7_217 : Cond.methodLink RX7 217 yX7_isNumber ∈ ALL := al_5 (List.mem_of_getElem? (i := 227) rfl) rfl
theorem wi_X7_isNumber : Cond.instanceMethod yX7_isNumber ∈ ALL := al_5 (List.mem_of_getElem? (i := 229) rfl) rfl
theorem wc_X7_isNumber : Cond.code yX7_isNumber cX7_isNumber 2 (some .boolean) ∈ ALL := al_5 (List.mem_of_getElem? (i := 230) rfl) rfl
theorem wm_X7_195 : Cond.methodLink RX7 195 yX7_costOf ∈ ALL := al_5 (List.mem_of_getElem? (i := 231) rfl) rfl
theorem wi_X7_costOf : Cond.instanceMethod yX7_costOf ∈ ALL := al_5 (List.mem_of_getElem? (i := 233) rfl) rfl
theorem wc_X7_costOf : Cond.code yX7_costOf cX7_costOf 5 (some .int) ∈ ALL := al_5 (List.mem_of_getElem? (i := 234) rfl) rfl
theorem wm_X7_165 : Cond.methodLink RX7 165 yX7_isUp ∈ ALL := al_5 (List.mem_of_getElem? (i := 235) rfl) rfl
theorem wi_X7_isUp : Cond.instanceMethod yX7_isUp ∈ ALL := al_5 (List.mem_of_getElem? (i := 237) rfl) rfl
theorem wc_X7_isUp : Cond.code yX7_isUp cX7_isUp 3 (some .boolean) ∈ ALL := al_5 (List.mem_of_getElem? (i := 238) rfl) rfl
theorem wm_X7_159 : Cond.methodLink RX7 159 yX7_sleeps ∈ ALL := al_5 (List.mem_of_getElem? (i := 239) rfl) rfl
theorem wi_X7_sleeps : Cond.instanceMethod yX7_sleeps ∈ ALL := al_6 (List.mem_of_getElem? (i := 1) rfl) rfl
theorem wc_X7_sleeps : Cond.code yX7_sleeps cX7_sleeps 3 (some .boolean) ∈ ALL := al_6 (List.mem_of_getElem? (i := 2) rfl) rfl
theorem wm_X7_152 : Cond.methodLink RX7 152 yX7_isSleeper ∈ ALL := al_6 (List.mem_of_getElem? (i := 3) rfl) rfl
theorem wi_X7_isSleeper : Cond.instanceMethod yX7_isSleeper ∈ ALL := al_6 (List.mem_of_getElem? (i := 5) rfl) rfl
theorem wc_X7_isSleeper : Cond.code yX7_isSleeper cX7_isSleeper 2 (some .boolean) ∈ ALL := al_6 (List.mem_of_getElem? (i := 6) rfl) rfl
theorem wm_X7_168 : Cond.methodLink RX7 168 yX7_fedBy ∈ ALL := al_6 (List.mem_of_getElem? (i := 7) rfl) rfl
theorem wi_X7_fedBy : Cond.instanceMethod yX7_fedBy ∈ ALL := al_6 (List.mem_of_getElem? (i := 9) rfl) rfl
theorem wc_X7_fedBy : Cond.code yX7_fedBy cX7_fedBy 6 (some .int) ∈ ALL := al_6 (List.mem_of_getElem? (i := 10) rfl) rfl
theorem wm_X7_171 : Cond.methodLink RX7 171 yX7_bits ∈ ALL := al_6 (List.mem_of_getElem? (i := 11) rfl) rfl
theorem wt_X7_bits : Cond.static yX7_bits ∈ ALL := al_6 (List.mem_of_getElem? (i := 12) rfl) rfl
theorem wc_X7_bits : Cond.code yX7_bits cX7_bits 3 (some .int) ∈ ALL := al_6 (List.mem_of_getElem? (i := 13) rfl) rfl
theorem wm_X7_220 : Cond.methodLink RX7 220 yX7_isFull ∈ ALL := al_6 (List.mem_of_getElem? (i := 14) rfl) rfl
theorem wi_X7_isFull : Cond.instanceMethod yX7_isFull ∈ ALL := al_6 (List.mem_of_getElem? (i := 16) rfl) rfl
theorem wc_X7_isFull : Cond.code yX7_isFull cX7_isFull 2 (some .boolean) ∈ ALL := al_6 (List.mem_of_getElem? (i := 17) rfl) rfl
theorem wm_X7_223 : Cond.methodLink RX7 223 yX7_goesBy ∈ ALL := al_6 (List.mem_of_getElem? (i := 18) rfl) rfl
theorem wi_X7_goesBy : Cond.instanceMethod yX7_goesBy ∈ ALL := al_6 (List.mem_of_getElem? (i := 20) rfl) rfl
theorem wc_X7_goesBy : Cond.code yX7_goesBy cX7_goesBy 4 none ∈ ALL := al_6 (List.mem_of_getElem? (i := 21) rfl) rfl
theorem wm_X7_214 : Cond.methodLink RX7 214 yX7_goes ∈ ALL := al_6 (List.mem_of_getElem? (i := 22) rfl) rfl
theorem wi_X7_goes : Cond.instanceMethod yX7_goes ∈ ALL := al_6 (List.mem_of_getElem? (i := 24) rfl) rfl
theorem wc_X7_goes : Cond.code yX7_goes cX7_goes 4 (some .boolean) ∈ ALL := al_6 (List.mem_of_getElem? (i := 25) rfl) rfl
theorem wm_X7_201 : Cond.methodLink RX7 201 yX7_hungers ∈ ALL := al_6 (List.mem_of_getElem? (i := 26) rfl) rfl
theorem wi_X7_hungers : Cond.instanceMethod yX7_hungers ∈ ALL := al_6 (List.mem_of_getElem? (i := 28) rfl) rfl
theorem wc_X7_hungers : Cond.code yX7_hungers cX7_hungers 7 none ∈ ALL := al_6 (List.mem_of_getElem? (i := 29) rfl) rfl
theorem wm_X7_180 : Cond.methodLink RX7 180 yX7_isJealous ∈ ALL := al_6 (List.mem_of_getElem? (i := 30) rfl) rfl
theorem wi_X7_isJealous : Cond.instanceMethod yX7_isJealous ∈ ALL := al_6 (List.mem_of_getElem? (i := 32) rfl) rfl
theorem wc_X7_isJealous : Cond.code yX7_isJealous cX7_isJealous 2 (some .boolean) ∈ ALL := al_6 (List.mem_of_getElem? (i := 33) rfl) rfl
theorem wm_X7_183 : Cond.methodLink RX7 183 yX7_lesser ∈ ALL := al_6 (List.mem_of_getElem? (i := 34) rfl) rfl
theorem wt_X7_lesser : Cond.static yX7_lesser ∈ ALL := al_6 (List.mem_of_getElem? (i := 35) rfl) rfl
theorem wc_X7_lesser : Cond.code yX7_lesser cX7_lesser 2 (some .int) ∈ ALL := al_6 (List.mem_of_getElem? (i := 36) rfl) rfl
theorem wm_X7_204 : Cond.methodLink RX7 204 yX7_sends ∈ ALL := al_6 (List.mem_of_getElem? (i := 37) rfl) rfl
theorem wi_X7_sends : Cond.instanceMethod yX7_sends ∈ ALL := al_6 (List.mem_of_getElem? (i := 39) rfl) rfl
theorem wc_X7_sends : Cond.code yX7_sends cX7_sends 4 none ∈ ALL := al_6 (List.mem_of_getElem? (i := 40) rfl) rfl
theorem wm_L_84 : Cond.methodLink RL 84 yX7_may ∈ ALL := al_6 (List.mem_of_getElem? (i := 41) rfl) rfl
theorem wi_X7_may : Cond.instanceMethod yX7_may ∈ ALL := al_6 (List.mem_of_getElem? (i := 42) rfl) rfl
theorem ws_X7_may : Cond.selects RX7 yX7_may yX7_may ∈ ALL := al_6 (List.mem_of_getElem? (i := 43) rfl) rfl
theorem wc_X7_may : Cond.code yX7_may cX7_may 2 (some .int) ∈ ALL := al_6 (List.mem_of_getElem? (i := 44) rfl) rfl
theorem wm_L_88 : Cond.methodLink RL 88 yX7_rest ∈ ALL := al_6 (List.mem_of_getElem? (i := 45) rfl) rfl
theorem wi_X7_rest : Cond.instanceMethod yX7_rest ∈ ALL := al_6 (List.mem_of_getElem? (i := 46) rfl) rfl
theorem ws_X7_rest : Cond.selects RX7 yX7_rest yX7_rest ∈ ALL := al_6 (List.mem_of_getElem? (i := 47) rfl) rfl
theorem wc_X7_rest : Cond.code yX7_rest cX7_rest 4 (some .int) ∈ ALL := al_6 (List.mem_of_getElem? (i := 48) rfl) rfl
theorem wm_L_92 : Cond.methodLink RL 92 yX7_sent ∈ ALL := al_6 (List.mem_of_getElem? (i := 49) rfl) rfl
theorem wi_X7_sent : Cond.instanceMethod yX7_sent ∈ ALL := al_6 (List.mem_of_getElem? (i := 50) rfl) rfl
theorem ws_X7_sent : Cond.selects RX7 yX7_sent yX7_sent ∈ ALL := al_6 (List.mem_of_getElem? (i := 51) rfl) rfl
theorem wc_X7_sent : Cond.code yX7_sent cX7_sent 3 (some .int) ∈ ALL := al_6 (List.mem_of_getElem? (i := 52) rfl) rfl
theorem wm_L_96 : Cond.methodLink RL 96 yX7_offered ∈ ALL := al_6 (List.mem_of_getElem? (i := 53) rfl) rfl
theorem wi_X7_offered : Cond.instanceMethod yX7_offered ∈ ALL := al_6 (List.mem_of_getElem? (i := 54) rfl) rfl
theorem ws_X7_offered : Cond.selects RX7 yX7_offered yX7_offered ∈ ALL := al_6 (List.mem_of_getElem? (i := 55) rfl) rfl
theorem wc_X7_offered : Cond.code yX7_offered cX7_offered 2 (some .int) ∈ ALL := al_6 (List.mem_of_getElem? (i := 56) rfl) rfl
theorem wm_L_100 : Cond.methodLink RL 100 yX7_undo ∈ ALL := al_6 (List.mem_of_getElem? (i := 57) rfl) rfl
theorem wi_X7_undo : Cond.instanceMethod yX7_undo ∈ ALL := al_6 (List.mem_of_getElem? (i := 58) rfl) rfl
theorem ws_X7_undo : Cond.selects RX7 yX7_undo yX7_undo ∈ ALL := al_6 (List.mem_of_getElem? (i := 59) rfl) rfl
theorem wc_X7_undo : Cond.code yX7_undo cX7_undo 4 (some .int) ∈ ALL := al_6 (List.mem_of_getElem? (i := 60) rfl) rfl
theorem wm_L_105 : Cond.methodLink RL 105 yX7_sums ∈ ALL := al_6 (List.mem_of_getElem? (i := 61) rfl) rfl
theorem wi_X7_sums : Cond.instanceMethod yX7_sums ∈ ALL := al_6 (List.mem_of_getElem? (i := 62) rfl) rfl
theorem ws_X7_sums : Cond.selects RX7 yX7_sums yX7_sums ∈ ALL := al_6 (List.mem_of_getElem? (i := 63) rfl) rfl
theorem wc_X7_sums : Cond.code yX7_sums cX7_sums 1 (some .int) ∈ ALL := al_6 (List.mem_of_getElem? (i := 64) rfl) rfl
theorem wm_L_109 : Cond.methodLink RL 109 yX7_keep ∈ ALL := al_6 (List.mem_of_getElem? (i := 65) rfl) rfl
theorem wi_X7_keep : Cond.instanceMethod yX7_keep ∈ ALL := al_6 (List.mem_of_getElem? (i := 66) rfl) rfl
theorem ws_X7_keep : Cond.selects RX7 yX7_keep yX7_keep ∈ ALL := al_6 (List.mem_of_getElem? (i := 67) rfl) rfl
theorem wc_X7_keep : Cond.code yX7_keep cX7_keep 3 (some .int) ∈ ALL := al_6 (List.mem_of_getElem? (i := 68) rfl) rfl
theorem wm_L_113 : Cond.methodLink RL 113 yX7_on ∈ ALL := al_6 (List.mem_of_getElem? (i := 69) rfl) rfl
theorem wi_X7_on : Cond.instanceMethod yX7_on ∈ ALL := al_6 (List.mem_of_getElem? (i := 70) rfl) rfl
theorem ws_X7_on : Cond.selects RX7 yX7_on yX7_on ∈ ALL := al_6 (List.mem_of_getElem? (i := 71) rfl) rfl
theorem wc_X7_on : Cond.code yX7_on cX7_on 3 (some .int) ∈ ALL := al_6 (List.mem_of_getElem? (i := 72) rfl) rfl
theorem wm_L_117 : Cond.methodLink RL 117 yX7_best ∈ ALL := al_6 (List.mem_of_getElem? (i := 73) rfl) rfl
theorem wi_X7_best : Cond.instanceMethod yX7_best ∈ ALL := al_6 (List.mem_of_getElem? (i := 74) rfl) rfl
theorem ws_X7_best : Cond.selects RX7 yX7_best yX7_best ∈ ALL := al_6 (List.mem_of_getElem? (i := 75) rfl) rfl
theorem wc_X7_best : Cond.code yX7_best cX7_best 5 (some .int) ∈ ALL := al_6 (List.mem_of_getElem? (i := 76) rfl) rfl
theorem wm_X7_263 : Cond.methodLink RX7 263 yX7_needDays ∈ ALL := al_6 (List.mem_of_getElem? (i := 77) rfl) rfl
theorem wi_X7_needDays : Cond.instanceMethod yX7_needDays ∈ ALL := al_6 (List.mem_of_getElem? (i := 79) rfl) rfl
theorem wc_X7_needDays : Cond.code yX7_needDays cX7_needDays 4 (some .int) ∈ ALL := al_6 (List.mem_of_getElem? (i := 80) rfl) rfl
theorem wm_X7_267 : Cond.methodLink RX7 267 yX7_mostOf ∈ ALL := al_6 (List.mem_of_getElem? (i := 81) rfl) rfl
theorem wi_X7_mostOf : Cond.instanceMethod yX7_mostOf ∈ ALL := al_6 (List.mem_of_getElem? (i := 83) rfl) rfl
theorem wc_X7_mostOf : Cond.code yX7_mostOf cX7_mostOf 3 (some .int) ∈ ALL := al_6 (List.mem_of_getElem? (i := 84) rfl) rfl
theorem wk_X7_252 : Cond.constant RX7 252 (-99999) ∈ ALL := al_6 (List.mem_of_getElem? (i := 85) rfl) rfl
theorem wm_X7_253 : Cond.methodLink RX7 253 yX7_noPlan ∈ ALL := al_6 (List.mem_of_getElem? (i := 86) rfl) rfl
theorem wi_X7_noPlan : Cond.instanceMethod yX7_noPlan ∈ ALL := al_6 (List.mem_of_getElem? (i := 88) rfl) rfl
theorem wc_X7_noPlan : Cond.code yX7_noPlan cX7_noPlan 3 none ∈ ALL := al_6 (List.mem_of_getElem? (i := 89) rfl) rfl
theorem wm_X7_256 : Cond.methodLink RX7 256 yX7_nextPlan ∈ ALL := al_6 (List.mem_of_getElem? (i := 90) rfl) rfl
theorem wi_X7_nextPlan : Cond.instanceMethod yX7_nextPlan ∈ ALL := al_6 (List.mem_of_getElem? (i := 92) rfl) rfl
theorem wc_X7_nextPlan : Cond.code yX7_nextPlan cX7_nextPlan 4 (some .boolean) ∈ ALL := al_6 (List.mem_of_getElem? (i := 93) rfl) rfl
theorem wm_X7_229 : Cond.methodLink RX7 229 yX7_layPlan ∈ ALL := al_6 (List.mem_of_getElem? (i := 94) rfl) rfl
theorem wi_X7_layPlan : Cond.instanceMethod yX7_layPlan ∈ ALL := al_6 (List.mem_of_getElem? (i := 96) rfl) rfl
theorem wc_X7_layPlan : Cond.code yX7_layPlan cX7_layPlan 2 (some .int) ∈ ALL := al_6 (List.mem_of_getElem? (i := 97) rfl) rfl
theorem wm_X7_233 : Cond.methodLink RX7 233 yX7_copyValley ∈ ALL := al_6 (List.mem_of_getElem? (i := 98) rfl) rfl
theorem wi_X7_copyValley : Cond.instanceMethod yX7_copyValley ∈ ALL := al_6 (List.mem_of_getElem? (i := 100) rfl) rfl
theorem wc_X7_copyValley : Cond.code yX7_copyValley cX7_copyValley 4 none ∈ ALL := al_6 (List.mem_of_getElem? (i := 101) rfl) rfl
theorem wm_X7_246 : Cond.methodLink RX7 246 yX7_isStarved ∈ ALL := al_6 (List.mem_of_getElem? (i := 102) rfl) rfl
theorem wi_X7_isStarved : Cond.instanceMethod yX7_isStarved ∈ ALL := al_6 (List.mem_of_getElem? (i := 104) rfl) rfl
theorem wc_X7_isStarved : Cond.code yX7_isStarved cX7_isStarved 3 (some .boolean) ∈ ALL := al_6 (List.mem_of_getElem? (i := 105) rfl) rfl
theorem wm_X7_260 : Cond.methodLink RX7 260 yX7_keepPlan ∈ ALL := al_6 (List.mem_of_getElem? (i := 106) rfl) rfl
theorem wi_X7_keepPlan : Cond.instanceMethod yX7_keepPlan ∈ ALL := al_6 (List.mem_of_getElem? (i := 108) rfl) rfl
theorem wc_X7_keepPlan : Cond.code yX7_keepPlan cX7_keepPlan 2 none ∈ ALL := al_6 (List.mem_of_getElem? (i := 109) rfl) rfl
theorem wm_X7_270 : Cond.methodLink RX7 270 yX7_planToRow ∈ ALL := al_6 (List.mem_of_getElem? (i := 110) rfl) rfl
theorem wi_X7_planToRow : Cond.instanceMethod yX7_planToRow ∈ ALL := al_6 (List.mem_of_getElem? (i := 112) rfl) rfl
theorem wc_X7_planToRow : Cond.code yX7_planToRow cX7_planToRow 3 none ∈ ALL := al_6 (List.mem_of_getElem? (i := 113) rfl) rfl
theorem wm_L_121 : Cond.methodLink RL 121 yX7_tries ∈ ALL := al_6 (List.mem_of_getElem? (i := 114) rfl) rfl
theorem wi_X7_tries : Cond.instanceMethod yX7_tries ∈ ALL := al_6 (List.mem_of_getElem? (i := 115) rfl) rfl
theorem ws_X7_tries : Cond.selects RX7 yX7_tries yX7_tries ∈ ALL := al_6 (List.mem_of_getElem? (i := 116) rfl) rfl
theorem wc_X7_tries : Cond.code yX7_tries cX7_tries 5 (some .int) ∈ ALL := al_6 (List.mem_of_getElem? (i := 117) rfl) rfl
theorem wm_X7_273 : Cond.methodLink RX7 273 yX7_needPlan ∈ ALL := al_6 (List.mem_of_getElem? (i := 118) rfl) rfl
theorem wi_X7_needPlan : Cond.instanceMethod yX7_needPlan ∈ ALL := al_6 (List.mem_of_getElem? (i := 120) rfl) rfl
theorem wc_X7_needPlan : Cond.code yX7_needPlan cX7_needPlan 4 (some .int) ∈ ALL := al_6 (List.mem_of_getElem? (i := 121) rfl) rfl
theorem wm_L_125 : Cond.methodLink RL 125 yX7_safe ∈ ALL := al_6 (List.mem_of_getElem? (i := 122) rfl) rfl
theorem wi_X7_safe : Cond.instanceMethod yX7_safe ∈ ALL := al_6 (List.mem_of_getElem? (i := 123) rfl) rfl
theorem ws_X7_safe : Cond.selects RX7 yX7_safe yX7_safe ∈ ALL := al_6 (List.mem_of_getElem? (i := 124) rfl) rfl
theorem wc_X7_safe : Cond.code yX7_safe cX7_safe 4 (some .int) ∈ ALL := al_6 (List.mem_of_getElem? (i := 125) rfl) rfl
theorem wm_L_129 : Cond.methodLink RL 129 yX7_share ∈ ALL := al_6 (List.mem_of_getElem? (i := 126) rfl) rfl
theorem wi_X7_share : Cond.instanceMethod yX7_share ∈ ALL := al_6 (List.mem_of_getElem? (i := 127) rfl) rfl
theorem ws_X7_share : Cond.selects RX7 yX7_share yX7_share ∈ ALL := al_6 (List.mem_of_getElem? (i := 128) rfl) rfl
theorem wc_X7_share : Cond.code yX7_share cX7_share 5 (some .int) ∈ ALL := al_6 (List.mem_of_getElem? (i := 129) rfl) rfl
theorem wm_X7_276 : Cond.methodLink RX7 276 yX7_fraction ∈ ALL := al_6 (List.mem_of_getElem? (i := 130) rfl) rfl
theorem wi_X7_fraction : Cond.instanceMethod yX7_fraction ∈ ALL := al_6 (List.mem_of_getElem? (i := 132) rfl) rfl
theorem wc_X7_fraction : Cond.code yX7_fraction cX7_fraction 12 (some .int) ∈ ALL := al_6 (List.mem_of_getElem? (i := 133) rfl) rfl
theorem wm_L_133 : Cond.methodLink RL 133 yX7_food ∈ ALL := al_6 (List.mem_of_getElem? (i := 134) rfl) rfl
theorem wi_X7_food : Cond.instanceMethod yX7_food ∈ ALL := al_6 (List.mem_of_getElem? (i := 135) rfl) rfl
theorem ws_X7_food : Cond.selects RX7 yX7_food yX7_food ∈ ALL := al_6 (List.mem_of_getElem? (i := 136) rfl) rfl
theorem wc_X7_food : Cond.code yX7_food cX7_food 4 (some .int) ∈ ALL := al_6 (List.mem_of_getElem? (i := 137) rfl) rfl
theorem wm_L_137 : Cond.methodLink RL 137 yX7_harm ∈ ALL := al_6 (List.mem_of_getElem? (i := 138) rfl) rfl
theorem wi_X7_harm : Cond.instanceMethod yX7_harm ∈ ALL := al_6 (List.mem_of_getElem? (i := 139) rfl) rfl
theorem ws_X7_harm : Cond.selects RX7 yX7_harm yX7_harm ∈ ALL := al_6 (List.mem_of_getElem? (i := 140) rfl) rfl
theorem wc_X7_harm : Cond.code yX7_harm cX7_harm 5 (some .int) ∈ ALL := al_6 (List.mem_of_getElem? (i := 141) rfl) rfl
theorem wm_L_141 : Cond.methodLink RL 141 yX7_starve ∈ ALL := al_6 (List.mem_of_getElem? (i := 142) rfl) rfl
theorem wi_X7_starve : Cond.instanceMethod yX7_starve ∈ ALL := al_6 (List.mem_of_getElem? (i := 143) rfl) rfl
theorem ws_X7_starve : Cond.selects RX7 yX7_starve yX7_starve ∈ ALL := al_6 (List.mem_of_getElem? (i := 144) rfl) rfl
theorem wc_X7_starve : Cond.code yX7_starve cX7_starve 8 (some .int) ∈ ALL := al_6 (List.mem_of_getElem? (i := 145) rfl) rfl
theorem wm_L_145 : Cond.methodLink RL 145 yX7_price ∈ ALL := al_6 (List.mem_of_getElem? (i := 146) rfl) rfl
theorem wi_X7_price : Cond.instanceMethod yX7_price ∈ ALL := al_6 (List.mem_of_getElem? (i := 147) rfl) rfl
theorem ws_X7_price : Cond.selects RX7 yX7_price yX7_price ∈ ALL := al_6 (List.mem_of_getElem? (i := 148) rfl) rfl
theorem wc_X7_price : Cond.code yX7_price cX7_price 6 (some .int) ∈ ALL := al_6 (List.mem_of_getElem? (i := 149) rfl) rfl
theorem wm_L_150 : Cond.methodLink RL 150 yX7_altar ∈ ALL := al_6 (List.mem_of_getElem? (i := 150) rfl) rfl
theorem wi_X7_altar : Cond.instanceMethod yX7_altar ∈ ALL := al_6 (List.mem_of_getElem? (i := 151) rfl) rfl
theorem ws_X7_altar : Cond.selects RX7 yX7_altar yX7_altar ∈ ALL := al_6 (List.mem_of_getElem? (i := 152) rfl) rfl
theorem wc_X7_altar : Cond.code yX7_altar cX7_altar 8 (some .int) ∈ ALL := al_6 (List.mem_of_getElem? (i := 153) rfl) rfl
theorem wm_L_154 : Cond.methodLink RL 154 yX7_turns ∈ ALL := al_6 (List.mem_of_getElem? (i := 154) rfl) rfl
theorem wi_X7_turns : Cond.instanceMethod yX7_turns ∈ ALL := al_6 (List.mem_of_getElem? (i := 155) rfl) rfl
theorem ws_X7_turns : Cond.selects RX7 yX7_turns yX7_turns ∈ ALL := al_6 (List.mem_of_getElem? (i := 156) rfl) rfl
theorem wc_X7_turns : Cond.code yX7_turns cX7_turns 4 (some .int) ∈ ALL := al_6 (List.mem_of_getElem? (i := 157) rfl) rfl
theorem wm_X7_286 : Cond.methodLink RX7 286 yX7_lastTurn ∈ ALL := al_6 (List.mem_of_getElem? (i := 158) rfl) rfl
theorem wi_X7_lastTurn : Cond.instanceMethod yX7_lastTurn ∈ ALL := al_6 (List.mem_of_getElem? (i := 160) rfl) rfl
theorem wc_X7_lastTurn : Cond.code yX7_lastTurn cX7_lastTurn 8 (some .int) ∈ ALL := al_6 (List.mem_of_getElem? (i := 161) rfl) rfl
theorem wm_X7_283 : Cond.methodLink RX7 283 yX7_sentOf ∈ ALL := al_6 (List.mem_of_getElem? (i := 162) rfl) rfl
theorem wi_X7_sentOf : Cond.instanceMethod yX7_sentOf ∈ ALL := al_6 (List.mem_of_getElem? (i := 164) rfl) rfl
theorem wc_X7_sentOf : Cond.code yX7_sentOf cX7_sentOf 4 (some .int) ∈ ALL := al_6 (List.mem_of_getElem? (i := 165) rfl) rfl
theorem wm_X7_290 : Cond.methodLink RX7 290 yX7_twoTurns ∈ ALL := al_6 (List.mem_of_getElem? (i := 166) rfl) rfl
theorem wi_X7_twoTurns : Cond.instanceMethod yX7_twoTurns ∈ ALL := al_6 (List.mem_of_getElem? (i := 168) rfl) rfl
theorem wc_X7_twoTurns : Cond.code yX7_twoTurns cX7_twoTurns 9 (some .int) ∈ ALL := al_6 (List.mem_of_getElem? (i := 169) rfl) rfl
theorem wm_X7_293 : Cond.methodLink RX7 293 yX7_threeTurns ∈ ALL := al_6 (List.mem_of_getElem? (i := 170) rfl) rfl
theorem wi_X7_threeTurns : Cond.instanceMethod yX7_threeTurns ∈ ALL := al_6 (List.mem_of_getElem? (i := 172) rfl) rfl
theorem wc_X7_threeTurns : Cond.code yX7_threeTurns cX7_threeTurns 8 (some .int) ∈ ALL := al_6 (List.mem_of_getElem? (i := 173) rfl) rfl
theorem wm_X7_296 : Cond.methodLink RX7 296 yX7_whole ∈ ALL := al_6 (List.mem_of_getElem? (i := 174) rfl) rfl
theorem wi_X7_whole : Cond.instanceMethod yX7_whole ∈ ALL := al_6 (List.mem_of_getElem? (i := 176) rfl) rfl
theorem wc_X7_whole : Cond.code yX7_whole cX7_whole 3 (some .int) ∈ ALL := al_6 (List.mem_of_getElem? (i := 177) rfl) rfl
theorem wm_L_158 : Cond.methodLink RL 158 yX7_fits ∈ ALL := al_6 (List.mem_of_getElem? (i := 178) rfl) rfl
theorem wi_X7_fits : Cond.instanceMethod yX7_fits ∈ ALL := al_6 (List.mem_of_getElem? (i := 179) rfl) rfl
theorem ws_X7_fits : Cond.selects RX7 yX7_fits yX7_fits ∈ ALL := al_6 (List.mem_of_getElem? (i := 180) rfl) rfl
theorem wc_X7_fits : Cond.code yX7_fits cX7_fits 5 (some .int) ∈ ALL := al_6 (List.mem_of_getElem? (i := 181) rfl) rfl
theorem wm_X7_299 : Cond.methodLink RX7 299 yX7_needBook ∈ ALL := al_6 (List.mem_of_getElem? (i := 182) rfl) rfl
theorem wi_X7_needBook : Cond.instanceMethod yX7_needBook ∈ ALL := al_6 (List.mem_of_getElem? (i := 184) rfl) rfl
theorem wc_X7_needBook : Cond.code yX7_needBook cX7_needBook 3 (some .int) ∈ ALL := al_6 (List.mem_of_getElem? (i := 185) rfl) rfl
theorem wm_X7_302 : Cond.methodLink RX7 302 yX7_fitting ∈ ALL := al_6 (List.mem_of_getElem? (i := 186) rfl) rfl
theorem wi_X7_fitting : Cond.instanceMethod yX7_fitting ∈ ALL := al_6 (List.mem_of_getElem? (i := 188) rfl) rfl
theorem wc_X7_fitting : Cond.code yX7_fitting cX7_fitting 9 (some .int) ∈ ALL := al_6 (List.mem_of_getElem? (i := 189) rfl) rfl
theorem wm_L_162 : Cond.methodLink RL 162 yX7_whose ∈ ALL := al_6 (List.mem_of_getElem? (i := 190) rfl) rfl
theorem wi_X7_whose : Cond.instanceMethod yX7_whose ∈ ALL := al_6 (List.mem_of_getElem? (i := 191) rfl) rfl
theorem ws_X7_whose : Cond.selects RX7 yX7_whose yX7_whose ∈ ALL := al_6 (List.mem_of_getElem? (i := 192) rfl) rfl
theorem wc_X7_whose : Cond.code yX7_whose cX7_whose 8 (some .int) ∈ ALL := al_6 (List.mem_of_getElem? (i := 193) rfl) rfl
theorem wm_L_166 : Cond.methodLink RL 166 yX7_ask ∈ ALL := al_6 (List.mem_of_getElem? (i := 194) rfl) rfl
theorem wi_X7_ask : Cond.instanceMethod yX7_ask ∈ ALL := al_6 (List.mem_of_getElem? (i := 195) rfl) rfl
theorem ws_X7_ask : Cond.selects RX7 yX7_ask yX7_ask ∈ ALL := al_6 (List.mem_of_getElem? (i := 196) rfl) rfl
theorem wc_X7_ask : Cond.code yX7_ask cX7_ask 6 (some .int) ∈ ALL := al_6 (List.mem_of_getElem? (i := 197) rfl) rfl
theorem wm_X7_306 : Cond.methodLink RX7 306 yX7_leftBy ∈ ALL := al_6 (List.mem_of_getElem? (i := 198) rfl) rfl
theorem wi_X7_leftBy : Cond.instanceMethod yX7_leftBy ∈ ALL := al_6 (List.mem_of_getElem? (i := 200) rfl) rfl
theorem wc_X7_leftBy : Cond.code yX7_leftBy cX7_leftBy 8 (some .int) ∈ ALL := al_6 (List.mem_of_getElem? (i := 201) rfl) rfl
theorem wm_L_170 : Cond.methodLink RL 170 yX7_year ∈ ALL := al_6 (List.mem_of_getElem? (i := 202) rfl) rfl
theorem wi_X7_year : Cond.instanceMethod yX7_year ∈ ALL := al_6 (List.mem_of_getElem? (i := 203) rfl) rfl
theorem ws_X7_year : Cond.selects RX7 yX7_year yX7_year ∈ ALL := al_6 (List.mem_of_getElem? (i := 204) rfl) rfl
theorem wc_X7_year : Cond.code yX7_year cX7_year 10 (some .int) ∈ ALL := al_6 (List.mem_of_getElem? (i := 205) rfl) rfl
theorem wk_X7_309 : Cond.constant RX7 309 (2147483646) ∈ ALL := al_6 (List.mem_of_getElem? (i := 206) rfl) rfl
theorem wk_X7_310 : Cond.constantLong RX7 310 (48271) ∈ ALL := al_6 (List.mem_of_getElem? (i := 207) rfl) rfl
theorem wk_X7_312 : Cond.constantLong RX7 312 (2147483647) ∈ ALL := al_6 (List.mem_of_getElem? (i := 208) rfl) rfl
theorem wk_X7_314 : Cond.constantLong RX7 314 (13) ∈ ALL := al_6 (List.mem_of_getElem? (i := 209) rfl) rfl
theorem wm_L_187 : Cond.methodLink RL 187 yX7_count ∈ ALL := al_6 (List.mem_of_getElem? (i := 210) rfl) rfl
theorem wi_X7_count : Cond.instanceMethod yX7_count ∈ ALL := al_6 (List.mem_of_getElem? (i := 211) rfl) rfl
theorem ws_X7_count : Cond.selects RX7 yX7_count yX7_count ∈ ALL := al_6 (List.mem_of_getElem? (i := 212) rfl) rfl
theorem wc_X7_count : Cond.code yX7_count cX7_count 2 (some .int) ∈ ALL := al_6 (List.mem_of_getElem? (i := 213) rfl) rfl
theorem wm_X7_316 : Cond.methodLink RX7 316 yX7_counted ∈ ALL := al_6 (List.mem_of_getElem? (i := 214) rfl) rfl
theorem wi_X7_counted : Cond.instanceMethod yX7_counted ∈ ALL := al_6 (List.mem_of_getElem? (i := 216) rfl) rfl
theorem wc_X7_counted : Cond.code yX7_counted cX7_counted 4 (some .int) ∈ ALL := al_6 (List.mem_of_getElem? (i := 217) rfl) rfl
theorem wm_L_199 : Cond.methodLink RL 199 yX7_digest ∈ ALL := al_6 (List.mem_of_getElem? (i := 218) rfl) rfl
theorem wi_X7_digest : Cond.instanceMethod yX7_digest ∈ ALL := al_6 (List.mem_of_getElem? (i := 219) rfl) rfl
theorem ws_X7_digest : Cond.selects RX7 yX7_digest yX7_digest ∈ ALL := al_6 (List.mem_of_getElem? (i := 220) rfl) rfl
theorem wc_X7_digest : Cond.code yX7_digest cX7_digest 3 (some .long) ∈ ALL := al_6 (List.mem_of_getElem? (i := 221) rfl) rfl
theorem wk_X7_330 : Cond.constantLong RX7 330 (17) ∈ ALL := al_6 (List.mem_of_getElem? (i := 222) rfl) rfl
theorem wm_X7_324 : Cond.methodLink RX7 324 yX7_mix ∈ ALL := al_6 (List.mem_of_getElem? (i := 223) rfl) rfl
theorem wi_X7_mix : Cond.instanceMethod yX7_mix ∈ ALL := al_6 (List.mem_of_getElem? (i := 225) rfl) rfl
theorem wc_X7_mix : Cond.code yX7_mix cX7_mix 3 none ∈ ALL := al_6 (List.mem_of_getElem? (i := 226) rfl) rfl
theorem wk_X7_319 : Cond.constantLong RX7 319 (31) ∈ ALL := al_6 (List.mem_of_getElem? (i := 227) rfl) rfl
theorem wm_X7_332 : Cond.methodLink RX7 332 yX7_mixValley ∈ ALL := al_6 (List.mem_of_getElem? (i := 228) rfl) rfl
theorem wi_X7_mixValley : Cond.instanceMethod yX7_mixValley ∈ ALL := al_6 (List.mem_of_getElem? (i := 230) rfl) rfl
theorem wc_X7_mixValley : Cond.code yX7_mixValley cX7_mixValley 3 none ∈ ALL := al_6 (List.mem_of_getElem? (i := 231) rfl) rfl
theorem wk_X7_328 : Cond.constantLong RX7 328 (-1) ∈ ALL := al_6 (List.mem_of_getElem? (i := 232) rfl) rfl
theorem ws_X6_found : Cond.selects RX6 yX6_found yX6_found ∈ ALL := al_s1 (q := (yX6_found, 14)) (List.mem_of_getElem? (i := 0) rfl)
theorem ws_X6_placeRefused : Cond.selects RX6 yX6_placeRefused yX6_placeRefused ∈ ALL := al_s1 (q := (yX6_placeRefused, 14)) (List.mem_of_getElem? (i := 1) rfl)
theorem ws_X6_tell : Cond.selects RX6 yX6_tell yX6_tell ∈ ALL := al_s1 (q := (yX6_tell, 14)) (List.mem_of_getElem? (i := 2) rfl)
theorem ws_X2_readStores : Cond.selects RX2 yX2_readStores yX2_readStores ∈ ALL := al_s1 (q := (yX2_readStores, 6)) (List.mem_of_getElem? (i := 3) rfl)
theorem ws_X2_skipBlanks : Cond.selects RX2 yX2_skipBlanks yX2_skipBlanks ∈ ALL := al_s1 (q := (yX2_skipBlanks, 6)) (List.mem_of_getElem? (i := 4) rfl)
theorem ws_X2_sign : Cond.selects RX2 yX2_sign yX2_sign ∈ ALL := al_s1 (q := (yX2_sign, 6)) (List.mem_of_getElem? (i := 5) rfl)
theorem ws_X2_figure : Cond.selects RX2 yX2_figure yX2_figure ∈ ALL := al_s1 (q := (yX2_figure, 6)) (List.mem_of_getElem? (i := 6) rfl)
theorem ws_X2_readGods : Cond.selects RX2 yX2_readGods yX2_readGods ∈ ALL := al_s1 (q := (yX2_readGods, 6)) (List.mem_of_getElem? (i := 7) rfl)
theorem ws_X2_readGod : Cond.selects RX2 yX2_readGod yX2_readGod ∈ ALL := al_s1 (q := (yX2_readGod, 6)) (List.mem_of_getElem? (i := 8) rfl)
theorem ws_X2_kind : Cond.selects RX2 yX2_kind yX2_kind ∈ ALL := al_s1 (q := (yX2_kind, 6)) (List.mem_of_getElem? (i := 9) rfl)
theorem ws_X2_neighbour : Cond.selects RX2 yX2_neighbour yX2_neighbour ∈ ALL := al_s1 (q := (yX2_neighbour, 6)) (List.mem_of_getElem? (i := 10) rfl)
theorem ws_X6_traitOf : Cond.selects RX6 yX6_traitOf yX6_traitOf ∈ ALL := al_s1 (q := (yX6_traitOf, 14)) (List.mem_of_getElem? (i := 11) rfl)
theorem ws_X5_noted : Cond.selects RX5 yX5_noted yX5_noted ∈ ALL := al_s1 (q := (yX5_noted, 4)) (List.mem_of_getElem? (i := 12) rfl)
theorem ws_X6_shortOfGoing : Cond.selects RX6 yX6_shortOfGoing yX6_shortOfGoing ∈ ALL := al_s1 (q := (yX6_shortOfGoing, 14)) (List.mem_of_getElem? (i := 13) rfl)
theorem ws_X6_noGods : Cond.selects RX6 yX6_noGods yX6_noGods ∈ ALL := al_s1 (q := (yX6_noGods, 14)) (List.mem_of_getElem? (i := 14) rfl)
theorem ws_X3_fedBy : Cond.selects RX3 yX3_fedBy yX3_fedBy ∈ ALL := al_s1 (q := (yX3_fedBy, 10)) (List.mem_of_getElem? (i := 15) rfl)
theorem ws_X3_awake : Cond.selects RX3 yX3_awake yX3_awake ∈ ALL := al_s2 (q := (yX3_awake, 10)) (List.mem_of_getElem? (i := 0) rfl)
theorem ws_X3_hungerAfter : Cond.selects RX3 yX3_hungerAfter yX3_hungerAfter ∈ ALL := al_s2 (q := (yX3_hungerAfter, 10)) (List.mem_of_getElem? (i := 1) rfl)
theorem ws_X3_send : Cond.selects RX3 yX3_send yX3_send ∈ ALL := al_s2 (q := (yX3_send, 10)) (List.mem_of_getElem? (i := 2) rfl)
theorem ws_X6_isKeepingPlace : Cond.selects RX6 yX6_isKeepingPlace yX6_isKeepingPlace ∈ ALL := al_s2 (q := (yX6_isKeepingPlace, 14)) (List.mem_of_getElem? (i := 3) rfl)
theorem ws_X1_start : Cond.selects RX1 yX1_start yX1_start ∈ ALL := al_s2 (q := (yX1_start, 13)) (List.mem_of_getElem? (i := 4) rfl)
theorem ws_X1_weigh : Cond.selects RX1 yX1_weigh yX1_weigh ∈ ALL := al_s2 (q := (yX1_weigh, 13)) (List.mem_of_getElem? (i := 5) rfl)
theorem ws_X1_goOn : Cond.selects RX1 yX1_goOn yX1_goOn ∈ ALL := al_s2 (q := (yX1_goOn, 13)) (List.mem_of_getElem? (i := 6) rfl)
theorem ws_X1_isWanted : Cond.selects RX1 yX1_isWanted yX1_isWanted ∈ ALL := al_s2 (q := (yX1_isWanted, 13)) (List.mem_of_getElem? (i := 7) rfl)
theorem ws_X6_holdsNumbersOnly : Cond.selects RX6 yX6_holdsNumbersOnly yX6_holdsNumbersOnly ∈ ALL := al_s2 (q := (yX6_holdsNumbersOnly, 14)) (List.mem_of_getElem? (i := 8) rfl)
theorem ws_X6_startTrial : Cond.selects RX6 yX6_startTrial yX6_startTrial ∈ ALL := al_s2 (q := (yX6_startTrial, 14)) (List.mem_of_getElem? (i := 9) rfl)
theorem ws_X6_tellFraction : Cond.selects RX6 yX6_tellFraction yX6_tellFraction ∈ ALL := al_s2 (q := (yX6_tellFraction, 14)) (List.mem_of_getElem? (i := 10) rfl)
theorem ws_X6_bookRefused : Cond.selects RX6 yX6_bookRefused yX6_bookRefused ∈ ALL := al_s2 (q := (yX6_bookRefused, 14)) (List.mem_of_getElem? (i := 11) rfl)
theorem ws_X6_fittingPatiences : Cond.selects RX6 yX6_fittingPatiences yX6_fittingPatiences ∈ ALL := al_s2 (q := (yX6_fittingPatiences, 14)) (List.mem_of_getElem? (i := 12) rfl)
theorem ws_X6_bookFitsOthers : Cond.selects RX6 yX6_bookFitsOthers yX6_bookFitsOthers ∈ ALL := al_s2 (q := (yX6_bookFitsOthers, 14)) (List.mem_of_getElem? (i := 13) rfl)
theorem ws_X6_mostLeftBy : Cond.selects RX6 yX6_mostLeftBy yX6_mostLeftBy ∈ ALL := al_s2 (q := (yX6_mostLeftBy, 14)) (List.mem_of_getElem? (i := 14) rfl)
theorem ws_X6_howManyKept : Cond.selects RX6 yX6_howManyKept yX6_howManyKept ∈ ALL := al_s2 (q := (yX6_howManyKept, 14)) (List.mem_of_getElem? (i := 15) rfl)
theorem ws_X7_meets : Cond.selects RX7 yX7_meets yX7_meets ∈ ALL := al_s3 (q := (yX7_meets, 39)) (List.mem_of_getElem? (i := 0) rfl)
theorem ws_X7_rowAt : Cond.selects RX7 yX7_rowAt yX7_rowAt ∈ ALL := al_s3 (q := (yX7_rowAt, 39)) (List.mem_of_getElem? (i := 1) rfl)
theorem ws_X7_tells : Cond.selects RX7 yX7_tells yX7_tells ∈ ALL := al_s3 (q := (yX7_tells, 39)) (List.mem_of_getElem? (i := 2) rfl)
theorem ws_X7_faultOf : Cond.selects RX7 yX7_faultOf yX7_faultOf ∈ ALL := al_s3 (q := (yX7_faultOf, 39)) (List.mem_of_getElem? (i := 3) rfl)
theorem ws_X7_byteAt : Cond.selects RX7 yX7_byteAt yX7_byteAt ∈ ALL := al_s3 (q := (yX7_byteAt, 39)) (List.mem_of_getElem? (i := 4) rfl)
theorem ws_X7_readsGod : Cond.selects RX7 yX7_readsGod yX7_readsGod ∈ ALL := al_s3 (q := (yX7_readsGod, 39)) (List.mem_of_getElem? (i := 5) rfl)
theorem ws_X7_figure : Cond.selects RX7 yX7_figure yX7_figure ∈ ALL := al_s3 (q := (yX7_figure, 39)) (List.mem_of_getElem? (i := 6) rfl)
theorem ws_X7_readsStores : Cond.selects RX7 yX7_readsStores yX7_readsStores ∈ ALL := al_s3 (q := (yX7_readsStores, 39)) (List.mem_of_getElem? (i := 7) rfl)
theorem ws_X7_place : Cond.selects RX7 yX7_place yX7_place ∈ ALL := al_s3 (q := (yX7_place, 39)) (List.mem_of_getElem? (i := 8) rfl)
theorem ws_X7_isGod : Cond.selects RX7 yX7_isGod yX7_isGod ∈ ALL := al_s3 (q := (yX7_isGod, 39)) (List.mem_of_getElem? (i := 9) rfl)
theorem ws_X7_godTells : Cond.selects RX7 yX7_godTells yX7_godTells ∈ ALL := al_s3 (q := (yX7_godTells, 39)) (List.mem_of_getElem? (i := 10) rfl)
theorem ws_X7_v : Cond.selects RX7 yX7_v yX7_v ∈ ALL := al_s3 (q := (yX7_v, 39)) (List.mem_of_getElem? (i := 11) rfl)
theorem ws_X7_kind : Cond.selects RX7 yX7_kind yX7_kind ∈ ALL := al_s3 (q := (yX7_kind, 39)) (List.mem_of_getElem? (i := 12) rfl)
theorem ws_X7_abides : Cond.selects RX7 yX7_abides yX7_abides ∈ ALL := al_s3 (q := (yX7_abides, 39)) (List.mem_of_getElem? (i := 13) rfl)
theorem ws_X7_isGone : Cond.selects RX7 yX7_isGone yX7_isGone ∈ ALL := al_s3 (q := (yX7_isGone, 39)) (List.mem_of_getElem? (i := 14) rfl)
theorem ws_X7_patienceOf : Cond.selects RX7 yX7_patienceOf yX7_patienceOf ∈ ALL := al_s3 (q := (yX7_patienceOf, 39)) (List.mem_of_getElem? (i := 15) rfl)
theorem ws_X7_isNumber : Cond.selects RX7 yX7_isNumber yX7_isNumber ∈ ALL := al_s4 (q := (yX7_isNumber, 39)) (List.mem_of_getElem? (i := 0) rfl)
theorem ws_X7_costOf : Cond.selects RX7 yX7_costOf yX7_costOf ∈ ALL := al_s4 (q := (yX7_costOf, 39)) (List.mem_of_getElem? (i := 1) rfl)
theorem ws_X7_isUp : Cond.selects RX7 yX7_isUp yX7_isUp ∈ ALL := al_s4 (q := (yX7_isUp, 39)) (List.mem_of_getElem? (i := 2) rfl)
theorem ws_X7_sleeps : Cond.selects RX7 yX7_sleeps yX7_sleeps ∈ ALL := al_s4 (q := (yX7_sleeps, 39)) (List.mem_of_getElem? (i := 3) rfl)
theorem ws_X7_isSleeper : Cond.selects RX7 yX7_isSleeper yX7_isSleeper ∈ ALL := al_s4 (q := (yX7_isSleeper, 39)) (List.mem_of_getElem? (i := 4) rfl)
theorem ws_X7_fedBy : Cond.selects RX7 yX7_fedBy yX7_fedBy ∈ ALL := al_s4 (q := (yX7_fedBy, 39)) (List.mem_of_getElem? (i := 5) rfl)
theorem ws_X7_isFull : Cond.selects RX7 yX7_isFull yX7_isFull ∈ ALL := al_s4 (q := (yX7_isFull, 39)) (List.mem_of_getElem? (i := 6) rfl)
theorem ws_X7_goesBy : Cond.selects RX7 yX7_goesBy yX7_goesBy ∈ ALL := al_s4 (q := (yX7_goesBy, 39)) (List.mem_of_getElem? (i := 7) rfl)
theorem ws_X7_goes : Cond.selects RX7 yX7_goes yX7_goes ∈ ALL := al_s4 (q := (yX7_goes, 39)) (List.mem_of_getElem? (i := 8) rfl)
theorem ws_X7_hungers : Cond.selects RX7 yX7_hungers yX7_hungers ∈ ALL := al_s4 (q := (yX7_hungers, 39)) (List.mem_of_getElem? (i := 9) rfl)
theorem ws_X7_isJealous : Cond.selects RX7 yX7_isJealous yX7_isJealous ∈ ALL := al_s4 (q := (yX7_isJealous, 39)) (List.mem_of_getElem? (i := 10) rfl)
theorem ws_X7_sends : Cond.selects RX7 yX7_sends yX7_sends ∈ ALL := al_s4 (q := (yX7_sends, 39)) (List.mem_of_getElem? (i := 11) rfl)
theorem ws_X7_needDays : Cond.selects RX7 yX7_needDays yX7_needDays ∈ ALL := al_s4 (q := (yX7_needDays, 39)) (List.mem_of_getElem? (i := 12) rfl)
theorem ws_X7_mostOf : Cond.selects RX7 yX7_mostOf yX7_mostOf ∈ ALL := al_s4 (q := (yX7_mostOf, 39)) (List.mem_of_getElem? (i := 13) rfl)
theorem ws_X7_noPlan : Cond.selects RX7 yX7_noPlan yX7_noPlan ∈ ALL := al_s4 (q := (yX7_noPlan, 39)) (List.mem_of_getElem? (i := 14) rfl)
theorem ws_X7_nextPlan : Cond.selects RX7 yX7_nextPlan yX7_nextPlan ∈ ALL := al_s4 (q := (yX7_nextPlan, 39)) (List.mem_of_getElem? (i := 15) rfl)
theorem ws_X7_layPlan : Cond.selects RX7 yX7_layPlan yX7_layPlan ∈ ALL := al_s5 (q := (yX7_layPlan, 39)) (List.mem_of_getElem? (i := 0) rfl)
theorem ws_X7_copyValley : Cond.selects RX7 yX7_copyValley yX7_copyValley ∈ ALL := al_s5 (q := (yX7_copyValley, 39)) (List.mem_of_getElem? (i := 1) rfl)
theorem ws_X7_isStarved : Cond.selects RX7 yX7_isStarved yX7_isStarved ∈ ALL := al_s5 (q := (yX7_isStarved, 39)) (List.mem_of_getElem? (i := 2) rfl)
theorem ws_X7_keepPlan : Cond.selects RX7 yX7_keepPlan yX7_keepPlan ∈ ALL := al_s5 (q := (yX7_keepPlan, 39)) (List.mem_of_getElem? (i := 3) rfl)
theorem ws_X7_planToRow : Cond.selects RX7 yX7_planToRow yX7_planToRow ∈ ALL := al_s5 (q := (yX7_planToRow, 39)) (List.mem_of_getElem? (i := 4) rfl)
theorem ws_X7_needPlan : Cond.selects RX7 yX7_needPlan yX7_needPlan ∈ ALL := al_s5 (q := (yX7_needPlan, 39)) (List.mem_of_getElem? (i := 5) rfl)
theorem ws_X7_fraction : Cond.selects RX7 yX7_fraction yX7_fraction ∈ ALL := al_s5 (q := (yX7_fraction, 39)) (List.mem_of_getElem? (i := 6) rfl)
theorem ws_X7_lastTurn : Cond.selects RX7 yX7_lastTurn yX7_lastTurn ∈ ALL := al_s5 (q := (yX7_lastTurn, 39)) (List.mem_of_getElem? (i := 7) rfl)
theorem ws_X7_sentOf : Cond.selects RX7 yX7_sentOf yX7_sentOf ∈ ALL := al_s5 (q := (yX7_sentOf, 39)) (List.mem_of_getElem? (i := 8) rfl)
theorem ws_X7_twoTurns : Cond.selects RX7 yX7_twoTurns yX7_twoTurns ∈ ALL := al_s5 (q := (yX7_twoTurns, 39)) (List.mem_of_getElem? (i := 9) rfl)
theorem ws_X7_threeTurns : Cond.selects RX7 yX7_threeTurns yX7_threeTurns ∈ ALL := al_s5 (q := (yX7_threeTurns, 39)) (List.mem_of_getElem? (i := 10) rfl)
theorem ws_X7_whole : Cond.selects RX7 yX7_whole yX7_whole ∈ ALL := al_s5 (q := (yX7_whole, 39)) (List.mem_of_getElem? (i := 11) rfl)
theorem ws_X7_needBook : Cond.selects RX7 yX7_needBook yX7_needBook ∈ ALL := al_s5 (q := (yX7_needBook, 39)) (List.mem_of_getElem? (i := 12) rfl)
theorem ws_X7_fitting : Cond.selects RX7 yX7_fitting yX7_fitting ∈ ALL := al_s5 (q := (yX7_fitting, 39)) (List.mem_of_getElem? (i := 13) rfl)
theorem ws_X7_leftBy : Cond.selects RX7 yX7_leftBy yX7_leftBy ∈ ALL := al_s5 (q := (yX7_leftBy, 39)) (List.mem_of_getElem? (i := 14) rfl)
theorem ws_X7_counted : Cond.selects RX7 yX7_counted yX7_counted ∈ ALL := al_s5 (q := (yX7_counted, 39)) (List.mem_of_getElem? (i := 15) rfl)
theorem ws_X7_mix : Cond.selects RX7 yX7_mix yX7_mix ∈ ALL := al_s6 (q := (yX7_mix, 39)) (List.mem_of_getElem? (i := 0) rfl)
theorem ws_X7_mixValley : Cond.selects RX7 yX7_mixValley yX7_mixValley ∈ ALL := al_s6 (q := (yX7_mixValley, 39)) (List.mem_of_getElem? (i := 1) rfl)
theorem inX0 : ∀ w ∈ wsX00, w ∈ ALL := u_ws_in (lt_s (lt_s (lt_s (lt_s (lt_s (lt_s (lt_s (lt_s (lt_s (lt_s (lt_s (lt_s lt_0 wy_X0_many) wy_X0_all) wy_X0_sleepers) wy_X0_kinds) wy_X0_foods) wy_X0_patiences) wy_X0_goods) wy_X0_harms) wy_X0_neighbours) wy_X0_tables) wy_X0_foes) wy_X0_spites)
theorem inX1 : ∀ w ∈ wsX10, w ∈ ALL := u_ws_in (lt_s (lt_s (lt_s (lt_s (lt_s (lt_s (lt_s (lt_s (lt_s (lt_s (lt_s (lt_s (lt_s lt_0 wy_X1_scenes) wy_X1_numbers) wy_X1_days) wy_X1_unfed) wy_X1_isHarmless) wy_X1_isFirstEnough) wy_X1_found) wy_X1_harmlessFound) wy_X1_most) wy_X1_leastHarm) wy_X1_mostGood) wy_X1_leastTaken) wy_X1_bestPlan)
theorem inX2 : ∀ w ∈ wsX20, w ∈ ALL := u_ws_in (lt_s (lt_s (lt_s (lt_s (lt_s (lt_s lt_0 wy_X2_gods) wy_X2_stores) wy_X2_signs) wy_X2_size) wy_X2_place) wy_X2_stop)
theorem inX3 : ∀ w ∈ wsX30, w ∈ ALL := u_ws_in (lt_s (lt_s (lt_s (lt_s (lt_s (lt_s (lt_s (lt_s (lt_s (lt_s lt_0 wy_X3_day) wy_X3_gone) wy_X3_everFed) wy_X3_good) wy_X3_harm) wy_X3_taken) wy_X3_stores) wy_X3_hungers) wy_X3_fed) wy_X3_sendings)
theorem inX4 : ∀ w ∈ wsX40, w ∈ ALL := u_ws_in (lt_s (lt_s lt_0 wy_X4_places) wy_X4_sizes)
theorem inX5 : ∀ w ∈ wsX50, w ∈ ALL := u_ws_in (lt_s (lt_s (lt_s (lt_s lt_0 wy_X5_gods) wy_X5_now) wy_X5_isKept) wy_X5_diary)
theorem inX6 : ∀ w ∈ wsX60, w ∈ ALL := u_ws_in (lt_s (lt_s (lt_s (lt_s (lt_s (lt_s (lt_s (lt_s (lt_s (lt_s (lt_s (lt_s (lt_s (lt_s lt_0 wy_X6_rows) wy_X6_texts) wy_X6_reader) wy_X6_village) wy_X6_keptOnes) wy_X6_plans) wy_X6_otherGods) wy_X6_trial) wy_X6_worthsByPatience) wy_X6_findingCounts) wy_X6_latestFinding) wy_X6_told) wy_X6_above) wy_X6_below)
theorem inX7 : ∀ w ∈ wsX70, w ∈ ALL := u_ws_in (lt_s (lt_s (lt_s (lt_s (lt_s (lt_s (lt_s (lt_s (lt_s (lt_s (lt_s (lt_s (lt_s (lt_s (lt_s (lt_s (lt_s (lt_s (lt_s (lt_s (lt_s (lt_s (lt_s (lt_s (lt_s (lt_s (lt_s (lt_s (lt_s (lt_s (lt_s (lt_s (lt_s (lt_s (lt_s (lt_s (lt_s (lt_s (lt_s lt_0 wy_X7_latest) wy_X7_came) wy_X7_asked) wy_X7_upper) wy_X7_lower) wy_X7_sizes) wy_X7_rows) wy_X7_copied) wy_X7_textSizes) wy_X7_bytes) wy_X7_n) wy_X7_gods) wy_X7_readAt) wy_X7_readNumber) wy_X7_readStores) wy_X7_readMany) wy_X7_readStore) wy_X7_readGods) wy_X7_rowsOf) wy_X7_sentNow) wy_X7_worthNow) wy_X7_harmNow) wy_X7_costNow) wy_X7_days) wy_X7_isKept) wy_X7_keptNow) wy_X7_keptPatience) wy_X7_keptDays) wy_X7_plan) wy_X7_planLong) wy_X7_planWorth) wy_X7_planHarm) wy_X7_planGood) wy_X7_planFood) wy_X7_starved) wy_X7_firstPlan) wy_X7_firstOffer) wy_X7_worthBy) wy_X7_hash)
