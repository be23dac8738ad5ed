section
-- ===== PART A: goes FIRST, ahead of the names: the tables' words, and 'selects' of the private methods out of them =====
/-- a private method of a class that the tables say can be made, by its rows of tables_1 -/
def lw_okq (q : MethodName × Nat) : Prop := (q.1.cls ≠ "java/lang/invoke/MethodHandle" ∧ q.1.cls ≠ "java/lang/invoke/VarHandle") ∧ Cond.instantiable q.1.cls q.2 ∈ tables_1 ∧ Cond.privateMethod q.1 ∈ tables_1 ∧ Cond.instanceMethod q.1 ∈ tables_1
theorem lw_p0 : lw_okq (⟨"HouseTwins$Reader", "restart", "()V"⟩, 11) := ⟨⟨by decide +kernel, by decide +kernel⟩, List.mem_of_getElem? (i := 160) (by decide +kernel), List.mem_of_getElem? (i := 395) (by decide +kernel), List.mem_of_getElem? (i := 396) (by decide +kernel)⟩
theorem lw_p1 : lw_okq (⟨"HouseTwins$Reader", "takeToken", "()V"⟩, 11) := ⟨⟨by decide +kernel, by decide +kernel⟩, List.mem_of_getElem? (i := 160) (by decide +kernel), List.mem_of_getElem? (i := 408) (by decide +kernel), List.mem_of_getElem? (i := 409) (by decide +kernel)⟩
theorem lw_p2 : lw_okq (⟨"HouseTwins$Reader", "fail", "(II)I"⟩, 11) := ⟨⟨by decide +kernel, by decide +kernel⟩, List.mem_of_getElem? (i := 160) (by decide +kernel), List.mem_of_getElem? (i := 419) (by decide +kernel), List.mem_of_getElem? (i := 420) (by decide +kernel)⟩
theorem lw_p3 : lw_okq (⟨"HouseTwins$Reader", "readLine", "()V"⟩, 11) := ⟨⟨by decide +kernel, by decide +kernel⟩, List.mem_of_getElem? (i := 160) (by decide +kernel), List.mem_of_getElem? (i := 423) (by decide +kernel), List.mem_of_getElem? (i := 424) (by decide +kernel)⟩
theorem lw_p4 : lw_okq (⟨"HouseTwins$Reader", "nameAmong", "(Ljava/lang/String;)I"⟩, 11) := ⟨⟨by decide +kernel, by decide +kernel⟩, List.mem_of_getElem? (i := 160) (by decide +kernel), List.mem_of_getElem? (i := 428) (by decide +kernel), List.mem_of_getElem? (i := 429) (by decide +kernel)⟩
theorem lw_p5 : lw_okq (⟨"HouseTwins$Reader", "tellOnce", "(I)V"⟩, 11) := ⟨⟨by decide +kernel, by decide +kernel⟩, List.mem_of_getElem? (i := 160) (by decide +kernel), List.mem_of_getElem? (i := 480) (by decide +kernel), List.mem_of_getElem? (i := 481) (by decide +kernel)⟩
theorem lw_p6 : lw_okq (⟨"HouseTwins$Reader", "takeNumber", "(II)I"⟩, 11) := ⟨⟨by decide +kernel, by decide +kernel⟩, List.mem_of_getElem? (i := 160) (by decide +kernel), List.mem_of_getElem? (i := 484) (by decide +kernel), List.mem_of_getElem? (i := 485) (by decide +kernel)⟩
theorem lw_p7 : lw_okq (⟨"HouseTwins$Reader", "readPrices", "()V"⟩, 11) := ⟨⟨by decide +kernel, by decide +kernel⟩, List.mem_of_getElem? (i := 160) (by decide +kernel), List.mem_of_getElem? (i := 488) (by decide +kernel), List.mem_of_getElem? (i := 489) (by decide +kernel)⟩
theorem lw_p8 : lw_okq (⟨"HouseTwins$Reader", "readOfKinds", "([[II)V"⟩, 11) := ⟨⟨by decide +kernel, by decide +kernel⟩, List.mem_of_getElem? (i := 160) (by decide +kernel), List.mem_of_getElem? (i := 492) (by decide +kernel), List.mem_of_getElem? (i := 493) (by decide +kernel)⟩
theorem lw_p9 : lw_okq (⟨"HouseTwins$Reader", "takeBank", "()I"⟩, 11) := ⟨⟨by decide +kernel, by decide +kernel⟩, List.mem_of_getElem? (i := 160) (by decide +kernel), List.mem_of_getElem? (i := 496) (by decide +kernel), List.mem_of_getElem? (i := 497) (by decide +kernel)⟩
theorem lw_p10 : lw_okq (⟨"HouseTwins$Reader", "readLack", "()V"⟩, 11) := ⟨⟨by decide +kernel, by decide +kernel⟩, List.mem_of_getElem? (i := 160) (by decide +kernel), List.mem_of_getElem? (i := 500) (by decide +kernel), List.mem_of_getElem? (i := 501) (by decide +kernel)⟩
theorem lw_p11 : lw_okq (⟨"HouseTwins$Reader", "takeNameOf", "(Ljava/lang/String;)I"⟩, 11) := ⟨⟨by decide +kernel, by decide +kernel⟩, List.mem_of_getElem? (i := 160) (by decide +kernel), List.mem_of_getElem? (i := 505) (by decide +kernel), List.mem_of_getElem? (i := 506) (by decide +kernel)⟩
theorem lw_p12 : lw_okq (⟨"HouseTwins$Reader", "readTwins", "()V"⟩, 11) := ⟨⟨by decide +kernel, by decide +kernel⟩, List.mem_of_getElem? (i := 160) (by decide +kernel), List.mem_of_getElem? (i := 509) (by decide +kernel), List.mem_of_getElem? (i := 510) (by decide +kernel)⟩
theorem lw_p13 : lw_okq (⟨"HouseTwins$Reader", "readPaint", "()V"⟩, 11) := ⟨⟨by decide +kernel, by decide +kernel⟩, List.mem_of_getElem? (i := 160) (by decide +kernel), List.mem_of_getElem? (i := 513) (by decide +kernel), List.mem_of_getElem? (i := 514) (by decide +kernel)⟩
theorem lw_p14 : lw_okq (⟨"HouseTwins$Reader", "readRight", "()V"⟩, 11) := ⟨⟨by decide +kernel, by decide +kernel⟩, List.mem_of_getElem? (i := 160) (by decide +kernel), List.mem_of_getElem? (i := 517) (by decide +kernel), List.mem_of_getElem? (i := 518) (by decide +kernel)⟩
theorem lw_p15 : lw_okq (⟨"HouseTwins$Reader", "readThing", "()V"⟩, 11) := ⟨⟨by decide +kernel, by decide +kernel⟩, List.mem_of_getElem? (i := 160) (by decide +kernel), List.mem_of_getElem? (i := 521) (by decide +kernel), List.mem_of_getElem? (i := 522) (by decide +kernel)⟩
def lw_privs_1 : List (MethodName × Nat) := [(⟨"HouseTwins$Reader", "restart", "()V"⟩, 11), (⟨"HouseTwins$Reader", "takeToken", "()V"⟩, 11), (⟨"HouseTwins$Reader", "fail", "(II)I"⟩, 11), (⟨"HouseTwins$Reader", "readLine", "()V"⟩, 11), (⟨"HouseTwins$Reader", "nameAmong", "(Ljava/lang/String;)I"⟩, 11), (⟨"HouseTwins$Reader", "tellOnce", "(I)V"⟩, 11), (⟨"HouseTwins$Reader", "takeNumber", "(II)I"⟩, 11), (⟨"HouseTwins$Reader", "readPrices", "()V"⟩, 11), (⟨"HouseTwins$Reader", "readOfKinds", "([[II)V"⟩, 11), (⟨"HouseTwins$Reader", "takeBank", "()I"⟩, 11), (⟨"HouseTwins$Reader", "readLack", "()V"⟩, 11), (⟨"HouseTwins$Reader", "takeNameOf", "(Ljava/lang/String;)I"⟩, 11), (⟨"HouseTwins$Reader", "readTwins", "()V"⟩, 11), (⟨"HouseTwins$Reader", "readPaint", "()V"⟩, 11), (⟨"HouseTwins$Reader", "readRight", "()V"⟩, 11), (⟨"HouseTwins$Reader", "readThing", "()V"⟩, 11)]
theorem lw_r1 : ∀ q ∈ lw_privs_1, lw_okq q := List.forall_mem_cons.mpr ⟨lw_p0, List.forall_mem_cons.mpr ⟨lw_p1, List.forall_mem_cons.mpr ⟨lw_p2, List.forall_mem_cons.mpr ⟨lw_p3, List.forall_mem_cons.mpr ⟨lw_p4, List.forall_mem_cons.mpr ⟨lw_p5, List.forall_mem_cons.mpr ⟨lw_p6, List.forall_mem_cons.mpr ⟨lw_p7, List.forall_mem_cons.mpr ⟨lw_p8, List.forall_mem_cons.mpr ⟨lw_p9, List.forall_mem_cons.mpr ⟨lw_p10, List.forall_mem_cons.mpr ⟨lw_p11, List.forall_mem_cons.mpr ⟨lw_p12, List.forall_mem_cons.mpr ⟨lw_p13, List.forall_mem_cons.mpr ⟨lw_p14, List.forall_mem_cons.mpr ⟨lw_p15, fun _ h => absurd h List.not_mem_nil⟩⟩⟩⟩⟩⟩⟩⟩⟩⟩⟩⟩⟩⟩⟩⟩
theorem lw_p16 : lw_okq (⟨"HouseTwins$Reader", "takeThing", "()I"⟩, 11) := ⟨⟨by decide +kernel, by decide +kernel⟩, List.mem_of_getElem? (i := 160) (by decide +kernel), List.mem_of_getElem? (i := 528) (by decide +kernel), List.mem_of_getElem? (i := 529) (by decide +kernel)⟩
theorem lw_p17 : lw_okq (⟨"HouseTwins$Reader", "readWork", "()V"⟩, 11) := ⟨⟨by decide +kernel, by decide +kernel⟩, List.mem_of_getElem? (i := 160) (by decide +kernel), List.mem_of_getElem? (i := 545) (by decide +kernel), List.mem_of_getElem? (i := 546) (by decide +kernel)⟩
theorem lw_p18 : lw_okq (⟨"HouseTwins$Rows", "setCell", "(III)V"⟩, 4) := ⟨⟨by decide +kernel, by decide +kernel⟩, List.mem_of_getElem? (i := 112) (by decide +kernel), List.mem_of_getElem? (i := 566) (by decide +kernel), List.mem_of_getElem? (i := 567) (by decide +kernel)⟩
theorem lw_p19 : lw_okq (⟨"HouseTwins$Reader", "takeStop", "()V"⟩, 11) := ⟨⟨by decide +kernel, by decide +kernel⟩, List.mem_of_getElem? (i := 160) (by decide +kernel), List.mem_of_getElem? (i := 570) (by decide +kernel), List.mem_of_getElem? (i := 571) (by decide +kernel)⟩
theorem lw_p20 : lw_okq (⟨"HouseTwins$Reader", "allLotsAre", "()Z"⟩, 11) := ⟨⟨by decide +kernel, by decide +kernel⟩, List.mem_of_getElem? (i := 160) (by decide +kernel), List.mem_of_getElem? (i := 574) (by decide +kernel), List.mem_of_getElem? (i := 575) (by decide +kernel)⟩
theorem lw_p21 : lw_okq (⟨"HouseTwins$Law", "doorStays", "(I)Z"⟩, 10) := ⟨⟨by decide +kernel, by decide +kernel⟩, List.mem_of_getElem? (i := 44) (by decide +kernel), List.mem_of_getElem? (i := 652) (by decide +kernel), List.mem_of_getElem? (i := 653) (by decide +kernel)⟩
theorem lw_p22 : lw_okq (⟨"HouseTwins$Run", "tryWork", "(IIII)I"⟩, 7) := ⟨⟨by decide +kernel, by decide +kernel⟩, List.mem_of_getElem? (i := 209) (by decide +kernel), List.mem_of_getElem? (i := 727) (by decide +kernel), List.mem_of_getElem? (i := 728) (by decide +kernel)⟩
theorem lw_p23 : lw_okq (⟨"HouseTwins$Run", "build", "(III)V"⟩, 7) := ⟨⟨by decide +kernel, by decide +kernel⟩, List.mem_of_getElem? (i := 209) (by decide +kernel), List.mem_of_getElem? (i := 741) (by decide +kernel), List.mem_of_getElem? (i := 742) (by decide +kernel)⟩
theorem lw_p24 : lw_okq (⟨"HouseTwins$Run", "answer", "(II)V"⟩, 7) := ⟨⟨by decide +kernel, by decide +kernel⟩, List.mem_of_getElem? (i := 209) (by decide +kernel), List.mem_of_getElem? (i := 746) (by decide +kernel), List.mem_of_getElem? (i := 747) (by decide +kernel)⟩
theorem lw_p25 : lw_okq (⟨"HouseTwins$Run", "isEvenPair", "(II)Z"⟩, 7) := ⟨⟨by decide +kernel, by decide +kernel⟩, List.mem_of_getElem? (i := 209) (by decide +kernel), List.mem_of_getElem? (i := 750) (by decide +kernel), List.mem_of_getElem? (i := 751) (by decide +kernel)⟩
theorem lw_p26 : lw_okq (⟨"HouseTwins$Choice", "weighVex", "(IIII)V"⟩, 5) := ⟨⟨by decide +kernel, by decide +kernel⟩, List.mem_of_getElem? (i := 240) (by decide +kernel), List.mem_of_getElem? (i := 835) (by decide +kernel), List.mem_of_getElem? (i := 836) (by decide +kernel)⟩
theorem lw_p27 : lw_okq (⟨"HouseTwins$Planner", "leastFrom", "(II)I"⟩, 5) := ⟨⟨by decide +kernel, by decide +kernel⟩, List.mem_of_getElem? (i := 265) (by decide +kernel), List.mem_of_getElem? (i := 864) (by decide +kernel), List.mem_of_getElem? (i := 865) (by decide +kernel)⟩
theorem lw_p28 : lw_okq (⟨"HouseTwins$Planner", "costWith", "(III)I"⟩, 5) := ⟨⟨by decide +kernel, by decide +kernel⟩, List.mem_of_getElem? (i := 265) (by decide +kernel), List.mem_of_getElem? (i := 869) (by decide +kernel), List.mem_of_getElem? (i := 870) (by decide +kernel)⟩
theorem lw_p29 : lw_okq (⟨"HouseTwins$Planner", "placeWants", "(II)V"⟩, 5) := ⟨⟨by decide +kernel, by decide +kernel⟩, List.mem_of_getElem? (i := 265) (by decide +kernel), List.mem_of_getElem? (i := 876) (by decide +kernel), List.mem_of_getElem? (i := 877) (by decide +kernel)⟩
theorem lw_p30 : lw_okq (⟨"HouseTwins", "lossOfBoth", "(III)I"⟩, 13) := ⟨⟨by decide +kernel, by decide +kernel⟩, List.mem_of_getElem? (i := 20) (by decide +kernel), List.mem_of_getElem? (i := 902) (by decide +kernel), List.mem_of_getElem? (i := 903) (by decide +kernel)⟩
theorem lw_p31 : lw_okq (⟨"HouseTwins", "quarrelBy", "(I)I"⟩, 13) := ⟨⟨by decide +kernel, by decide +kernel⟩, List.mem_of_getElem? (i := 20) (by decide +kernel), List.mem_of_getElem? (i := 911) (by decide +kernel), List.mem_of_getElem? (i := 912) (by decide +kernel)⟩
def lw_privs_2 : List (MethodName × Nat) := [(⟨"HouseTwins$Reader", "takeThing", "()I"⟩, 11), (⟨"HouseTwins$Reader", "readWork", "()V"⟩, 11), (⟨"HouseTwins$Rows", "setCell", "(III)V"⟩, 4), (⟨"HouseTwins$Reader", "takeStop", "()V"⟩, 11), (⟨"HouseTwins$Reader", "allLotsAre", "()Z"⟩, 11), (⟨"HouseTwins$Law", "doorStays", "(I)Z"⟩, 10), (⟨"HouseTwins$Run", "tryWork", "(IIII)I"⟩, 7), (⟨"HouseTwins$Run", "build", "(III)V"⟩, 7), (⟨"HouseTwins$Run", "answer", "(II)V"⟩, 7), (⟨"HouseTwins$Run", "isEvenPair", "(II)Z"⟩, 7), (⟨"HouseTwins$Choice", "weighVex", "(IIII)V"⟩, 5), (⟨"HouseTwins$Planner", "leastFrom", "(II)I"⟩, 5), (⟨"HouseTwins$Planner", "costWith", "(III)I"⟩, 5), (⟨"HouseTwins$Planner", "placeWants", "(II)V"⟩, 5), (⟨"HouseTwins", "lossOfBoth", "(III)I"⟩, 13), (⟨"HouseTwins", "quarrelBy", "(I)I"⟩, 13)]
theorem lw_r2 : ∀ q ∈ lw_privs_2, lw_okq q := List.forall_mem_cons.mpr ⟨lw_p16, List.forall_mem_cons.mpr ⟨lw_p17, List.forall_mem_cons.mpr ⟨lw_p18, List.forall_mem_cons.mpr ⟨lw_p19, List.forall_mem_cons.mpr ⟨lw_p20, List.forall_mem_cons.mpr ⟨lw_p21, List.forall_mem_cons.mpr ⟨lw_p22, List.forall_mem_cons.mpr ⟨lw_p23, List.forall_mem_cons.mpr ⟨lw_p24, List.forall_mem_cons.mpr ⟨lw_p25, List.forall_mem_cons.mpr ⟨lw_p26, List.forall_mem_cons.mpr ⟨lw_p27, List.forall_mem_cons.mpr ⟨lw_p28, List.forall_mem_cons.mpr ⟨lw_p29, List.forall_mem_cons.mpr ⟨lw_p30, List.forall_mem_cons.mpr ⟨lw_p31, fun _ h => absurd h List.not_mem_nil⟩⟩⟩⟩⟩⟩⟩⟩⟩⟩⟩⟩⟩⟩⟩⟩
theorem lw_p32 : lw_okq (⟨"HouseTwins$Past", "fitsSeen", "(III)Z"⟩, 6) := ⟨⟨by decide +kernel, by decide +kernel⟩, List.mem_of_getElem? (i := 287) (by decide +kernel), List.mem_of_getElem? (i := 952) (by decide +kernel), List.mem_of_getElem? (i := 953) (by decide +kernel)⟩
theorem lw_p33 : lw_okq (⟨"HouseTwins$Past", "note", "(II)V"⟩, 6) := ⟨⟨by decide +kernel, by decide +kernel⟩, List.mem_of_getElem? (i := 287) (by decide +kernel), List.mem_of_getElem? (i := 957) (by decide +kernel), List.mem_of_getElem? (i := 958) (by decide +kernel)⟩
theorem lw_p34 : lw_okq (⟨"HouseTwinsModel", "firstDraft", "()V"⟩, 49) := ⟨⟨by decide +kernel, by decide +kernel⟩, List.mem_of_getElem? (i := 1038) (by decide +kernel), List.mem_of_getElem? (i := 1044) (by decide +kernel), List.mem_of_getElem? (i := 1045) (by decide +kernel)⟩
theorem lw_p35 : lw_okq (⟨"HouseTwinsModel", "keepDraft", "()V"⟩, 49) := ⟨⟨by decide +kernel, by decide +kernel⟩, List.mem_of_getElem? (i := 1038) (by decide +kernel), List.mem_of_getElem? (i := 1048) (by decide +kernel), List.mem_of_getElem? (i := 1049) (by decide +kernel)⟩
theorem lw_p36 : lw_okq (⟨"HouseTwinsModel", "next", "()V"⟩, 49) := ⟨⟨by decide +kernel, by decide +kernel⟩, List.mem_of_getElem? (i := 1038) (by decide +kernel), List.mem_of_getElem? (i := 1216) (by decide +kernel), List.mem_of_getElem? (i := 1217) (by decide +kernel)⟩
theorem lw_p37 : lw_okq (⟨"HouseTwinsModel", "look", "(I)I"⟩, 49) := ⟨⟨by decide +kernel, by decide +kernel⟩, List.mem_of_getElem? (i := 1038) (by decide +kernel), List.mem_of_getElem? (i := 1220) (by decide +kernel), List.mem_of_getElem? (i := 1221) (by decide +kernel)⟩
theorem lw_p38 : lw_okq (⟨"HouseTwinsModel", "needs", "(ZI)V"⟩, 49) := ⟨⟨by decide +kernel, by decide +kernel⟩, List.mem_of_getElem? (i := 1038) (by decide +kernel), List.mem_of_getElem? (i := 1228) (by decide +kernel), List.mem_of_getElem? (i := 1229) (by decide +kernel)⟩
theorem lw_p39 : lw_okq (⟨"HouseTwinsModel", "readLine", "()V"⟩, 49) := ⟨⟨by decide +kernel, by decide +kernel⟩, List.mem_of_getElem? (i := 1038) (by decide +kernel), List.mem_of_getElem? (i := 1232) (by decide +kernel), List.mem_of_getElem? (i := 1233) (by decide +kernel)⟩
theorem lw_p40 : lw_okq (⟨"HouseTwinsModel", "lineNow", "()I"⟩, 49) := ⟨⟨by decide +kernel, by decide +kernel⟩, List.mem_of_getElem? (i := 1038) (by decide +kernel), List.mem_of_getElem? (i := 1236) (by decide +kernel), List.mem_of_getElem? (i := 1237) (by decide +kernel)⟩
theorem lw_p41 : lw_okq (⟨"HouseTwinsModel", "is", "(IIIII)Z"⟩, 49) := ⟨⟨by decide +kernel, by decide +kernel⟩, List.mem_of_getElem? (i := 1038) (by decide +kernel), List.mem_of_getElem? (i := 1240) (by decide +kernel), List.mem_of_getElem? (i := 1241) (by decide +kernel)⟩
theorem lw_p42 : lw_okq (⟨"HouseTwinsModel", "ends", "(III)Z"⟩, 49) := ⟨⟨by decide +kernel, by decide +kernel⟩, List.mem_of_getElem? (i := 1038) (by decide +kernel), List.mem_of_getElem? (i := 1244) (by decide +kernel), List.mem_of_getElem? (i := 1245) (by decide +kernel)⟩
theorem lw_p43 : lw_okq (⟨"HouseTwinsModel", "ruleNow", "()I"⟩, 49) := ⟨⟨by decide +kernel, by decide +kernel⟩, List.mem_of_getElem? (i := 1038) (by decide +kernel), List.mem_of_getElem? (i := 1248) (by decide +kernel), List.mem_of_getElem? (i := 1249) (by decide +kernel)⟩
theorem lw_p44 : lw_okq (⟨"HouseTwinsModel", "readLineOf", "(I)V"⟩, 49) := ⟨⟨by decide +kernel, by decide +kernel⟩, List.mem_of_getElem? (i := 1038) (by decide +kernel), List.mem_of_getElem? (i := 1252) (by decide +kernel), List.mem_of_getElem? (i := 1253) (by decide +kernel)⟩
theorem lw_p45 : lw_okq (⟨"HouseTwinsModel", "readNumber", "(II)I"⟩, 49) := ⟨⟨by decide +kernel, by decide +kernel⟩, List.mem_of_getElem? (i := 1038) (by decide +kernel), List.mem_of_getElem? (i := 1256) (by decide +kernel), List.mem_of_getElem? (i := 1257) (by decide +kernel)⟩
theorem lw_p46 : lw_okq (⟨"HouseTwinsModel", "looked", "(II)I"⟩, 49) := ⟨⟨by decide +kernel, by decide +kernel⟩, List.mem_of_getElem? (i := 1038) (by decide +kernel), List.mem_of_getElem? (i := 1260) (by decide +kernel), List.mem_of_getElem? (i := 1261) (by decide +kernel)⟩
theorem lw_p47 : lw_okq (⟨"HouseTwinsModel", "readCosts", "(Z)V"⟩, 49) := ⟨⟨by decide +kernel, by decide +kernel⟩, List.mem_of_getElem? (i := 1038) (by decide +kernel), List.mem_of_getElem? (i := 1264) (by decide +kernel), List.mem_of_getElem? (i := 1265) (by decide +kernel)⟩
def lw_privs_3 : List (MethodName × Nat) := [(⟨"HouseTwins$Past", "fitsSeen", "(III)Z"⟩, 6), (⟨"HouseTwins$Past", "note", "(II)V"⟩, 6), (⟨"HouseTwinsModel", "firstDraft", "()V"⟩, 49), (⟨"HouseTwinsModel", "keepDraft", "()V"⟩, 49), (⟨"HouseTwinsModel", "next", "()V"⟩, 49), (⟨"HouseTwinsModel", "look", "(I)I"⟩, 49), (⟨"HouseTwinsModel", "needs", "(ZI)V"⟩, 49), (⟨"HouseTwinsModel", "readLine", "()V"⟩, 49), (⟨"HouseTwinsModel", "lineNow", "()I"⟩, 49), (⟨"HouseTwinsModel", "is", "(IIIII)Z"⟩, 49), (⟨"HouseTwinsModel", "ends", "(III)Z"⟩, 49), (⟨"HouseTwinsModel", "ruleNow", "()I"⟩, 49), (⟨"HouseTwinsModel", "readLineOf", "(I)V"⟩, 49), (⟨"HouseTwinsModel", "readNumber", "(II)I"⟩, 49), (⟨"HouseTwinsModel", "looked", "(II)I"⟩, 49), (⟨"HouseTwinsModel", "readCosts", "(Z)V"⟩, 49)]
theorem lw_r3 : ∀ q ∈ lw_privs_3, lw_okq q := List.forall_mem_cons.mpr ⟨lw_p32, List.forall_mem_cons.mpr ⟨lw_p33, List.forall_mem_cons.mpr ⟨lw_p34, List.forall_mem_cons.mpr ⟨lw_p35, List.forall_mem_cons.mpr ⟨lw_p36, List.forall_mem_cons.mpr ⟨lw_p37, List.forall_mem_cons.mpr ⟨lw_p38, List.forall_mem_cons.mpr ⟨lw_p39, List.forall_mem_cons.mpr ⟨lw_p40, List.forall_mem_cons.mpr ⟨lw_p41, List.forall_mem_cons.mpr ⟨lw_p42, List.forall_mem_cons.mpr ⟨lw_p43, List.forall_mem_cons.mpr ⟨lw_p44, List.forall_mem_cons.mpr ⟨lw_p45, List.forall_mem_cons.mpr ⟨lw_p46, List.forall_mem_cons.mpr ⟨lw_p47, fun _ h => absurd h List.not_mem_nil⟩⟩⟩⟩⟩⟩⟩⟩⟩⟩⟩⟩⟩⟩⟩⟩
theorem lw_p48 : lw_okq (⟨"HouseTwinsModel", "readThing", "()V"⟩, 49) := ⟨⟨by decide +kernel, by decide +kernel⟩, List.mem_of_getElem? (i := 1038) (by decide +kernel), List.mem_of_getElem? (i := 1268) (by decide +kernel), List.mem_of_getElem? (i := 1269) (by decide +kernel)⟩
theorem lw_p49 : lw_okq (⟨"HouseTwinsModel", "readLot", "()I"⟩, 49) := ⟨⟨by decide +kernel, by decide +kernel⟩, List.mem_of_getElem? (i := 1038) (by decide +kernel), List.mem_of_getElem? (i := 1272) (by decide +kernel), List.mem_of_getElem? (i := 1273) (by decide +kernel)⟩
theorem lw_p50 : lw_okq (⟨"HouseTwinsModel", "readWhat", "()I"⟩, 49) := ⟨⟨by decide +kernel, by decide +kernel⟩, List.mem_of_getElem? (i := 1038) (by decide +kernel), List.mem_of_getElem? (i := 1276) (by decide +kernel), List.mem_of_getElem? (i := 1277) (by decide +kernel)⟩
theorem lw_p51 : lw_okq (⟨"HouseTwinsModel", "isNothing", "()Z"⟩, 49) := ⟨⟨by decide +kernel, by decide +kernel⟩, List.mem_of_getElem? (i := 1038) (by decide +kernel), List.mem_of_getElem? (i := 1280) (by decide +kernel), List.mem_of_getElem? (i := 1281) (by decide +kernel)⟩
theorem lw_p52 : lw_okq (⟨"HouseTwinsModel", "readKind", "(I)I"⟩, 49) := ⟨⟨by decide +kernel, by decide +kernel⟩, List.mem_of_getElem? (i := 1038) (by decide +kernel), List.mem_of_getElem? (i := 1284) (by decide +kernel), List.mem_of_getElem? (i := 1285) (by decide +kernel)⟩
theorem lw_p53 : lw_okq (⟨"HouseTwinsModel", "kindNow", "()I"⟩, 49) := ⟨⟨by decide +kernel, by decide +kernel⟩, List.mem_of_getElem? (i := 1038) (by decide +kernel), List.mem_of_getElem? (i := 1288) (by decide +kernel), List.mem_of_getElem? (i := 1289) (by decide +kernel)⟩
theorem lw_p54 : lw_okq (⟨"HouseTwinsModel", "sideNow", "()I"⟩, 49) := ⟨⟨by decide +kernel, by decide +kernel⟩, List.mem_of_getElem? (i := 1038) (by decide +kernel), List.mem_of_getElem? (i := 1292) (by decide +kernel), List.mem_of_getElem? (i := 1293) (by decide +kernel)⟩
theorem lw_p55 : lw_okq (⟨"HouseTwinsModel", "readWork", "()V"⟩, 49) := ⟨⟨by decide +kernel, by decide +kernel⟩, List.mem_of_getElem? (i := 1038) (by decide +kernel), List.mem_of_getElem? (i := 1296) (by decide +kernel), List.mem_of_getElem? (i := 1297) (by decide +kernel)⟩
theorem lw_p56 : lw_okq (⟨"HouseTwinsModel", "readLaw", "(I)V"⟩, 49) := ⟨⟨by decide +kernel, by decide +kernel⟩, List.mem_of_getElem? (i := 1038) (by decide +kernel), List.mem_of_getElem? (i := 1300) (by decide +kernel), List.mem_of_getElem? (i := 1301) (by decide +kernel)⟩
theorem lw_p57 : lw_okq (⟨"HouseTwinsModel", "readColour", "(I)I"⟩, 49) := ⟨⟨by decide +kernel, by decide +kernel⟩, List.mem_of_getElem? (i := 1038) (by decide +kernel), List.mem_of_getElem? (i := 1304) (by decide +kernel), List.mem_of_getElem? (i := 1305) (by decide +kernel)⟩
theorem lw_p58 : lw_okq (⟨"HouseTwinsModel", "doesLack", "(II)Z"⟩, 49) := ⟨⟨by decide +kernel, by decide +kernel⟩, List.mem_of_getElem? (i := 1038) (by decide +kernel), List.mem_of_getElem? (i := 1326) (by decide +kernel), List.mem_of_getElem? (i := 1327) (by decide +kernel)⟩
theorem lw_p59 : lw_okq (⟨"HouseTwinsModel", "mirrorOf", "(I)I"⟩, 49) := ⟨⟨by decide +kernel, by decide +kernel⟩, List.mem_of_getElem? (i := 1038) (by decide +kernel), List.mem_of_getElem? (i := 1346) (by decide +kernel), List.mem_of_getElem? (i := 1347) (by decide +kernel)⟩
theorem lw_p60 : lw_okq (⟨"HouseTwinsModel", "isLot", "(II)Z"⟩, 49) := ⟨⟨by decide +kernel, by decide +kernel⟩, List.mem_of_getElem? (i := 1038) (by decide +kernel), List.mem_of_getElem? (i := 1358) (by decide +kernel), List.mem_of_getElem? (i := 1359) (by decide +kernel)⟩
theorem lw_p61 : lw_okq (⟨"HouseTwinsModel", "matchOf", "(II)I"⟩, 49) := ⟨⟨by decide +kernel, by decide +kernel⟩, List.mem_of_getElem? (i := 1038) (by decide +kernel), List.mem_of_getElem? (i := 1373) (by decide +kernel), List.mem_of_getElem? (i := 1374) (by decide +kernel)⟩
theorem lw_p62 : lw_okq (⟨"HouseTwinsModel", "matchBy", "(III)I"⟩, 49) := ⟨⟨by decide +kernel, by decide +kernel⟩, List.mem_of_getElem? (i := 1038) (by decide +kernel), List.mem_of_getElem? (i := 1377) (by decide +kernel), List.mem_of_getElem? (i := 1378) (by decide +kernel)⟩
theorem lw_p63 : lw_okq (⟨"HouseTwinsModel", "asNow", "()V"⟩, 49) := ⟨⟨by decide +kernel, by decide +kernel⟩, List.mem_of_getElem? (i := 1038) (by decide +kernel), List.mem_of_getElem? (i := 1385) (by decide +kernel), List.mem_of_getElem? (i := 1386) (by decide +kernel)⟩
def lw_privs_4 : List (MethodName × Nat) := [(⟨"HouseTwinsModel", "readThing", "()V"⟩, 49), (⟨"HouseTwinsModel", "readLot", "()I"⟩, 49), (⟨"HouseTwinsModel", "readWhat", "()I"⟩, 49), (⟨"HouseTwinsModel", "isNothing", "()Z"⟩, 49), (⟨"HouseTwinsModel", "readKind", "(I)I"⟩, 49), (⟨"HouseTwinsModel", "kindNow", "()I"⟩, 49), (⟨"HouseTwinsModel", "sideNow", "()I"⟩, 49), (⟨"HouseTwinsModel", "readWork", "()V"⟩, 49), (⟨"HouseTwinsModel", "readLaw", "(I)V"⟩, 49), (⟨"HouseTwinsModel", "readColour", "(I)I"⟩, 49), (⟨"HouseTwinsModel", "doesLack", "(II)Z"⟩, 49), (⟨"HouseTwinsModel", "mirrorOf", "(I)I"⟩, 49), (⟨"HouseTwinsModel", "isLot", "(II)Z"⟩, 49), (⟨"HouseTwinsModel", "matchOf", "(II)I"⟩, 49), (⟨"HouseTwinsModel", "matchBy", "(III)I"⟩, 49), (⟨"HouseTwinsModel", "asNow", "()V"⟩, 49)]
theorem lw_r4 : ∀ q ∈ lw_privs_4, lw_okq q := List.forall_mem_cons.mpr ⟨lw_p48, List.forall_mem_cons.mpr ⟨lw_p49, List.forall_mem_cons.mpr ⟨lw_p50, List.forall_mem_cons.mpr ⟨lw_p51, List.forall_mem_cons.mpr ⟨lw_p52, List.forall_mem_cons.mpr ⟨lw_p53, List.forall_mem_cons.mpr ⟨lw_p54, List.forall_mem_cons.mpr ⟨lw_p55, List.forall_mem_cons.mpr ⟨lw_p56, List.forall_mem_cons.mpr ⟨lw_p57, List.forall_mem_cons.mpr ⟨lw_p58, List.forall_mem_cons.mpr ⟨lw_p59, List.forall_mem_cons.mpr ⟨lw_p60, List.forall_mem_cons.mpr ⟨lw_p61, List.forall_mem_cons.mpr ⟨lw_p62, List.forall_mem_cons.mpr ⟨lw_p63, fun _ h => absurd h List.not_mem_nil⟩⟩⟩⟩⟩⟩⟩⟩⟩⟩⟩⟩⟩⟩⟩⟩
theorem lw_p64 : lw_okq (⟨"HouseTwinsModel", "oddLots", "()I"⟩, 49) := ⟨⟨by decide +kernel, by decide +kernel⟩, List.mem_of_getElem? (i := 1038) (by decide +kernel), List.mem_of_getElem? (i := 1389) (by decide +kernel), List.mem_of_getElem? (i := 1390) (by decide +kernel)⟩
theorem lw_p65 : lw_okq (⟨"HouseTwinsModel", "isEven", "(I)Z"⟩, 49) := ⟨⟨by decide +kernel, by decide +kernel⟩, List.mem_of_getElem? (i := 1038) (by decide +kernel), List.mem_of_getElem? (i := 1393) (by decide +kernel), List.mem_of_getElem? (i := 1394) (by decide +kernel)⟩
theorem lw_p66 : lw_okq (⟨"HouseTwinsModel", "goRun", "(I)V"⟩, 49) := ⟨⟨by decide +kernel, by decide +kernel⟩, List.mem_of_getElem? (i := 1038) (by decide +kernel), List.mem_of_getElem? (i := 1409) (by decide +kernel), List.mem_of_getElem? (i := 1410) (by decide +kernel)⟩
theorem lw_p67 : lw_okq (⟨"HouseTwinsModel", "startRun", "()V"⟩, 49) := ⟨⟨by decide +kernel, by decide +kernel⟩, List.mem_of_getElem? (i := 1038) (by decide +kernel), List.mem_of_getElem? (i := 1413) (by decide +kernel), List.mem_of_getElem? (i := 1414) (by decide +kernel)⟩
theorem lw_p68 : lw_okq (⟨"HouseTwinsModel", "goMonth", "(I)V"⟩, 49) := ⟨⟨by decide +kernel, by decide +kernel⟩, List.mem_of_getElem? (i := 1038) (by decide +kernel), List.mem_of_getElem? (i := 1417) (by decide +kernel), List.mem_of_getElem? (i := 1418) (by decide +kernel)⟩
theorem lw_p69 : lw_okq (⟨"HouseTwinsModel", "works", "(I)V"⟩, 49) := ⟨⟨by decide +kernel, by decide +kernel⟩, List.mem_of_getElem? (i := 1038) (by decide +kernel), List.mem_of_getElem? (i := 1421) (by decide +kernel), List.mem_of_getElem? (i := 1422) (by decide +kernel)⟩
theorem lw_p70 : lw_okq (⟨"HouseTwinsModel", "gainOf", "(III)I"⟩, 49) := ⟨⟨by decide +kernel, by decide +kernel⟩, List.mem_of_getElem? (i := 1038) (by decide +kernel), List.mem_of_getElem? (i := 1454) (by decide +kernel), List.mem_of_getElem? (i := 1455) (by decide +kernel)⟩
theorem lw_p71 : lw_okq (⟨"HouseTwinsModel", "kindThere", "(II)I"⟩, 49) := ⟨⟨by decide +kernel, by decide +kernel⟩, List.mem_of_getElem? (i := 1038) (by decide +kernel), List.mem_of_getElem? (i := 1458) (by decide +kernel), List.mem_of_getElem? (i := 1459) (by decide +kernel)⟩
theorem lw_p72 : lw_okq (⟨"HouseTwinsModel", "beginOf", "(II)I"⟩, 49) := ⟨⟨by decide +kernel, by decide +kernel⟩, List.mem_of_getElem? (i := 1038) (by decide +kernel), List.mem_of_getElem? (i := 1466) (by decide +kernel), List.mem_of_getElem? (i := 1467) (by decide +kernel)⟩
theorem lw_p73 : lw_okq (⟨"HouseTwinsModel", "mayBe", "(III)Z"⟩, 49) := ⟨⟨by decide +kernel, by decide +kernel⟩, List.mem_of_getElem? (i := 1038) (by decide +kernel), List.mem_of_getElem? (i := 1470) (by decide +kernel), List.mem_of_getElem? (i := 1471) (by decide +kernel)⟩
theorem lw_p74 : lw_okq (⟨"HouseTwinsModel", "findRests", "(I)V"⟩, 49) := ⟨⟨by decide +kernel, by decide +kernel⟩, List.mem_of_getElem? (i := 1038) (by decide +kernel), List.mem_of_getElem? (i := 1495) (by decide +kernel), List.mem_of_getElem? (i := 1496) (by decide +kernel)⟩
theorem lw_p75 : lw_okq (⟨"HouseTwinsModel", "wantCost", "(II)I"⟩, 49) := ⟨⟨by decide +kernel, by decide +kernel⟩, List.mem_of_getElem? (i := 1038) (by decide +kernel), List.mem_of_getElem? (i := 1503) (by decide +kernel), List.mem_of_getElem? (i := 1504) (by decide +kernel)⟩
theorem lw_p76 : lw_okq (⟨"HouseTwinsModel", "quarrelOf", "(I)I"⟩, 49) := ⟨⟨by decide +kernel, by decide +kernel⟩, List.mem_of_getElem? (i := 1038) (by decide +kernel), List.mem_of_getElem? (i := 1520) (by decide +kernel), List.mem_of_getElem? (i := 1521) (by decide +kernel)⟩
theorem lw_p77 : lw_okq (⟨"HouseTwinsModel", "isShop", "(II)Z"⟩, 49) := ⟨⟨by decide +kernel, by decide +kernel⟩, List.mem_of_getElem? (i := 1038) (by decide +kernel), List.mem_of_getElem? (i := 1532) (by decide +kernel), List.mem_of_getElem? (i := 1533) (by decide +kernel)⟩
theorem lw_p78 : lw_okq (⟨"HouseTwinsModel", "isTold", "(I)Z"⟩, 49) := ⟨⟨by decide +kernel, by decide +kernel⟩, List.mem_of_getElem? (i := 1038) (by decide +kernel), List.mem_of_getElem? (i := 1549) (by decide +kernel), List.mem_of_getElem? (i := 1550) (by decide +kernel)⟩
theorem lw_p79 : lw_okq (⟨"HouseTwinsModel", "waysOf", "(IIII)I"⟩, 49) := ⟨⟨by decide +kernel, by decide +kernel⟩, List.mem_of_getElem? (i := 1038) (by decide +kernel), List.mem_of_getElem? (i := 1553) (by decide +kernel), List.mem_of_getElem? (i := 1554) (by decide +kernel)⟩
def lw_privs_5 : List (MethodName × Nat) := [(⟨"HouseTwinsModel", "oddLots", "()I"⟩, 49), (⟨"HouseTwinsModel", "isEven", "(I)Z"⟩, 49), (⟨"HouseTwinsModel", "goRun", "(I)V"⟩, 49), (⟨"HouseTwinsModel", "startRun", "()V"⟩, 49), (⟨"HouseTwinsModel", "goMonth", "(I)V"⟩, 49), (⟨"HouseTwinsModel", "works", "(I)V"⟩, 49), (⟨"HouseTwinsModel", "gainOf", "(III)I"⟩, 49), (⟨"HouseTwinsModel", "kindThere", "(II)I"⟩, 49), (⟨"HouseTwinsModel", "beginOf", "(II)I"⟩, 49), (⟨"HouseTwinsModel", "mayBe", "(III)Z"⟩, 49), (⟨"HouseTwinsModel", "findRests", "(I)V"⟩, 49), (⟨"HouseTwinsModel", "wantCost", "(II)I"⟩, 49), (⟨"HouseTwinsModel", "quarrelOf", "(I)I"⟩, 49), (⟨"HouseTwinsModel", "isShop", "(II)Z"⟩, 49), (⟨"HouseTwinsModel", "isTold", "(I)Z"⟩, 49), (⟨"HouseTwinsModel", "waysOf", "(IIII)I"⟩, 49)]
theorem lw_r5 : ∀ q ∈ lw_privs_5, lw_okq q := List.forall_mem_cons.mpr ⟨lw_p64, List.forall_mem_cons.mpr ⟨lw_p65, List.forall_mem_cons.mpr ⟨lw_p66, List.forall_mem_cons.mpr ⟨lw_p67, List.forall_mem_cons.mpr ⟨lw_p68, List.forall_mem_cons.mpr ⟨lw_p69, List.forall_mem_cons.mpr ⟨lw_p70, List.forall_mem_cons.mpr ⟨lw_p71, List.forall_mem_cons.mpr ⟨lw_p72, List.forall_mem_cons.mpr ⟨lw_p73, List.forall_mem_cons.mpr ⟨lw_p74, List.forall_mem_cons.mpr ⟨lw_p75, List.forall_mem_cons.mpr ⟨lw_p76, List.forall_mem_cons.mpr ⟨lw_p77, List.forall_mem_cons.mpr ⟨lw_p78, List.forall_mem_cons.mpr ⟨lw_p79, fun _ h => absurd h List.not_mem_nil⟩⟩⟩⟩⟩⟩⟩⟩⟩⟩⟩⟩⟩⟩⟩⟩
theorem lw_p80 : lw_okq (⟨"HouseTwinsModel", "fits", "(III)Z"⟩, 49) := ⟨⟨by decide +kernel, by decide +kernel⟩, List.mem_of_getElem? (i := 1038) (by decide +kernel), List.mem_of_getElem? (i := 1557) (by decide +kernel), List.mem_of_getElem? (i := 1558) (by decide +kernel)⟩
theorem lw_p81 : lw_okq (⟨"HouseTwinsModel", "copies", "(II)V"⟩, 49) := ⟨⟨by decide +kernel, by decide +kernel⟩, List.mem_of_getElem? (i := 1038) (by decide +kernel), List.mem_of_getElem? (i := 1569) (by decide +kernel), List.mem_of_getElem? (i := 1570) (by decide +kernel)⟩
theorem lw_p82 : lw_okq (⟨"HouseTwinsModel", "thingMany", "()I"⟩, 49) := ⟨⟨by decide +kernel, by decide +kernel⟩, List.mem_of_getElem? (i := 1038) (by decide +kernel), List.mem_of_getElem? (i := 1577) (by decide +kernel), List.mem_of_getElem? (i := 1578) (by decide +kernel)⟩
def lw_privs_6 : List (MethodName × Nat) := [(⟨"HouseTwinsModel", "fits", "(III)Z"⟩, 49), (⟨"HouseTwinsModel", "copies", "(II)V"⟩, 49), (⟨"HouseTwinsModel", "thingMany", "()I"⟩, 49)]
theorem lw_r6 : ∀ q ∈ lw_privs_6, lw_okq q := List.forall_mem_cons.mpr ⟨lw_p80, List.forall_mem_cons.mpr ⟨lw_p81, List.forall_mem_cons.mpr ⟨lw_p82, fun _ h => absurd h List.not_mem_nil⟩⟩⟩
def lw_privs : List (MethodName × Nat) := lw_privs_1 ++ (lw_privs_2 ++ (lw_privs_3 ++ (lw_privs_4 ++ (lw_privs_5 ++ (lw_privs_6)))))
def lw_tbl : List Cond := k2_sels lw_privs ++ tables_1
theorem lw_privs_ok : ∀ q ∈ lw_privs, lw_okq q := by
  show ∀ q ∈ lw_privs_1 ++ (lw_privs_2 ++ (lw_privs_3 ++ (lw_privs_4 ++ (lw_privs_5 ++ (lw_privs_6))))), lw_okq q
  exact List.forall_mem_append.mpr ⟨lw_r1, List.forall_mem_append.mpr ⟨lw_r2, List.forall_mem_append.mpr ⟨lw_r3, List.forall_mem_append.mpr ⟨lw_r4, List.forall_mem_append.mpr ⟨lw_r5, lw_r6⟩⟩⟩⟩⟩
end
section
def RX0 : String := "HouseTwins$Choice"
def TX0 : u_T := fun k => match k with
  | 0 => ("HouseTwins$Choice", "vexMost", "I", false)
  | 1 => ("HouseTwins$Choice", "vexLot", "I", false)
  | 2 => ("HouseTwins$Choice", "vexKind", "I", false)
  | 3 => ("HouseTwins$Choice", "law", "LHouseTwins$Law;", true)
  | _ => ("HouseTwins$Choice", "scene", "LHouseTwins$Scene;", true)
def tyX0 : Nat → FieldType := fun k => match k with
  | 0 => .int
  | 1 => .int
  | 2 => .int
  | 3 => .object "HouseTwins$Law"
  | _ => .object "HouseTwins$Scene"
abbrev wsX00 : List Cond := u_ws RX0 TX0 5
theorem nmX0 : ∀ a, a < 5 → ∀ b, b < 5 → a ≠ b → (TX0 a).2.1 ≠ (TX0 b).2.1 := by decide +kernel
theorem tyX0_ok : ∀ k, k < 5 → parseFieldDescriptor (TX0 k).2.2.1 = some (tyX0 k) := by decide +kernel
abbrev cX0_init : ByteArray := prog_2_method_1_code
def yX0_init : MethodName := ⟨RX0, "<init>", "(LHouseTwins$Law;LHouseTwins$Scene;)V"⟩
abbrev cX0_gainOf : ByteArray := prog_2_method_2_code
def yX0_gainOf : MethodName := ⟨RX0, "gainOf", "(III)I"⟩
abbrev cX0_bestKind : ByteArray := prog_2_method_3_code
def yX0_bestKind : MethodName := ⟨RX0, "bestKind", "(II)I"⟩
abbrev cX0_findVex : ByteArray := prog_2_method_4_code
def yX0_findVex : MethodName := ⟨RX0, "findVex", "(I)V"⟩
abbrev cX0_weighVex : ByteArray := prog_2_method_5_code
def yX0_weighVex : MethodName := ⟨RX0, "weighVex", "(IIII)V"⟩
def RX1 : String := "HouseTwins$Law"
def TX1 : u_T := fun k => match k with
  | 0 => ("HouseTwins$Law", "lots", "I", false)
  | 1 => ("HouseTwins$Law", "bend", "I", false)
  | 2 => ("HouseTwins$Law", "pull", "I", false)
  | 3 => ("HouseTwins$Law", "rightKinds", "I", false)
  | 4 => ("HouseTwins$Law", "price", "[I", true)
  | 5 => ("HouseTwins$Law", "cost", "[[I", true)
  | 6 => ("HouseTwins$Law", "taste", "[[I", true)
  | 7 => ("HouseTwins$Law", "lackedKinds", "[I", true)
  | 8 => ("HouseTwins$Law", "twin", "[I", true)
  | _ => ("HouseTwins$Law", "paint", "[I", true)
def tyX1 : Nat → FieldType := fun k => match k with
  | 0 => .int
  | 1 => .int
  | 2 => .int
  | 3 => .int
  | 4 => .array .int
  | 5 => .array (.array .int)
  | 6 => .array (.array .int)
  | 7 => .array .int
  | 8 => .array .int
  | _ => .array .int
abbrev wsX10 : List Cond := u_ws RX1 TX1 10
theorem nmX1 : ∀ a, a < 10 → ∀ b, b < 10 → a ≠ b → (TX1 a).2.1 ≠ (TX1 b).2.1 := by decide +kernel
theorem tyX1_ok : ∀ k, k < 10 → parseFieldDescriptor (TX1 k).2.2.1 = some (tyX1 k) := by decide +kernel
abbrev cX1_init : ByteArray := prog_3_method_1_code
def yX1_init : MethodName := ⟨RX1, "<init>", "()V"⟩
abbrev cX1_setFirst : ByteArray := prog_3_method_2_code
def yX1_setFirst : MethodName := ⟨RX1, "setFirst", "()V"⟩
abbrev cX1_copyFrom : ByteArray := prog_3_method_3_code
def yX1_copyFrom : MethodName := ⟨RX1, "copyFrom", "(LHouseTwins$Law;)V"⟩
abbrev cX1_isLot : ByteArray := prog_3_method_4_code
def yX1_isLot : MethodName := ⟨RX1, "isLot", "(II)Z"⟩
abbrev cX1_twinOf : ByteArray := prog_3_method_5_code
def yX1_twinOf : MethodName := ⟨RX1, "twinOf", "(I)I"⟩
abbrev cX1_costOf : ByteArray := prog_3_method_6_code
def yX1_costOf : MethodName := ⟨RX1, "costOf", "(II)I"⟩
abbrev cX1_tasteOf : ByteArray := prog_3_method_7_code
def yX1_tasteOf : MethodName := ⟨RX1, "tasteOf", "(II)I"⟩
abbrev cX1_lacks : ByteArray := prog_3_method_8_code
def yX1_lacks : MethodName := ⟨RX1, "lacks", "(II)Z"⟩
abbrev cX1_mayBuild : ByteArray := prog_3_method_9_code
def yX1_mayBuild : MethodName := ⟨RX1, "mayBuild", "(III)Z"⟩
abbrev cX1_matchOf : ByteArray := prog_3_method_10_code
def yX1_matchOf : MethodName := ⟨RX1, "matchOf", "(II)I"⟩
abbrev cX1_matchBy : ByteArray := prog_3_method_11_code
def yX1_matchBy : MethodName := ⟨RX1, "matchBy", "(III)I"⟩
abbrev cX1_countPairs : ByteArray := prog_3_method_12_code
def yX1_countPairs : MethodName := ⟨RX1, "countPairs", "()I"⟩
abbrev cX1_mirrorOf : ByteArray := prog_3_method_13_code
def yX1_mirrorOf : MethodName := ⟨RX1, "mirrorOf", "(I)I"⟩
abbrev cX1_doorStays : ByteArray := prog_3_method_14_code
def yX1_doorStays : MethodName := ⟨RX1, "doorStays", "(I)Z"⟩
abbrev cX1_isEven : ByteArray := prog_3_method_15_code
def yX1_isEven : MethodName := ⟨RX1, "isEven", "(II)Z"⟩
abbrev cX1_unevenLots : ByteArray := prog_3_method_16_code
def yX1_unevenLots : MethodName := ⟨RX1, "unevenLots", "([I)I"⟩
def RX2 : String := "HouseTwins$Past"
def TX2 : u_T := fun k => match k with
  | 0 => ("HouseTwins$Past", "found", "I", false)
  | 1 => ("HouseTwins$Past", "firstMonth", "I", false)
  | 2 => ("HouseTwins$Past", "lastMonth", "I", false)
  | 3 => ("HouseTwins$Past", "beginners", "I", false)
  | 4 => ("HouseTwins$Past", "law", "LHouseTwins$Law;", true)
  | _ => ("HouseTwins$Past", "scene", "LHouseTwins$Scene;", true)
def tyX2 : Nat → FieldType := fun k => match k with
  | 0 => .int
  | 1 => .int
  | 2 => .int
  | 3 => .int
  | 4 => .object "HouseTwins$Law"
  | _ => .object "HouseTwins$Scene"
abbrev wsX20 : List Cond := u_ws RX2 TX2 6
theorem nmX2 : ∀ a, a < 6 → ∀ b, b < 6 → a ≠ b → (TX2 a).2.1 ≠ (TX2 b).2.1 := by decide +kernel
theorem tyX2_ok : ∀ k, k < 6 → parseFieldDescriptor (TX2 k).2.2.1 = some (tyX2 k) := by decide +kernel
abbrev cX2_init : ByteArray := prog_4_method_1_code
def yX2_init : MethodName := ⟨RX2, "<init>", "(LHouseTwins$Law;LHouseTwins$Scene;)V"⟩
abbrev cX2_hasHistory : ByteArray := prog_4_method_2_code
def yX2_hasHistory : MethodName := ⟨RX2, "hasHistory", "(I)Z"⟩
abbrev cX2_findHistories : ByteArray := prog_4_method_3_code
def yX2_findHistories : MethodName := ⟨RX2, "findHistories", "(II)V"⟩
abbrev cX2_note : ByteArray := prog_4_method_4_code
def yX2_note : MethodName := ⟨RX2, "note", "(II)V"⟩
abbrev cX2_fitsSeen : ByteArray := prog_4_method_5_code
def yX2_fitsSeen : MethodName := ⟨RX2, "fitsSeen", "(III)Z"⟩
abbrev cX2_onlyBeginner : ByteArray := prog_4_method_6_code
def yX2_onlyBeginner : MethodName := ⟨RX2, "onlyBeginner", "()I"⟩
def RX3 : String := "HouseTwins$Planner"
def TX3 : u_T := fun k => match k with
  | 0 => ("HouseTwins$Planner", "law", "LHouseTwins$Law;", true)
  | 1 => ("HouseTwins$Planner", "scene", "LHouseTwins$Scene;", true)
  | 2 => ("HouseTwins$Planner", "least", "[I", true)
  | 3 => ("HouseTwins$Planner", "weights", "[I", true)
  | _ => ("HouseTwins$Planner", "months", "[I", true)
def tyX3 : Nat → FieldType := fun k => match k with
  | 0 => .object "HouseTwins$Law"
  | 1 => .object "HouseTwins$Scene"
  | 2 => .array .int
  | 3 => .array .int
  | _ => .array .int
abbrev wsX30 : List Cond := u_ws RX3 TX3 5
theorem nmX3 : ∀ a, a < 5 → ∀ b, b < 5 → a ≠ b → (TX3 a).2.1 ≠ (TX3 b).2.1 := by decide +kernel
theorem tyX3_ok : ∀ k, k < 5 → parseFieldDescriptor (TX3 k).2.2.1 = some (tyX3 k) := by decide +kernel
abbrev cX3_init : ByteArray := prog_5_method_1_code
def yX3_init : MethodName := ⟨RX3, "<init>", "(LHouseTwins$Law;LHouseTwins$Scene;)V"⟩
abbrev cX3_monthOf : ByteArray := prog_5_method_2_code
def yX3_monthOf : MethodName := ⟨RX3, "monthOf", "(I)I"⟩
abbrev cX3_findPlan : ByteArray := prog_5_method_3_code
def yX3_findPlan : MethodName := ⟨RX3, "findPlan", "(I)I"⟩
abbrev cX3_taken : ByteArray := prog_5_method_4_code
def yX3_taken : MethodName := ⟨RX3, "taken", "(II)I"⟩
abbrev cX3_withOneMore : ByteArray := prog_5_method_5_code
def yX3_withOneMore : MethodName := ⟨RX3, "withOneMore", "(II)I"⟩
abbrev cX3_costWith : ByteArray := prog_5_method_6_code
def yX3_costWith : MethodName := ⟨RX3, "costWith", "(III)I"⟩
abbrev cX3_leastFrom : ByteArray := prog_5_method_7_code
def yX3_leastFrom : MethodName := ⟨RX3, "leastFrom", "(II)I"⟩
abbrev cX3_placeWants : ByteArray := prog_5_method_8_code
def yX3_placeWants : MethodName := ⟨RX3, "placeWants", "(II)V"⟩
abbrev cX3_kindsBarred : ByteArray := prog_5_method_9_code
def yX3_kindsBarred : MethodName := ⟨RX3, "kindsBarred", "()I"⟩
abbrev cX3_costInstead : ByteArray := prog_5_method_10_code
def yX3_costInstead : MethodName := ⟨RX3, "costInstead", "()I"⟩
def RX4 : String := "HouseTwins$Reader"
def TX4 : u_T := fun k => match k with
  | 0 => ("HouseTwins$Reader", "law", "LHouseTwins$Law;", true)
  | 1 => ("HouseTwins$Reader", "scene", "LHouseTwins$Scene;", true)
  | 2 => ("HouseTwins$Reader", "fault", "I", false)
  | 3 => ("HouseTwins$Reader", "place", "I", false)
  | 4 => ("HouseTwins$Reader", "lines", "I", false)
  | 5 => ("HouseTwins$Reader", "tape", "LHouseTwins$Tape;", true)
  | 6 => ("HouseTwins$Reader", "next", "I", false)
  | 7 => ("HouseTwins$Reader", "start", "I", false)
  | 8 => ("HouseTwins$Reader", "type", "I", false)
  | 9 => ("HouseTwins$Reader", "figures", "I", false)
  | _ => ("HouseTwins$Reader", "told", "J", false)
def tyX4 : Nat → FieldType := fun k => match k with
  | 0 => .object "HouseTwins$Law"
  | 1 => .object "HouseTwins$Scene"
  | 2 => .int
  | 3 => .int
  | 4 => .int
  | 5 => .object "HouseTwins$Tape"
  | 6 => .int
  | 7 => .int
  | 8 => .int
  | 9 => .int
  | _ => .long
abbrev wsX40 : List Cond := u_ws RX4 TX4 11
theorem nmX4 : ∀ a, a < 11 → ∀ b, b < 11 → a ≠ b → (TX4 a).2.1 ≠ (TX4 b).2.1 := by decide +kernel
theorem tyX4_ok : ∀ k, k < 11 → parseFieldDescriptor (TX4 k).2.2.1 = some (tyX4 k) := by decide +kernel
abbrev cX4_init : ByteArray := prog_6_method_1_code
def yX4_init : MethodName := ⟨RX4, "<init>", "(LHouseTwins$Tape;)V"⟩
abbrev cX4_readAll : ByteArray := prog_6_method_2_code
def yX4_readAll : MethodName := ⟨RX4, "readAll", "()V"⟩
abbrev cX4_restart : ByteArray := prog_6_method_3_code
def yX4_restart : MethodName := ⟨RX4, "restart", "()V"⟩
abbrev cX4_fail : ByteArray := prog_6_method_4_code
def yX4_fail : MethodName := ⟨RX4, "fail", "(II)I"⟩
abbrev cX4_takeToken : ByteArray := prog_6_method_5_code
def yX4_takeToken : MethodName := ⟨RX4, "takeToken", "()V"⟩
abbrev cX4_typeOf : ByteArray := prog_6_method_6_code
def yX4_typeOf : MethodName := ⟨RX4, "typeOf", "(I)I"⟩
abbrev cX4_nameAmong : ByteArray := prog_6_method_7_code
def yX4_nameAmong : MethodName := ⟨RX4, "nameAmong", "(Ljava/lang/String;)I"⟩
abbrev cX4_takeNumber : ByteArray := prog_6_method_8_code
def yX4_takeNumber : MethodName := ⟨RX4, "takeNumber", "(II)I"⟩
abbrev cX4_takeBank : ByteArray := prog_6_method_9_code
def yX4_takeBank : MethodName := ⟨RX4, "takeBank", "()I"⟩
abbrev cX4_takeNameOf : ByteArray := prog_6_method_10_code
def yX4_takeNameOf : MethodName := ⟨RX4, "takeNameOf", "(Ljava/lang/String;)I"⟩
abbrev cX4_takeThing : ByteArray := prog_6_method_11_code
def yX4_takeThing : MethodName := ⟨RX4, "takeThing", "()I"⟩
abbrev cX4_takeStop : ByteArray := prog_6_method_12_code
def yX4_takeStop : MethodName := ⟨RX4, "takeStop", "()V"⟩
abbrev cX4_tellOnce : ByteArray := prog_6_method_13_code
def yX4_tellOnce : MethodName := ⟨RX4, "tellOnce", "(I)V"⟩
abbrev cX4_readLine : ByteArray := prog_6_method_14_code
def yX4_readLine : MethodName := ⟨RX4, "readLine", "()V"⟩
abbrev cX4_readPrices : ByteArray := prog_6_method_15_code
def yX4_readPrices : MethodName := ⟨RX4, "readPrices", "()V"⟩
abbrev cX4_readOfKinds : ByteArray := prog_6_method_16_code
def yX4_readOfKinds : MethodName := ⟨RX4, "readOfKinds", "([[II)V"⟩
abbrev cX4_readLack : ByteArray := prog_6_method_17_code
def yX4_readLack : MethodName := ⟨RX4, "readLack", "()V"⟩
abbrev cX4_readTwins : ByteArray := prog_6_method_18_code
def yX4_readTwins : MethodName := ⟨RX4, "readTwins", "()V"⟩
abbrev cX4_readPaint : ByteArray := prog_6_method_19_code
def yX4_readPaint : MethodName := ⟨RX4, "readPaint", "()V"⟩
abbrev cX4_readRight : ByteArray := prog_6_method_20_code
def yX4_readRight : MethodName := ⟨RX4, "readRight", "()V"⟩
abbrev cX4_readThing : ByteArray := prog_6_method_21_code
def yX4_readThing : MethodName := ⟨RX4, "readThing", "()V"⟩
abbrev cX4_readWork : ByteArray := prog_6_method_22_code
def yX4_readWork : MethodName := ⟨RX4, "readWork", "()V"⟩
abbrev cX4_allLotsAre : ByteArray := prog_6_method_23_code
def yX4_allLotsAre : MethodName := ⟨RX4, "allLotsAre", "()Z"⟩
def RX5 : String := "HouseTwins$Rows"
def TX5 : u_T := fun k => match k with
  | 0 => ("HouseTwins$Rows", "most", "I", true)
  | 1 => ("HouseTwins$Rows", "width", "I", true)
  | 2 => ("HouseTwins$Rows", "cells", "[I", true)
  | _ => ("HouseTwins$Rows", "size", "I", false)
def tyX5 : Nat → FieldType := fun k => match k with
  | 0 => .int
  | 1 => .int
  | 2 => .array .int
  | _ => .int
abbrev wsX50 : List Cond := u_ws RX5 TX5 4
theorem nmX5 : ∀ a, a < 4 → ∀ b, b < 4 → a ≠ b → (TX5 a).2.1 ≠ (TX5 b).2.1 := by decide +kernel
theorem tyX5_ok : ∀ k, k < 4 → parseFieldDescriptor (TX5 k).2.2.1 = some (tyX5 k) := by decide +kernel
abbrev cX5_init : ByteArray := prog_7_method_1_code
def yX5_init : MethodName := ⟨RX5, "<init>", "(II)V"⟩
abbrev cX5_isFull : ByteArray := prog_7_method_2_code
def yX5_isFull : MethodName := ⟨RX5, "isFull", "()Z"⟩
abbrev cX5_addRow : ByteArray := prog_7_method_3_code
def yX5_addRow : MethodName := ⟨RX5, "addRow", "(IIII)V"⟩
abbrev cX5_setCell : ByteArray := prog_7_method_4_code
def yX5_setCell : MethodName := ⟨RX5, "setCell", "(III)V"⟩
abbrev cX5_cell : ByteArray := prog_7_method_5_code
def yX5_cell : MethodName := ⟨RX5, "cell", "(II)I"⟩
abbrev cX5_empty : ByteArray := prog_7_method_6_code
def yX5_empty : MethodName := ⟨RX5, "empty", "()I"⟩
abbrev cX5_copyFrom : ByteArray := prog_7_method_7_code
def yX5_copyFrom : MethodName := ⟨RX5, "copyFrom", "(LHouseTwins$Rows;)V"⟩
def RX6 : String := "HouseTwins$Run"
def TX6 : u_T := fun k => match k with
  | 0 => ("HouseTwins$Run", "things", "[I", true)
  | 1 => ("HouseTwins$Run", "spent", "[I", true)
  | 2 => ("HouseTwins$Run", "fates", "[I", true)
  | 3 => ("HouseTwins$Run", "law", "LHouseTwins$Law;", true)
  | 4 => ("HouseTwins$Run", "scene", "LHouseTwins$Scene;", true)
  | 5 => ("HouseTwins$Run", "latest", "[I", true)
  | _ => ("HouseTwins$Run", "worked", "[I", true)
def tyX6 : Nat → FieldType := fun k => match k with
  | 0 => .array .int
  | 1 => .array .int
  | 2 => .array .int
  | 3 => .object "HouseTwins$Law"
  | 4 => .object "HouseTwins$Scene"
  | 5 => .array .int
  | _ => .array .int
abbrev wsX60 : List Cond := u_ws RX6 TX6 7
theorem nmX6 : ∀ a, a < 7 → ∀ b, b < 7 → a ≠ b → (TX6 a).2.1 ≠ (TX6 b).2.1 := by decide +kernel
theorem tyX6_ok : ∀ k, k < 7 → parseFieldDescriptor (TX6 k).2.2.1 = some (tyX6 k) := by decide +kernel
abbrev cX6_init : ByteArray := prog_8_method_1_code
def yX6_init : MethodName := ⟨RX6, "<init>", "(LHouseTwins$Law;LHouseTwins$Scene;)V"⟩
abbrev cX6_runMonths : ByteArray := prog_8_method_2_code
def yX6_runMonths : MethodName := ⟨RX6, "runMonths", "(I)V"⟩
abbrev cX6_start : ByteArray := prog_8_method_3_code
def yX6_start : MethodName := ⟨RX6, "start", "()V"⟩
abbrev cX6_runMonth : ByteArray := prog_8_method_4_code
def yX6_runMonth : MethodName := ⟨RX6, "runMonth", "(I)V"⟩
abbrev cX6_tryWork : ByteArray := prog_8_method_5_code
def yX6_tryWork : MethodName := ⟨RX6, "tryWork", "(IIII)I"⟩
abbrev cX6_build : ByteArray := prog_8_method_6_code
def yX6_build : MethodName := ⟨RX6, "build", "(III)V"⟩
abbrev cX6_answer : ByteArray := prog_8_method_7_code
def yX6_answer : MethodName := ⟨RX6, "answer", "(II)V"⟩
abbrev cX6_isEvenPair : ByteArray := prog_8_method_8_code
def yX6_isEvenPair : MethodName := ⟨RX6, "isEvenPair", "(II)Z"⟩
abbrev cX6_lotsOwedBy : ByteArray := prog_8_method_9_code
def yX6_lotsOwedBy : MethodName := ⟨RX6, "lotsOwedBy", "(I)I"⟩
abbrev cX6_worksDone : ByteArray := prog_8_method_10_code
def yX6_worksDone : MethodName := ⟨RX6, "worksDone", "()I"⟩
def RX7 : String := "HouseTwins$Scene"
def TX7 : u_T := fun k => match k with
  | 0 => ("HouseTwins$Scene", "things", "[I", true)
  | 1 => ("HouseTwins$Scene", "works", "LHouseTwins$Rows;", true)
  | 2 => ("HouseTwins$Scene", "wants", "LHouseTwins$Rows;", true)
  | _ => ("HouseTwins$Scene", "seen", "LHouseTwins$Rows;", true)
def tyX7 : Nat → FieldType := fun k => match k with
  | 0 => .array .int
  | 1 => .object "HouseTwins$Rows"
  | 2 => .object "HouseTwins$Rows"
  | _ => .object "HouseTwins$Rows"
abbrev wsX70 : List Cond := u_ws RX7 TX7 4
theorem nmX7 : ∀ a, a < 4 → ∀ b, b < 4 → a ≠ b → (TX7 a).2.1 ≠ (TX7 b).2.1 := by decide +kernel
theorem tyX7_ok : ∀ k, k < 4 → parseFieldDescriptor (TX7 k).2.2.1 = some (tyX7 k) := by decide +kernel
abbrev cX7_init : ByteArray := prog_9_method_1_code
def yX7_init : MethodName := ⟨RX7, "<init>", "()V"⟩
abbrev cX7_clear : ByteArray := prog_9_method_2_code
def yX7_clear : MethodName := ⟨RX7, "clear", "()V"⟩
abbrev cX7_copyFrom : ByteArray := prog_9_method_3_code
def yX7_copyFrom : MethodName := ⟨RX7, "copyFrom", "(LHouseTwins$Scene;)V"⟩
abbrev cX7_thingAt : ByteArray := prog_9_method_4_code
def yX7_thingAt : MethodName := ⟨RX7, "thingAt", "(II)I"⟩
abbrev cX7_kindAt : ByteArray := prog_9_method_5_code
def yX7_kindAt : MethodName := ⟨RX7, "kindAt", "(II)I"⟩
abbrev cX7_setThing : ByteArray := prog_9_method_6_code
def yX7_setThing : MethodName := ⟨RX7, "setThing", "(III)V"⟩
abbrev cX7_countThings : ByteArray := prog_9_method_7_code
def yX7_countThings : MethodName := ⟨RX7, "countThings", "()I"⟩
abbrev cX7_lastMonth : ByteArray := prog_9_method_8_code
def yX7_lastMonth : MethodName := ⟨RX7, "lastMonth", "()I"⟩
def RX8 : String := "HouseTwins$Sheet"
def TX8 : u_T := fun k => match k with
  | 0 => ("HouseTwins$Sheet", "size", "I", false)
  | 1 => ("HouseTwins$Sheet", "lane", "I", false)
  | _ => ("HouseTwins$Sheet", "cells", "[I", true)
def tyX8 : Nat → FieldType := fun k => match k with
  | 0 => .int
  | 1 => .int
  | _ => .array .int
abbrev wsX80 : List Cond := u_ws RX8 TX8 3
theorem nmX8 : ∀ a, a < 3 → ∀ b, b < 3 → a ≠ b → (TX8 a).2.1 ≠ (TX8 b).2.1 := by decide +kernel
theorem tyX8_ok : ∀ k, k < 3 → parseFieldDescriptor (TX8 k).2.2.1 = some (tyX8 k) := by decide +kernel
abbrev cX8_init : ByteArray := prog_10_method_1_code
def yX8_init : MethodName := ⟨RX8, "<init>", "()V"⟩
abbrev cX8_renew : ByteArray := prog_10_method_2_code
def yX8_renew : MethodName := ⟨RX8, "renew", "(II)V"⟩
abbrev cX8_faultAt : ByteArray := prog_10_method_3_code
def yX8_faultAt : MethodName := ⟨RX8, "faultAt", "(I)I"⟩
abbrev cX8_setCell : ByteArray := prog_10_method_4_code
def yX8_setCell : MethodName := ⟨RX8, "setCell", "(II)V"⟩
abbrev cX8_cell : ByteArray := prog_10_method_5_code
def yX8_cell : MethodName := ⟨RX8, "cell", "(I)I"⟩
abbrev cX8_wholeThings : ByteArray := prog_10_method_6_code
def yX8_wholeThings : MethodName := ⟨RX8, "wholeThings", "(III)I"⟩
abbrev cX8_faultOfReading : ByteArray := prog_10_method_7_code
def yX8_faultOfReading : MethodName := ⟨RX8, "faultOfReading", "(III)I"⟩
def RX9 : String := "HouseTwins$Tape"
def TX9 : u_T := fun k => match k with
  | 0 => ("HouseTwins$Tape", "bytes", "[I", true)
  | _ => ("HouseTwins$Tape", "size", "I", false)
def tyX9 : Nat → FieldType := fun k => match k with
  | 0 => .array .int
  | _ => .int
abbrev wsX90 : List Cond := u_ws RX9 TX9 2
theorem nmX9 : ∀ a, a < 2 → ∀ b, b < 2 → a ≠ b → (TX9 a).2.1 ≠ (TX9 b).2.1 := by decide +kernel
theorem tyX9_ok : ∀ k, k < 2 → parseFieldDescriptor (TX9 k).2.2.1 = some (tyX9 k) := by decide +kernel
abbrev cX9_init : ByteArray := prog_11_method_1_code
def yX9_init : MethodName := ⟨RX9, "<init>", "()V"⟩
abbrev cX9_append : ByteArray := prog_11_method_2_code
def yX9_append : MethodName := ⟨RX9, "append", "(J)V"⟩
abbrev cX9_byteAt : ByteArray := prog_11_method_3_code
def yX9_byteAt : MethodName := ⟨RX9, "byteAt", "(I)I"⟩
def RX10 : String := "HouseTwins"
def TX10 : u_T := fun k => match k with
  | 0 => ("HouseTwins", "tape", "LHouseTwins$Tape;", true)
  | 1 => ("HouseTwins", "law", "LHouseTwins$Law;", true)
  | 2 => ("HouseTwins", "scene", "LHouseTwins$Scene;", true)
  | 3 => ("HouseTwins", "reader", "LHouseTwins$Reader;", true)
  | 4 => ("HouseTwins", "run", "LHouseTwins$Run;", true)
  | 5 => ("HouseTwins", "choice", "LHouseTwins$Choice;", true)
  | 6 => ("HouseTwins", "planner", "LHouseTwins$Planner;", true)
  | 7 => ("HouseTwins", "past", "LHouseTwins$Past;", true)
  | 8 => ("HouseTwins", "images", "[LHouseTwins$Scene;", true)
  | 9 => ("HouseTwins", "imageKept", "[Z", true)
  | 10 => ("HouseTwins", "sheets", "[LHouseTwins$Sheet;", true)
  | 11 => ("HouseTwins", "textFault", "I", false)
  | _ => ("HouseTwins", "sheetFault", "I", false)
def tyX10 : Nat → FieldType := fun k => match k with
  | 0 => .object "HouseTwins$Tape"
  | 1 => .object "HouseTwins$Law"
  | 2 => .object "HouseTwins$Scene"
  | 3 => .object "HouseTwins$Reader"
  | 4 => .object "HouseTwins$Run"
  | 5 => .object "HouseTwins$Choice"
  | 6 => .object "HouseTwins$Planner"
  | 7 => .object "HouseTwins$Past"
  | 8 => .array (.object "HouseTwins$Scene")
  | 9 => .array .boolean
  | 10 => .array (.object "HouseTwins$Sheet")
  | 11 => .int
  | _ => .int
abbrev wsX100 : List Cond := u_ws RX10 TX10 13
theorem nmX10 : ∀ a, a < 13 → ∀ b, b < 13 → a ≠ b → (TX10 a).2.1 ≠ (TX10 b).2.1 := by decide +kernel
theorem tyX10_ok : ∀ k, k < 13 → parseFieldDescriptor (TX10 k).2.2.1 = some (tyX10 k) := by decide +kernel
abbrev cX10_init : ByteArray := prog_1_method_1_code
def yX10_init : MethodName := ⟨RX10, "<init>", "()V"⟩
abbrev cX10_feed : ByteArray := prog_1_method_2_code
def yX10_feed : MethodName := ⟨RX10, "feed", "(J)I"⟩
abbrev cX10_end : ByteArray := prog_1_method_3_code
def yX10_end : MethodName := ⟨RX10, "end", "(I)I"⟩
abbrev cX10_text : ByteArray := prog_1_method_4_code
def yX10_text : MethodName := ⟨RX10, "text", "()I"⟩
abbrev cX10_fault : ByteArray := prog_1_method_5_code
def yX10_fault : MethodName := ⟨RX10, "fault", "()I"⟩
abbrev cX10_rule : ByteArray := prog_1_method_6_code
def yX10_rule : MethodName := ⟨RX10, "rule", "(I)I"⟩
abbrev cX10_kind : ByteArray := prog_1_method_7_code
def yX10_kind : MethodName := ⟨RX10, "kind", "(II)I"⟩
abbrev cX10_colour : ByteArray := prog_1_method_8_code
def yX10_colour : MethodName := ⟨RX10, "colour", "(I)I"⟩
abbrev cX10_mirror : ByteArray := prog_1_method_9_code
def yX10_mirror : MethodName := ⟨RX10, "mirror", "(I)I"⟩
abbrev cX10_work : ByteArray := prog_1_method_10_code
def yX10_work : MethodName := ⟨RX10, "work", "(II)I"⟩
abbrev cX10_thing : ByteArray := prog_1_method_11_code
def yX10_thing : MethodName := ⟨RX10, "thing", "(II)I"⟩
abbrev cX10_put : ByteArray := prog_1_method_12_code
def yX10_put : MethodName := ⟨RX10, "put", "(III)I"⟩
abbrev cX10_match : ByteArray := prog_1_method_13_code
def yX10_match : MethodName := ⟨RX10, "match", "(II)I"⟩
abbrev cX10_odd : ByteArray := prog_1_method_14_code
def yX10_odd : MethodName := ⟨RX10, "odd", "()I"⟩
abbrev cX10_third : ByteArray := prog_1_method_15_code
def yX10_third : MethodName := ⟨RX10, "third", "(I)I"⟩
abbrev cX10_after : ByteArray := prog_1_method_16_code
def yX10_after : MethodName := ⟨RX10, "after", "(III)I"⟩
abbrev cX10_paid : ByteArray := prog_1_method_17_code
def yX10_paid : MethodName := ⟨RX10, "paid", "(II)I"⟩
abbrev cX10_owes : ByteArray := prog_1_method_18_code
def yX10_owes : MethodName := ⟨RX10, "owes", "(II)I"⟩
abbrev cX10_fate : ByteArray := prog_1_method_19_code
def yX10_fate : MethodName := ⟨RX10, "fate", "(I)I"⟩
abbrev cX10_uneven : ByteArray := prog_1_method_20_code
def yX10_uneven : MethodName := ⟨RX10, "uneven", "(I)I"⟩
abbrev cX10_firstLot : ByteArray := prog_1_method_21_code
def yX10_firstLot : MethodName := ⟨RX10, "firstLot", "(I)I"⟩
abbrev cX10_go : ByteArray := prog_1_method_22_code
def yX10_go : MethodName := ⟨RX10, "go", "()I"⟩
abbrev cX10_plot : ByteArray := prog_1_method_23_code
def yX10_plot : MethodName := ⟨RX10, "plot", "(IIII)I"⟩
abbrev cX10_gain : ByteArray := prog_1_method_24_code
def yX10_gain : MethodName := ⟨RX10, "gain", "(III)I"⟩
abbrev cX10_begin : ByteArray := prog_1_method_25_code
def yX10_begin : MethodName := ⟨RX10, "begin", "(III)I"⟩
abbrev cX10_waits : ByteArray := prog_1_method_26_code
def yX10_waits : MethodName := ⟨RX10, "waits", "(II)I"⟩
abbrev cX10_vex : ByteArray := prog_1_method_27_code
def yX10_vex : MethodName := ⟨RX10, "vex", "(II)I"⟩
abbrev cX10_want : ByteArray := prog_1_method_28_code
def yX10_want : MethodName := ⟨RX10, "want", "(II)I"⟩
abbrev cX10_content : ByteArray := prog_1_method_29_code
def yX10_content : MethodName := ⟨RX10, "content", "()I"⟩
abbrev cX10_plan : ByteArray := prog_1_method_30_code
def yX10_plan : MethodName := ⟨RX10, "plan", "(II)I"⟩
abbrev cX10_cannot : ByteArray := prog_1_method_31_code
def yX10_cannot : MethodName := ⟨RX10, "cannot", "(I)I"⟩
abbrev cX10_fire : ByteArray := prog_1_method_32_code
def yX10_fire : MethodName := ⟨RX10, "fire", "(III)I"⟩
abbrev cX10_lossOfBoth : ByteArray := prog_1_method_33_code
def yX10_lossOfBoth : MethodName := ⟨RX10, "lossOfBoth", "(III)I"⟩
abbrev cX10_quarrel : ByteArray := prog_1_method_34_code
def yX10_quarrel : MethodName := ⟨RX10, "quarrel", "(I)I"⟩
abbrev cX10_quarrelBy : ByteArray := prog_1_method_35_code
def yX10_quarrelBy : MethodName := ⟨RX10, "quarrelBy", "(I)I"⟩
abbrev cX10_bend : ByteArray := prog_1_method_36_code
def yX10_bend : MethodName := ⟨RX10, "bend", "()I"⟩
abbrev cX10_shops : ByteArray := prog_1_method_37_code
def yX10_shops : MethodName := ⟨RX10, "shops", "(II)I"⟩
abbrev cX10_fewestToGo : ByteArray := prog_1_method_38_code
def yX10_fewestToGo : MethodName := ⟨RX10, "fewestToGo", "(I)I"⟩
abbrev cX10_saw : ByteArray := prog_1_method_39_code
def yX10_saw : MethodName := ⟨RX10, "saw", "(IIIZ)I"⟩
abbrev cX10_forget : ByteArray := prog_1_method_40_code
def yX10_forget : MethodName := ⟨RX10, "forget", "()I"⟩
abbrev cX10_histories : ByteArray := prog_1_method_41_code
def yX10_histories : MethodName := ⟨RX10, "histories", "(I)J"⟩
abbrev cX10_began : ByteArray := prog_1_method_42_code
def yX10_began : MethodName := ⟨RX10, "began", "(III)I"⟩
abbrev cX10_keep : ByteArray := prog_1_method_43_code
def yX10_keep : MethodName := ⟨RX10, "keep", "(I)I"⟩
abbrev cX10_back : ByteArray := prog_1_method_44_code
def yX10_back : MethodName := ⟨RX10, "back", "(I)I"⟩
abbrev cX10_sheet : ByteArray := prog_1_method_45_code
def yX10_sheet : MethodName := ⟨RX10, "sheet", "(III)I"⟩
abbrev cX10_lay : ByteArray := prog_1_method_46_code
def yX10_lay : MethodName := ⟨RX10, "lay", "(III)I"⟩
abbrev cX10_read : ByteArray := prog_1_method_47_code
def yX10_read : MethodName := ⟨RX10, "read", "(IIII)I"⟩
abbrev cX10_torn : ByteArray := prog_1_method_48_code
def yX10_torn : MethodName := ⟨RX10, "torn", "()I"⟩
abbrev cX10_count : ByteArray := prog_1_method_49_code
def yX10_count : MethodName := ⟨RX10, "count", "(I)I"⟩
abbrev cX10_isBank : ByteArray := prog_1_method_50_code
def yX10_isBank : MethodName := ⟨RX10, "isBank", "(I)Z"⟩
abbrev cX10_isKind : ByteArray := prog_1_method_51_code
def yX10_isKind : MethodName := ⟨RX10, "isKind", "(I)Z"⟩
abbrev cX10_isBuilt : ByteArray := prog_1_method_52_code
def yX10_isBuilt : MethodName := ⟨RX10, "isBuilt", "(I)Z"⟩
abbrev cX10_isThing : ByteArray := prog_1_method_53_code
def yX10_isThing : MethodName := ⟨RX10, "isThing", "(I)Z"⟩
abbrev cX10_isSheet : ByteArray := prog_1_method_54_code
def yX10_isSheet : MethodName := ⟨RX10, "isSheet", "(I)Z"⟩
abbrev cX10_isLane : ByteArray := prog_1_method_55_code
def yX10_isLane : MethodName := ⟨RX10, "isLane", "(I)Z"⟩
abbrev cX10_isSlot : ByteArray := prog_1_method_56_code
def yX10_isSlot : MethodName := ⟨RX10, "isSlot", "(II)Z"⟩
abbrev cX10_slot : ByteArray := prog_1_method_57_code
def yX10_slot : MethodName := ⟨RX10, "slot", "(II)I"⟩
def RX11 : String := "HouseTwinsModel"
def TX11 : u_T := fun k => match k with
  | 0 => ("HouseTwinsModel", "st", "[I", true)
  | 1 => ("HouseTwinsModel", "isKept", "[Z", true)
  | 2 => ("HouseTwinsModel", "lots", "I", false)
  | 3 => ("HouseTwinsModel", "bend", "I", false)
  | 4 => ("HouseTwinsModel", "pull", "I", false)
  | 5 => ("HouseTwinsModel", "price", "[I", true)
  | 6 => ("HouseTwinsModel", "cost", "[I", true)
  | 7 => ("HouseTwinsModel", "taste", "[I", true)
  | 8 => ("HouseTwinsModel", "lacks", "[I", true)
  | 9 => ("HouseTwinsModel", "twin", "[I", true)
  | 10 => ("HouseTwinsModel", "paint", "[I", true)
  | 11 => ("HouseTwinsModel", "rights", "I", false)
  | 12 => ("HouseTwinsModel", "draft", "[I", true)
  | 13 => ("HouseTwinsModel", "dLots", "I", false)
  | 14 => ("HouseTwinsModel", "dBend", "I", false)
  | 15 => ("HouseTwinsModel", "dPull", "I", false)
  | 16 => ("HouseTwinsModel", "dPrice", "[I", true)
  | 17 => ("HouseTwinsModel", "dCost", "[I", true)
  | 18 => ("HouseTwinsModel", "dTaste", "[I", true)
  | 19 => ("HouseTwinsModel", "dLacks", "[I", true)
  | 20 => ("HouseTwinsModel", "dTwin", "[I", true)
  | 21 => ("HouseTwinsModel", "dPaint", "[I", true)
  | 22 => ("HouseTwinsModel", "dRights", "I", false)
  | 23 => ("HouseTwinsModel", "toldLines", "I", false)
  | 24 => ("HouseTwinsModel", "toldThings", "I", false)
  | 25 => ("HouseTwinsModel", "toldCosts", "I", false)
  | 26 => ("HouseTwinsModel", "toldTastes", "I", false)
  | 27 => ("HouseTwinsModel", "toldKinds", "I", false)
  | 28 => ("HouseTwinsModel", "toldColours", "I", false)
  | 29 => ("HouseTwinsModel", "highestLot", "I", false)
  | 30 => ("HouseTwinsModel", "tape", "[I", true)
  | 31 => ("HouseTwinsModel", "taped", "I", false)
  | 32 => ("HouseTwinsModel", "pos", "I", false)
  | 33 => ("HouseTwinsModel", "from", "I", false)
  | 34 => ("HouseTwinsModel", "sort", "I", false)
  | 35 => ("HouseTwinsModel", "value", "I", false)
  | 36 => ("HouseTwinsModel", "fault", "I", false)
  | 37 => ("HouseTwinsModel", "wrongAt", "I", false)
  | 38 => ("HouseTwinsModel", "now", "[I", true)
  | 39 => ("HouseTwinsModel", "latest", "[I", true)
  | 40 => ("HouseTwinsModel", "nowWorked", "[Z", true)
  | 41 => ("HouseTwinsModel", "wasWorked", "[Z", true)
  | 42 => ("HouseTwinsModel", "paidBy", "[I", true)
  | 43 => ("HouseTwinsModel", "fates", "[I", true)
  | 44 => ("HouseTwinsModel", "rests", "[I", true)
  | 45 => ("HouseTwinsModel", "lanes", "[I", true)
  | 46 => ("HouseTwinsModel", "sizes", "[I", true)
  | 47 => ("HouseTwinsModel", "cells", "[I", true)
  | _ => ("HouseTwinsModel", "torn", "I", false)
def tyX11 : Nat → FieldType := fun k => match k with
  | 0 => .array .int
  | 1 => .array .boolean
  | 2 => .int
  | 3 => .int
  | 4 => .int
  | 5 => .array .int
  | 6 => .array .int
  | 7 => .array .int
  | 8 => .array .int
  | 9 => .array .int
  | 10 => .array .int
  | 11 => .int
  | 12 => .array .int
  | 13 => .int
  | 14 => .int
  | 15 => .int
  | 16 => .array .int
  | 17 => .array .int
  | 18 => .array .int
  | 19 => .array .int
  | 20 => .array .int
  | 21 => .array .int
  | 22 => .int
  | 23 => .int
  | 24 => .int
  | 25 => .int
  | 26 => .int
  | 27 => .int
  | 28 => .int
  | 29 => .int
  | 30 => .array .int
  | 31 => .int
  | 32 => .int
  | 33 => .int
  | 34 => .int
  | 35 => .int
  | 36 => .int
  | 37 => .int
  | 38 => .array .int
  | 39 => .array .int
  | 40 => .array .boolean
  | 41 => .array .boolean
  | 42 => .array .int
  | 43 => .array .int
  | 44 => .array .int
  | 45 => .array .int
  | 46 => .array .int
  | 47 => .array .int
  | _ => .int
abbrev wsX110 : List Cond := u_ws RX11 TX11 49
theorem nmX11 : ∀ a, a < 49 → ∀ b, b < 49 → a ≠ b → (TX11 a).2.1 ≠ (TX11 b).2.1 := by decide +kernel
theorem tyX11_ok : ∀ k, k < 49 → parseFieldDescriptor (TX11 k).2.2.1 = some (tyX11 k) := by decide +kernel
abbrev cX11_init : ByteArray := prog_13_method_1_code
def yX11_init : MethodName := ⟨RX11, "<init>", "()V"⟩
abbrev cX11_in : ByteArray := prog_13_method_3_code
def yX11_in : MethodName := ⟨RX11, "in", "(JJJ)Z"⟩
abbrev cX11_flag : ByteArray := prog_13_method_4_code
def yX11_flag : MethodName := ⟨RX11, "flag", "(Z)I"⟩
abbrev cX11_firstDraft : ByteArray := prog_13_method_5_code
def yX11_firstDraft : MethodName := ⟨RX11, "firstDraft", "()V"⟩
abbrev cX11_keepDraft : ByteArray := prog_13_method_6_code
def yX11_keepDraft : MethodName := ⟨RX11, "keepDraft", "()V"⟩
abbrev cX11_feed : ByteArray := prog_13_method_7_code
def yX11_feed : MethodName := ⟨RX11, "feed", "(J)I"⟩
abbrev cX11_end : ByteArray := prog_13_method_8_code
def yX11_end : MethodName := ⟨RX11, "end", "(I)I"⟩
abbrev cX11_needs : ByteArray := prog_13_method_9_code
def yX11_needs : MethodName := ⟨RX11, "needs", "(ZI)V"⟩
abbrev cX11_look : ByteArray := prog_13_method_10_code
def yX11_look : MethodName := ⟨RX11, "look", "(I)I"⟩
abbrev cX11_is : ByteArray := prog_13_method_11_code
def yX11_is : MethodName := ⟨RX11, "is", "(IIIII)Z"⟩
abbrev cX11_ends : ByteArray := prog_13_method_12_code
def yX11_ends : MethodName := ⟨RX11, "ends", "(III)Z"⟩
abbrev cX11_ruleNow : ByteArray := prog_13_method_13_code
def yX11_ruleNow : MethodName := ⟨RX11, "ruleNow", "()I"⟩
abbrev cX11_lineNow : ByteArray := prog_13_method_14_code
def yX11_lineNow : MethodName := ⟨RX11, "lineNow", "()I"⟩
abbrev cX11_kindNow : ByteArray := prog_13_method_15_code
def yX11_kindNow : MethodName := ⟨RX11, "kindNow", "()I"⟩
abbrev cX11_isNothing : ByteArray := prog_13_method_16_code
def yX11_isNothing : MethodName := ⟨RX11, "isNothing", "()Z"⟩
abbrev cX11_sideNow : ByteArray := prog_13_method_17_code
def yX11_sideNow : MethodName := ⟨RX11, "sideNow", "()I"⟩
abbrev cX11_next : ByteArray := prog_13_method_18_code
def yX11_next : MethodName := ⟨RX11, "next", "()V"⟩
abbrev cX11_looked : ByteArray := prog_13_method_19_code
def yX11_looked : MethodName := ⟨RX11, "looked", "(II)I"⟩
abbrev cX11_readNumber : ByteArray := prog_13_method_20_code
def yX11_readNumber : MethodName := ⟨RX11, "readNumber", "(II)I"⟩
abbrev cX11_readLot : ByteArray := prog_13_method_21_code
def yX11_readLot : MethodName := ⟨RX11, "readLot", "()I"⟩
abbrev cX11_readKind : ByteArray := prog_13_method_22_code
def yX11_readKind : MethodName := ⟨RX11, "readKind", "(I)I"⟩
abbrev cX11_readColour : ByteArray := prog_13_method_23_code
def yX11_readColour : MethodName := ⟨RX11, "readColour", "(I)I"⟩
abbrev cX11_readWhat : ByteArray := prog_13_method_24_code
def yX11_readWhat : MethodName := ⟨RX11, "readWhat", "()I"⟩
abbrev cX11_readCosts : ByteArray := prog_13_method_25_code
def yX11_readCosts : MethodName := ⟨RX11, "readCosts", "(Z)V"⟩
abbrev cX11_readThing : ByteArray := prog_13_method_26_code
def yX11_readThing : MethodName := ⟨RX11, "readThing", "()V"⟩
abbrev cX11_readWork : ByteArray := prog_13_method_27_code
def yX11_readWork : MethodName := ⟨RX11, "readWork", "()V"⟩
abbrev cX11_readLaw : ByteArray := prog_13_method_28_code
def yX11_readLaw : MethodName := ⟨RX11, "readLaw", "(I)V"⟩
abbrev cX11_readLineOf : ByteArray := prog_13_method_29_code
def yX11_readLineOf : MethodName := ⟨RX11, "readLineOf", "(I)V"⟩
abbrev cX11_readLine : ByteArray := prog_13_method_30_code
def yX11_readLine : MethodName := ⟨RX11, "readLine", "()V"⟩
abbrev cX11_text : ByteArray := prog_13_method_31_code
def yX11_text : MethodName := ⟨RX11, "text", "()I"⟩
abbrev cX11_fault : ByteArray := prog_13_method_32_code
def yX11_fault : MethodName := ⟨RX11, "fault", "()I"⟩
abbrev cX11_rule : ByteArray := prog_13_method_33_code
def yX11_rule : MethodName := ⟨RX11, "rule", "(I)I"⟩
abbrev cX11_isKind : ByteArray := prog_13_method_34_code
def yX11_isKind : MethodName := ⟨RX11, "isKind", "(I)Z"⟩
abbrev cX11_doesLack : ByteArray := prog_13_method_35_code
def yX11_doesLack : MethodName := ⟨RX11, "doesLack", "(II)Z"⟩
abbrev cX11_kind : ByteArray := prog_13_method_36_code
def yX11_kind : MethodName := ⟨RX11, "kind", "(II)I"⟩
abbrev cX11_colour : ByteArray := prog_13_method_37_code
def yX11_colour : MethodName := ⟨RX11, "colour", "(I)I"⟩
abbrev cX11_isThing : ByteArray := prog_13_method_38_code
def yX11_isThing : MethodName := ⟨RX11, "isThing", "(I)Z"⟩
abbrev cX11_mirrorOf : ByteArray := prog_13_method_39_code
def yX11_mirrorOf : MethodName := ⟨RX11, "mirrorOf", "(I)I"⟩
abbrev cX11_mirror : ByteArray := prog_13_method_40_code
def yX11_mirror : MethodName := ⟨RX11, "mirror", "(I)I"⟩
abbrev cX11_work : ByteArray := prog_13_method_41_code
def yX11_work : MethodName := ⟨RX11, "work", "(II)I"⟩
abbrev cX11_isBank : ByteArray := prog_13_method_42_code
def yX11_isBank : MethodName := ⟨RX11, "isBank", "(I)Z"⟩
abbrev cX11_isLot : ByteArray := prog_13_method_43_code
def yX11_isLot : MethodName := ⟨RX11, "isLot", "(II)Z"⟩
abbrev cX11_thing : ByteArray := prog_13_method_44_code
def yX11_thing : MethodName := ⟨RX11, "thing", "(II)I"⟩
abbrev cX11_put : ByteArray := prog_13_method_45_code
def yX11_put : MethodName := ⟨RX11, "put", "(III)I"⟩
abbrev cX11_matchBy : ByteArray := prog_13_method_46_code
def yX11_matchBy : MethodName := ⟨RX11, "matchBy", "(III)I"⟩
abbrev cX11_matchOf : ByteArray := prog_13_method_47_code
def yX11_matchOf : MethodName := ⟨RX11, "matchOf", "(II)I"⟩
abbrev cX11_match : ByteArray := prog_13_method_48_code
def yX11_match : MethodName := ⟨RX11, "match", "(II)I"⟩
abbrev cX11_asNow : ByteArray := prog_13_method_49_code
def yX11_asNow : MethodName := ⟨RX11, "asNow", "()V"⟩
abbrev cX11_isEven : ByteArray := prog_13_method_50_code
def yX11_isEven : MethodName := ⟨RX11, "isEven", "(I)Z"⟩
abbrev cX11_oddLots : ByteArray := prog_13_method_51_code
def yX11_oddLots : MethodName := ⟨RX11, "oddLots", "()I"⟩
abbrev cX11_odd : ByteArray := prog_13_method_52_code
def yX11_odd : MethodName := ⟨RX11, "odd", "()I"⟩
abbrev cX11_third : ByteArray := prog_13_method_53_code
def yX11_third : MethodName := ⟨RX11, "third", "(I)I"⟩
abbrev cX11_startRun : ByteArray := prog_13_method_54_code
def yX11_startRun : MethodName := ⟨RX11, "startRun", "()V"⟩
abbrev cX11_works : ByteArray := prog_13_method_55_code
def yX11_works : MethodName := ⟨RX11, "works", "(I)V"⟩
abbrev cX11_goMonth : ByteArray := prog_13_method_56_code
def yX11_goMonth : MethodName := ⟨RX11, "goMonth", "(I)V"⟩
abbrev cX11_goRun : ByteArray := prog_13_method_57_code
def yX11_goRun : MethodName := ⟨RX11, "goRun", "(I)V"⟩
abbrev cX11_isMany : ByteArray := prog_13_method_58_code
def yX11_isMany : MethodName := ⟨RX11, "isMany", "(I)Z"⟩
abbrev cX11_after : ByteArray := prog_13_method_59_code
def yX11_after : MethodName := ⟨RX11, "after", "(III)I"⟩
abbrev cX11_paid : ByteArray := prog_13_method_60_code
def yX11_paid : MethodName := ⟨RX11, "paid", "(II)I"⟩
abbrev cX11_owes : ByteArray := prog_13_method_61_code
def yX11_owes : MethodName := ⟨RX11, "owes", "(II)I"⟩
abbrev cX11_fate : ByteArray := prog_13_method_62_code
def yX11_fate : MethodName := ⟨RX11, "fate", "(I)I"⟩
abbrev cX11_uneven : ByteArray := prog_13_method_63_code
def yX11_uneven : MethodName := ⟨RX11, "uneven", "(I)I"⟩
abbrev cX11_go : ByteArray := prog_13_method_64_code
def yX11_go : MethodName := ⟨RX11, "go", "()I"⟩
abbrev cX11_plot : ByteArray := prog_13_method_65_code
def yX11_plot : MethodName := ⟨RX11, "plot", "(IIII)I"⟩
abbrev cX11_kindThere : ByteArray := prog_13_method_66_code
def yX11_kindThere : MethodName := ⟨RX11, "kindThere", "(II)I"⟩
abbrev cX11_gainOf : ByteArray := prog_13_method_67_code
def yX11_gainOf : MethodName := ⟨RX11, "gainOf", "(III)I"⟩
abbrev cX11_gain : ByteArray := prog_13_method_68_code
def yX11_gain : MethodName := ⟨RX11, "gain", "(III)I"⟩
abbrev cX11_mayBe : ByteArray := prog_13_method_69_code
def yX11_mayBe : MethodName := ⟨RX11, "mayBe", "(III)Z"⟩
abbrev cX11_beginOf : ByteArray := prog_13_method_70_code
def yX11_beginOf : MethodName := ⟨RX11, "beginOf", "(II)I"⟩
abbrev cX11_begin : ByteArray := prog_13_method_71_code
def yX11_begin : MethodName := ⟨RX11, "begin", "(III)I"⟩
abbrev cX11_waits : ByteArray := prog_13_method_72_code
def yX11_waits : MethodName := ⟨RX11, "waits", "(II)I"⟩
abbrev cX11_vex : ByteArray := prog_13_method_73_code
def yX11_vex : MethodName := ⟨RX11, "vex", "(II)I"⟩
abbrev cX11_want : ByteArray := prog_13_method_74_code
def yX11_want : MethodName := ⟨RX11, "want", "(II)I"⟩
abbrev cX11_content : ByteArray := prog_13_method_75_code
def yX11_content : MethodName := ⟨RX11, "content", "()I"⟩
abbrev cX11_bitsOf : ByteArray := prog_13_method_76_code
def yX11_bitsOf : MethodName := ⟨RX11, "bitsOf", "(I)I"⟩
abbrev cX11_wantCost : ByteArray := prog_13_method_77_code
def yX11_wantCost : MethodName := ⟨RX11, "wantCost", "(II)I"⟩
abbrev cX11_findRests : ByteArray := prog_13_method_78_code
def yX11_findRests : MethodName := ⟨RX11, "findRests", "(I)V"⟩
abbrev cX11_plan : ByteArray := prog_13_method_79_code
def yX11_plan : MethodName := ⟨RX11, "plan", "(II)I"⟩
abbrev cX11_cannot : ByteArray := prog_13_method_80_code
def yX11_cannot : MethodName := ⟨RX11, "cannot", "(I)I"⟩
abbrev cX11_fire : ByteArray := prog_13_method_81_code
def yX11_fire : MethodName := ⟨RX11, "fire", "(III)I"⟩
abbrev cX11_quarrelOf : ByteArray := prog_13_method_82_code
def yX11_quarrelOf : MethodName := ⟨RX11, "quarrelOf", "(I)I"⟩
abbrev cX11_quarrel : ByteArray := prog_13_method_83_code
def yX11_quarrel : MethodName := ⟨RX11, "quarrel", "(I)I"⟩
abbrev cX11_bend : ByteArray := prog_13_method_84_code
def yX11_bend : MethodName := ⟨RX11, "bend", "()I"⟩
abbrev cX11_isShop : ByteArray := prog_13_method_85_code
def yX11_isShop : MethodName := ⟨RX11, "isShop", "(II)Z"⟩
abbrev cX11_shops : ByteArray := prog_13_method_86_code
def yX11_shops : MethodName := ⟨RX11, "shops", "(II)I"⟩
abbrev cX11_saw : ByteArray := prog_13_method_87_code
def yX11_saw : MethodName := ⟨RX11, "saw", "(IIIZ)I"⟩
abbrev cX11_forget : ByteArray := prog_13_method_88_code
def yX11_forget : MethodName := ⟨RX11, "forget", "()I"⟩
abbrev cX11_isTold : ByteArray := prog_13_method_89_code
def yX11_isTold : MethodName := ⟨RX11, "isTold", "(I)Z"⟩
abbrev cX11_fits : ByteArray := prog_13_method_90_code
def yX11_fits : MethodName := ⟨RX11, "fits", "(III)Z"⟩
abbrev cX11_waysOf : ByteArray := prog_13_method_91_code
def yX11_waysOf : MethodName := ⟨RX11, "waysOf", "(IIII)I"⟩
abbrev cX11_histories : ByteArray := prog_13_method_92_code
def yX11_histories : MethodName := ⟨RX11, "histories", "(I)J"⟩
abbrev cX11_began : ByteArray := prog_13_method_93_code
def yX11_began : MethodName := ⟨RX11, "began", "(III)I"⟩
abbrev cX11_thingMany : ByteArray := prog_13_method_94_code
def yX11_thingMany : MethodName := ⟨RX11, "thingMany", "()I"⟩
abbrev cX11_copies : ByteArray := prog_13_method_95_code
def yX11_copies : MethodName := ⟨RX11, "copies", "(II)V"⟩
abbrev cX11_keep : ByteArray := prog_13_method_96_code
def yX11_keep : MethodName := ⟨RX11, "keep", "(I)I"⟩
abbrev cX11_back : ByteArray := prog_13_method_97_code
def yX11_back : MethodName := ⟨RX11, "back", "(I)I"⟩
abbrev cX11_isSheet : ByteArray := prog_13_method_98_code
def yX11_isSheet : MethodName := ⟨RX11, "isSheet", "(II)Z"⟩
abbrev cX11_sheet : ByteArray := prog_13_method_99_code
def yX11_sheet : MethodName := ⟨RX11, "sheet", "(III)I"⟩
abbrev cX11_lay : ByteArray := prog_13_method_100_code
def yX11_lay : MethodName := ⟨RX11, "lay", "(III)I"⟩
abbrev cX11_read : ByteArray := prog_13_method_101_code
def yX11_read : MethodName := ⟨RX11, "read", "(IIII)I"⟩
abbrev cX11_torn : ByteArray := prog_13_method_102_code
def yX11_torn : MethodName := ⟨RX11, "torn", "()I"⟩
abbrev cX11_count : ByteArray := prog_13_method_103_code
def yX11_count : MethodName := ⟨RX11, "count", "(I)I"⟩
def RJ9 : String := "java/lang/Math"
def TJ9 : u_T := fun k => match k with
  | _ => ("", "", "", false)
def tyJ9 : Nat → FieldType := fun k => match k with
  | _ => .int
abbrev wsJ90 : List Cond := u_ws RJ9 TJ9 0
theorem nmJ9 : ∀ a, a < 0 → ∀ b, b < 0 → a ≠ b → (TJ9 a).2.1 ≠ (TJ9 b).2.1 := by decide +kernel
theorem tyJ9_ok : ∀ k, k < 0 → parseFieldDescriptor (TJ9 k).2.2.1 = some (tyJ9 k) := by decide +kernel
abbrev cJ9_min_7cf53 : ByteArray := prog_14_method_69_code
def yJ9_min_7cf53 : MethodName := ⟨RJ9, "min", "(II)I"⟩
def RJ0 : String := "java/lang/String"
def TJ0 : u_T := fun k => match k with
  | _ => ("", "", "", false)
def tyJ0 : Nat → FieldType := fun k => match k with
  | _ => .int
abbrev wsJ00 : List Cond := u_ws RJ0 TJ0 0
theorem nmJ0 : ∀ a, a < 0 → ∀ b, b < 0 → a ≠ b → (TJ0 a).2.1 ≠ (TJ0 b).2.1 := by decide +kernel
theorem tyJ0_ok : ∀ k, k < 0 → parseFieldDescriptor (TJ0 k).2.2.1 = some (tyJ0 k) := by decide +kernel
abbrev cJ0_length_8abf5 : ByteArray := prog_15_method_54_code
def yJ0_length_8abf5 : MethodName := ⟨RJ0, "length", "()I"⟩
abbrev cJ0_charAt_5068e : ByteArray := prog_15_method_56_code
def yJ0_charAt_5068e : MethodName := ⟨RJ0, "charAt", "(I)C"⟩
abbrev cJ0_coder_7d493 : ByteArray := prog_15_method_152_code
def yJ0_coder_7d493 : MethodName := ⟨RJ0, "coder", "()B"⟩
abbrev cJ0_isLatin1_aae02 : ByteArray := prog_15_method_154_code
def yJ0_isLatin1_aae02 : MethodName := ⟨RJ0, "isLatin1", "()Z"⟩
abbrev cJ0_checkIndex_df160 : ByteArray := prog_15_method_155_code
def yJ0_checkIndex_df160 : MethodName := ⟨RJ0, "checkIndex", "(II)V"⟩
def RJ1 : String := "java/lang/StringLatin1"
def TJ1 : u_T := fun k => match k with
  | _ => ("", "", "", false)
def tyJ1 : Nat → FieldType := fun k => match k with
  | _ => .int
abbrev wsJ10 : List Cond := u_ws RJ1 TJ1 0
theorem nmJ1 : ∀ a, a < 0 → ∀ b, b < 0 → a ≠ b → (TJ1 a).2.1 ≠ (TJ1 b).2.1 := by decide +kernel
theorem tyJ1_ok : ∀ k, k < 0 → parseFieldDescriptor (TJ1 k).2.2.1 = some (tyJ1 k) := by decide +kernel
abbrev cJ1_charAt_3b067 : ByteArray := prog_16_method_2_code
def yJ1_charAt_3b067 : MethodName := ⟨RJ1, "charAt", "([BI)C"⟩
def RJ2 : String := "java/lang/StringUTF16"
def TJ2 : u_T := fun k => match k with
  | _ => ("", "", "", false)
def tyJ2 : Nat → FieldType := fun k => match k with
  | _ => .int
abbrev wsJ20 : List Cond := u_ws RJ2 TJ2 0
theorem nmJ2 : ∀ a, a < 0 → ∀ b, b < 0 → a ≠ b → (TJ2 a).2.1 ≠ (TJ2 b).2.1 := by decide +kernel
theorem tyJ2_ok : ∀ k, k < 0 → parseFieldDescriptor (TJ2 k).2.2.1 = some (tyJ2 k) := by decide +kernel
abbrev cJ2_getChar_3b067 : ByteArray := prog_17_method_5_code
def yJ2_getChar_3b067 : MethodName := ⟨RJ2, "getChar", "([BI)C"⟩
abbrev cJ2_length_9d52b : ByteArray := prog_17_method_6_code
def yJ2_length_9d52b : MethodName := ⟨RJ2, "length", "([B)I"⟩
abbrev cJ2_charAt_3b067 : ByteArray := prog_17_method_83_code
def yJ2_charAt_3b067 : MethodName := ⟨RJ2, "charAt", "([BI)C"⟩
abbrev cJ2_checkIndex_2214a : ByteArray := prog_17_method_91_code
def yJ2_checkIndex_2214a : MethodName := ⟨RJ2, "checkIndex", "(I[B)V"⟩
def RJ10 : String := "java/lang/System"
def TJ10 : u_T := fun k => match k with
  | _ => ("", "", "", false)
def tyJ10 : Nat → FieldType := fun k => match k with
  | _ => .int
abbrev wsJ100 : List Cond := u_ws RJ10 TJ10 0
theorem nmJ10 : ∀ a, a < 0 → ∀ b, b < 0 → a ≠ b → (TJ10 a).2.1 ≠ (TJ10 b).2.1 := by decide +kernel
theorem tyJ10_ok : ∀ k, k < 0 → parseFieldDescriptor (TJ10 k).2.2.1 = some (tyJ10 k) := by decide +kernel
def RJ3 : String := "jdk/internal/util/Preconditions"
def TJ3 : u_T := fun k => match k with
  | _ => ("", "", "", false)
def tyJ3 : Nat → FieldType := fun k => match k with
  | _ => .int
abbrev wsJ30 : List Cond := u_ws RJ3 TJ3 0
theorem nmJ3 : ∀ a, a < 0 → ∀ b, b < 0 → a ≠ b → (TJ3 a).2.1 ≠ (TJ3 b).2.1 := by decide +kernel
theorem tyJ3_ok : ∀ k, k < 0 → parseFieldDescriptor (TJ3 k).2.2.1 = some (tyJ3 k) := by decide +kernel
abbrev cJ3_checkIndex_8e157 : ByteArray := prog_19_method_11_code
def yJ3_checkIndex_8e157 : MethodName := ⟨RJ3, "checkIndex", "(IILjava/util/function/BiFunction;)I"⟩
def RL : String := "HouseTwinsLaw"
abbrev cL_law : ByteArray := code
def yL_law : MethodName := ⟨RL, "law", "([I)Z"⟩
abbrev vwCl : List vw_C := [(RX0, TX0, 5), (RX1, TX1, 10), (RX2, TX2, 6), (RX3, TX3, 5), (RX4, TX4, 11), (RX5, TX5, 4), (RX6, TX6, 7), (RX7, TX7, 4), (RX8, TX8, 3), (RX9, TX9, 2), (RX10, TX10, 13), (RX11, TX11, 49)]
end
