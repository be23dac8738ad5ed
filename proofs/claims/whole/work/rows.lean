section
-- ===== PART A: goes FIRST, ahead of the names: the tables' words, and 'selects' of the private methods out of them =====
/-- a private method of a class that the tables say can be made, by its rows of tables_1 -/
def lw_okq (q : MethodName × Nat) : Prop := (q.1.cls ≠ "java/lang/invoke/MethodHandle" ∧ q.1.cls ≠ "java/lang/invoke/VarHandle") ∧ Cond.instantiable q.1.cls q.2 ∈ tables_1 ∧ Cond.privateMethod q.1 ∈ tables_1 ∧ Cond.instanceMethod q.1 ∈ tables_1
theorem lw_p0 : lw_okq (⟨"HouseTwins$Reader", "restart", "()V"⟩, 11) := ⟨⟨by decide +kernel, by decide +kernel⟩, List.mem_of_getElem? (i := 160) (by decide +kernel), List.mem_of_getElem? (i := 395) (by decide +kernel), List.mem_of_getElem? (i := 396) (by decide +kernel)⟩
theorem lw_p1 : lw_okq (⟨"HouseTwins$Reader", "takeToken", "()V"⟩, 11) := ⟨⟨by decide +kernel, by decide +kernel⟩, List.mem_of_getElem? (i := 160) (by decide +kernel), List.mem_of_getElem? (i := 408) (by decide +kernel), List.mem_of_getElem? (i := 409) (by decide +kernel)⟩
theorem lw_p2 : lw_okq (⟨"HouseTwins$Reader", "fail", "(II)I"⟩, 11) := ⟨⟨by decide +kernel, by decide +kernel⟩, List.mem_of_getElem? (i := 160) (by decide +kernel), List.mem_of_getElem? (i := 419) (by decide +kernel), List.mem_of_getElem? (i := 420) (by decide +kernel)⟩
theorem lw_p3 : lw_okq (⟨"HouseTwins$Reader", "readLine", "()V"⟩, 11) := ⟨⟨by decide +kernel, by decide +kernel⟩, List.mem_of_getElem? (i := 160) (by decide +kernel), List.mem_of_getElem? (i := 423) (by decide +kernel), List.mem_of_getElem? (i := 424) (by decide +kernel)⟩
theorem lw_p4 : lw_okq (⟨"HouseTwins$Reader", "nameAmong", "(Ljava/lang/String;)I"⟩, 11) := ⟨⟨by decide +kernel, by decide +kernel⟩, List.mem_of_getElem? (i := 160) (by decide +kernel), List.mem_of_getElem? (i := 428) (by decide +kernel), List.mem_of_getElem? (i := 429) (by decide +kernel)⟩
theorem lw_p5 : lw_okq (⟨"HouseTwins$Reader", "tellOnce", "(I)V"⟩, 11) := ⟨⟨by decide +kernel, by decide +kernel⟩, List.mem_of_getElem? (i := 160) (by decide +kernel), List.mem_of_getElem? (i := 480) (by decide +kernel), List.mem_of_getElem? (i := 481) (by decide +kernel)⟩
theorem lw_p6 : lw_okq (⟨"HouseTwins$Reader", "takeNumber", "(II)I"⟩, 11) := ⟨⟨by decide +kernel, by decide +kernel⟩, List.mem_of_getElem? (i := 160) (by decide +kernel), List.mem_of_getElem? (i := 484) (by decide +kernel), List.mem_of_getElem? (i := 485) (by decide +kernel)⟩
theorem lw_p7 : lw_okq (⟨"HouseTwins$Reader", "readPrices", "()V"⟩, 11) := ⟨⟨by decide +kernel, by decide +kernel⟩, List.mem_of_getElem? (i := 160) (by decide +kernel), List.mem_of_getElem? (i := 488) (by decide +kernel), List.mem_of_getElem? (i := 489) (by decide +kernel)⟩
theorem lw_p8 : lw_okq (⟨"HouseTwins$Reader", "readOfKinds", "([[II)V"⟩, 11) := ⟨⟨by decide +kernel, by decide +kernel⟩, List.mem_of_getElem? (i := 160) (by decide +kernel), List.mem_of_getElem? (i := 492) (by decide +kernel), List.mem_of_getElem? (i := 493) (by decide +kernel)⟩
theorem lw_p9 : lw_okq (⟨"HouseTwins$Reader", "takeBank", "()I"⟩, 11) := ⟨⟨by decide +kernel, by decide +kernel⟩, List.mem_of_getElem? (i := 160) (by decide +kernel), List.mem_of_getElem? (i := 496) (by decide +kernel), List.mem_of_getElem? (i := 497) (by decide +kernel)⟩
theorem lw_p10 : lw_okq (⟨"HouseTwins$Reader", "readLack", "()V"⟩, 11) := ⟨⟨by decide +kernel, by decide +kernel⟩, List.mem_of_getElem? (i := 160) (by decide +kernel), List.mem_of_getElem? (i := 500) (by decide +kernel), List.mem_of_getElem? (i := 501) (by decide +kernel)⟩
theorem lw_p11 : lw_okq (⟨"HouseTwins$Reader", "takeNameOf", "(Ljava/lang/String;)I"⟩, 11) := ⟨⟨by decide +kernel, by decide +kernel⟩, List.mem_of_getElem? (i := 160) (by decide +kernel), List.mem_of_getElem? (i := 505) (by decide +kernel), List.mem_of_getElem? (i := 506) (by decide +kernel)⟩
theorem lw_p12 : lw_okq (⟨"HouseTwins$Reader", "readTwins", "()V"⟩, 11) := ⟨⟨by decide +kernel, by decide +kernel⟩, List.mem_of_getElem? (i := 160) (by decide +kernel), List.mem_of_getElem? (i := 509) (by decide +kernel), List.mem_of_getElem? (i := 510) (by decide +kernel)⟩
theorem lw_p13 : lw_okq (⟨"HouseTwins$Reader", "readPaint", "()V"⟩, 11) := ⟨⟨by decide +kernel, by decide +kernel⟩, List.mem_of_getElem? (i := 160) (by decide +kernel), List.mem_of_getElem? (i := 513) (by decide +kernel), List.mem_of_getElem? (i := 514) (by decide +kernel)⟩
theorem lw_p14 : lw_okq (⟨"HouseTwins$Reader", "readRight", "()V"⟩, 11) := ⟨⟨by decide +kernel, by decide +kernel⟩, List.mem_of_getElem? (i := 160) (by decide +kernel), List.mem_of_getElem? (i := 517) (by decide +kernel), List.mem_of_getElem? (i := 518) (by decide +kernel)⟩
theorem lw_p15 : lw_okq (⟨"HouseTwins$Reader", "readThing", "()V"⟩, 11) := ⟨⟨by decide +kernel, by decide +kernel⟩, List.mem_of_getElem? (i := 160) (by decide +kernel), List.mem_of_getElem? (i := 521) (by decide +kernel), List.mem_of_getElem? (i := 522) (by decide +kernel)⟩
def lw_privs_1 : List (MethodName × Nat) := [(⟨"HouseTwins$Reader", "restart", "()V"⟩, 11), (⟨"HouseTwins$Reader", "takeToken", "()V"⟩, 11), (⟨"HouseTwins$Reader", "fail", "(II)I"⟩, 11), (⟨"HouseTwins$Reader", "readLine", "()V"⟩, 11), (⟨"HouseTwins$Reader", "nameAmong", "(Ljava/lang/String;)I"⟩, 11), (⟨"HouseTwins$Reader", "tellOnce", "(I)V"⟩, 11), (⟨"HouseTwins$Reader", "takeNumber", "(II)I"⟩, 11), (⟨"HouseTwins$Reader", "readPrices", "()V"⟩, 11), (⟨"HouseTwins$Reader", "readOfKinds", "([[II)V"⟩, 11), (⟨"HouseTwins$Reader", "takeBank", "()I"⟩, 11), (⟨"HouseTwins$Reader", "readLack", "()V"⟩, 11), (⟨"HouseTwins$Reader", "takeNameOf", "(Ljava/lang/String;)I"⟩, 11), (⟨"HouseTwins$Reader", "readTwins", "()V"⟩, 11), (⟨"HouseTwins$Reader", "readPaint", "()V"⟩, 11), (⟨"HouseTwins$Reader", "readRight", "()V"⟩, 11), (⟨"HouseTwins$Reader", "readThing", "()V"⟩, 11)]
theorem lw_r1 : ∀ q ∈ lw_privs_1, lw_okq q := List.forall_mem_cons.mpr ⟨lw_p0, List.forall_mem_cons.mpr ⟨lw_p1, List.forall_mem_cons.mpr ⟨lw_p2, List.forall_mem_cons.mpr ⟨lw_p3, List.forall_mem_cons.mpr ⟨lw_p4, List.forall_mem_cons.mpr ⟨lw_p5, List.forall_mem_cons.mpr ⟨lw_p6, List.forall_mem_cons.mpr ⟨lw_p7, List.forall_mem_cons.mpr ⟨lw_p8, List.forall_mem_cons.mpr ⟨lw_p9, List.forall_mem_cons.mpr ⟨lw_p10, List.forall_mem_cons.mpr ⟨lw_p11, List.forall_mem_cons.mpr ⟨lw_p12, List.forall_mem_cons.mpr ⟨lw_p13, List.forall_mem_cons.mpr ⟨lw_p14, List.forall_mem_cons.mpr ⟨lw_p15, fun _ h => absurd h List.not_mem_nil⟩⟩⟩⟩⟩⟩⟩⟩⟩⟩⟩⟩⟩⟩⟩⟩
theorem lw_p16 : lw_okq (⟨"HouseTwins$Reader", "takeThing", "()I"⟩, 11) := ⟨⟨by decide +kernel, by decide +kernel⟩, List.mem_of_getElem? (i := 160) (by decide +kernel), List.mem_of_getElem? (i := 528) (by decide +kernel), List.mem_of_getElem? (i := 529) (by decide +kernel)⟩
theorem lw_p17 : lw_okq (⟨"HouseTwins$Reader", "readWork", "()V"⟩, 11) := ⟨⟨by decide +kernel, by decide +kernel⟩, List.mem_of_getElem? (i := 160) (by decide +kernel), List.mem_of_getElem? (i := 545) (by decide +kernel), List.mem_of_getElem? (i := 546) (by decide +kernel)⟩
theorem lw_p18 : lw_okq (⟨"HouseTwins$Rows", "setCell", "(III)V"⟩, 4) := ⟨⟨by decide +kernel, by decide +kernel⟩, List.mem_of_getElem? (i := 112) (by decide +kernel), List.mem_of_getElem? (i := 566) (by decide +kernel), List.mem_of_getElem? (i := 567) (by decide +kernel)⟩
theorem lw_p19 : lw_okq (⟨"HouseTwins$Reader", "takeStop", "()V"⟩, 11) := ⟨⟨by decide +kernel, by decide +kernel⟩, List.mem_of_getElem? (i := 160) (by decide +kernel), List.mem_of_getElem? (i := 570) (by decide +kernel), List.mem_of_getElem? (i := 571) (by decide +kernel)⟩
theorem lw_p20 : lw_okq (⟨"HouseTwins$Reader", "allLotsAre", "()Z"⟩, 11) := ⟨⟨by decide +kernel, by decide +kernel⟩, List.mem_of_getElem? (i := 160) (by decide +kernel), List.mem_of_getElem? (i := 574) (by decide +kernel), List.mem_of_getElem? (i := 575) (by decide +kernel)⟩
theorem lw_p21 : lw_okq (⟨"HouseTwins$Law", "doorStays", "(I)Z"⟩, 10) := ⟨⟨by decide +kernel, by decide +kernel⟩, List.mem_of_getElem? (i := 44) (by decide +kernel), List.mem_of_getElem? (i := 652) (by decide +kernel), List.mem_of_getElem? (i := 653) (by decide +kernel)⟩
theorem lw_p22 : lw_okq (⟨"HouseTwins$Run", "tryWork", "(IIII)I"⟩, 7) := ⟨⟨by decide +kernel, by decide +kernel⟩, List.mem_of_getElem? (i := 209) (by decide +kernel), List.mem_of_getElem? (i := 727) (by decide +kernel), List.mem_of_getElem? (i := 728) (by decide +kernel)⟩
theorem lw_p23 : lw_okq (⟨"HouseTwins$Run", "build", "(III)V"⟩, 7) := ⟨⟨by decide +kernel, by decide +kernel⟩, List.mem_of_getElem? (i := 209) (by decide +kernel), List.mem_of_getElem? (i := 741) (by decide +kernel), List.mem_of_getElem? (i := 742) (by decide +kernel)⟩
theorem lw_p24 : lw_okq (⟨"HouseTwins$Run", "answer", "(II)V"⟩, 7) := ⟨⟨by decide +kernel, by decide +kernel⟩, List.mem_of_getElem? (i := 209) (by decide +kernel), List.mem_of_getElem? (i := 746) (by decide +kernel), List.mem_of_getElem? (i := 747) (by decide +kernel)⟩
theorem lw_p25 : lw_okq (⟨"HouseTwins$Run", "isEvenPair", "(II)Z"⟩, 7) := ⟨⟨by decide +kernel, by decide +kernel⟩, List.mem_of_getElem? (i := 209) (by decide +kernel), List.mem_of_getElem? (i := 750) (by decide +kernel), List.mem_of_getElem? (i := 751) (by decide +kernel)⟩
theorem lw_p26 : lw_okq (⟨"HouseTwins$Choice", "weighVex", "(IIII)V"⟩, 5) := ⟨⟨by decide +kernel, by decide +kernel⟩, List.mem_of_getElem? (i := 240) (by decide +kernel), List.mem_of_getElem? (i := 835) (by decide +kernel), List.mem_of_getElem? (i := 836) (by decide +kernel)⟩
theorem lw_p27 : lw_okq (⟨"HouseTwins$Planner", "leastFrom", "(II)I"⟩, 5) := ⟨⟨by decide +kernel, by decide +kernel⟩, List.mem_of_getElem? (i := 265) (by decide +kernel), List.mem_of_getElem? (i := 864) (by decide +kernel), List.mem_of_getElem? (i := 865) (by decide +kernel)⟩
theorem lw_p28 : lw_okq (⟨"HouseTwins$Planner", "costWith", "(III)I"⟩, 5) := ⟨⟨by decide +kernel, by decide +kernel⟩, List.mem_of_getElem? (i := 265) (by decide +kernel), List.mem_of_getElem? (i := 869) (by decide +kernel), List.mem_of_getElem? (i := 870) (by decide +kernel)⟩
theorem lw_p29 : lw_okq (⟨"HouseTwins$Planner", "placeWants", "(II)V"⟩, 5) := ⟨⟨by decide +kernel, by decide +kernel⟩, List.mem_of_getElem? (i := 265) (by decide +kernel), List.mem_of_getElem? (i := 876) (by decide +kernel), List.mem_of_getElem? (i := 877) (by decide +kernel)⟩
theorem lw_p30 : lw_okq (⟨"HouseTwins", "lossOfBoth", "(III)I"⟩, 13) := ⟨⟨by decide +kernel, by decide +kernel⟩, List.mem_of_getElem? (i := 20) (by decide +kernel), List.mem_of_getElem? (i := 902) (by decide +kernel), List.mem_of_getElem? (i := 903) (by decide +kernel)⟩
theorem lw_p31 : lw_okq (⟨"HouseTwins", "quarrelBy", "(I)I"⟩, 13) := ⟨⟨by decide +kernel, by decide +kernel⟩, List.mem_of_getElem? (i := 20) (by decide +kernel), List.mem_of_getElem? (i := 911) (by decide +kernel), List.mem_of_getElem? (i := 912) (by decide +kernel)⟩
def lw_privs_2 : List (MethodName × Nat) := [(⟨"HouseTwins$Reader", "takeThing", "()I"⟩, 11), (⟨"HouseTwins$Reader", "readWork", "()V"⟩, 11), (⟨"HouseTwins$Rows", "setCell", "(III)V"⟩, 4), (⟨"HouseTwins$Reader", "takeStop", "()V"⟩, 11), (⟨"HouseTwins$Reader", "allLotsAre", "()Z"⟩, 11), (⟨"HouseTwins$Law", "doorStays", "(I)Z"⟩, 10), (⟨"HouseTwins$Run", "tryWork", "(IIII)I"⟩, 7), (⟨"HouseTwins$Run", "build", "(III)V"⟩, 7), (⟨"HouseTwins$Run", "answer", "(II)V"⟩, 7), (⟨"HouseTwins$Run", "isEvenPair", "(II)Z"⟩, 7), (⟨"HouseTwins$Choice", "weighVex", "(IIII)V"⟩, 5), (⟨"HouseTwins$Planner", "leastFrom", "(II)I"⟩, 5), (⟨"HouseTwins$Planner", "costWith", "(III)I"⟩, 5), (⟨"HouseTwins$Planner", "placeWants", "(II)V"⟩, 5), (⟨"HouseTwins", "lossOfBoth", "(III)I"⟩, 13), (⟨"HouseTwins", "quarrelBy", "(I)I"⟩, 13)]
theorem lw_r2 : ∀ q ∈ lw_privs_2, lw_okq q := List.forall_mem_cons.mpr ⟨lw_p16, List.forall_mem_cons.mpr ⟨lw_p17, List.forall_mem_cons.mpr ⟨lw_p18, List.forall_mem_cons.mpr ⟨lw_p19, List.forall_mem_cons.mpr ⟨lw_p20, List.forall_mem_cons.mpr ⟨lw_p21, List.forall_mem_cons.mpr ⟨lw_p22, List.forall_mem_cons.mpr ⟨lw_p23, List.forall_mem_cons.mpr ⟨lw_p24, List.forall_mem_cons.mpr ⟨lw_p25, List.forall_mem_cons.mpr ⟨lw_p26, List.forall_mem_cons.mpr ⟨lw_p27, List.forall_mem_cons.mpr ⟨lw_p28, List.forall_mem_cons.mpr ⟨lw_p29, List.forall_mem_cons.mpr ⟨lw_p30, List.forall_mem_cons.mpr ⟨lw_p31, fun _ h => absurd h List.not_mem_nil⟩⟩⟩⟩⟩⟩⟩⟩⟩⟩⟩⟩⟩⟩⟩⟩
theorem lw_p32 : lw_okq (⟨"HouseTwins$Past", "fitsSeen", "(III)Z"⟩, 6) := ⟨⟨by decide +kernel, by decide +kernel⟩, List.mem_of_getElem? (i := 287) (by decide +kernel), List.mem_of_getElem? (i := 952) (by decide +kernel), List.mem_of_getElem? (i := 953) (by decide +kernel)⟩
theorem lw_p33 : lw_okq (⟨"HouseTwins$Past", "note", "(II)V"⟩, 6) := ⟨⟨by decide +kernel, by decide +kernel⟩, List.mem_of_getElem? (i := 287) (by decide +kernel), List.mem_of_getElem? (i := 957) (by decide +kernel), List.mem_of_getElem? (i := 958) (by decide +kernel)⟩
theorem lw_p34 : lw_okq (⟨"HouseTwinsModel", "firstDraft", "()V"⟩, 49) := ⟨⟨by decide +kernel, by decide +kernel⟩, List.mem_of_getElem? (i := 1038) (by decide +kernel), List.mem_of_getElem? (i := 1044) (by decide +kernel), List.mem_of_getElem? (i := 1045) (by decide +kernel)⟩
theorem lw_p35 : lw_okq (⟨"HouseTwinsModel", "keepDraft", "()V"⟩, 49) := ⟨⟨by decide +kernel, by decide +kernel⟩, List.mem_of_getElem? (i := 1038) (by decide +kernel), List.mem_of_getElem? (i := 1048) (by decide +kernel), List.mem_of_getElem? (i := 1049) (by decide +kernel)⟩
theorem lw_p36 : lw_okq (⟨"HouseTwinsModel", "next", "()V"⟩, 49) := ⟨⟨by decide +kernel, by decide +kernel⟩, List.mem_of_getElem? (i := 1038) (by decide +kernel), List.mem_of_getElem? (i := 1216) (by decide +kernel), List.mem_of_getElem? (i := 1217) (by decide +kernel)⟩
theorem lw_p37 : lw_okq (⟨"HouseTwinsModel", "look", "(I)I"⟩, 49) := ⟨⟨by decide +kernel, by decide +kernel⟩, List.mem_of_getElem? (i := 1038) (by decide +kernel), List.mem_of_getElem? (i := 1220) (by decide +kernel), List.mem_of_getElem? (i := 1221) (by decide +kernel)⟩
theorem lw_p38 : lw_okq (⟨"HouseTwinsModel", "needs", "(ZI)V"⟩, 49) := ⟨⟨by decide +kernel, by decide +kernel⟩, List.mem_of_getElem? (i := 1038) (by decide +kernel), List.mem_of_getElem? (i := 1228) (by decide +kernel), List.mem_of_getElem? (i := 1229) (by decide +kernel)⟩
theorem lw_p39 : lw_okq (⟨"HouseTwinsModel", "readLine", "()V"⟩, 49) := ⟨⟨by decide +kernel, by decide +kernel⟩, List.mem_of_getElem? (i := 1038) (by decide +kernel), List.mem_of_getElem? (i := 1232) (by decide +kernel), List.mem_of_getElem? (i := 1233) (by decide +kernel)⟩
theorem lw_p40 : lw_okq (⟨"HouseTwinsModel", "lineNow", "()I"⟩, 49) := ⟨⟨by decide +kernel, by decide +kernel⟩, List.mem_of_getElem? (i := 1038) (by decide +kernel), List.mem_of_getElem? (i := 1236) (by decide +kernel), List.mem_of_getElem? (i := 1237) (by decide +kernel)⟩
theorem lw_p41 : lw_okq (⟨"HouseTwinsModel", "is", "(IIIII)Z"⟩, 49) := ⟨⟨by decide +kernel, by decide +kernel⟩, List.mem_of_getElem? (i := 1038) (by decide +kernel), List.mem_of_getElem? (i := 1240) (by decide +kernel), List.mem_of_getElem? (i := 1241) (by decide +kernel)⟩
theorem lw_p42 : lw_okq (⟨"HouseTwinsModel", "ends", "(III)Z"⟩, 49) := ⟨⟨by decide +kernel, by decide +kernel⟩, List.mem_of_getElem? (i := 1038) (by decide +kernel), List.mem_of_getElem? (i := 1244) (by decide +kernel), List.mem_of_getElem? (i := 1245) (by decide +kernel)⟩
theorem lw_p43 : lw_okq (⟨"HouseTwinsModel", "ruleNow", "()I"⟩, 49) := ⟨⟨by decide +kernel, by decide +kernel⟩, List.mem_of_getElem? (i := 1038) (by decide +kernel), List.mem_of_getElem? (i := 1248) (by decide +kernel), List.mem_of_getElem? (i := 1249) (by decide +kernel)⟩
theorem lw_p44 : lw_okq (⟨"HouseTwinsModel", "readLineOf", "(I)V"⟩, 49) := ⟨⟨by decide +kernel, by decide +kernel⟩, List.mem_of_getElem? (i := 1038) (by decide +kernel), List.mem_of_getElem? (i := 1252) (by decide +kernel), List.mem_of_getElem? (i := 1253) (by decide +kernel)⟩
theorem lw_p45 : lw_okq (⟨"HouseTwinsModel", "readNumber", "(II)I"⟩, 49) := ⟨⟨by decide +kernel, by decide +kernel⟩, List.mem_of_getElem? (i := 1038) (by decide +kernel), List.mem_of_getElem? (i := 1256) (by decide +kernel), List.mem_of_getElem? (i := 1257) (by decide +kernel)⟩
theorem lw_p46 : lw_okq (⟨"HouseTwinsModel", "looked", "(II)I"⟩, 49) := ⟨⟨by decide +kernel, by decide +kernel⟩, List.mem_of_getElem? (i := 1038) (by decide +kernel), List.mem_of_getElem? (i := 1260) (by decide +kernel), List.mem_of_getElem? (i := 1261) (by decide +kernel)⟩
theorem lw_p47 : lw_okq (⟨"HouseTwinsModel", "readCosts", "(Z)V"⟩, 49) := ⟨⟨by decide +kernel, by decide +kernel⟩, List.mem_of_getElem? (i := 1038) (by decide +kernel), List.mem_of_getElem? (i := 1264) (by decide +kernel), List.mem_of_getElem? (i := 1265) (by decide +kernel)⟩
def lw_privs_3 : List (MethodName × Nat) := [(⟨"HouseTwins$Past", "fitsSeen", "(III)Z"⟩, 6), (⟨"HouseTwins$Past", "note", "(II)V"⟩, 6), (⟨"HouseTwinsModel", "firstDraft", "()V"⟩, 49), (⟨"HouseTwinsModel", "keepDraft", "()V"⟩, 49), (⟨"HouseTwinsModel", "next", "()V"⟩, 49), (⟨"HouseTwinsModel", "look", "(I)I"⟩, 49), (⟨"HouseTwinsModel", "needs", "(ZI)V"⟩, 49), (⟨"HouseTwinsModel", "readLine", "()V"⟩, 49), (⟨"HouseTwinsModel", "lineNow", "()I"⟩, 49), (⟨"HouseTwinsModel", "is", "(IIIII)Z"⟩, 49), (⟨"HouseTwinsModel", "ends", "(III)Z"⟩, 49), (⟨"HouseTwinsModel", "ruleNow", "()I"⟩, 49), (⟨"HouseTwinsModel", "readLineOf", "(I)V"⟩, 49), (⟨"HouseTwinsModel", "readNumber", "(II)I"⟩, 49), (⟨"HouseTwinsModel", "looked", "(II)I"⟩, 49), (⟨"HouseTwinsModel", "readCosts", "(Z)V"⟩, 49)]
theorem lw_r3 : ∀ q ∈ lw_privs_3, lw_okq q := List.forall_mem_cons.mpr ⟨lw_p32, List.forall_mem_cons.mpr ⟨lw_p33, List.forall_mem_cons.mpr ⟨lw_p34, List.forall_mem_cons.mpr ⟨lw_p35, List.forall_mem_cons.mpr ⟨lw_p36, List.forall_mem_cons.mpr ⟨lw_p37, List.forall_mem_cons.mpr ⟨lw_p38, List.forall_mem_cons.mpr ⟨lw_p39, List.forall_mem_cons.mpr ⟨lw_p40, List.forall_mem_cons.mpr ⟨lw_p41, List.forall_mem_cons.mpr ⟨lw_p42, List.forall_mem_cons.mpr ⟨lw_p43, List.forall_mem_cons.mpr ⟨lw_p44, List.forall_mem_cons.mpr ⟨lw_p45, List.forall_mem_cons.mpr ⟨lw_p46, List.forall_mem_cons.mpr ⟨lw_p47, fun _ h => absurd h List.not_mem_nil⟩⟩⟩⟩⟩⟩⟩⟩⟩⟩⟩⟩⟩⟩⟩⟩
theorem lw_p48 : lw_okq (⟨"HouseTwinsModel", "readThing", "()V"⟩, 49) := ⟨⟨by decide +kernel, by decide +kernel⟩, List.mem_of_getElem? (i := 1038) (by decide +kernel), List.mem_of_getElem? (i := 1268) (by decide +kernel), List.mem_of_getElem? (i := 1269) (by decide +kernel)⟩
theorem lw_p49 : lw_okq (⟨"HouseTwinsModel", "readLot", "()I"⟩, 49) := ⟨⟨by decide +kernel, by decide +kernel⟩, List.mem_of_getElem? (i := 1038) (by decide +kernel), List.mem_of_getElem? (i := 1272) (by decide +kernel), List.mem_of_getElem? (i := 1273) (by decide +kernel)⟩
theorem lw_p50 : lw_okq (⟨"HouseTwinsModel", "readWhat", "()I"⟩, 49) := ⟨⟨by decide +kernel, by decide +kernel⟩, List.mem_of_getElem? (i := 1038) (by decide +kernel), List.mem_of_getElem? (i := 1276) (by decide +kernel), List.mem_of_getElem? (i := 1277) (by decide +kernel)⟩
theorem lw_p51 : lw_okq (⟨"HouseTwinsModel", "isNothing", "()Z"⟩, 49) := ⟨⟨by decide +kernel, by decide +kernel⟩, List.mem_of_getElem? (i := 1038) (by decide +kernel), List.mem_of_getElem? (i := 1280) (by decide +kernel), List.mem_of_getElem? (i := 1281) (by decide +kernel)⟩
theorem lw_p52 : lw_okq (⟨"HouseTwinsModel", "readKind", "(I)I"⟩, 49) := ⟨⟨by decide +kernel, by decide +kernel⟩, List.mem_of_getElem? (i := 1038) (by decide +kernel), List.mem_of_getElem? (i := 1284) (by decide +kernel), List.mem_of_getElem? (i := 1285) (by decide +kernel)⟩
theorem lw_p53 : lw_okq (⟨"HouseTwinsModel", "kindNow", "()I"⟩, 49) := ⟨⟨by decide +kernel, by decide +kernel⟩, List.mem_of_getElem? (i := 1038) (by decide +kernel), List.mem_of_getElem? (i := 1288) (by decide +kernel), List.mem_of_getElem? (i := 1289) (by decide +kernel)⟩
theorem lw_p54 : lw_okq (⟨"HouseTwinsModel", "sideNow", "()I"⟩, 49) := ⟨⟨by decide +kernel, by decide +kernel⟩, List.mem_of_getElem? (i := 1038) (by decide +kernel), List.mem_of_getElem? (i := 1292) (by decide +kernel), List.mem_of_getElem? (i := 1293) (by decide +kernel)⟩
theorem lw_p55 : lw_okq (⟨"HouseTwinsModel", "readWork", "()V"⟩, 49) := ⟨⟨by decide +kernel, by decide +kernel⟩, List.mem_of_getElem? (i := 1038) (by decide +kernel), List.mem_of_getElem? (i := 1296) (by decide +kernel), List.mem_of_getElem? (i := 1297) (by decide +kernel)⟩
theorem lw_p56 : lw_okq (⟨"HouseTwinsModel", "readLaw", "(I)V"⟩, 49) := ⟨⟨by decide +kernel, by decide +kernel⟩, List.mem_of_getElem? (i := 1038) (by decide +kernel), List.mem_of_getElem? (i := 1300) (by decide +kernel), List.mem_of_getElem? (i := 1301) (by decide +kernel)⟩
theorem lw_p57 : lw_okq (⟨"HouseTwinsModel", "readColour", "(I)I"⟩, 49) := ⟨⟨by decide +kernel, by decide +kernel⟩, List.mem_of_getElem? (i := 1038) (by decide +kernel), List.mem_of_getElem? (i := 1304) (by decide +kernel), List.mem_of_getElem? (i := 1305) (by decide +kernel)⟩
theorem lw_p58 : lw_okq (⟨"HouseTwinsModel", "doesLack", "(II)Z"⟩, 49) := ⟨⟨by decide +kernel, by decide +kernel⟩, List.mem_of_getElem? (i := 1038) (by decide +kernel), List.mem_of_getElem? (i := 1326) (by decide +kernel), List.mem_of_getElem? (i := 1327) (by decide +kernel)⟩
theorem lw_p59 : lw_okq (⟨"HouseTwinsModel", "mirrorOf", "(I)I"⟩, 49) := ⟨⟨by decide +kernel, by decide +kernel⟩, List.mem_of_getElem? (i := 1038) (by decide +kernel), List.mem_of_getElem? (i := 1346) (by decide +kernel), List.mem_of_getElem? (i := 1347) (by decide +kernel)⟩
theorem lw_p60 : lw_okq (⟨"HouseTwinsModel", "isLot", "(II)Z"⟩, 49) := ⟨⟨by decide +kernel, by decide +kernel⟩, List.mem_of_getElem? (i := 1038) (by decide +kernel), List.mem_of_getElem? (i := 1358) (by decide +kernel), List.mem_of_getElem? (i := 1359) (by decide +kernel)⟩
theorem lw_p61 : lw_okq (⟨"HouseTwinsModel", "matchOf", "(II)I"⟩, 49) := ⟨⟨by decide +kernel, by decide +kernel⟩, List.mem_of_getElem? (i := 1038) (by decide +kernel), List.mem_of_getElem? (i := 1373) (by decide +kernel), List.mem_of_getElem? (i := 1374) (by decide +kernel)⟩
theorem lw_p62 : lw_okq (⟨"HouseTwinsModel", "matchBy", "(III)I"⟩, 49) := ⟨⟨by decide +kernel, by decide +kernel⟩, List.mem_of_getElem? (i := 1038) (by decide +kernel), List.mem_of_getElem? (i := 1377) (by decide +kernel), List.mem_of_getElem? (i := 1378) (by decide +kernel)⟩
theorem lw_p63 : lw_okq (⟨"HouseTwinsModel", "asNow", "()V"⟩, 49) := ⟨⟨by decide +kernel, by decide +kernel⟩, List.mem_of_getElem? (i := 1038) (by decide +kernel), List.mem_of_getElem? (i := 1385) (by decide +kernel), List.mem_of_getElem? (i := 1386) (by decide +kernel)⟩
def lw_privs_4 : List (MethodName × Nat) := [(⟨"HouseTwinsModel", "readThing", "()V"⟩, 49), (⟨"HouseTwinsModel", "readLot", "()I"⟩, 49), (⟨"HouseTwinsModel", "readWhat", "()I"⟩, 49), (⟨"HouseTwinsModel", "isNothing", "()Z"⟩, 49), (⟨"HouseTwinsModel", "readKind", "(I)I"⟩, 49), (⟨"HouseTwinsModel", "kindNow", "()I"⟩, 49), (⟨"HouseTwinsModel", "sideNow", "()I"⟩, 49), (⟨"HouseTwinsModel", "readWork", "()V"⟩, 49), (⟨"HouseTwinsModel", "readLaw", "(I)V"⟩, 49), (⟨"HouseTwinsModel", "readColour", "(I)I"⟩, 49), (⟨"HouseTwinsModel", "doesLack", "(II)Z"⟩, 49), (⟨"HouseTwinsModel", "mirrorOf", "(I)I"⟩, 49), (⟨"HouseTwinsModel", "isLot", "(II)Z"⟩, 49), (⟨"HouseTwinsModel", "matchOf", "(II)I"⟩, 49), (⟨"HouseTwinsModel", "matchBy", "(III)I"⟩, 49), (⟨"HouseTwinsModel", "asNow", "()V"⟩, 49)]
theorem lw_r4 : ∀ q ∈ lw_privs_4, lw_okq q := List.forall_mem_cons.mpr ⟨lw_p48, List.forall_mem_cons.mpr ⟨lw_p49, List.forall_mem_cons.mpr ⟨lw_p50, List.forall_mem_cons.mpr ⟨lw_p51, List.forall_mem_cons.mpr ⟨lw_p52, List.forall_mem_cons.mpr ⟨lw_p53, List.forall_mem_cons.mpr ⟨lw_p54, List.forall_mem_cons.mpr ⟨lw_p55, List.forall_mem_cons.mpr ⟨lw_p56, List.forall_mem_cons.mpr ⟨lw_p57, List.forall_mem_cons.mpr ⟨lw_p58, List.forall_mem_cons.mpr ⟨lw_p59, List.forall_mem_cons.mpr ⟨lw_p60, List.forall_mem_cons.mpr ⟨lw_p61, List.forall_mem_cons.mpr ⟨lw_p62, List.forall_mem_cons.mpr ⟨lw_p63, fun _ h => absurd h List.not_mem_nil⟩⟩⟩⟩⟩⟩⟩⟩⟩⟩⟩⟩⟩⟩⟩⟩
theorem lw_p64 : lw_okq (⟨"HouseTwinsModel", "oddLots", "()I"⟩, 49) := ⟨⟨by decide +kernel, by decide +kernel⟩, List.mem_of_getElem? (i := 1038) (by decide +kernel), List.mem_of_getElem? (i := 1389) (by decide +kernel), List.mem_of_getElem? (i := 1390) (by decide +kernel)⟩
theorem lw_p65 : lw_okq (⟨"HouseTwinsModel", "isEven", "(I)Z"⟩, 49) := ⟨⟨by decide +kernel, by decide +kernel⟩, List.mem_of_getElem? (i := 1038) (by decide +kernel), List.mem_of_getElem? (i := 1393) (by decide +kernel), List.mem_of_getElem? (i := 1394) (by decide +kernel)⟩
theorem lw_p66 : lw_okq (⟨"HouseTwinsModel", "goRun", "(I)V"⟩, 49) := ⟨⟨by decide +kernel, by decide +kernel⟩, List.mem_of_getElem? (i := 1038) (by decide +kernel), List.mem_of_getElem? (i := 1409) (by decide +kernel), List.mem_of_getElem? (i := 1410) (by decide +kernel)⟩
theorem lw_p67 : lw_okq (⟨"HouseTwinsModel", "startRun", "()V"⟩, 49) := ⟨⟨by decide +kernel, by decide +kernel⟩, List.mem_of_getElem? (i := 1038) (by decide +kernel), List.mem_of_getElem? (i := 1413) (by decide +kernel), List.mem_of_getElem? (i := 1414) (by decide +kernel)⟩
theorem lw_p68 : lw_okq (⟨"HouseTwinsModel", "goMonth", "(I)V"⟩, 49) := ⟨⟨by decide +kernel, by decide +kernel⟩, List.mem_of_getElem? (i := 1038) (by decide +kernel), List.mem_of_getElem? (i := 1417) (by decide +kernel), List.mem_of_getElem? (i := 1418) (by decide +kernel)⟩
theorem lw_p69 : lw_okq (⟨"HouseTwinsModel", "works", "(I)V"⟩, 49) := ⟨⟨by decide +kernel, by decide +kernel⟩, List.mem_of_getElem? (i := 1038) (by decide +kernel), List.mem_of_getElem? (i := 1421) (by decide +kernel), List.mem_of_getElem? (i := 1422) (by decide +kernel)⟩
theorem lw_p70 : lw_okq (⟨"HouseTwinsModel", "gainOf", "(III)I"⟩, 49) := ⟨⟨by decide +kernel, by decide +kernel⟩, List.mem_of_getElem? (i := 1038) (by decide +kernel), List.mem_of_getElem? (i := 1454) (by decide +kernel), List.mem_of_getElem? (i := 1455) (by decide +kernel)⟩
theorem lw_p71 : lw_okq (⟨"HouseTwinsModel", "kindThere", "(II)I"⟩, 49) := ⟨⟨by decide +kernel, by decide +kernel⟩, List.mem_of_getElem? (i := 1038) (by decide +kernel), List.mem_of_getElem? (i := 1458) (by decide +kernel), List.mem_of_getElem? (i := 1459) (by decide +kernel)⟩
theorem lw_p72 : lw_okq (⟨"HouseTwinsModel", "beginOf", "(II)I"⟩, 49) := ⟨⟨by decide +kernel, by decide +kernel⟩, List.mem_of_getElem? (i := 1038) (by decide +kernel), List.mem_of_getElem? (i := 1466) (by decide +kernel), List.mem_of_getElem? (i := 1467) (by decide +kernel)⟩
theorem lw_p73 : lw_okq (⟨"HouseTwinsModel", "mayBe", "(III)Z"⟩, 49) := ⟨⟨by decide +kernel, by decide +kernel⟩, List.mem_of_getElem? (i := 1038) (by decide +kernel), List.mem_of_getElem? (i := 1470) (by decide +kernel), List.mem_of_getElem? (i := 1471) (by decide +kernel)⟩
theorem lw_p74 : lw_okq (⟨"HouseTwinsModel", "findRests", "(I)V"⟩, 49) := ⟨⟨by decide +kernel, by decide +kernel⟩, List.mem_of_getElem? (i := 1038) (by decide +kernel), List.mem_of_getElem? (i := 1495) (by decide +kernel), List.mem_of_getElem? (i := 1496) (by decide +kernel)⟩
theorem lw_p75 : lw_okq (⟨"HouseTwinsModel", "wantCost", "(II)I"⟩, 49) := ⟨⟨by decide +kernel, by decide +kernel⟩, List.mem_of_getElem? (i := 1038) (by decide +kernel), List.mem_of_getElem? (i := 1503) (by decide +kernel), List.mem_of_getElem? (i := 1504) (by decide +kernel)⟩
theorem lw_p76 : lw_okq (⟨"HouseTwinsModel", "quarrelOf", "(I)I"⟩, 49) := ⟨⟨by decide +kernel, by decide +kernel⟩, List.mem_of_getElem? (i := 1038) (by decide +kernel), List.mem_of_getElem? (i := 1520) (by decide +kernel), List.mem_of_getElem? (i := 1521) (by decide +kernel)⟩
theorem lw_p77 : lw_okq (⟨"HouseTwinsModel", "isShop", "(II)Z"⟩, 49) := ⟨⟨by decide +kernel, by decide +kernel⟩, List.mem_of_getElem? (i := 1038) (by decide +kernel), List.mem_of_getElem? (i := 1532) (by decide +kernel), List.mem_of_getElem? (i := 1533) (by decide +kernel)⟩
theorem lw_p78 : lw_okq (⟨"HouseTwinsModel", "isTold", "(I)Z"⟩, 49) := ⟨⟨by decide +kernel, by decide +kernel⟩, List.mem_of_getElem? (i := 1038) (by decide +kernel), List.mem_of_getElem? (i := 1549) (by decide +kernel), List.mem_of_getElem? (i := 1550) (by decide +kernel)⟩
theorem lw_p79 : lw_okq (⟨"HouseTwinsModel", "waysOf", "(IIII)I"⟩, 49) := ⟨⟨by decide +kernel, by decide +kernel⟩, List.mem_of_getElem? (i := 1038) (by decide +kernel), List.mem_of_getElem? (i := 1553) (by decide +kernel), List.mem_of_getElem? (i := 1554) (by decide +kernel)⟩
def lw_privs_5 : List (MethodName × Nat) := [(⟨"HouseTwinsModel", "oddLots", "()I"⟩, 49), (⟨"HouseTwinsModel", "isEven", "(I)Z"⟩, 49), (⟨"HouseTwinsModel", "goRun", "(I)V"⟩, 49), (⟨"HouseTwinsModel", "startRun", "()V"⟩, 49), (⟨"HouseTwinsModel", "goMonth", "(I)V"⟩, 49), (⟨"HouseTwinsModel", "works", "(I)V"⟩, 49), (⟨"HouseTwinsModel", "gainOf", "(III)I"⟩, 49), (⟨"HouseTwinsModel", "kindThere", "(II)I"⟩, 49), (⟨"HouseTwinsModel", "beginOf", "(II)I"⟩, 49), (⟨"HouseTwinsModel", "mayBe", "(III)Z"⟩, 49), (⟨"HouseTwinsModel", "findRests", "(I)V"⟩, 49), (⟨"HouseTwinsModel", "wantCost", "(II)I"⟩, 49), (⟨"HouseTwinsModel", "quarrelOf", "(I)I"⟩, 49), (⟨"HouseTwinsModel", "isShop", "(II)Z"⟩, 49), (⟨"HouseTwinsModel", "isTold", "(I)Z"⟩, 49), (⟨"HouseTwinsModel", "waysOf", "(IIII)I"⟩, 49)]
theorem lw_r5 : ∀ q ∈ lw_privs_5, lw_okq q := List.forall_mem_cons.mpr ⟨lw_p64, List.forall_mem_cons.mpr ⟨lw_p65, List.forall_mem_cons.mpr ⟨lw_p66, List.forall_mem_cons.mpr ⟨lw_p67, List.forall_mem_cons.mpr ⟨lw_p68, List.forall_mem_cons.mpr ⟨lw_p69, List.forall_mem_cons.mpr ⟨lw_p70, List.forall_mem_cons.mpr ⟨lw_p71, List.forall_mem_cons.mpr ⟨lw_p72, List.forall_mem_cons.mpr ⟨lw_p73, List.forall_mem_cons.mpr ⟨lw_p74, List.forall_mem_cons.mpr ⟨lw_p75, List.forall_mem_cons.mpr ⟨lw_p76, List.forall_mem_cons.mpr ⟨lw_p77, List.forall_mem_cons.mpr ⟨lw_p78, List.forall_mem_cons.mpr ⟨lw_p79, fun _ h => absurd h List.not_mem_nil⟩⟩⟩⟩⟩⟩⟩⟩⟩⟩⟩⟩⟩⟩⟩⟩
theorem lw_p80 : lw_okq (⟨"HouseTwinsModel", "fits", "(III)Z"⟩, 49) := ⟨⟨by decide +kernel, by decide +kernel⟩, List.mem_of_getElem? (i := 1038) (by decide +kernel), List.mem_of_getElem? (i := 1557) (by decide +kernel), List.mem_of_getElem? (i := 1558) (by decide +kernel)⟩
theorem lw_p81 : lw_okq (⟨"HouseTwinsModel", "copies", "(II)V"⟩, 49) := ⟨⟨by decide +kernel, by decide +kernel⟩, List.mem_of_getElem? (i := 1038) (by decide +kernel), List.mem_of_getElem? (i := 1569) (by decide +kernel), List.mem_of_getElem? (i := 1570) (by decide +kernel)⟩
theorem lw_p82 : lw_okq (⟨"HouseTwinsModel", "thingMany", "()I"⟩, 49) := ⟨⟨by decide +kernel, by decide +kernel⟩, List.mem_of_getElem? (i := 1038) (by decide +kernel), List.mem_of_getElem? (i := 1577) (by decide +kernel), List.mem_of_getElem? (i := 1578) (by decide +kernel)⟩
def lw_privs_6 : List (MethodName × Nat) := [(⟨"HouseTwinsModel", "fits", "(III)Z"⟩, 49), (⟨"HouseTwinsModel", "copies", "(II)V"⟩, 49), (⟨"HouseTwinsModel", "thingMany", "()I"⟩, 49)]
theorem lw_r6 : ∀ q ∈ lw_privs_6, lw_okq q := List.forall_mem_cons.mpr ⟨lw_p80, List.forall_mem_cons.mpr ⟨lw_p81, List.forall_mem_cons.mpr ⟨lw_p82, fun _ h => absurd h List.not_mem_nil⟩⟩⟩
def lw_privs : List (MethodName × Nat) := lw_privs_1 ++ (lw_privs_2 ++ (lw_privs_3 ++ (lw_privs_4 ++ (lw_privs_5 ++ (lw_privs_6)))))
def lw_tbl : List Cond := k2_sels lw_privs ++ tables_1
theorem lw_privs_ok : ∀ q ∈ lw_privs, lw_okq q := by
  show ∀ q ∈ lw_privs_1 ++ (lw_privs_2 ++ (lw_privs_3 ++ (lw_privs_4 ++ (lw_privs_5 ++ (lw_privs_6))))), lw_okq q
  exact List.forall_mem_append.mpr ⟨lw_r1, List.forall_mem_append.mpr ⟨lw_r2, List.forall_mem_append.mpr ⟨lw_r3, List.forall_mem_append.mpr ⟨lw_r4, List.forall_mem_append.mpr ⟨lw_r5, lw_r6⟩⟩⟩⟩⟩
end
section
def RX0 : String := "HouseTwins$Choice"
def TX0 : u_T := fun k => match k with
  | 0 => ("HouseTwins$Choice", "vexMost", "I", false)
  | 1 => ("HouseTwins$Choice", "vexLot", "I", false)
  | 2 => ("HouseTwins$Choice", "vexKind", "I", false)
  | 3 => ("HouseTwins$Choice", "law", "LHouseTwins$Law;", true)
  | _ => ("HouseTwins$Choice", "scene", "LHouseTwins$Scene;", true)
def tyX0 : Nat → FieldType := fun k => match k with
  | 0 => .int
  | 1 => .int
  | 2 => .int
  | 3 => .object "HouseTwins$Law"
  | _ => .object "HouseTwins$Scene"
abbrev wsX00 : List Cond := u_ws RX0 TX0 5
theorem nmX0 : ∀ a, a < 5 → ∀ b, b < 5 → a ≠ b → (TX0 a).2.1 ≠ (TX0 b).2.1 := by decide +kernel
theorem tyX0_ok : ∀ k, k < 5 → parseFieldDescriptor (TX0 k).2.2.1 = some (tyX0 k) := by decide +kernel
abbrev cX0_init : ByteArray := prog_2_method_1_code
def yX0_init : MethodName := ⟨RX0, "<init>", "(LHouseTwins$Law;LHouseTwins$Scene;)V"⟩
abbrev cX0_gainOf : ByteArray := prog_2_method_2_code
def yX0_gainOf : MethodName := ⟨RX0, "gainOf", "(III)I"⟩
abbrev cX0_bestKind : ByteArray := prog_2_method_3_code
def yX0_bestKind : MethodName := ⟨RX0, "bestKind", "(II)I"⟩
abbrev cX0_findVex : ByteArray := prog_2_method_4_code
def yX0_findVex : MethodName := ⟨RX0, "findVex", "(I)V"⟩
abbrev cX0_weighVex : ByteArray := prog_2_method_5_code
def yX0_weighVex : MethodName := ⟨RX0, "weighVex", "(IIII)V"⟩
def RX1 : String := "HouseTwins$Law"
def TX1 : u_T := fun k => match k with
  | 0 => ("HouseTwins$Law", "lots", "I", false)
  | 1 => ("HouseTwins$Law", "bend", "I", false)
  | 2 => ("HouseTwins$Law", "pull", "I", false)
  | 3 => ("HouseTwins$Law", "rightKinds", "I", false)
  | 4 => ("HouseTwins$Law", "price", "[I", true)
  | 5 => ("HouseTwins$Law", "cost", "[[I", true)
  | 6 => ("HouseTwins$Law", "taste", "[[I", true)
  | 7 => ("HouseTwins$Law", "lackedKinds", "[I", true)
  | 8 => ("HouseTwins$Law", "twin", "[I", true)
  | _ => ("HouseTwins$Law", "paint", "[I", true)
def tyX1 : Nat → FieldType := fun k => match k with
  | 0 => .int
  | 1 => .int
  | 2 => .int
  | 3 => .int
  | 4 => .array .int
  | 5 => .array (.array .int)
  | 6 => .array (.array .int)
  | 7 => .array .int
  | 8 => .array .int
  | _ => .array .int
abbrev wsX10 : List Cond := u_ws RX1 TX1 10
theorem nmX1 : ∀ a, a < 10 → ∀ b, b < 10 → a ≠ b → (TX1 a).2.1 ≠ (TX1 b).2.1 := by decide +kernel
theorem tyX1_ok : ∀ k, k < 10 → parseFieldDescriptor (TX1 k).2.2.1 = some (tyX1 k) := by decide +kernel
abbrev cX1_init : ByteArray := prog_3_method_1_code
def yX1_init : MethodName := ⟨RX1, "<init>", "()V"⟩
abbrev cX1_setFirst : ByteArray := prog_3_method_2_code
def yX1_setFirst : MethodName := ⟨RX1, "setFirst", "()V"⟩
abbrev cX1_copyFrom : ByteArray := prog_3_method_3_code
def yX1_copyFrom : MethodName := ⟨RX1, "copyFrom", "(LHouseTwins$Law;)V"⟩
abbrev cX1_isLot : ByteArray := prog_3_method_4_code
def yX1_isLot : MethodName := ⟨RX1, "isLot", "(II)Z"⟩
abbrev cX1_twinOf : ByteArray := prog_3_method_5_code
def yX1_twinOf : MethodName := ⟨RX1, "twinOf", "(I)I"⟩
abbrev cX1_costOf : ByteArray := prog_3_method_6_code
def yX1_costOf : MethodName := ⟨RX1, "costOf", "(II)I"⟩
abbrev cX1_tasteOf : ByteArray := prog_3_method_7_code
def yX1_tasteOf : MethodName := ⟨RX1, "tasteOf", "(II)I"⟩
abbrev cX1_lacks : ByteArray := prog_3_method_8_code
def yX1_lacks : MethodName := ⟨RX1, "lacks", "(II)Z"⟩
abbrev cX1_mayBuild : ByteArray := prog_3_method_9_code
def yX1_mayBuild : MethodName := ⟨RX1, "mayBuild", "(III)Z"⟩
abbrev cX1_matchOf : ByteArray := prog_3_method_10_code
def yX1_matchOf : MethodName := ⟨RX1, "matchOf", "(II)I"⟩
abbrev cX1_matchBy : ByteArray := prog_3_method_11_code
def yX1_matchBy : MethodName := ⟨RX1, "matchBy", "(III)I"⟩
abbrev cX1_countPairs : ByteArray := prog_3_method_12_code
def yX1_countPairs : MethodName := ⟨RX1, "countPairs", "()I"⟩
abbrev cX1_mirrorOf : ByteArray := prog_3_method_13_code
def yX1_mirrorOf : MethodName := ⟨RX1, "mirrorOf", "(I)I"⟩
abbrev cX1_doorStays : ByteArray := prog_3_method_14_code
def yX1_doorStays : MethodName := ⟨RX1, "doorStays", "(I)Z"⟩
abbrev cX1_isEven : ByteArray := prog_3_method_15_code
def yX1_isEven : MethodName := ⟨RX1, "isEven", "(II)Z"⟩
abbrev cX1_unevenLots : ByteArray := prog_3_method_16_code
def yX1_unevenLots : MethodName := ⟨RX1, "unevenLots", "([I)I"⟩
def RX2 : String := "HouseTwins$Past"
def TX2 : u_T := fun k => match k with
  | 0 => ("HouseTwins$Past", "found", "I", false)
  | 1 => ("HouseTwins$Past", "firstMonth", "I", false)
  | 2 => ("HouseTwins$Past", "lastMonth", "I", false)
  | 3 => ("HouseTwins$Past", "beginners", "I", false)
  | 4 => ("HouseTwins$Past", "law", "LHouseTwins$Law;", true)
  | _ => ("HouseTwins$Past", "scene", "LHouseTwins$Scene;", true)
def tyX2 : Nat → FieldType := fun k => match k with
  | 0 => .int
  | 1 => .int
  | 2 => .int
  | 3 => .int
  | 4 => .object "HouseTwins$Law"
  | _ => .object "HouseTwins$Scene"
abbrev wsX20 : List Cond := u_ws RX2 TX2 6
theorem nmX2 : ∀ a, a < 6 → ∀ b, b < 6 → a ≠ b → (TX2 a).2.1 ≠ (TX2 b).2.1 := by decide +kernel
theorem tyX2_ok : ∀ k, k < 6 → parseFieldDescriptor (TX2 k).2.2.1 = some (tyX2 k) := by decide +kernel
abbrev cX2_init : ByteArray := prog_4_method_1_code
def yX2_init : MethodName := ⟨RX2, "<init>", "(LHouseTwins$Law;LHouseTwins$Scene;)V"⟩
abbrev cX2_hasHistory : ByteArray := prog_4_method_2_code
def yX2_hasHistory : MethodName := ⟨RX2, "hasHistory", "(I)Z"⟩
abbrev cX2_findHistories : ByteArray := prog_4_method_3_code
def yX2_findHistories : MethodName := ⟨RX2, "findHistories", "(II)V"⟩
abbrev cX2_note : ByteArray := prog_4_method_4_code
def yX2_note : MethodName := ⟨RX2, "note", "(II)V"⟩
abbrev cX2_fitsSeen : ByteArray := prog_4_method_5_code
def yX2_fitsSeen : MethodName := ⟨RX2, "fitsSeen", "(III)Z"⟩
abbrev cX2_onlyBeginner : ByteArray := prog_4_method_6_code
def yX2_onlyBeginner : MethodName := ⟨RX2, "onlyBeginner", "()I"⟩
def RX3 : String := "HouseTwins$Planner"
def TX3 : u_T := fun k => match k with
  | 0 => ("HouseTwins$Planner", "law", "LHouseTwins$Law;", true)
  | 1 => ("HouseTwins$Planner", "scene", "LHouseTwins$Scene;", true)
  | 2 => ("HouseTwins$Planner", "least", "[I", true)
  | 3 => ("HouseTwins$Planner", "weights", "[I", true)
  | _ => ("HouseTwins$Planner", "months", "[I", true)
def tyX3 : Nat → FieldType := fun k => match k with
  | 0 => .object "HouseTwins$Law"
  | 1 => .object "HouseTwins$Scene"
  | 2 => .array .int
  | 3 => .array .int
  | _ => .array .int
abbrev wsX30 : List Cond := u_ws RX3 TX3 5
theorem nmX3 : ∀ a, a < 5 → ∀ b, b < 5 → a ≠ b → (TX3 a).2.1 ≠ (TX3 b).2.1 := by decide +kernel
theorem tyX3_ok : ∀ k, k < 5 → parseFieldDescriptor (TX3 k).2.2.1 = some (tyX3 k) := by decide +kernel
abbrev cX3_init : ByteArray := prog_5_method_1_code
def yX3_init : MethodName := ⟨RX3, "<init>", "(LHouseTwins$Law;LHouseTwins$Scene;)V"⟩
abbrev cX3_monthOf : ByteArray := prog_5_method_2_code
def yX3_monthOf : MethodName := ⟨RX3, "monthOf", "(I)I"⟩
abbrev cX3_findPlan : ByteArray := prog_5_method_3_code
def yX3_findPlan : MethodName := ⟨RX3, "findPlan", "(I)I"⟩
abbrev cX3_taken : ByteArray := prog_5_method_4_code
def yX3_taken : MethodName := ⟨RX3, "taken", "(II)I"⟩
abbrev cX3_withOneMore : ByteArray := prog_5_method_5_code
def yX3_withOneMore : MethodName := ⟨RX3, "withOneMore", "(II)I"⟩
abbrev cX3_costWith : ByteArray := prog_5_method_6_code
def yX3_costWith : MethodName := ⟨RX3, "costWith", "(III)I"⟩
abbrev cX3_leastFrom : ByteArray := prog_5_method_7_code
def yX3_leastFrom : MethodName := ⟨RX3, "leastFrom", "(II)I"⟩
abbrev cX3_placeWants : ByteArray := prog_5_method_8_code
def yX3_placeWants : MethodName := ⟨RX3, "placeWants", "(II)V"⟩
abbrev cX3_kindsBarred : ByteArray := prog_5_method_9_code
def yX3_kindsBarred : MethodName := ⟨RX3, "kindsBarred", "()I"⟩
abbrev cX3_costInstead : ByteArray := prog_5_method_10_code
def yX3_costInstead : MethodName := ⟨RX3, "costInstead", "()I"⟩
def RX4 : String := "HouseTwins$Reader"
def TX4 : u_T := fun k => match k with
  | 0 => ("HouseTwins$Reader", "law", "LHouseTwins$Law;", true)
  | 1 => ("HouseTwins$Reader", "scene", "LHouseTwins$Scene;", true)
  | 2 => ("HouseTwins$Reader", "fault", "I", false)
  | 3 => ("HouseTwins$Reader", "place", "I", false)
  | 4 => ("HouseTwins$Reader", "lines", "I", false)
  | 5 => ("HouseTwins$Reader", "tape", "LHouseTwins$Tape;", true)
  | 6 => ("HouseTwins$Reader", "next", "I", false)
  | 7 => ("HouseTwins$Reader", "start", "I", false)
  | 8 => ("HouseTwins$Reader", "type", "I", false)
  | 9 => ("HouseTwins$Reader", "figures", "I", false)
  | _ => ("HouseTwins$Reader", "told", "J", false)
def tyX4 : Nat → FieldType := fun k => match k with
  | 0 => .object "HouseTwins$Law"
  | 1 => .object "HouseTwins$Scene"
  | 2 => .int
  | 3 => .int
  | 4 => .int
  | 5 => .object "HouseTwins$Tape"
  | 6 => .int
  | 7 => .int
  | 8 => .int
  | 9 => .int
  | _ => .long
abbrev wsX40 : List Cond := u_ws RX4 TX4 11
theorem nmX4 : ∀ a, a < 11 → ∀ b, b < 11 → a ≠ b → (TX4 a).2.1 ≠ (TX4 b).2.1 := by decide +kernel
theorem tyX4_ok : ∀ k, k < 11 → parseFieldDescriptor (TX4 k).2.2.1 = some (tyX4 k) := by decide +kernel
abbrev cX4_init : ByteArray := prog_6_method_1_code
def yX4_init : MethodName := ⟨RX4, "<init>", "(LHouseTwins$Tape;)V"⟩
abbrev cX4_readAll : ByteArray := prog_6_method_2_code
def yX4_readAll : MethodName := ⟨RX4, "readAll", "()V"⟩
abbrev cX4_restart : ByteArray := prog_6_method_3_code
def yX4_restart : MethodName := ⟨RX4, "restart", "()V"⟩
abbrev cX4_fail : ByteArray := prog_6_method_4_code
def yX4_fail : MethodName := ⟨RX4, "fail", "(II)I"⟩
abbrev cX4_takeToken : ByteArray := prog_6_method_5_code
def yX4_takeToken : MethodName := ⟨RX4, "takeToken", "()V"⟩
abbrev cX4_typeOf : ByteArray := prog_6_method_6_code
def yX4_typeOf : MethodName := ⟨RX4, "typeOf", "(I)I"⟩
abbrev cX4_nameAmong : ByteArray := prog_6_method_7_code
def yX4_nameAmong : MethodName := ⟨RX4, "nameAmong", "(Ljava/lang/String;)I"⟩
abbrev cX4_takeNumber : ByteArray := prog_6_method_8_code
def yX4_takeNumber : MethodName := ⟨RX4, "takeNumber", "(II)I"⟩
abbrev cX4_takeBank : ByteArray := prog_6_method_9_code
def yX4_takeBank : MethodName := ⟨RX4, "takeBank", "()I"⟩
abbrev cX4_takeNameOf : ByteArray := prog_6_method_10_code
def yX4_takeNameOf : MethodName := ⟨RX4, "takeNameOf", "(Ljava/lang/String;)I"⟩
abbrev cX4_takeThing : ByteArray := prog_6_method_11_code
def yX4_takeThing : MethodName := ⟨RX4, "takeThing", "()I"⟩
abbrev cX4_takeStop : ByteArray := prog_6_method_12_code
def yX4_takeStop : MethodName := ⟨RX4, "takeStop", "()V"⟩
abbrev cX4_tellOnce : ByteArray := prog_6_method_13_code
def yX4_tellOnce : MethodName := ⟨RX4, "tellOnce", "(I)V"⟩
abbrev cX4_readLine : ByteArray := prog_6_method_14_code
def yX4_readLine : MethodName := ⟨RX4, "readLine", "()V"⟩
abbrev cX4_readPrices : ByteArray := prog_6_method_15_code
def yX4_readPrices : MethodName := ⟨RX4, "readPrices", "()V"⟩
abbrev cX4_readOfKinds : ByteArray := prog_6_method_16_code
def yX4_readOfKinds : MethodName := ⟨RX4, "readOfKinds", "([[II)V"⟩
abbrev cX4_readLack : ByteArray := prog_6_method_17_code
def yX4_readLack : MethodName := ⟨RX4, "readLack", "()V"⟩
abbrev cX4_readTwins : ByteArray := prog_6_method_18_code
def yX4_readTwins : MethodName := ⟨RX4, "readTwins", "()V"⟩
abbrev cX4_readPaint : ByteArray := prog_6_method_19_code
def yX4_readPaint : MethodName := ⟨RX4, "readPaint", "()V"⟩
abbrev cX4_readRight : ByteArray := prog_6_method_20_code
def yX4_readRight : MethodName := ⟨RX4, "readRight", "()V"⟩
abbrev cX4_readThing : ByteArray := prog_6_method_21_code
def yX4_readThing : MethodName := ⟨RX4, "readThing", "()V"⟩
abbrev cX4_readWork : ByteArray := prog_6_method_22_code
def yX4_readWork : MethodName := ⟨RX4, "readWork", "()V"⟩
abbrev cX4_allLotsAre : ByteArray := prog_6_method_23_code
def yX4_allLotsAre : MethodName := ⟨RX4, "allLotsAre", "()Z"⟩
def RX5 : String := "HouseTwins$Rows"
def TX5 : u_T := fun k => match k with
  | 0 => ("HouseTwins$Rows", "most", "I", true)
  | 1 => ("HouseTwins$Rows", "width", "I", true)
  | 2 => ("HouseTwins$Rows", "cells", "[I", true)
  | _ => ("HouseTwins$Rows", "size", "I", false)
def tyX5 : Nat → FieldType := fun k => match k with
  | 0 => .int
  | 1 => .int
  | 2 => .array .int
  | _ => .int
abbrev wsX50 : List Cond := u_ws RX5 TX5 4
theorem nmX5 : ∀ a, a < 4 → ∀ b, b < 4 → a ≠ b → (TX5 a).2.1 ≠ (TX5 b).2.1 := by decide +kernel
theorem tyX5_ok : ∀ k, k < 4 → parseFieldDescriptor (TX5 k).2.2.1 = some (tyX5 k) := by decide +kernel
abbrev cX5_init : ByteArray := prog_7_method_1_code
def yX5_init : MethodName := ⟨RX5, "<init>", "(II)V"⟩
abbrev cX5_isFull : ByteArray := prog_7_method_2_code
def yX5_isFull : MethodName := ⟨RX5, "isFull", "()Z"⟩
abbrev cX5_addRow : ByteArray := prog_7_method_3_code
def yX5_addRow : MethodName := ⟨RX5, "addRow", "(IIII)V"⟩
abbrev cX5_setCell : ByteArray := prog_7_method_4_code
def yX5_setCell : MethodName := ⟨RX5, "setCell", "(III)V"⟩
abbrev cX5_cell : ByteArray := prog_7_method_5_code
def yX5_cell : MethodName := ⟨RX5, "cell", "(II)I"⟩
abbrev cX5_empty : ByteArray := prog_7_method_6_code
def yX5_empty : MethodName := ⟨RX5, "empty", "()I"⟩
abbrev cX5_copyFrom : ByteArray := prog_7_method_7_code
def yX5_copyFrom : MethodName := ⟨RX5, "copyFrom", "(LHouseTwins$Rows;)V"⟩
def RX6 : String := "HouseTwins$Run"
def TX6 : u_T := fun k => match k with
  | 0 => ("HouseTwins$Run", "things", "[I", true)
  | 1 => ("HouseTwins$Run", "spent", "[I", true)
  | 2 => ("HouseTwins$Run", "fates", "[I", true)
  | 3 => ("HouseTwins$Run", "law", "LHouseTwins$Law;", true)
  | 4 => ("HouseTwins$Run", "scene", "LHouseTwins$Scene;", true)
  | 5 => ("HouseTwins$Run", "latest", "[I", true)
  | _ => ("HouseTwins$Run", "worked", "[I", true)
def tyX6 : Nat → FieldType := fun k => match k with
  | 0 => .array .int
  | 1 => .array .int
  | 2 => .array .int
  | 3 => .object "HouseTwins$Law"
  | 4 => .object "HouseTwins$Scene"
  | 5 => .array .int
  | _ => .array .int
abbrev wsX60 : List Cond := u_ws RX6 TX6 7
theorem nmX6 : ∀ a, a < 7 → ∀ b, b < 7 → a ≠ b → (TX6 a).2.1 ≠ (TX6 b).2.1 := by decide +kernel
theorem tyX6_ok : ∀ k, k < 7 → parseFieldDescriptor (TX6 k).2.2.1 = some (tyX6 k) := by decide +kernel
abbrev cX6_init : ByteArray := prog_8_method_1_code
def yX6_init : MethodName := ⟨RX6, "<init>", "(LHouseTwins$Law;LHouseTwins$Scene;)V"⟩
abbrev cX6_runMonths : ByteArray := prog_8_method_2_code
def yX6_runMonths : MethodName := ⟨RX6, "runMonths", "(I)V"⟩
abbrev cX6_start : ByteArray := prog_8_method_3_code
def yX6_start : MethodName := ⟨RX6, "start", "()V"⟩
abbrev cX6_runMonth : ByteArray := prog_8_method_4_code
def yX6_runMonth : MethodName := ⟨RX6, "runMonth", "(I)V"⟩
abbrev cX6_tryWork : ByteArray := prog_8_method_5_code
def yX6_tryWork : MethodName := ⟨RX6, "tryWork", "(IIII)I"⟩
abbrev cX6_build : ByteArray := prog_8_method_6_code
def yX6_build : MethodName := ⟨RX6, "build", "(III)V"⟩
abbrev cX6_answer : ByteArray := prog_8_method_7_code
def yX6_answer : MethodName := ⟨RX6, "answer", "(II)V"⟩
abbrev cX6_isEvenPair : ByteArray := prog_8_method_8_code
def yX6_isEvenPair : MethodName := ⟨RX6, "isEvenPair", "(II)Z"⟩
abbrev cX6_lotsOwedBy : ByteArray := prog_8_method_9_code
def yX6_lotsOwedBy : MethodName := ⟨RX6, "lotsOwedBy", "(I)I"⟩
abbrev cX6_worksDone : ByteArray := prog_8_method_10_code
def yX6_worksDone : MethodName := ⟨RX6, "worksDone", "()I"⟩
def RX7 : String := "HouseTwins$Scene"
def TX7 : u_T := fun k => match k with
  | 0 => ("HouseTwins$Scene", "things", "[I", true)
  | 1 => ("HouseTwins$Scene", "works", "LHouseTwins$Rows;", true)
  | 2 => ("HouseTwins$Scene", "wants", "LHouseTwins$Rows;", true)
  | _ => ("HouseTwins$Scene", "seen", "LHouseTwins$Rows;", true)
def tyX7 : Nat → FieldType := fun k => match k with
  | 0 => .array .int
  | 1 => .object "HouseTwins$Rows"
  | 2 => .object "HouseTwins$Rows"
  | _ => .object "HouseTwins$Rows"
abbrev wsX70 : List Cond := u_ws RX7 TX7 4
theorem nmX7 : ∀ a, a < 4 → ∀ b, b < 4 → a ≠ b → (TX7 a).2.1 ≠ (TX7 b).2.1 := by decide +kernel
theorem tyX7_ok : ∀ k, k < 4 → parseFieldDescriptor (TX7 k).2.2.1 = some (tyX7 k) := by decide +kernel
abbrev cX7_init : ByteArray := prog_9_method_1_code
def yX7_init : MethodName := ⟨RX7, "<init>", "()V"⟩
abbrev cX7_clear : ByteArray := prog_9_method_2_code
def yX7_clear : MethodName := ⟨RX7, "clear", "()V"⟩
abbrev cX7_copyFrom : ByteArray := prog_9_method_3_code
def yX7_copyFrom : MethodName := ⟨RX7, "copyFrom", "(LHouseTwins$Scene;)V"⟩
abbrev cX7_thingAt : ByteArray := prog_9_method_4_code
def yX7_thingAt : MethodName := ⟨RX7, "thingAt", "(II)I"⟩
abbrev cX7_kindAt : ByteArray := prog_9_method_5_code
def yX7_kindAt : MethodName := ⟨RX7, "kindAt", "(II)I"⟩
abbrev cX7_setThing : ByteArray := prog_9_method_6_code
def yX7_setThing : MethodName := ⟨RX7, "setThing", "(III)V"⟩
abbrev cX7_countThings : ByteArray := prog_9_method_7_code
def yX7_countThings : MethodName := ⟨RX7, "countThings", "()I"⟩
abbrev cX7_lastMonth : ByteArray := prog_9_method_8_code
def yX7_lastMonth : MethodName := ⟨RX7, "lastMonth", "()I"⟩
def RX8 : String := "HouseTwins$Sheet"
def TX8 : u_T := fun k => match k with
  | 0 => ("HouseTwins$Sheet", "size", "I", false)
  | 1 => ("HouseTwins$Sheet", "lane", "I", false)
  | _ => ("HouseTwins$Sheet", "cells", "[I", true)
def tyX8 : Nat → FieldType := fun k => match k with
  | 0 => .int
  | 1 => .int
  | _ => .array .int
abbrev wsX80 : List Cond := u_ws RX8 TX8 3
theorem nmX8 : ∀ a, a < 3 → ∀ b, b < 3 → a ≠ b → (TX8 a).2.1 ≠ (TX8 b).2.1 := by decide +kernel
theorem tyX8_ok : ∀ k, k < 3 → parseFieldDescriptor (TX8 k).2.2.1 = some (tyX8 k) := by decide +kernel
abbrev cX8_init : ByteArray := prog_10_method_1_code
def yX8_init : MethodName := ⟨RX8, "<init>", "()V"⟩
abbrev cX8_renew : ByteArray := prog_10_method_2_code
def yX8_renew : MethodName := ⟨RX8, "renew", "(II)V"⟩
abbrev cX8_faultAt : ByteArray := prog_10_method_3_code
def yX8_faultAt : MethodName := ⟨RX8, "faultAt", "(I)I"⟩
abbrev cX8_setCell : ByteArray := prog_10_method_4_code
def yX8_setCell : MethodName := ⟨RX8, "setCell", "(II)V"⟩
abbrev cX8_cell : ByteArray := prog_10_method_5_code
def yX8_cell : MethodName := ⟨RX8, "cell", "(I)I"⟩
abbrev cX8_wholeThings : ByteArray := prog_10_method_6_code
def yX8_wholeThings : MethodName := ⟨RX8, "wholeThings", "(III)I"⟩
abbrev cX8_faultOfReading : ByteArray := prog_10_method_7_code
def yX8_faultOfReading : MethodName := ⟨RX8, "faultOfReading", "(III)I"⟩
def RX9 : String := "HouseTwins$Tape"
def TX9 : u_T := fun k => match k with
  | 0 => ("HouseTwins$Tape", "bytes", "[I", true)
  | _ => ("HouseTwins$Tape", "size", "I", false)
def tyX9 : Nat → FieldType := fun k => match k with
  | 0 => .array .int
  | _ => .int
abbrev wsX90 : List Cond := u_ws RX9 TX9 2
theorem nmX9 : ∀ a, a < 2 → ∀ b, b < 2 → a ≠ b → (TX9 a).2.1 ≠ (TX9 b).2.1 := by decide +kernel
theorem tyX9_ok : ∀ k, k < 2 → parseFieldDescriptor (TX9 k).2.2.1 = some (tyX9 k) := by decide +kernel
abbrev cX9_init : ByteArray := prog_11_method_1_code
def yX9_init : MethodName := ⟨RX9, "<init>", "()V"⟩
abbrev cX9_append : ByteArray := prog_11_method_2_code
def yX9_append : MethodName := ⟨RX9, "append", "(J)V"⟩
abbrev cX9_byteAt : ByteArray := prog_11_method_3_code
def yX9_byteAt : MethodName := ⟨RX9, "byteAt", "(I)I"⟩
def RX10 : String := "HouseTwins"
def TX10 : u_T := fun k => match k with
  | 0 => ("HouseTwins", "tape", "LHouseTwins$Tape;", true)
  | 1 => ("HouseTwins", "law", "LHouseTwins$Law;", true)
  | 2 => ("HouseTwins", "scene", "LHouseTwins$Scene;", true)
  | 3 => ("HouseTwins", "reader", "LHouseTwins$Reader;", true)
  | 4 => ("HouseTwins", "run", "LHouseTwins$Run;", true)
  | 5 => ("HouseTwins", "choice", "LHouseTwins$Choice;", true)
  | 6 => ("HouseTwins", "planner", "LHouseTwins$Planner;", true)
  | 7 => ("HouseTwins", "past", "LHouseTwins$Past;", true)
  | 8 => ("HouseTwins", "images", "[LHouseTwins$Scene;", true)
  | 9 => ("HouseTwins", "imageKept", "[Z", true)
  | 10 => ("HouseTwins", "sheets", "[LHouseTwins$Sheet;", true)
  | 11 => ("HouseTwins", "textFault", "I", false)
  | _ => ("HouseTwins", "sheetFault", "I", false)
def tyX10 : Nat → FieldType := fun k => match k with
  | 0 => .object "HouseTwins$Tape"
  | 1 => .object "HouseTwins$Law"
  | 2 => .object "HouseTwins$Scene"
  | 3 => .object "HouseTwins$Reader"
  | 4 => .object "HouseTwins$Run"
  | 5 => .object "HouseTwins$Choice"
  | 6 => .object "HouseTwins$Planner"
  | 7 => .object "HouseTwins$Past"
  | 8 => .array (.object "HouseTwins$Scene")
  | 9 => .array .boolean
  | 10 => .array (.object "HouseTwins$Sheet")
  | 11 => .int
  | _ => .int
abbrev wsX100 : List Cond := u_ws RX10 TX10 13
theorem nmX10 : ∀ a, a < 13 → ∀ b, b < 13 → a ≠ b → (TX10 a).2.1 ≠ (TX10 b).2.1 := by decide +kernel
theorem tyX10_ok : ∀ k, k < 13 → parseFieldDescriptor (TX10 k).2.2.1 = some (tyX10 k) := by decide +kernel
abbrev cX10_init : ByteArray := prog_1_method_1_code
def yX10_init : MethodName := ⟨RX10, "<init>", "()V"⟩
abbrev cX10_feed : ByteArray := prog_1_method_2_code
def yX10_feed : MethodName := ⟨RX10, "feed", "(J)I"⟩
abbrev cX10_end : ByteArray := prog_1_method_3_code
def yX10_end : MethodName := ⟨RX10, "end", "(I)I"⟩
abbrev cX10_text : ByteArray := prog_1_method_4_code
def yX10_text : MethodName := ⟨RX10, "text", "()I"⟩
abbrev cX10_fault : ByteArray := prog_1_method_5_code
def yX10_fault : MethodName := ⟨RX10, "fault", "()I"⟩
abbrev cX10_rule : ByteArray := prog_1_method_6_code
def yX10_rule : MethodName := ⟨RX10, "rule", "(I)I"⟩
abbrev cX10_kind : ByteArray := prog_1_method_7_code
def yX10_kind : MethodName := ⟨RX10, "kind", "(II)I"⟩
abbrev cX10_colour : ByteArray := prog_1_method_8_code
def yX10_colour : MethodName := ⟨RX10, "colour", "(I)I"⟩
abbrev cX10_mirror : ByteArray := prog_1_method_9_code
def yX10_mirror : MethodName := ⟨RX10, "mirror", "(I)I"⟩
abbrev cX10_work : ByteArray := prog_1_method_10_code
def yX10_work : MethodName := ⟨RX10, "work", "(II)I"⟩
abbrev cX10_thing : ByteArray := prog_1_method_11_code
def yX10_thing : MethodName := ⟨RX10, "thing", "(II)I"⟩
abbrev cX10_put : ByteArray := prog_1_method_12_code
def yX10_put : MethodName := ⟨RX10, "put", "(III)I"⟩
abbrev cX10_match : ByteArray := prog_1_method_13_code
def yX10_match : MethodName := ⟨RX10, "match", "(II)I"⟩
abbrev cX10_odd : ByteArray := prog_1_method_14_code
def yX10_odd : MethodName := ⟨RX10, "odd", "()I"⟩
abbrev cX10_third : ByteArray := prog_1_method_15_code
def yX10_third : MethodName := ⟨RX10, "third", "(I)I"⟩
abbrev cX10_after : ByteArray := prog_1_method_16_code
def yX10_after : MethodName := ⟨RX10, "after", "(III)I"⟩
abbrev cX10_paid : ByteArray := prog_1_method_17_code
def yX10_paid : MethodName := ⟨RX10, "paid", "(II)I"⟩
abbrev cX10_owes : ByteArray := prog_1_method_18_code
def yX10_owes : MethodName := ⟨RX10, "owes", "(II)I"⟩
abbrev cX10_fate : ByteArray := prog_1_method_19_code
def yX10_fate : MethodName := ⟨RX10, "fate", "(I)I"⟩
abbrev cX10_uneven : ByteArray := prog_1_method_20_code
def yX10_uneven : MethodName := ⟨RX10, "uneven", "(I)I"⟩
abbrev cX10_firstLot : ByteArray := prog_1_method_21_code
def yX10_firstLot : MethodName := ⟨RX10, "firstLot", "(I)I"⟩
abbrev cX10_go : ByteArray := prog_1_method_22_code
def yX10_go : MethodName := ⟨RX10, "go", "()I"⟩
abbrev cX10_plot : ByteArray := prog_1_method_23_code
def yX10_plot : MethodName := ⟨RX10, "plot", "(IIII)I"⟩
abbrev cX10_gain : ByteArray := prog_1_method_24_code
def yX10_gain : MethodName := ⟨RX10, "gain", "(III)I"⟩
abbrev cX10_begin : ByteArray := prog_1_method_25_code
def yX10_begin : MethodName := ⟨RX10, "begin", "(III)I"⟩
abbrev cX10_waits : ByteArray := prog_1_method_26_code
def yX10_waits : MethodName := ⟨RX10, "waits", "(II)I"⟩
abbrev cX10_vex : ByteArray := prog_1_method_27_code
def yX10_vex : MethodName := ⟨RX10, "vex", "(II)I"⟩
abbrev cX10_want : ByteArray := prog_1_method_28_code
def yX10_want : MethodName := ⟨RX10, "want", "(II)I"⟩
abbrev cX10_content : ByteArray := prog_1_method_29_code
def yX10_content : MethodName := ⟨RX10, "content", "()I"⟩
abbrev cX10_plan : ByteArray := prog_1_method_30_code
def yX10_plan : MethodName := ⟨RX10, "plan", "(II)I"⟩
abbrev cX10_cannot : ByteArray := prog_1_method_31_code
def yX10_cannot : MethodName := ⟨RX10, "cannot", "(I)I"⟩
abbrev cX10_fire : ByteArray := prog_1_method_32_code
def yX10_fire : MethodName := ⟨RX10, "fire", "(III)I"⟩
abbrev cX10_lossOfBoth : ByteArray := prog_1_method_33_code
def yX10_lossOfBoth : MethodName := ⟨RX10, "lossOfBoth", "(III)I"⟩
abbrev cX10_quarrel : ByteArray := prog_1_method_34_code
def yX10_quarrel : MethodName := ⟨RX10, "quarrel", "(I)I"⟩
abbrev cX10_quarrelBy : ByteArray := prog_1_method_35_code
def yX10_quarrelBy : MethodName := ⟨RX10, "quarrelBy", "(I)I"⟩
abbrev cX10_bend : ByteArray := prog_1_method_36_code
def yX10_bend : MethodName := ⟨RX10, "bend", "()I"⟩
abbrev cX10_shops : ByteArray := prog_1_method_37_code
def yX10_shops : MethodName := ⟨RX10, "shops", "(II)I"⟩
abbrev cX10_fewestToGo : ByteArray := prog_1_method_38_code
def yX10_fewestToGo : MethodName := ⟨RX10, "fewestToGo", "(I)I"⟩
abbrev cX10_saw : ByteArray := prog_1_method_39_code
def yX10_saw : MethodName := ⟨RX10, "saw", "(IIIZ)I"⟩
abbrev cX10_forget : ByteArray := prog_1_method_40_code
def yX10_forget : MethodName := ⟨RX10, "forget", "()I"⟩
abbrev cX10_histories : ByteArray := prog_1_method_41_code
def yX10_histories : MethodName := ⟨RX10, "histories", "(I)J"⟩
abbrev cX10_began : ByteArray := prog_1_method_42_code
def yX10_began : MethodName := ⟨RX10, "began", "(III)I"⟩
abbrev cX10_keep : ByteArray := prog_1_method_43_code
def yX10_keep : MethodName := ⟨RX10, "keep", "(I)I"⟩
abbrev cX10_back : ByteArray := prog_1_method_44_code
def yX10_back : MethodName := ⟨RX10, "back", "(I)I"⟩
abbrev cX10_sheet : ByteArray := prog_1_method_45_code
def yX10_sheet : MethodName := ⟨RX10, "sheet", "(III)I"⟩
abbrev cX10_lay : ByteArray := prog_1_method_46_code
def yX10_lay : MethodName := ⟨RX10, "lay", "(III)I"⟩
abbrev cX10_read : ByteArray := prog_1_method_47_code
def yX10_read : MethodName := ⟨RX10, "read", "(IIII)I"⟩
abbrev cX10_torn : ByteArray := prog_1_method_48_code
def yX10_torn : MethodName := ⟨RX10, "torn", "()I"⟩
abbrev cX10_count : ByteArray := prog_1_method_49_code
def yX10_count : MethodName := ⟨RX10, "count", "(I)I"⟩
abbrev cX10_isBank : ByteArray := prog_1_method_50_code
def yX10_isBank : MethodName := ⟨RX10, "isBank", "(I)Z"⟩
abbrev cX10_isKind : ByteArray := prog_1_method_51_code
def yX10_isKind : MethodName := ⟨RX10, "isKind", "(I)Z"⟩
abbrev cX10_isBuilt : ByteArray := prog_1_method_52_code
def yX10_isBuilt : MethodName := ⟨RX10, "isBuilt", "(I)Z"⟩
abbrev cX10_isThing : ByteArray := prog_1_method_53_code
def yX10_isThing : MethodName := ⟨RX10, "isThing", "(I)Z"⟩
abbrev cX10_isSheet : ByteArray := prog_1_method_54_code
def yX10_isSheet : MethodName := ⟨RX10, "isSheet", "(I)Z"⟩
abbrev cX10_isLane : ByteArray := prog_1_method_55_code
def yX10_isLane : MethodName := ⟨RX10, "isLane", "(I)Z"⟩
abbrev cX10_isSlot : ByteArray := prog_1_method_56_code
def yX10_isSlot : MethodName := ⟨RX10, "isSlot", "(II)Z"⟩
abbrev cX10_slot : ByteArray := prog_1_method_57_code
def yX10_slot : MethodName := ⟨RX10, "slot", "(II)I"⟩
def RX11 : String := "HouseTwinsModel"
def TX11 : u_T := fun k => match k with
  | 0 => ("HouseTwinsModel", "st", "[I", true)
  | 1 => ("HouseTwinsModel", "isKept", "[Z", true)
  | 2 => ("HouseTwinsModel", "lots", "I", false)
  | 3 => ("HouseTwinsModel", "bend", "I", false)
  | 4 => ("HouseTwinsModel", "pull", "I", false)
  | 5 => ("HouseTwinsModel", "price", "[I", true)
  | 6 => ("HouseTwinsModel", "cost", "[I", true)
  | 7 => ("HouseTwinsModel", "taste", "[I", true)
  | 8 => ("HouseTwinsModel", "lacks", "[I", true)
  | 9 => ("HouseTwinsModel", "twin", "[I", true)
  | 10 => ("HouseTwinsModel", "paint", "[I", true)
  | 11 => ("HouseTwinsModel", "rights", "I", false)
  | 12 => ("HouseTwinsModel", "draft", "[I", true)
  | 13 => ("HouseTwinsModel", "dLots", "I", false)
  | 14 => ("HouseTwinsModel", "dBend", "I", false)
  | 15 => ("HouseTwinsModel", "dPull", "I", false)
  | 16 => ("HouseTwinsModel", "dPrice", "[I", true)
  | 17 => ("HouseTwinsModel", "dCost", "[I", true)
  | 18 => ("HouseTwinsModel", "dTaste", "[I", true)
  | 19 => ("HouseTwinsModel", "dLacks", "[I", true)
  | 20 => ("HouseTwinsModel", "dTwin", "[I", true)
  | 21 => ("HouseTwinsModel", "dPaint", "[I", true)
  | 22 => ("HouseTwinsModel", "dRights", "I", false)
  | 23 => ("HouseTwinsModel", "toldLines", "I", false)
  | 24 => ("HouseTwinsModel", "toldThings", "I", false)
  | 25 => ("HouseTwinsModel", "toldCosts", "I", false)
  | 26 => ("HouseTwinsModel", "toldTastes", "I", false)
  | 27 => ("HouseTwinsModel", "toldKinds", "I", false)
  | 28 => ("HouseTwinsModel", "toldColours", "I", false)
  | 29 => ("HouseTwinsModel", "highestLot", "I", false)
  | 30 => ("HouseTwinsModel", "tape", "[I", true)
  | 31 => ("HouseTwinsModel", "taped", "I", false)
  | 32 => ("HouseTwinsModel", "pos", "I", false)
  | 33 => ("HouseTwinsModel", "from", "I", false)
  | 34 => ("HouseTwinsModel", "sort", "I", false)
  | 35 => ("HouseTwinsModel", "value", "I", false)
  | 36 => ("HouseTwinsModel", "fault", "I", false)
  | 37 => ("HouseTwinsModel", "wrongAt", "I", false)
  | 38 => ("HouseTwinsModel", "now", "[I", true)
  | 39 => ("HouseTwinsModel", "latest", "[I", true)
  | 40 => ("HouseTwinsModel", "nowWorked", "[Z", true)
  | 41 => ("HouseTwinsModel", "wasWorked", "[Z", true)
  | 42 => ("HouseTwinsModel", "paidBy", "[I", true)
  | 43 => ("HouseTwinsModel", "fates", "[I", true)
  | 44 => ("HouseTwinsModel", "rests", "[I", true)
  | 45 => ("HouseTwinsModel", "lanes", "[I", true)
  | 46 => ("HouseTwinsModel", "sizes", "[I", true)
  | 47 => ("HouseTwinsModel", "cells", "[I", true)
  | _ => ("HouseTwinsModel", "torn", "I", false)
def tyX11 : Nat → FieldType := fun k => match k with
  | 0 => .array .int
  | 1 => .array .boolean
  | 2 => .int
  | 3 => .int
  | 4 => .int
  | 5 => .array .int
  | 6 => .array .int
  | 7 => .array .int
  | 8 => .array .int
  | 9 => .array .int
  | 10 => .array .int
  | 11 => .int
  | 12 => .array .int
  | 13 => .int
  | 14 => .int
  | 15 => .int
  | 16 => .array .int
  | 17 => .array .int
  | 18 => .array .int
  | 19 => .array .int
  | 20 => .array .int
  | 21 => .array .int
  | 22 => .int
  | 23 => .int
  | 24 => .int
  | 25 => .int
  | 26 => .int
  | 27 => .int
  | 28 => .int
  | 29 => .int
  | 30 => .array .int
  | 31 => .int
  | 32 => .int
  | 33 => .int
  | 34 => .int
  | 35 => .int
  | 36 => .int
  | 37 => .int
  | 38 => .array .int
  | 39 => .array .int
  | 40 => .array .boolean
  | 41 => .array .boolean
  | 42 => .array .int
  | 43 => .array .int
  | 44 => .array .int
  | 45 => .array .int
  | 46 => .array .int
  | 47 => .array .int
  | _ => .int
abbrev wsX110 : List Cond := u_ws RX11 TX11 49
theorem nmX11 : ∀ a, a < 49 → ∀ b, b < 49 → a ≠ b → (TX11 a).2.1 ≠ (TX11 b).2.1 := by decide +kernel
theorem tyX11_ok : ∀ k, k < 49 → parseFieldDescriptor (TX11 k).2.2.1 = some (tyX11 k) := by decide +kernel
abbrev cX11_init : ByteArray := prog_13_method_1_code
def yX11_init : MethodName := ⟨RX11, "<init>", "()V"⟩
abbrev cX11_in : ByteArray := prog_13_method_3_code
def yX11_in : MethodName := ⟨RX11, "in", "(JJJ)Z"⟩
abbrev cX11_flag : ByteArray := prog_13_method_4_code
def yX11_flag : MethodName := ⟨RX11, "flag", "(Z)I"⟩
abbrev cX11_firstDraft : ByteArray := prog_13_method_5_code
def yX11_firstDraft : MethodName := ⟨RX11, "firstDraft", "()V"⟩
abbrev cX11_keepDraft : ByteArray := prog_13_method_6_code
def yX11_keepDraft : MethodName := ⟨RX11, "keepDraft", "()V"⟩
abbrev cX11_feed : ByteArray := prog_13_method_7_code
def yX11_feed : MethodName := ⟨RX11, "feed", "(J)I"⟩
abbrev cX11_end : ByteArray := prog_13_method_8_code
def yX11_end : MethodName := ⟨RX11, "end", "(I)I"⟩
abbrev cX11_needs : ByteArray := prog_13_method_9_code
def yX11_needs : MethodName := ⟨RX11, "needs", "(ZI)V"⟩
abbrev cX11_look : ByteArray := prog_13_method_10_code
def yX11_look : MethodName := ⟨RX11, "look", "(I)I"⟩
abbrev cX11_is : ByteArray := prog_13_method_11_code
def yX11_is : MethodName := ⟨RX11, "is", "(IIIII)Z"⟩
abbrev cX11_ends : ByteArray := prog_13_method_12_code
def yX11_ends : MethodName := ⟨RX11, "ends", "(III)Z"⟩
abbrev cX11_ruleNow : ByteArray := prog_13_method_13_code
def yX11_ruleNow : MethodName := ⟨RX11, "ruleNow", "()I"⟩
abbrev cX11_lineNow : ByteArray := prog_13_method_14_code
def yX11_lineNow : MethodName := ⟨RX11, "lineNow", "()I"⟩
abbrev cX11_kindNow : ByteArray := prog_13_method_15_code
def yX11_kindNow : MethodName := ⟨RX11, "kindNow", "()I"⟩
abbrev cX11_isNothing : ByteArray := prog_13_method_16_code
def yX11_isNothing : MethodName := ⟨RX11, "isNothing", "()Z"⟩
abbrev cX11_sideNow : ByteArray := prog_13_method_17_code
def yX11_sideNow : MethodName := ⟨RX11, "sideNow", "()I"⟩
abbrev cX11_next : ByteArray := prog_13_method_18_code
def yX11_next : MethodName := ⟨RX11, "next", "()V"⟩
abbrev cX11_looked : ByteArray := prog_13_method_19_code
def yX11_looked : MethodName := ⟨RX11, "looked", "(II)I"⟩
abbrev cX11_readNumber : ByteArray := prog_13_method_20_code
def yX11_readNumber : MethodName := ⟨RX11, "readNumber", "(II)I"⟩
abbrev cX11_readLot : ByteArray := prog_13_method_21_code
def yX11_readLot : MethodName := ⟨RX11, "readLot", "()I"⟩
abbrev cX11_readKind : ByteArray := prog_13_method_22_code
def yX11_readKind : MethodName := ⟨RX11, "readKind", "(I)I"⟩
abbrev cX11_readColour : ByteArray := prog_13_method_23_code
def yX11_readColour : MethodName := ⟨RX11, "readColour", "(I)I"⟩
abbrev cX11_readWhat : ByteArray := prog_13_method_24_code
def yX11_readWhat : MethodName := ⟨RX11, "readWhat", "()I"⟩
abbrev cX11_readCosts : ByteArray := prog_13_method_25_code
def yX11_readCosts : MethodName := ⟨RX11, "readCosts", "(Z)V"⟩
abbrev cX11_readThing : ByteArray := prog_13_method_26_code
def yX11_readThing : MethodName := ⟨RX11, "readThing", "()V"⟩
abbrev cX11_readWork : ByteArray := prog_13_method_27_code
def yX11_readWork : MethodName := ⟨RX11, "readWork", "()V"⟩
abbrev cX11_readLaw : ByteArray := prog_13_method_28_code
def yX11_readLaw : MethodName := ⟨RX11, "readLaw", "(I)V"⟩
abbrev cX11_readLineOf : ByteArray := prog_13_method_29_code
def yX11_readLineOf : MethodName := ⟨RX11, "readLineOf", "(I)V"⟩
abbrev cX11_readLine : ByteArray := prog_13_method_30_code
def yX11_readLine : MethodName := ⟨RX11, "readLine", "()V"⟩
abbrev cX11_text : ByteArray := prog_13_method_31_code
def yX11_text : MethodName := ⟨RX11, "text", "()I"⟩
abbrev cX11_fault : ByteArray := prog_13_method_32_code
def yX11_fault : MethodName := ⟨RX11, "fault", "()I"⟩
abbrev cX11_rule : ByteArray := prog_13_method_33_code
def yX11_rule : MethodName := ⟨RX11, "rule", "(I)I"⟩
abbrev cX11_isKind : ByteArray := prog_13_method_34_code
def yX11_isKind : MethodName := ⟨RX11, "isKind", "(I)Z"⟩
abbrev cX11_doesLack : ByteArray := prog_13_method_35_code
def yX11_doesLack : MethodName := ⟨RX11, "doesLack", "(II)Z"⟩
abbrev cX11_kind : ByteArray := prog_13_method_36_code
def yX11_kind : MethodName := ⟨RX11, "kind", "(II)I"⟩
abbrev cX11_colour : ByteArray := prog_13_method_37_code
def yX11_colour : MethodName := ⟨RX11, "colour", "(I)I"⟩
abbrev cX11_isThing : ByteArray := prog_13_method_38_code
def yX11_isThing : MethodName := ⟨RX11, "isThing", "(I)Z"⟩
abbrev cX11_mirrorOf : ByteArray := prog_13_method_39_code
def yX11_mirrorOf : MethodName := ⟨RX11, "mirrorOf", "(I)I"⟩
abbrev cX11_mirror : ByteArray := prog_13_method_40_code
def yX11_mirror : MethodName := ⟨RX11, "mirror", "(I)I"⟩
abbrev cX11_work : ByteArray := prog_13_method_41_code
def yX11_work : MethodName := ⟨RX11, "work", "(II)I"⟩
abbrev cX11_isBank : ByteArray := prog_13_method_42_code
def yX11_isBank : MethodName := ⟨RX11, "isBank", "(I)Z"⟩
abbrev cX11_isLot : ByteArray := prog_13_method_43_code
def yX11_isLot : MethodName := ⟨RX11, "isLot", "(II)Z"⟩
abbrev cX11_thing : ByteArray := prog_13_method_44_code
def yX11_thing : MethodName := ⟨RX11, "thing", "(II)I"⟩
abbrev cX11_put : ByteArray := prog_13_method_45_code
def yX11_put : MethodName := ⟨RX11, "put", "(III)I"⟩
abbrev cX11_matchBy : ByteArray := prog_13_method_46_code
def yX11_matchBy : MethodName := ⟨RX11, "matchBy", "(III)I"⟩
abbrev cX11_matchOf : ByteArray := prog_13_method_47_code
def yX11_matchOf : MethodName := ⟨RX11, "matchOf", "(II)I"⟩
abbrev cX11_match : ByteArray := prog_13_method_48_code
def yX11_match : MethodName := ⟨RX11, "match", "(II)I"⟩
abbrev cX11_asNow : ByteArray := prog_13_method_49_code
def yX11_asNow : MethodName := ⟨RX11, "asNow", "()V"⟩
abbrev cX11_isEven : ByteArray := prog_13_method_50_code
def yX11_isEven : MethodName := ⟨RX11, "isEven", "(I)Z"⟩
abbrev cX11_oddLots : ByteArray := prog_13_method_51_code
def yX11_oddLots : MethodName := ⟨RX11, "oddLots", "()I"⟩
abbrev cX11_odd : ByteArray := prog_13_method_52_code
def yX11_odd : MethodName := ⟨RX11, "odd", "()I"⟩
abbrev cX11_third : ByteArray := prog_13_method_53_code
def yX11_third : MethodName := ⟨RX11, "third", "(I)I"⟩
abbrev cX11_startRun : ByteArray := prog_13_method_54_code
def yX11_startRun : MethodName := ⟨RX11, "startRun", "()V"⟩
abbrev cX11_works : ByteArray := prog_13_method_55_code
def yX11_works : MethodName := ⟨RX11, "works", "(I)V"⟩
abbrev cX11_goMonth : ByteArray := prog_13_method_56_code
def yX11_goMonth : MethodName := ⟨RX11, "goMonth", "(I)V"⟩
abbrev cX11_goRun : ByteArray := prog_13_method_57_code
def yX11_goRun : MethodName := ⟨RX11, "goRun", "(I)V"⟩
abbrev cX11_isMany : ByteArray := prog_13_method_58_code
def yX11_isMany : MethodName := ⟨RX11, "isMany", "(I)Z"⟩
abbrev cX11_after : ByteArray := prog_13_method_59_code
def yX11_after : MethodName := ⟨RX11, "after", "(III)I"⟩
abbrev cX11_paid : ByteArray := prog_13_method_60_code
def yX11_paid : MethodName := ⟨RX11, "paid", "(II)I"⟩
abbrev cX11_owes : ByteArray := prog_13_method_61_code
def yX11_owes : MethodName := ⟨RX11, "owes", "(II)I"⟩
abbrev cX11_fate : ByteArray := prog_13_method_62_code
def yX11_fate : MethodName := ⟨RX11, "fate", "(I)I"⟩
abbrev cX11_uneven : ByteArray := prog_13_method_63_code
def yX11_uneven : MethodName := ⟨RX11, "uneven", "(I)I"⟩
abbrev cX11_go : ByteArray := prog_13_method_64_code
def yX11_go : MethodName := ⟨RX11, "go", "()I"⟩
abbrev cX11_plot : ByteArray := prog_13_method_65_code
def yX11_plot : MethodName := ⟨RX11, "plot", "(IIII)I"⟩
abbrev cX11_kindThere : ByteArray := prog_13_method_66_code
def yX11_kindThere : MethodName := ⟨RX11, "kindThere", "(II)I"⟩
abbrev cX11_gainOf : ByteArray := prog_13_method_67_code
def yX11_gainOf : MethodName := ⟨RX11, "gainOf", "(III)I"⟩
abbrev cX11_gain : ByteArray := prog_13_method_68_code
def yX11_gain : MethodName := ⟨RX11, "gain", "(III)I"⟩
abbrev cX11_mayBe : ByteArray := prog_13_method_69_code
def yX11_mayBe : MethodName := ⟨RX11, "mayBe", "(III)Z"⟩
abbrev cX11_beginOf : ByteArray := prog_13_method_70_code
def yX11_beginOf : MethodName := ⟨RX11, "beginOf", "(II)I"⟩
abbrev cX11_begin : ByteArray := prog_13_method_71_code
def yX11_begin : MethodName := ⟨RX11, "begin", "(III)I"⟩
abbrev cX11_waits : ByteArray := prog_13_method_72_code
def yX11_waits : MethodName := ⟨RX11, "waits", "(II)I"⟩
abbrev cX11_vex : ByteArray := prog_13_method_73_code
def yX11_vex : MethodName := ⟨RX11, "vex", "(II)I"⟩
abbrev cX11_want : ByteArray := prog_13_method_74_code
def yX11_want : MethodName := ⟨RX11, "want", "(II)I"⟩
abbrev cX11_content : ByteArray := prog_13_method_75_code
def yX11_content : MethodName := ⟨RX11, "content", "()I"⟩
abbrev cX11_bitsOf : ByteArray := prog_13_method_76_code
def yX11_bitsOf : MethodName := ⟨RX11, "bitsOf", "(I)I"⟩
abbrev cX11_wantCost : ByteArray := prog_13_method_77_code
def yX11_wantCost : MethodName := ⟨RX11, "wantCost", "(II)I"⟩
abbrev cX11_findRests : ByteArray := prog_13_method_78_code
def yX11_findRests : MethodName := ⟨RX11, "findRests", "(I)V"⟩
abbrev cX11_plan : ByteArray := prog_13_method_79_code
def yX11_plan : MethodName := ⟨RX11, "plan", "(II)I"⟩
abbrev cX11_cannot : ByteArray := prog_13_method_80_code
def yX11_cannot : MethodName := ⟨RX11, "cannot", "(I)I"⟩
abbrev cX11_fire : ByteArray := prog_13_method_81_code
def yX11_fire : MethodName := ⟨RX11, "fire", "(III)I"⟩
abbrev cX11_quarrelOf : ByteArray := prog_13_method_82_code
def yX11_quarrelOf : MethodName := ⟨RX11, "quarrelOf", "(I)I"⟩
abbrev cX11_quarrel : ByteArray := prog_13_method_83_code
def yX11_quarrel : MethodName := ⟨RX11, "quarrel", "(I)I"⟩
abbrev cX11_bend : ByteArray := prog_13_method_84_code
def yX11_bend : MethodName := ⟨RX11, "bend", "()I"⟩
abbrev cX11_isShop : ByteArray := prog_13_method_85_code
def yX11_isShop : MethodName := ⟨RX11, "isShop", "(II)Z"⟩
abbrev cX11_shops : ByteArray := prog_13_method_86_code
def yX11_shops : MethodName := ⟨RX11, "shops", "(II)I"⟩
abbrev cX11_saw : ByteArray := prog_13_method_87_code
def yX11_saw : MethodName := ⟨RX11, "saw", "(IIIZ)I"⟩
abbrev cX11_forget : ByteArray := prog_13_method_88_code
def yX11_forget : MethodName := ⟨RX11, "forget", "()I"⟩
abbrev cX11_isTold : ByteArray := prog_13_method_89_code
def yX11_isTold : MethodName := ⟨RX11, "isTold", "(I)Z"⟩
abbrev cX11_fits : ByteArray := prog_13_method_90_code
def yX11_fits : MethodName := ⟨RX11, "fits", "(III)Z"⟩
abbrev cX11_waysOf : ByteArray := prog_13_method_91_code
def yX11_waysOf : MethodName := ⟨RX11, "waysOf", "(IIII)I"⟩
abbrev cX11_histories : ByteArray := prog_13_method_92_code
def yX11_histories : MethodName := ⟨RX11, "histories", "(I)J"⟩
abbrev cX11_began : ByteArray := prog_13_method_93_code
def yX11_began : MethodName := ⟨RX11, "began", "(III)I"⟩
abbrev cX11_thingMany : ByteArray := prog_13_method_94_code
def yX11_thingMany : MethodName := ⟨RX11, "thingMany", "()I"⟩
abbrev cX11_copies : ByteArray := prog_13_method_95_code
def yX11_copies : MethodName := ⟨RX11, "copies", "(II)V"⟩
abbrev cX11_keep : ByteArray := prog_13_method_96_code
def yX11_keep : MethodName := ⟨RX11, "keep", "(I)I"⟩
abbrev cX11_back : ByteArray := prog_13_method_97_code
def yX11_back : MethodName := ⟨RX11, "back", "(I)I"⟩
abbrev cX11_isSheet : ByteArray := prog_13_method_98_code
def yX11_isSheet : MethodName := ⟨RX11, "isSheet", "(II)Z"⟩
abbrev cX11_sheet : ByteArray := prog_13_method_99_code
def yX11_sheet : MethodName := ⟨RX11, "sheet", "(III)I"⟩
abbrev cX11_lay : ByteArray := prog_13_method_100_code
def yX11_lay : MethodName := ⟨RX11, "lay", "(III)I"⟩
abbrev cX11_read : ByteArray := prog_13_method_101_code
def yX11_read : MethodName := ⟨RX11, "read", "(IIII)I"⟩
abbrev cX11_torn : ByteArray := prog_13_method_102_code
def yX11_torn : MethodName := ⟨RX11, "torn", "()I"⟩
abbrev cX11_count : ByteArray := prog_13_method_103_code
def yX11_count : MethodName := ⟨RX11, "count", "(I)I"⟩
def RJ9 : String := "java/lang/Math"
def TJ9 : u_T := fun k => match k with
  | _ => ("", "", "", false)
def tyJ9 : Nat → FieldType := fun k => match k with
  | _ => .int
abbrev wsJ90 : List Cond := u_ws RJ9 TJ9 0
theorem nmJ9 : ∀ a, a < 0 → ∀ b, b < 0 → a ≠ b → (TJ9 a).2.1 ≠ (TJ9 b).2.1 := by decide +kernel
theorem tyJ9_ok : ∀ k, k < 0 → parseFieldDescriptor (TJ9 k).2.2.1 = some (tyJ9 k) := by decide +kernel
abbrev cJ9_min_7cf53 : ByteArray := prog_14_method_69_code
def yJ9_min_7cf53 : MethodName := ⟨RJ9, "min", "(II)I"⟩
def RJ0 : String := "java/lang/String"
def TJ0 : u_T := fun k => match k with
  | _ => ("", "", "", false)
def tyJ0 : Nat → FieldType := fun k => match k with
  | _ => .int
abbrev wsJ00 : List Cond := u_ws RJ0 TJ0 0
theorem nmJ0 : ∀ a, a < 0 → ∀ b, b < 0 → a ≠ b → (TJ0 a).2.1 ≠ (TJ0 b).2.1 := by decide +kernel
theorem tyJ0_ok : ∀ k, k < 0 → parseFieldDescriptor (TJ0 k).2.2.1 = some (tyJ0 k) := by decide +kernel
abbrev cJ0_length_8abf5 : ByteArray := prog_15_method_54_code
def yJ0_length_8abf5 : MethodName := ⟨RJ0, "length", "()I"⟩
abbrev cJ0_charAt_5068e : ByteArray := prog_15_method_56_code
def yJ0_charAt_5068e : MethodName := ⟨RJ0, "charAt", "(I)C"⟩
abbrev cJ0_coder_7d493 : ByteArray := prog_15_method_152_code
def yJ0_coder_7d493 : MethodName := ⟨RJ0, "coder", "()B"⟩
abbrev cJ0_isLatin1_aae02 : ByteArray := prog_15_method_154_code
def yJ0_isLatin1_aae02 : MethodName := ⟨RJ0, "isLatin1", "()Z"⟩
abbrev cJ0_checkIndex_df160 : ByteArray := prog_15_method_155_code
def yJ0_checkIndex_df160 : MethodName := ⟨RJ0, "checkIndex", "(II)V"⟩
def RJ1 : String := "java/lang/StringLatin1"
def TJ1 : u_T := fun k => match k with
  | _ => ("", "", "", false)
def tyJ1 : Nat → FieldType := fun k => match k with
  | _ => .int
abbrev wsJ10 : List Cond := u_ws RJ1 TJ1 0
theorem nmJ1 : ∀ a, a < 0 → ∀ b, b < 0 → a ≠ b → (TJ1 a).2.1 ≠ (TJ1 b).2.1 := by decide +kernel
theorem tyJ1_ok : ∀ k, k < 0 → parseFieldDescriptor (TJ1 k).2.2.1 = some (tyJ1 k) := by decide +kernel
abbrev cJ1_charAt_3b067 : ByteArray := prog_16_method_2_code
def yJ1_charAt_3b067 : MethodName := ⟨RJ1, "charAt", "([BI)C"⟩
def RJ2 : String := "java/lang/StringUTF16"
def TJ2 : u_T := fun k => match k with
  | _ => ("", "", "", false)
def tyJ2 : Nat → FieldType := fun k => match k with
  | _ => .int
abbrev wsJ20 : List Cond := u_ws RJ2 TJ2 0
theorem nmJ2 : ∀ a, a < 0 → ∀ b, b < 0 → a ≠ b → (TJ2 a).2.1 ≠ (TJ2 b).2.1 := by decide +kernel
theorem tyJ2_ok : ∀ k, k < 0 → parseFieldDescriptor (TJ2 k).2.2.1 = some (tyJ2 k) := by decide +kernel
abbrev cJ2_getChar_3b067 : ByteArray := prog_17_method_5_code
def yJ2_getChar_3b067 : MethodName := ⟨RJ2, "getChar", "([BI)C"⟩
abbrev cJ2_length_9d52b : ByteArray := prog_17_method_6_code
def yJ2_length_9d52b : MethodName := ⟨RJ2, "length", "([B)I"⟩
abbrev cJ2_charAt_3b067 : ByteArray := prog_17_method_83_code
def yJ2_charAt_3b067 : MethodName := ⟨RJ2, "charAt", "([BI)C"⟩
abbrev cJ2_checkIndex_2214a : ByteArray := prog_17_method_91_code
def yJ2_checkIndex_2214a : MethodName := ⟨RJ2, "checkIndex", "(I[B)V"⟩
def RJ10 : String := "java/lang/System"
def TJ10 : u_T := fun k => match k with
  | _ => ("", "", "", false)
def tyJ10 : Nat → FieldType := fun k => match k with
  | _ => .int
abbrev wsJ100 : List Cond := u_ws RJ10 TJ10 0
theorem nmJ10 : ∀ a, a < 0 → ∀ b, b < 0 → a ≠ b → (TJ10 a).2.1 ≠ (TJ10 b).2.1 := by decide +kernel
theorem tyJ10_ok : ∀ k, k < 0 → parseFieldDescriptor (TJ10 k).2.2.1 = some (tyJ10 k) := by decide +kernel
def RJ3 : String := "jdk/internal/util/Preconditions"
def TJ3 : u_T := fun k => match k with
  | _ => ("", "", "", false)
def tyJ3 : Nat → FieldType := fun k => match k with
  | _ => .int
abbrev wsJ30 : List Cond := u_ws RJ3 TJ3 0
theorem nmJ3 : ∀ a, a < 0 → ∀ b, b < 0 → a ≠ b → (TJ3 a).2.1 ≠ (TJ3 b).2.1 := by decide +kernel
theorem tyJ3_ok : ∀ k, k < 0 → parseFieldDescriptor (TJ3 k).2.2.1 = some (tyJ3 k) := by decide +kernel
abbrev cJ3_checkIndex_8e157 : ByteArray := prog_19_method_11_code
def yJ3_checkIndex_8e157 : MethodName := ⟨RJ3, "checkIndex", "(IILjava/util/function/BiFunction;)I"⟩
def RL : String := "HouseTwinsLaw"
abbrev cL_law : ByteArray := code
def yL_law : MethodName := ⟨RL, "law", "([I)Z"⟩
abbrev vwCl : List vw_C := [(RX0, TX0, 5), (RX1, TX1, 10), (RX2, TX2, 6), (RX3, TX3, 5), (RX4, TX4, 11), (RX5, TX5, 4), (RX6, TX6, 7), (RX7, TX7, 4), (RX8, TX8, 3), (RX9, TX9, 2), (RX10, TX10, 13), (RX11, TX11, 49)]
end
section
/-! THE JUDGEMENT T: from a frame of method k (pc, locals l, stack st) with the world ws the machine comes to the method's end, with an answer and a world that Φ allows. The surroundings (machine, tables, heap, frame below) are bound inside: rules speak of pc, locals, stack and world alone. -/
/-- a method: name, bytes, locals' words, answer's type, room: frames, locals, cells, slots -/
abbrev MD : Type := MethodName × ByteArray × Nat × Option FieldType × Nat × Nat × Nat × Nat
def md_rm (k : MD) : Room := { frames := k.2.2.2.2.1, cells := k.2.2.2.2.2.2.1, slots := k.2.2.2.2.2.2.2, locals := k.2.2.2.2.2.1 }
/-- the tables' words that stay true while the machine runs on -/
def TB : List Cond := lw_tbl.filter goodWord
theorem tb_in {w : Cond} (h : w ∈ lw_tbl) (hg : goodWord w = true) : w ∈ TB := List.mem_filter.mpr ⟨h, hg⟩
theorem tb_out {w : Cond} (h : w ∈ TB) : w ∈ lw_tbl := (List.mem_filter.mp h).1
def md_ws (k : MD) : List Cond := .code k.1 k.2.1 k.2.2.1 k.2.2.2.1 :: TB
abbrev tyL (tc : Nat → ClassId) : List (ClassId × FieldType) := [(tc 0, .int), (tc 1, .boolean), (tc 2, .object "HouseTwins$Scene"), (tc 3, .object "HouseTwins$Sheet"), (tc 4, .array .int)]
/-- classes' numbers and slots; array classes' numbers; the String constants' cells; the script -/
abbrev EV : Type := va_G × (Nat → ClassId) × (Nat → Nat) × (Nat → Nat) × Option (Nat × Nat × (Nat → Int32))
def ixJS : List Nat := [117, 171, 110, 115]
def txJS : List String := ["lots bend pull price cost taste lack twin paint right thing work", "house garden shop tower shrine", "nothing house garden shop tower shrine", "left right"]
def lenJS : List Nat := [64, 30, 38, 10]
def bytJS : List (List Int32) := [[108, 111, 116, 115, 32, 98, 101, 110, 100, 32, 112, 117, 108, 108, 32, 112, 114, 105, 99, 101, 32, 99, 111, 115, 116, 32, 116, 97, 115, 116, 101, 32, 108, 97, 99, 107, 32, 116, 119, 105, 110, 32, 112, 97, 105, 110, 116, 32, 114, 105, 103, 104, 116, 32, 116, 104, 105, 110, 103, 32, 119, 111, 114, 107], [104, 111, 117, 115, 101, 32, 103, 97, 114, 100, 101, 110, 32, 115, 104, 111, 112, 32, 116, 111, 119, 101, 114, 32, 115, 104, 114, 105, 110, 101], [110, 111, 116, 104, 105, 110, 103, 32, 104, 111, 117, 115, 101, 32, 103, 97, 114, 100, 101, 110, 32, 115, 104, 111, 112, 32, 116, 111, 119, 101, 114, 32, 115, 104, 114, 105, 110, 101], [108, 101, 102, 116, 32, 114, 105, 103, 104, 116]]
def nestL : List (String × Nat × MethodName) := [("HouseTwins", 9, ⟨"HouseTwins$Tape", "<init>", "()V"⟩), ("HouseTwins", 25, ⟨"HouseTwins$Scene", "<init>", "()V"⟩), ("HouseTwins$Reader", 20, ⟨"HouseTwins$Scene", "<init>", "()V"⟩), ("HouseTwins", 83, ⟨"HouseTwins$Sheet", "<init>", "()V"⟩), ("HouseTwins$Reader", 185, ⟨"HouseTwins", "slot", "(II)I"⟩), ("HouseTwins$Scene", 44, ⟨"HouseTwins", "isSlot", "(II)Z"⟩), ("HouseTwins$Scene", 48, ⟨"HouseTwins", "slot", "(II)I"⟩), ("HouseTwins$Law", 58, ⟨"HouseTwins", "isKind", "(I)Z"⟩), ("HouseTwins$Law", 62, ⟨"HouseTwins", "isBank", "(I)Z"⟩), ("HouseTwins$Law", 65, ⟨"HouseTwins", "isBuilt", "(I)Z"⟩), ("HouseTwins$Law", 54, ⟨"HouseTwins", "isSlot", "(II)Z"⟩), ("HouseTwins$Law", 89, ⟨"HouseTwins", "slot", "(II)I"⟩), ("HouseTwins$Run", 83, ⟨"HouseTwins", "slot", "(II)I"⟩)]
/-- what else the tables say: nest mates' links, arrays over classes -/
def ExT (U : State) : Prop := (∀ q ∈ nestL, va_Nw (.methodLinkNest q.1 q.2.1 q.2.2 "HouseTwins") U) ∧ va_AO "HouseTwins$Scene" U ∧ va_AO "HouseTwins$Sheet" U ∧ (Cond.arrayOver (.array .int)).before #[] U = true
theorem ExT.warm {s U : State} (hW : s.WarmedH U.vm) (h : ExT s) : ExT U := ⟨fun q hq => (h.1 q hq).warmM hW, va_AO.moved hW.alike h.2.1, va_AO.moved hW.alike h.2.2.1, over_moved hW.alike h.2.2.2⟩
theorem ExT.same {u U : State} (hv : u.vm = U.vm) (h : ExT u) : ExT U := by
  have ha : u.vm.Alike U.vm := hv ▸ Vm.Alike.refl u.vm
  exact ⟨fun q hq => (h.1 q hq).same rfl hv, va_AO.moved ha h.2.1, va_AO.moved ha h.2.2.1, over_moved ha h.2.2.2⟩
def sc_ok (x : Option (Nat × Nat × (Nat → Int32))) (A : Nat → Prop) (U : State) (H : Heap) : Prop := match x with
  | none => True
  | some (b, L, xs) => va_X b L xs U H ∧ b < H.size ∧ ¬ A b
/-- what stands outside the world, and is never written -/
def ExS (E : EV) (A : Nat → Prop) (U : State) (H : Heap) : Prop :=
  va_K E.1 vwCl (tyL E.2.1) U ∧ vk_S 4 lenJS bytJS E.2.2.1 E.2.2.2.1 A U H ∧ (∀ i, i < 4 → vk_R RX4 (ixJS.getD i 0) (txJS.getD i "") (E.2.2.1 i) U) ∧ va_Z "java/lang/String" "COMPACT_STRINGS" "Z" (.int 1) A U H ∧ sc_ok E.2.2.2.2 A U H ∧ ExT U
def Cx (k : MD) (p : Program) (s : State) (m : MethodId) (args : Array Value) (meth : Method) (c : Code) : Prop :=
  p.tables.exec = Jvm.exec ∧ c.code = k.2.1 ∧ c.maxLocals = k.2.2.1 ∧ s.vm.findClass k.1.cls = some m.cls ∧ (∀ w ∈ TB, w.before args s = true) ∧ meth.sig.returnType = k.2.2.2.1 ∧ meth.locks = false ∧ meth.name = k.1.name
abbrev pushR (r : Option Value) (st : List Value) : List Value := match r with
  | none => st
  | some v => v :: st
def rtI (k : MD) (pc : Nat) (r : Option Value) : Prop := match r with
  | none => k.2.2.2.1 = none ∧ decode k.2.1 pc = .ok (.return_, 1)
  | some (.int v) => ∃ ty, k.2.2.2.1 = some ty ∧ narrow ty (.int v) = .int v ∧ decode k.2.1 pc = .ok (.ireturn, 1)
  | some (.long _) => k.2.2.2.1 = some .long ∧ decode k.2.1 pc = .ok (.lreturn, 1)
  | _ => False
def T (E : EV) (k : MD) (cu su : Nat) (ws : va_W) (pc : Nat) (l : List (Nat × Value)) (st : List Value) (Φ : Option Value → va_W → Prop) : Prop :=
  ∀ (p : Program) (L : Launch) (e : Env) (s : State) (m : MethodId) (args : Array Value) (below : List Frame) (meth : Method) (c : Code) (A : Nat → Prop) (Q : State → Prop) (H : Heap) (locs : List Loc) (ls : Array Slot),
    Cx k p s m args meth c → ExS E A s s.heap → (∀ q, s.heap.size ≤ q → A q) → va_P E.1 vwCl ws H → va_D A ws → va_S A s.heap H locs → lv_has ls k.2.2.1 l →
    (∀ (r : Option Value) (ws' : va_W) (H' : Heap) (locs' : List Loc) (ls' : Array Slot) (cu' su' pc' : Nat), Φ r ws' → va_P E.1 vwCl ws' H' → va_D A ws' → va_S A s.heap H' locs' → cu' ≤ k.2.2.2.2.2.2.1 → su' ≤ k.2.2.2.2.2.2.2 → rtI k pc' r → W p L e (md_rm k) s m args below meth c H' locs' cu' su' Q (F0 m pc' ls' (pushR r []))) →
    W p L e (md_rm k) s m args below meth c H locs cu su Q (F0 m pc ls st)
/-- a method's contract: from its entry -/
def Tm (E : EV) (k : MD) (ws : va_W) (av : List Value) (Φ : Option Value → va_W → Prop) : Prop := T E k 0 0 ws 0 (lv_args 0 av) [] Φ
/-- locals, sorted by their places -/
def stI : List (Nat × Value) → Nat → Value → List (Nat × Value)
  | [], i, v => [(i, v)]
  | q :: l, i, v => if Nat.ble i q.1 then (i, v) :: q :: l else q :: stI l i v
theorem stI_mem {i : Nat} {v : Value} {q : Nat × Value} : ∀ {l : List (Nat × Value)}, q ∈ stI l i v → q ∈ (i, v) :: l
  | [], h => h
  | x :: l, h => by
    unfold stI at h
    split at h
    · exact h
    · rcases List.mem_cons.mp h with h | h
      · rw [h]; exact List.mem_cons_of_mem _ List.mem_cons_self
      · rcases List.mem_cons.mp (stI_mem h) with h | h
        · rw [h]; exact List.mem_cons_self
        · exact List.mem_cons_of_mem _ (List.mem_cons_of_mem _ h)
def st1 (l : List (Nat × Value)) (i : Nat) (v : Value) : List (Nat × Value) := stI (l.filter (fun q => !(q.1 == i) && !(q.1 + 1 == i && q.2.category == 2))) i v
def st2 (l : List (Nat × Value)) (i : Nat) (v : Value) : List (Nat × Value) := stI (l.filter (fun q => !(q.1 == i) && (!(q.1 == i + 1) && !(q.1 + 1 == i && q.2.category == 2)))) i v
theorem lv_mem {ls : Array Slot} {n : Nat} {l l' : List (Nat × Value)} (h : lv_has ls n l) (hm : ∀ q ∈ l', q ∈ l) : lv_has ls n l' := ⟨h.1, h.2.1, fun q hq => h.2.2 q (hm q hq)⟩
theorem lk_mem {i : Nat} {v : Value} : ∀ {l : List (Nat × Value)}, l.lookup i = some v → (i, v) ∈ l
  | [], h => by cases h
  | (j, u) :: l, h => by
    rw [List.lookup_cons] at h
    cases hb : i == j with
    | true =>
      rw [hb] at h
      cases h
      have : i = j := by simpa using hb
      rw [this]; exact List.mem_cons_self
    | false =>
      rw [hb] at h
      exact List.mem_cons_of_mem _ (lk_mem h)
theorem lv_lk {ls : Array Slot} {n i : Nat} {l : List (Nat × Value)} {v : Value} (h : lv_has ls n l) (hk : l.lookup i = some v) : ls[i]? = some (.val v) := h.2.2 (i, v) (lk_mem hk)
theorem lk_at {i : Nat} {v : Value} {l : List (Nat × Value)} (h : l.lookup i = some v) : ∃ k : Nat, l[k]? = some (i, v) := List.getElem?_of_mem (lk_mem h)
section TR
variable {E : EV} {k : MD} {cu su : Nat} {ws : va_W} {pc : Nat} {l : List (Nat × Value)} {st : List Value} {Φ : Option Value → va_W → Prop}
/-- fewer locals -/
theorem tj_sub {l' : List (Nat × Value)} (hm : ∀ q ∈ l', q ∈ l) (kk : T E k cu su ws pc l' st Φ) : T E k cu su ws pc l st Φ := by
  intro p L e s m args below meth c A Q H locs ls hC hE hA hP hD hS hl hF
  exact kk p L e s m args below meth c A Q H locs ls hC hE hA hP hD hS (lv_mem hl hm) hF
theorem tj_mono {Ψ : Option Value → va_W → Prop} (h : T E k cu su ws pc l st Ψ) (hi : ∀ r w, Ψ r w → Φ r w) : T E k cu su ws pc l st Φ := by
  intro p L e s m args below meth c A Q H locs ls hC hE hA hP hD hS hl hF
  exact h p L e s m args below meth c A Q H locs ls hC hE hA hP hD hS hl (fun r ws' H' locs' ls' cu' su' pc' hΨ => hF r ws' H' locs' ls' cu' su' pc' (hi r ws' hΨ))
theorem tj_eq {pc' : Nat} {l' : List (Nat × Value)} {st' : List Value} {ws' : va_W} (hw : ws = ws') (hp : pc = pc') (hl : l = l') (hs : st = st') (kk : T E k cu su ws' pc' l' st' Φ) : T E k cu su ws pc l st Φ := by
  subst hw; subst hp; subst hl; subst hs; exact kk
theorem tj_topi {x : Int32} (kk : ∀ y : Int32, y = x → T E k cu su ws pc l (.int y :: st) Φ) : T E k cu su ws pc l (.int x :: st) Φ := kk x rfl

theorem tj_iconst {v : Int32} {z : Int} {n : Nat} (hn : pc + 1 = n) (hd : decode k.2.1 pc = .ok (.iconst z, 1)) (hv : Int32.ofInt z = v) (kk : T E k cu su ws n l (.int v :: st) Φ) : T E k cu su ws pc l (st) Φ := by
  subst hn
  intro p L e s m args below meth c A Q H locs ls hC hE hA hP hD hS hl hF
  exact lv_iconst hC.1 hC.2.1 hd hv (kk p L e s m args below meth c A Q H locs ls hC hE hA hP hD hS hl hF)
theorem tj_bipush {v : Int32} {z : Int} {n : Nat} (hn : pc + 2 = n) (hd : decode k.2.1 pc = .ok (.bipush z, 2)) (hv : (Int8.ofInt z).toInt32 = v) (kk : T E k cu su ws n l (.int v :: st) Φ) : T E k cu su ws pc l (st) Φ := by
  subst hn
  intro p L e s m args below meth c A Q H locs ls hC hE hA hP hD hS hl hF
  exact lv_bipush hC.1 hC.2.1 hd hv (kk p L e s m args below meth c A Q H locs ls hC hE hA hP hD hS hl hF)
theorem tj_sipush {v : Int32} {z : Int} {n : Nat} (hn : pc + 3 = n) (hd : decode k.2.1 pc = .ok (.sipush z, 3)) (hv : (Int16.ofInt z).toInt32 = v) (kk : T E k cu su ws n l (.int v :: st) Φ) : T E k cu su ws pc l (st) Φ := by
  subst hn
  intro p L e s m args below meth c A Q H locs ls hC hE hA hP hD hS hl hF
  exact lv_sipush hC.1 hC.2.1 hd hv (kk p L e s m args below meth c A Q H locs ls hC hE hA hP hD hS hl hF)
theorem tj_lconst {v : Int64} {z : Fin 2} {n : Nat} (hn : pc + 1 = n) (hd : decode k.2.1 pc = .ok (.lconst z, 1)) (hv : Int64.ofNat (z : Nat) = v) (kk : T E k cu su ws n l (.long v :: st) Φ) : T E k cu su ws pc l (st) Φ := by
  subst hn
  intro p L e s m args below meth c A Q H locs ls hC hE hA hP hD hS hl hF
  exact lv_lconst hC.1 hC.2.1 hd hv (kk p L e s m args below meth c A Q H locs ls hC hE hA hP hD hS hl hF)
theorem tj_iload_n {x : Int32} {j : Fin 4} {n : Nat} (hn : pc + 1 = n) (hd : decode k.2.1 pc = .ok (.iload_n j, 1)) (hk : l.lookup (j : Nat) = some (.int x)) (kk : T E k cu su ws n l (.int x :: st) Φ) : T E k cu su ws pc l (st) Φ := by
  subst hn
  intro p L e s m args below meth c A Q H locs ls hC hE hA hP hD hS hl hF
  exact lv_iload_n hC.1 hC.2.1 hd rfl (lv_lk hl hk) (kk p L e s m args below meth c A Q H locs ls hC hE hA hP hD hS hl hF)
theorem tj_iload {x : Int32} {j : Nat} {n : Nat} (hn : pc + 2 = n) (hd : decode k.2.1 pc = .ok (.iload j, 2)) (hk : l.lookup j = some (.int x)) (kk : T E k cu su ws n l (.int x :: st) Φ) : T E k cu su ws pc l (st) Φ := by
  subst hn
  intro p L e s m args below meth c A Q H locs ls hC hE hA hP hD hS hl hF
  exact lv_iload hC.1 hC.2.1 hd (lv_lk hl hk) (kk p L e s m args below meth c A Q H locs ls hC hE hA hP hD hS hl hF)
theorem tj_istore_n {x : Int32} {j : Fin 4} {n : Nat} {l' : List (Nat × Value)} (hn : pc + 1 = n) (hd : decode k.2.1 pc = .ok (.istore_n j, 1)) (hj : (j : Nat) < k.2.2.1) (hl' : st1 l (j : Nat) (.int x) = l') (kk : T E k cu su ws n l' st Φ) : T E k cu su ws pc l (.int x :: st) Φ := by
  subst hn
  subst hl'
  intro p L e s m args below meth c A Q H locs ls hC hE hA hP hD hS hl hF
  exact lv_istore_n hC.1 hC.2.1 hd rfl hl hj rfl (fun ls' h' => kk p L e s m args below meth c A Q H locs ls' hC hE hA hP hD hS (lv_mem h' (fun q hq => stI_mem hq)) hF)
theorem tj_istore {x : Int32} {j : Nat} {n : Nat} {l' : List (Nat × Value)} (hn : pc + 2 = n) (hd : decode k.2.1 pc = .ok (.istore j, 2)) (hj : j < k.2.2.1) (hl' : st1 l j (.int x) = l') (kk : T E k cu su ws n l' st Φ) : T E k cu su ws pc l (.int x :: st) Φ := by
  subst hn
  subst hl'
  intro p L e s m args below meth c A Q H locs ls hC hE hA hP hD hS hl hF
  exact lv_istore hC.1 hC.2.1 hd hl hj rfl (fun ls' h' => kk p L e s m args below meth c A Q H locs ls' hC hE hA hP hD hS (lv_mem h' (fun q hq => stI_mem hq)) hF)
theorem tj_lload_n {x : Int64} {j : Fin 4} {n : Nat} (hn : pc + 1 = n) (hd : decode k.2.1 pc = .ok (.lload_n j, 1)) (hk : l.lookup (j : Nat) = some (.long x)) (kk : T E k cu su ws n l (.long x :: st) Φ) : T E k cu su ws pc l (st) Φ := by
  subst hn
  intro p L e s m args below meth c A Q H locs ls hC hE hA hP hD hS hl hF
  exact lv_lload_n hC.1 hC.2.1 hd rfl (lv_lk hl hk) (kk p L e s m args below meth c A Q H locs ls hC hE hA hP hD hS hl hF)
theorem tj_lload {x : Int64} {j : Nat} {n : Nat} (hn : pc + 2 = n) (hd : decode k.2.1 pc = .ok (.lload j, 2)) (hk : l.lookup j = some (.long x)) (kk : T E k cu su ws n l (.long x :: st) Φ) : T E k cu su ws pc l (st) Φ := by
  subst hn
  intro p L e s m args below meth c A Q H locs ls hC hE hA hP hD hS hl hF
  exact lv_lload hC.1 hC.2.1 hd (lv_lk hl hk) (kk p L e s m args below meth c A Q H locs ls hC hE hA hP hD hS hl hF)
theorem tj_lstore_n {x : Int64} {j : Fin 4} {n : Nat} {l' : List (Nat × Value)} (hn : pc + 1 = n) (hd : decode k.2.1 pc = .ok (.lstore_n j, 1)) (hj : (j : Nat) + 1 < k.2.2.1) (hl' : st2 l (j : Nat) (.long x) = l') (kk : T E k cu su ws n l' st Φ) : T E k cu su ws pc l (.long x :: st) Φ := by
  subst hn
  subst hl'
  intro p L e s m args below meth c A Q H locs ls hC hE hA hP hD hS hl hF
  exact lv_lstore_n hC.1 hC.2.1 hd rfl hl hj rfl (fun ls' h' => kk p L e s m args below meth c A Q H locs ls' hC hE hA hP hD hS (lv_mem h' (fun q hq => stI_mem hq)) hF)
theorem tj_lstore {x : Int64} {j : Nat} {n : Nat} {l' : List (Nat × Value)} (hn : pc + 2 = n) (hd : decode k.2.1 pc = .ok (.lstore j, 2)) (hj : j + 1 < k.2.2.1) (hl' : st2 l j (.long x) = l') (kk : T E k cu su ws n l' st Φ) : T E k cu su ws pc l (.long x :: st) Φ := by
  subst hn
  subst hl'
  intro p L e s m args below meth c A Q H locs ls hC hE hA hP hD hS hl hF
  exact lv_lstore hC.1 hC.2.1 hd hl hj rfl (fun ls' h' => kk p L e s m args below meth c A Q H locs ls' hC hE hA hP hD hS (lv_mem h' (fun q hq => stI_mem hq)) hF)
theorem tj_aload_n {x : Nat} {j : Fin 4} {n : Nat} (hn : pc + 1 = n) (hd : decode k.2.1 pc = .ok (.aload_n j, 1)) (hk : l.lookup (j : Nat) = some (.ref x)) (kk : T E k cu su ws n l (.ref x :: st) Φ) : T E k cu su ws pc l (st) Φ := by
  subst hn
  intro p L e s m args below meth c A Q H locs ls hC hE hA hP hD hS hl hF
  exact lv_aload_n hC.1 hC.2.1 hd rfl (lv_lk hl hk) (kk p L e s m args below meth c A Q H locs ls hC hE hA hP hD hS hl hF)
theorem tj_aload {x : Nat} {j : Nat} {n : Nat} (hn : pc + 2 = n) (hd : decode k.2.1 pc = .ok (.aload j, 2)) (hk : l.lookup j = some (.ref x)) (kk : T E k cu su ws n l (.ref x :: st) Φ) : T E k cu su ws pc l (st) Φ := by
  subst hn
  intro p L e s m args below meth c A Q H locs ls hC hE hA hP hD hS hl hF
  exact lv_aload hC.1 hC.2.1 hd (lv_lk hl hk) (kk p L e s m args below meth c A Q H locs ls hC hE hA hP hD hS hl hF)
theorem tj_astore_n {x : Nat} {j : Fin 4} {n : Nat} {l' : List (Nat × Value)} (hn : pc + 1 = n) (hd : decode k.2.1 pc = .ok (.astore_n j, 1)) (hj : (j : Nat) < k.2.2.1) (hl' : st1 l (j : Nat) (.ref x) = l') (kk : T E k cu su ws n l' st Φ) : T E k cu su ws pc l (.ref x :: st) Φ := by
  subst hn
  subst hl'
  intro p L e s m args below meth c A Q H locs ls hC hE hA hP hD hS hl hF
  exact lv_astore_n hC.1 hC.2.1 hd rfl hl hj rfl (fun ls' h' => kk p L e s m args below meth c A Q H locs ls' hC hE hA hP hD hS (lv_mem h' (fun q hq => stI_mem hq)) hF)
theorem tj_astore {x : Nat} {j : Nat} {n : Nat} {l' : List (Nat × Value)} (hn : pc + 2 = n) (hd : decode k.2.1 pc = .ok (.astore j, 2)) (hj : j < k.2.2.1) (hl' : st1 l j (.ref x) = l') (kk : T E k cu su ws n l' st Φ) : T E k cu su ws pc l (.ref x :: st) Φ := by
  subst hn
  subst hl'
  intro p L e s m args below meth c A Q H locs ls hC hE hA hP hD hS hl hF
  exact lv_astore hC.1 hC.2.1 hd hl hj rfl (fun ls' h' => kk p L e s m args below meth c A Q H locs ls' hC hE hA hP hD hS (lv_mem h' (fun q hq => stI_mem hq)) hF)
theorem tj_iinc {x v : Int32} {j : Nat} {z : Int} {n : Nat} {l' : List (Nat × Value)} (hn : pc + 3 = n) (hd : decode k.2.1 pc = .ok (.iinc j z, 3)) (hk : l.lookup j = some (.int x)) (hj : j < k.2.2.1) (hv : x + Int32.ofInt z = v) (hl' : st1 l j (.int v) = l') (kk : T E k cu su ws n l' st Φ) : T E k cu su ws pc l st Φ := by
  subst hn
  subst hl'
  intro p L e s m args below meth c A Q H locs ls hC hE hA hP hD hS hl hF
  obtain ⟨i0, hi0⟩ := lk_at hk
  exact lv_iinc hC.1 hC.2.1 hd hl hi0 hv hj rfl (fun ls' h' => kk p L e s m args below meth c A Q H locs ls' hC hE hA hP hD hS (lv_mem h' (fun q hq => stI_mem hq)) hF)
theorem tj_iadd {x y : Int32} {n : Nat} (hn : pc + 1 = n) (hd : decode k.2.1 pc = .ok (.iadd, 1))  (kk : T E k cu su ws n l (.int (x + y) :: st) Φ) : T E k cu su ws pc l (.int y :: .int x :: st) Φ := by
  subst hn
  intro p L e s m args below meth c A Q H locs ls hC hE hA hP hD hS hl hF
  exact lv_iadd hC.1 hC.2.1 hd (kk p L e s m args below meth c A Q H locs ls hC hE hA hP hD hS hl hF)
theorem tj_isub {x y : Int32} {n : Nat} (hn : pc + 1 = n) (hd : decode k.2.1 pc = .ok (.isub, 1))  (kk : T E k cu su ws n l (.int (x - y) :: st) Φ) : T E k cu su ws pc l (.int y :: .int x :: st) Φ := by
  subst hn
  intro p L e s m args below meth c A Q H locs ls hC hE hA hP hD hS hl hF
  exact lv_isub hC.1 hC.2.1 hd (kk p L e s m args below meth c A Q H locs ls hC hE hA hP hD hS hl hF)
theorem tj_imul {x y : Int32} {n : Nat} (hn : pc + 1 = n) (hd : decode k.2.1 pc = .ok (.imul, 1))  (kk : T E k cu su ws n l (.int (x * y) :: st) Φ) : T E k cu su ws pc l (.int y :: .int x :: st) Φ := by
  subst hn
  intro p L e s m args below meth c A Q H locs ls hC hE hA hP hD hS hl hF
  exact lv_imul hC.1 hC.2.1 hd (kk p L e s m args below meth c A Q H locs ls hC hE hA hP hD hS hl hF)
theorem tj_iand {x y : Int32} {n : Nat} (hn : pc + 1 = n) (hd : decode k.2.1 pc = .ok (.iand, 1))  (kk : T E k cu su ws n l (.int (x &&& y) :: st) Φ) : T E k cu su ws pc l (.int y :: .int x :: st) Φ := by
  subst hn
  intro p L e s m args below meth c A Q H locs ls hC hE hA hP hD hS hl hF
  exact lv_iand hC.1 hC.2.1 hd (kk p L e s m args below meth c A Q H locs ls hC hE hA hP hD hS hl hF)
theorem tj_ior {x y : Int32} {n : Nat} (hn : pc + 1 = n) (hd : decode k.2.1 pc = .ok (.ior, 1))  (kk : T E k cu su ws n l (.int (x ||| y) :: st) Φ) : T E k cu su ws pc l (.int y :: .int x :: st) Φ := by
  subst hn
  intro p L e s m args below meth c A Q H locs ls hC hE hA hP hD hS hl hF
  exact lv_ior hC.1 hC.2.1 hd (kk p L e s m args below meth c A Q H locs ls hC hE hA hP hD hS hl hF)
theorem tj_ixor {x y : Int32} {n : Nat} (hn : pc + 1 = n) (hd : decode k.2.1 pc = .ok (.ixor, 1))  (kk : T E k cu su ws n l (.int (x ^^^ y) :: st) Φ) : T E k cu su ws pc l (.int y :: .int x :: st) Φ := by
  subst hn
  intro p L e s m args below meth c A Q H locs ls hC hE hA hP hD hS hl hF
  exact lv_ixor hC.1 hC.2.1 hd (kk p L e s m args below meth c A Q H locs ls hC hE hA hP hD hS hl hF)
theorem tj_ishl {x y : Int32} {n : Nat} (hn : pc + 1 = n) (hd : decode k.2.1 pc = .ok (.ishl, 1))  (kk : T E k cu su ws n l (.int (x <<< (y &&& 31)) :: st) Φ) : T E k cu su ws pc l (.int y :: .int x :: st) Φ := by
  subst hn
  intro p L e s m args below meth c A Q H locs ls hC hE hA hP hD hS hl hF
  exact lv_ishl hC.1 hC.2.1 hd (kk p L e s m args below meth c A Q H locs ls hC hE hA hP hD hS hl hF)
theorem tj_ishr {x y : Int32} {n : Nat} (hn : pc + 1 = n) (hd : decode k.2.1 pc = .ok (.ishr, 1))  (kk : T E k cu su ws n l (.int (x >>> (y &&& 31)) :: st) Φ) : T E k cu su ws pc l (.int y :: .int x :: st) Φ := by
  subst hn
  intro p L e s m args below meth c A Q H locs ls hC hE hA hP hD hS hl hF
  exact lv_ishr hC.1 hC.2.1 hd (kk p L e s m args below meth c A Q H locs ls hC hE hA hP hD hS hl hF)
theorem tj_idiv {x y : Int32} {n : Nat} (hn : pc + 1 = n) (hd : decode k.2.1 pc = .ok (.idiv, 1)) (hne : ¬ y = 0) (kk : T E k cu su ws n l (.int (x / y) :: st) Φ) : T E k cu su ws pc l (.int y :: .int x :: st) Φ := by
  subst hn
  intro p L e s m args below meth c A Q H locs ls hC hE hA hP hD hS hl hF
  exact lv_idiv hC.1 hC.2.1 hd hne (kk p L e s m args below meth c A Q H locs ls hC hE hA hP hD hS hl hF)
theorem tj_irem {x y : Int32} {n : Nat} (hn : pc + 1 = n) (hd : decode k.2.1 pc = .ok (.irem, 1)) (hne : ¬ y = 0) (kk : T E k cu su ws n l (.int (x - x / y * y) :: st) Φ) : T E k cu su ws pc l (.int y :: .int x :: st) Φ := by
  subst hn
  intro p L e s m args below meth c A Q H locs ls hC hE hA hP hD hS hl hF
  exact lv_irem hC.1 hC.2.1 hd hne (kk p L e s m args below meth c A Q H locs ls hC hE hA hP hD hS hl hF)
theorem tj_ladd {x y : Int64} {n : Nat} (hn : pc + 1 = n) (hd : decode k.2.1 pc = .ok (.ladd, 1))  (kk : T E k cu su ws n l (.long (x + y) :: st) Φ) : T E k cu su ws pc l (.long y :: .long x :: st) Φ := by
  subst hn
  intro p L e s m args below meth c A Q H locs ls hC hE hA hP hD hS hl hF
  exact lv_ladd hC.1 hC.2.1 hd (kk p L e s m args below meth c A Q H locs ls hC hE hA hP hD hS hl hF)
theorem tj_lsub {x y : Int64} {n : Nat} (hn : pc + 1 = n) (hd : decode k.2.1 pc = .ok (.lsub, 1))  (kk : T E k cu su ws n l (.long (x - y) :: st) Φ) : T E k cu su ws pc l (.long y :: .long x :: st) Φ := by
  subst hn
  intro p L e s m args below meth c A Q H locs ls hC hE hA hP hD hS hl hF
  exact lv_lsub hC.1 hC.2.1 hd (kk p L e s m args below meth c A Q H locs ls hC hE hA hP hD hS hl hF)
theorem tj_lmul {x y : Int64} {n : Nat} (hn : pc + 1 = n) (hd : decode k.2.1 pc = .ok (.lmul, 1))  (kk : T E k cu su ws n l (.long (x * y) :: st) Φ) : T E k cu su ws pc l (.long y :: .long x :: st) Φ := by
  subst hn
  intro p L e s m args below meth c A Q H locs ls hC hE hA hP hD hS hl hF
  exact lv_lmul hC.1 hC.2.1 hd (kk p L e s m args below meth c A Q H locs ls hC hE hA hP hD hS hl hF)
theorem tj_land {x y : Int64} {n : Nat} (hn : pc + 1 = n) (hd : decode k.2.1 pc = .ok (.land, 1))  (kk : T E k cu su ws n l (.long (x &&& y) :: st) Φ) : T E k cu su ws pc l (.long y :: .long x :: st) Φ := by
  subst hn
  intro p L e s m args below meth c A Q H locs ls hC hE hA hP hD hS hl hF
  exact lv_land hC.1 hC.2.1 hd (kk p L e s m args below meth c A Q H locs ls hC hE hA hP hD hS hl hF)
theorem tj_lor {x y : Int64} {n : Nat} (hn : pc + 1 = n) (hd : decode k.2.1 pc = .ok (.lor, 1))  (kk : T E k cu su ws n l (.long (x ||| y) :: st) Φ) : T E k cu su ws pc l (.long y :: .long x :: st) Φ := by
  subst hn
  intro p L e s m args below meth c A Q H locs ls hC hE hA hP hD hS hl hF
  exact lv_lor hC.1 hC.2.1 hd (kk p L e s m args below meth c A Q H locs ls hC hE hA hP hD hS hl hF)
theorem tj_lshl {x : Int64} {y : Int32} {n : Nat} (hn : pc + 1 = n) (hd : decode k.2.1 pc = .ok (.lshl, 1))  (kk : T E k cu su ws n l (.long (x <<< (y.toInt64 &&& 63)) :: st) Φ) : T E k cu su ws pc l (.int y :: .long x :: st) Φ := by
  subst hn
  intro p L e s m args below meth c A Q H locs ls hC hE hA hP hD hS hl hF
  exact lv_lshl hC.1 hC.2.1 hd rfl (kk p L e s m args below meth c A Q H locs ls hC hE hA hP hD hS hl hF)
theorem tj_lshr {x : Int64} {y : Int32} {n : Nat} (hn : pc + 1 = n) (hd : decode k.2.1 pc = .ok (.lshr, 1))  (kk : T E k cu su ws n l (.long (x >>> (y.toInt64 &&& 63)) :: st) Φ) : T E k cu su ws pc l (.int y :: .long x :: st) Φ := by
  subst hn
  intro p L e s m args below meth c A Q H locs ls hC hE hA hP hD hS hl hF
  exact lv_lshr hC.1 hC.2.1 hd rfl (kk p L e s m args below meth c A Q H locs ls hC hE hA hP hD hS hl hF)
theorem tj_lushr {x : Int64} {y : Int32} {n : Nat} (hn : pc + 1 = n) (hd : decode k.2.1 pc = .ok (.lushr, 1))  (kk : T E k cu su ws n l (.long ((x.toUInt64 >>> (y.toInt64.toUInt64 &&& Int64.toUInt64 63)).toInt64) :: st) Φ) : T E k cu su ws pc l (.int y :: .long x :: st) Φ := by
  subst hn
  intro p L e s m args below meth c A Q H locs ls hC hE hA hP hD hS hl hF
  exact lv_lushr hC.1 hC.2.1 hd rfl (kk p L e s m args below meth c A Q H locs ls hC hE hA hP hD hS hl hF)
theorem tj_i2l {x : Int32} {n : Nat} (hn : pc + 1 = n) (hd : decode k.2.1 pc = .ok (.i2l, 1))  (kk : T E k cu su ws n l (.long x.toInt64 :: st) Φ) : T E k cu su ws pc l (.int x :: st) Φ := by
  subst hn
  intro p L e s m args below meth c A Q H locs ls hC hE hA hP hD hS hl hF
  exact lv_i2l hC.1 hC.2.1 hd rfl (kk p L e s m args below meth c A Q H locs ls hC hE hA hP hD hS hl hF)
theorem tj_l2i {x : Int64} {n : Nat} (hn : pc + 1 = n) (hd : decode k.2.1 pc = .ok (.l2i, 1))  (kk : T E k cu su ws n l (.int x.toInt32 :: st) Φ) : T E k cu su ws pc l (.long x :: st) Φ := by
  subst hn
  intro p L e s m args below meth c A Q H locs ls hC hE hA hP hD hS hl hF
  exact lv_l2i hC.1 hC.2.1 hd rfl (kk p L e s m args below meth c A Q H locs ls hC hE hA hP hD hS hl hF)
theorem tj_i2b {x : Int32} {n : Nat} (hn : pc + 1 = n) (hd : decode k.2.1 pc = .ok (.i2b, 1))  (kk : T E k cu su ws n l (.int x.toInt8.toInt32 :: st) Φ) : T E k cu su ws pc l (.int x :: st) Φ := by
  subst hn
  intro p L e s m args below meth c A Q H locs ls hC hE hA hP hD hS hl hF
  exact lv_i2b hC.1 hC.2.1 hd rfl (kk p L e s m args below meth c A Q H locs ls hC hE hA hP hD hS hl hF)
theorem tj_i2s {x : Int32} {n : Nat} (hn : pc + 1 = n) (hd : decode k.2.1 pc = .ok (.i2s, 1))  (kk : T E k cu su ws n l (.int x.toInt16.toInt32 :: st) Φ) : T E k cu su ws pc l (.int x :: st) Φ := by
  subst hn
  intro p L e s m args below meth c A Q H locs ls hC hE hA hP hD hS hl hF
  exact lv_i2s hC.1 hC.2.1 hd rfl (kk p L e s m args below meth c A Q H locs ls hC hE hA hP hD hS hl hF)
theorem tj_i2c {x : Int32} {n : Nat} (hn : pc + 1 = n) (hd : decode k.2.1 pc = .ok (.i2c, 1))  (kk : T E k cu su ws n l (.int (x.toUInt32 % 65536).toInt32 :: st) Φ) : T E k cu su ws pc l (.int x :: st) Φ := by
  subst hn
  intro p L e s m args below meth c A Q H locs ls hC hE hA hP hD hS hl hF
  exact lv_i2c hC.1 hC.2.1 hd rfl (kk p L e s m args below meth c A Q H locs ls hC hE hA hP hD hS hl hF)
theorem tj_lcmp {x y : Int64} {n : Nat} (hn : pc + 1 = n) (hd : decode k.2.1 pc = .ok (.lcmp, 1))  (kk : T E k cu su ws n l (.int (lg_cmp x y) :: st) Φ) : T E k cu su ws pc l (.long y :: .long x :: st) Φ := by
  subst hn
  intro p L e s m args below meth c A Q H locs ls hC hE hA hP hD hS hl hF
  exact W.lcmp hC.1 hC.2.1 hd (kk p L e s m args below meth c A Q H locs ls hC hE hA hP hD hS hl hF)
theorem tj_dup {v : Value} {n : Nat} (hn : pc + 1 = n) (hd : decode k.2.1 pc = .ok (.dup, 1)) (hv : v.category = 1) (kk : T E k cu su ws n l (v :: v :: st) Φ) : T E k cu su ws pc l (v :: st) Φ := by
  subst hn
  intro p L e s m args below meth c A Q H locs ls hC hE hA hP hD hS hl hF
  exact lv_dup hC.1 hC.2.1 hd hv (kk p L e s m args below meth c A Q H locs ls hC hE hA hP hD hS hl hF)
theorem tj_pop {v : Value} {n : Nat} (hn : pc + 1 = n) (hd : decode k.2.1 pc = .ok (.pop, 1)) (hv : v.category = 1) (kk : T E k cu su ws n l (st) Φ) : T E k cu su ws pc l (v :: st) Φ := by
  subst hn
  intro p L e s m args below meth c A Q H locs ls hC hE hA hP hD hS hl hF
  exact lv_pop hC.1 hC.2.1 hd hv (kk p L e s m args below meth c A Q H locs ls hC hE hA hP hD hS hl hF)
theorem tj_dup2 {v u : Value} {n : Nat} (hn : pc + 1 = n) (hd : decode k.2.1 pc = .ok (.dup2, 1)) (hv : v.category = 1) (hu : u.category = 1) (kk : T E k cu su ws n l (v :: u :: v :: u :: st) Φ) : T E k cu su ws pc l (v :: u :: st) Φ := by
  subst hn
  intro p L e s m args below meth c A Q H locs ls hC hE hA hP hD hS hl hF
  exact lv_dup2_11 hC.1 hC.2.1 hd hv hu (kk p L e s m args below meth c A Q H locs ls hC hE hA hP hD hS hl hF)
theorem tj_ldc {v : Int32} {j : Nat} {n : Nat} (hn : pc + 2 = n) (hd : decode k.2.1 pc = .ok (.ldc j, 2)) (hc : Cond.constant k.1.cls j v ∈ TB) (kk : T E k cu su ws n l (.int v :: st) Φ) : T E k cu su ws pc l (st) Φ := by
  subst hn
  intro p L e s m args below meth c A Q H locs ls hC hE hA hP hD hS hl hF
  exact lv_ldc hC.1 hC.2.1 hC.2.2.2.1 (hC.2.2.2.2.1 _ hc) hd (kk p L e s m args below meth c A Q H locs ls hC hE hA hP hD hS hl hF)
theorem tj_ldcw {v : Int32} {j : Nat} {n : Nat} (hn : pc + 3 = n) (hd : decode k.2.1 pc = .ok (.ldc_w j, 3)) (hc : Cond.constant k.1.cls j v ∈ TB) (kk : T E k cu su ws n l (.int v :: st) Φ) : T E k cu su ws pc l (st) Φ := by
  subst hn
  intro p L e s m args below meth c A Q H locs ls hC hE hA hP hD hS hl hF
  exact lv_ldcw hC.1 hC.2.1 hC.2.2.2.1 (hC.2.2.2.2.1 _ hc) hd (kk p L e s m args below meth c A Q H locs ls hC hE hA hP hD hS hl hF)
theorem tj_ldc2 {v : Int64} {j : Nat} {n : Nat} (hn : pc + 3 = n) (hd : decode k.2.1 pc = .ok (.ldc2_w j, 3)) (hc : Cond.constantLong k.1.cls j v ∈ TB) (kk : T E k cu su ws n l (.long v :: st) Φ) : T E k cu su ws pc l (st) Φ := by
  subst hn
  intro p L e s m args below meth c A Q H locs ls hC hE hA hP hD hS hl hF
  exact lv_ldc2 hC.1 hC.2.1 hC.2.2.2.1 (hC.2.2.2.2.1 _ hc) hd (kk p L e s m args below meth c A Q H locs ls hC hE hA hP hD hS hl hF)
theorem tj_ldcS {i j : Nat} {n : Nat} (hn : pc + 2 = n) (hd : decode k.2.1 pc = .ok (.ldc j, 2)) (hi : i < 4) (hj : ixJS.getD i 0 = j) (hk : k.1.cls = RX4) (kk : T E k cu su ws n l (.ref (E.2.2.1 i) :: st) Φ) : T E k cu su ws pc l (st) Φ := by
  subst hn
  intro p L e s m args below meth c A Q H locs ls hC hE hA hP hD hS hl hF
  exact by subst hj; exact va_ldcS hC.1 hC.2.1 (hk ▸ hC.2.2.2.1) (hE.2.2.1 i hi) hd (kk p L e s m args below meth c A Q H locs ls hC hE hA hP hD hS hl hF)
theorem tj_if_eq {x : Int32} {off : Int} {n tgt : Nat} (hn : pc + 3 = n) (ht : (pc : Int) + off = (tgt : Int)) (hd : decode k.2.1 pc = .ok (.ifCond .eq off, 3)) (kt : x = 0 → T E k cu su ws tgt l st Φ) (kf : ¬ (x = 0) → T E k cu su ws n l st Φ) : T E k cu su ws pc l (.int x :: st) Φ := by
  subst hn
  intro p L e s m args below meth c A Q H locs ls hC hE hA hP hD hS hl hF
  exact lv_if_eq hC.1 hC.2.1 hd ht (fun h9 => kt h9 p L e s m args below meth c A Q H locs ls hC hE hA hP hD hS hl hF) (fun h9 => kf h9 p L e s m args below meth c A Q H locs ls hC hE hA hP hD hS hl hF)
theorem tj_icmp_eq {x y : Int32} {off : Int} {n tgt : Nat} (hn : pc + 3 = n) (ht : (pc : Int) + off = (tgt : Int)) (hd : decode k.2.1 pc = .ok (.if_icmp .eq off, 3)) (kt : x = y → T E k cu su ws tgt l st Φ) (kf : ¬ (x = y) → T E k cu su ws n l st Φ) : T E k cu su ws pc l (.int y :: .int x :: st) Φ := by
  subst hn
  intro p L e s m args below meth c A Q H locs ls hC hE hA hP hD hS hl hF
  exact lv_icmp_eq hC.1 hC.2.1 hd ht (fun h9 => kt h9 p L e s m args below meth c A Q H locs ls hC hE hA hP hD hS hl hF) (fun h9 => kf h9 p L e s m args below meth c A Q H locs ls hC hE hA hP hD hS hl hF)
theorem tj_if_ne {x : Int32} {off : Int} {n tgt : Nat} (hn : pc + 3 = n) (ht : (pc : Int) + off = (tgt : Int)) (hd : decode k.2.1 pc = .ok (.ifCond .ne off, 3)) (kt : ¬ x = 0 → T E k cu su ws tgt l st Φ) (kf : x = 0 → T E k cu su ws n l st Φ) : T E k cu su ws pc l (.int x :: st) Φ := by
  subst hn
  intro p L e s m args below meth c A Q H locs ls hC hE hA hP hD hS hl hF
  exact lv_if_ne hC.1 hC.2.1 hd ht (fun h9 => kt h9 p L e s m args below meth c A Q H locs ls hC hE hA hP hD hS hl hF) (fun h9 => kf h9 p L e s m args below meth c A Q H locs ls hC hE hA hP hD hS hl hF)
theorem tj_icmp_ne {x y : Int32} {off : Int} {n tgt : Nat} (hn : pc + 3 = n) (ht : (pc : Int) + off = (tgt : Int)) (hd : decode k.2.1 pc = .ok (.if_icmp .ne off, 3)) (kt : ¬ x = y → T E k cu su ws tgt l st Φ) (kf : x = y → T E k cu su ws n l st Φ) : T E k cu su ws pc l (.int y :: .int x :: st) Φ := by
  subst hn
  intro p L e s m args below meth c A Q H locs ls hC hE hA hP hD hS hl hF
  exact lv_icmp_ne hC.1 hC.2.1 hd ht (fun h9 => kt h9 p L e s m args below meth c A Q H locs ls hC hE hA hP hD hS hl hF) (fun h9 => kf h9 p L e s m args below meth c A Q H locs ls hC hE hA hP hD hS hl hF)
theorem tj_if_lt {x : Int32} {off : Int} {n tgt : Nat} (hn : pc + 3 = n) (ht : (pc : Int) + off = (tgt : Int)) (hd : decode k.2.1 pc = .ok (.ifCond .lt off, 3)) (kt : x < 0 → T E k cu su ws tgt l st Φ) (kf : ¬ (x < 0) → T E k cu su ws n l st Φ) : T E k cu su ws pc l (.int x :: st) Φ := by
  subst hn
  intro p L e s m args below meth c A Q H locs ls hC hE hA hP hD hS hl hF
  exact lv_if_lt hC.1 hC.2.1 hd ht (fun h9 => kt h9 p L e s m args below meth c A Q H locs ls hC hE hA hP hD hS hl hF) (fun h9 => kf h9 p L e s m args below meth c A Q H locs ls hC hE hA hP hD hS hl hF)
theorem tj_icmp_lt {x y : Int32} {off : Int} {n tgt : Nat} (hn : pc + 3 = n) (ht : (pc : Int) + off = (tgt : Int)) (hd : decode k.2.1 pc = .ok (.if_icmp .lt off, 3)) (kt : x < y → T E k cu su ws tgt l st Φ) (kf : ¬ (x < y) → T E k cu su ws n l st Φ) : T E k cu su ws pc l (.int y :: .int x :: st) Φ := by
  subst hn
  intro p L e s m args below meth c A Q H locs ls hC hE hA hP hD hS hl hF
  exact lv_icmp_lt hC.1 hC.2.1 hd ht (fun h9 => kt h9 p L e s m args below meth c A Q H locs ls hC hE hA hP hD hS hl hF) (fun h9 => kf h9 p L e s m args below meth c A Q H locs ls hC hE hA hP hD hS hl hF)
theorem tj_if_ge {x : Int32} {off : Int} {n tgt : Nat} (hn : pc + 3 = n) (ht : (pc : Int) + off = (tgt : Int)) (hd : decode k.2.1 pc = .ok (.ifCond .ge off, 3)) (kt : 0 ≤ x → T E k cu su ws tgt l st Φ) (kf : ¬ (0 ≤ x) → T E k cu su ws n l st Φ) : T E k cu su ws pc l (.int x :: st) Φ := by
  subst hn
  intro p L e s m args below meth c A Q H locs ls hC hE hA hP hD hS hl hF
  exact lv_if_ge hC.1 hC.2.1 hd ht (fun h9 => kt h9 p L e s m args below meth c A Q H locs ls hC hE hA hP hD hS hl hF) (fun h9 => kf h9 p L e s m args below meth c A Q H locs ls hC hE hA hP hD hS hl hF)
theorem tj_icmp_ge {x y : Int32} {off : Int} {n tgt : Nat} (hn : pc + 3 = n) (ht : (pc : Int) + off = (tgt : Int)) (hd : decode k.2.1 pc = .ok (.if_icmp .ge off, 3)) (kt : y ≤ x → T E k cu su ws tgt l st Φ) (kf : ¬ (y ≤ x) → T E k cu su ws n l st Φ) : T E k cu su ws pc l (.int y :: .int x :: st) Φ := by
  subst hn
  intro p L e s m args below meth c A Q H locs ls hC hE hA hP hD hS hl hF
  exact lv_icmp_ge hC.1 hC.2.1 hd ht (fun h9 => kt h9 p L e s m args below meth c A Q H locs ls hC hE hA hP hD hS hl hF) (fun h9 => kf h9 p L e s m args below meth c A Q H locs ls hC hE hA hP hD hS hl hF)
theorem tj_if_gt {x : Int32} {off : Int} {n tgt : Nat} (hn : pc + 3 = n) (ht : (pc : Int) + off = (tgt : Int)) (hd : decode k.2.1 pc = .ok (.ifCond .gt off, 3)) (kt : 0 < x → T E k cu su ws tgt l st Φ) (kf : ¬ (0 < x) → T E k cu su ws n l st Φ) : T E k cu su ws pc l (.int x :: st) Φ := by
  subst hn
  intro p L e s m args below meth c A Q H locs ls hC hE hA hP hD hS hl hF
  exact lv_if_gt hC.1 hC.2.1 hd ht (fun h9 => kt h9 p L e s m args below meth c A Q H locs ls hC hE hA hP hD hS hl hF) (fun h9 => kf h9 p L e s m args below meth c A Q H locs ls hC hE hA hP hD hS hl hF)
theorem tj_icmp_gt {x y : Int32} {off : Int} {n tgt : Nat} (hn : pc + 3 = n) (ht : (pc : Int) + off = (tgt : Int)) (hd : decode k.2.1 pc = .ok (.if_icmp .gt off, 3)) (kt : y < x → T E k cu su ws tgt l st Φ) (kf : ¬ (y < x) → T E k cu su ws n l st Φ) : T E k cu su ws pc l (.int y :: .int x :: st) Φ := by
  subst hn
  intro p L e s m args below meth c A Q H locs ls hC hE hA hP hD hS hl hF
  exact lv_icmp_gt hC.1 hC.2.1 hd ht (fun h9 => kt h9 p L e s m args below meth c A Q H locs ls hC hE hA hP hD hS hl hF) (fun h9 => kf h9 p L e s m args below meth c A Q H locs ls hC hE hA hP hD hS hl hF)
theorem tj_if_le {x : Int32} {off : Int} {n tgt : Nat} (hn : pc + 3 = n) (ht : (pc : Int) + off = (tgt : Int)) (hd : decode k.2.1 pc = .ok (.ifCond .le off, 3)) (kt : x ≤ 0 → T E k cu su ws tgt l st Φ) (kf : ¬ (x ≤ 0) → T E k cu su ws n l st Φ) : T E k cu su ws pc l (.int x :: st) Φ := by
  subst hn
  intro p L e s m args below meth c A Q H locs ls hC hE hA hP hD hS hl hF
  exact lv_if_le hC.1 hC.2.1 hd ht (fun h9 => kt h9 p L e s m args below meth c A Q H locs ls hC hE hA hP hD hS hl hF) (fun h9 => kf h9 p L e s m args below meth c A Q H locs ls hC hE hA hP hD hS hl hF)
theorem tj_icmp_le {x y : Int32} {off : Int} {n tgt : Nat} (hn : pc + 3 = n) (ht : (pc : Int) + off = (tgt : Int)) (hd : decode k.2.1 pc = .ok (.if_icmp .le off, 3)) (kt : x ≤ y → T E k cu su ws tgt l st Φ) (kf : ¬ (x ≤ y) → T E k cu su ws n l st Φ) : T E k cu su ws pc l (.int y :: .int x :: st) Φ := by
  subst hn
  intro p L e s m args below meth c A Q H locs ls hC hE hA hP hD hS hl hF
  exact lv_icmp_le hC.1 hC.2.1 hd ht (fun h9 => kt h9 p L e s m args below meth c A Q H locs ls hC hE hA hP hD hS hl hF) (fun h9 => kf h9 p L e s m args below meth c A Q H locs ls hC hE hA hP hD hS hl hF)
theorem tj_goto {off : Int} {tgt : Nat} (ht : (pc : Int) + off = (tgt : Int)) (hd : decode k.2.1 pc = .ok (.goto off, 3)) (kk : T E k cu su ws tgt l st Φ) : T E k cu su ws pc l st Φ := by
  intro p L e s m args below meth c A Q H locs ls hC hE hA hP hD hS hl hF
  exact lv_goto hC.1 hC.2.1 hd ht (kk p L e s m args below meth c A Q H locs ls hC hE hA hP hD hS hl hF)
theorem tj_lookup {x : Int32} {dflt : Int} {ps : Array (Int × Int)} {len : Nat} {off : Int} {tgt : Nat} (hd : decode k.2.1 pc = .ok (.lookupswitch dflt ps, len)) (hp : (ps.toList.zip (ps.toList.drop 1)).all (fun (a, next) => a.1 < next.1) = true) (ho : Op.lookupswitch.offset ps.toList dflt x.toInt = off) (ht : (pc : Int) + off = (tgt : Int)) (kk : T E k cu su ws tgt l st Φ) : T E k cu su ws pc l (.int x :: st) Φ := by
  intro p L e s m args below meth c A Q H locs ls hC hE hA hP hD hS hl hF
  exact lv_lookup hC.1 hC.2.1 hd hp ho ht (kk p L e s m args below meth c A Q H locs ls hC hE hA hP hD hS hl hF)
theorem tj_tableOut {x : Int32} {dflt lo hi : Int} {offs : Array Int} {len : Nat} {tgt : Nat} (hd : decode k.2.1 pc = .ok (.tableswitch dflt lo hi offs, len)) (h : x.toInt < lo ∨ hi < x.toInt) (ht : (pc : Int) + dflt = (tgt : Int)) (kk : T E k cu su ws tgt l st Φ) : T E k cu su ws pc l (.int x :: st) Φ := by
  intro p L e s m args below meth c A Q H locs ls hC hE hA hP hD hS hl hF
  exact lv_tableOut hC.1 hC.2.1 hd h ht (kk p L e s m args below meth c A Q H locs ls hC hE hA hP hD hS hl hF)
theorem tj_tableIn {x : Int32} {dflt lo hi : Int} {offs : Array Int} {len : Nat} {off : Int} {tgt : Nat} (hd : decode k.2.1 pc = .ok (.tableswitch dflt lo hi offs, len)) (h1 : ¬ x.toInt < lo) (h2 : ¬ hi < x.toInt) (ho : offs[(x.toInt - lo).toNat]? = some off) (ht : (pc : Int) + off = (tgt : Int)) (kk : T E k cu su ws tgt l st Φ) : T E k cu su ws pc l (.int x :: st) Φ := by
  intro p L e s m args below meth c A Q H locs ls hC hE hA hP hD hS hl hF
  exact lv_tableIn hC.1 hC.2.1 hd h1 h2 ho ht (kk p L e s m args below meth c A Q H locs ls hC hE hA hP hD hS hl hF)
theorem tj_ireturn {x : Int32} {ty : FieldType} (hd : decode k.2.1 pc = .ok (.ireturn, 1)) (hr : k.2.2.2.1 = some ty) (hx : narrow ty (.int x) = .int x) (hc : cu ≤ k.2.2.2.2.2.2.1) (hs : su ≤ k.2.2.2.2.2.2.2) (h : Φ (some (.int x)) ws) : T E k cu su ws pc l [.int x] Φ := by
  intro p L e s m args below meth c A Q H locs ls hC hE hA hP hD hS hl hF
  exact hF (some (.int x)) ws H locs ls cu su pc h hP hD hS hc hs ⟨ty, hr, hx, hd⟩
theorem tj_lreturn {x : Int64} (hd : decode k.2.1 pc = .ok (.lreturn, 1)) (hr : k.2.2.2.1 = some .long) (hc : cu ≤ k.2.2.2.2.2.2.1) (hs : su ≤ k.2.2.2.2.2.2.2) (h : Φ (some (.long x)) ws) : T E k cu su ws pc l [.long x] Φ := by
  intro p L e s m args below meth c A Q H locs ls hC hE hA hP hD hS hl hF
  exact hF (some (.long x)) ws H locs ls cu su pc h hP hD hS hc hs ⟨hr, hd⟩
theorem tj_return (hd : decode k.2.1 pc = .ok (.return_, 1)) (hr : k.2.2.2.1 = none) (hc : cu ≤ k.2.2.2.2.2.2.1) (hs : su ≤ k.2.2.2.2.2.2.2) (h : Φ none ws) : T E k cu su ws pc l [] Φ := by
  intro p L e s m args below meth c A Q H locs ls hC hE hA hP hD hS hl hF
  exact hF none ws H locs ls cu su pc h hP hD hS hc hs ⟨hr, hd⟩
/-- a class's table, as the rows of the kit want it -/
def ClsOk (ci : Nat) (C : String) (t : u_T) (N : Nat) (ty : Nat → FieldType) : Prop := vwCl[ci]? = some (C, t, N) ∧ (∀ w ∈ u_ws C t N, w ∈ TB) ∧ (∀ j, j < N → parseFieldDescriptor (t j).2.2.1 = some (ty j)) ∧ ∀ a, a < N → ∀ b, b < N → a ≠ b → (t a).2.1 ≠ (t b).2.1
theorem tj_getf {ci : Nat} {C : String} {t : u_T} {N : Nat} {ty : Nat → FieldType} (hcl : ClsOk ci C t N ty) {idx n a q : Nat} {fs : List Value} {v : Value} (hn : pc + 3 = n) (hd : decode k.2.1 pc = .ok (.getfield idx, 3)) (j : Nat) (hj : j < N) (hlk : Cond.fieldLink k.1.cls idx (t j).1 (t j).2.1 (t j).2.2.1 ∈ TB) (he : ws[q]? = some (a, .inr (ci, fs))) (hv : fs[j]? = some v) (kk : T E k cu su ws n l (v :: st) Φ) : T E k cu su ws pc l (.ref a :: st) Φ := by
  subst hn
  intro p L e s m args below meth c A Q H locs ls hC hE hA hP hD hS hl hF
  exact va_get hC.1 hC.2.1 hC.2.2.2.2.1 hcl.2.1 hC.2.2.2.1 hE.1 hP q he hcl.1 j hj (hC.2.2.2.2.1 _ hlk) (fun _ h => h) hv hd (kk p L e s m args below meth c A Q H locs ls hC hE hA hP hD hS hl hF)
theorem tj_putf {ci : Nat} {C : String} {t : u_T} {N : Nat} {ty : Nat → FieldType} (hcl : ClsOk ci C t N ty) {idx n a q : Nat} {fs : List Value} {v : Value} {ws' : va_W} (hn : pc + 3 = n) (hd : decode k.2.1 pc = .ok (.putfield idx, 3)) (j : Nat) (hj : j < N) (hlk : Cond.fieldLink k.1.cls idx (t j).1 (t j).2.1 (t j).2.2.1 ∈ TB) (hfin : (t j).2.2.2 = false) (hnr : narrow (ty j) v = v) (hft : fits (ty j) v = true) (he : ws[q]? = some (a, .inr (ci, fs))) (hlen : j < fs.length) (hw : ws.set q (a, .inr (ci, fs.set j v)) = ws') (kk : T E k cu su ws' n l st Φ) : T E k cu su ws pc l (v :: .ref a :: st) Φ := by
  subst hn
  subst hw
  intro p L e s m args below meth c A Q H locs ls hC hE hA hP hD hS hl hF
  exact va_put hC.1 hC.2.1 hC.2.2.2.2.1 hcl.2.1 ty hcl.2.2.1 hcl.2.2.2 hC.2.2.2.1 hE.1 hP hD hS q he hcl.1 j hj (hC.2.2.2.2.1 _ hlk) (fun _ h => h) hfin (hcl.2.2.1 j hj) hnr hft hlen hd (fun H1 locs1 hP1 hD1 hS1 => kk p L e s m args below meth c A Q H1 locs1 ls hC hE hA hP1 hD1 hS1 hl hF)
theorem tj_putF {ci : Nat} {C : String} {t : u_T} {N : Nat} {ty : Nat → FieldType} (hcl : ClsOk ci C t N ty) {idx n a q : Nat} {fs : List Value} {v : Value} {ws' : va_W} (hn : pc + 3 = n) (hd : decode k.2.1 pc = .ok (.putfield idx, 3)) (j : Nat) (hj : j < N) (hlk : Cond.fieldLink k.1.cls idx (t j).1 (t j).2.1 (t j).2.2.1 ∈ TB) (hfin : (t j).2.2.2 = true) (hini : k.1.name = "<init>") (hdecl : (t j).1 = k.1.cls) (hnr : narrow (ty j) v = v) (hft : fits (ty j) v = true) (he : ws[q]? = some (a, .inr (ci, fs))) (hlen : j < fs.length) (hw : ws.set q (a, .inr (ci, fs.set j v)) = ws') (kk : T E k cu su ws' n l st Φ) : T E k cu su ws pc l (v :: .ref a :: st) Φ := by
  subst hn
  subst hw
  intro p L e s m args below meth c A Q H locs ls hC hE hA hP hD hS hl hF
  exact va_putF hC.1 hC.2.1 hC.2.2.2.2.1 hcl.2.1 ty hcl.2.2.1 hcl.2.2.2 hC.2.2.2.1 hE.1 hP hD hS q he hcl.1 j hj (hC.2.2.2.2.1 _ hlk) (fun _ h => h) hfin (hC.2.2.2.2.2.2.2.trans hini) hdecl (hcl.2.2.1 j hj) hnr hft hlen hd (fun H1 locs1 hP1 hD1 hS1 => kk p L e s m args below meth c A Q H1 locs1 ls hC hE hA hP1 hD1 hS1 hl hF)
theorem tj_iald {n0 n a q : Nat} {f : Nat → Int32} {i : Int32} (hn : pc + 1 = n) (hd : decode k.2.1 pc = .ok (.iaload, 1)) (he : ws[q]? = some (a, .inl (E.2.1 0, n0, .inl f))) (hin : vp_in i n0) (kk : T E k cu su ws n l (.int (f i.toNatClampNeg) :: st) Φ) : T E k cu su ws pc l (.int i :: .ref a :: st) Φ := by
  subst hn
  intro p L e s m args below meth c A Q H locs ls hC hE hA hP hD hS hl hF
  exact va_iald hC.1 hC.2.1 hE.1 hP q 0 he rfl hin hd (kk p L e s m args below meth c A Q H locs ls hC hE hA hP hD hS hl hF)
theorem tj_zald {n0 n a q : Nat} {f : Nat → Int32} {i : Int32} (hn : pc + 1 = n) (hd : decode k.2.1 pc = .ok (.baload, 1)) (he : ws[q]? = some (a, .inl (E.2.1 1, n0, .inl f))) (hin : vp_in i n0) (kk : T E k cu su ws n l (.int (f i.toNatClampNeg) :: st) Φ) : T E k cu su ws pc l (.int i :: .ref a :: st) Φ := by
  subst hn
  intro p L e s m args below meth c A Q H locs ls hC hE hA hP hD hS hl hF
  exact va_zald hC.1 hC.2.1 hE.1 hP q 1 he rfl hin hd (kk p L e s m args below meth c A Q H locs ls hC hE hA hP hD hS hl hF)
theorem tj_iast {n0 n a q : Nat} {f : Nat → Int32} {i x : Int32} {ws' : va_W} (hn : pc + 1 = n) (hd : decode k.2.1 pc = .ok (.iastore, 1)) (he : ws[q]? = some (a, .inl (E.2.1 0, n0, .inl f))) (hin : vp_in i n0) (hw : ws.set q (a, .inl (E.2.1 0, n0, .inl (upd f i.toNatClampNeg (x)))) = ws') (kk : T E k cu su ws' n l st Φ) : T E k cu su ws pc l (.int x :: .int i :: .ref a :: st) Φ := by
  subst hn
  subst hw
  intro p L e s m args below meth c A Q H locs ls hC hE hA hP hD hS hl hF
  exact va_iast hC.1 hC.2.1 hE.1 hP hD hS q 0 he rfl hin hd (fun H1 locs1 hP1 hD1 hS1 => kk p L e s m args below meth c A Q H1 locs1 ls hC hE hA hP1 hD1 hS1 hl hF)
theorem tj_zast {n0 n a q : Nat} {f : Nat → Int32} {i x : Int32} {ws' : va_W} (hn : pc + 1 = n) (hd : decode k.2.1 pc = .ok (.bastore, 1)) (he : ws[q]? = some (a, .inl (E.2.1 1, n0, .inl f))) (hin : vp_in i n0) (hw : ws.set q (a, .inl (E.2.1 1, n0, .inl (upd f i.toNatClampNeg (vp_nar .boolean x)))) = ws') (kk : T E k cu su ws' n l st Φ) : T E k cu su ws pc l (.int x :: .int i :: .ref a :: st) Φ := by
  subst hn
  subst hw
  intro p L e s m args below meth c A Q H locs ls hC hE hA hP hD hS hl hF
  exact va_zast hC.1 hC.2.1 hE.1 hP hD hS q 1 he rfl hin hd (fun H1 locs1 hP1 hD1 hS1 => kk p L e s m args below meth c A Q H1 locs1 ls hC hE hA hP1 hD1 hS1 hl hF)
theorem tj_alen {tg n a q : Nat} {x : vp_A} {ty : FieldType} (hn : pc + 1 = n) (hd : decode k.2.1 pc = .ok (.arraylength, 1)) (he : ws[q]? = some (a, .inl (E.2.1 tg, x))) (ht : (tyL E.2.1)[tg]? = some (E.2.1 tg, ty)) (kk : T E k cu su ws n l (.int (Int32.ofNat x.1) :: st) Φ) : T E k cu su ws pc l (.ref a :: st) Φ := by
  subst hn
  intro p L e s m args below meth c A Q H locs ls hC hE hA hP hD hS hl hF
  exact va_alen hC.1 hC.2.1 hE.1 hP q tg he ht rfl hd (kk p L e s m args below meth c A Q H locs ls hC hE hA hP hD hS hl hF)
theorem tj_aald {tg n0 n a q : Nat} {f : Nat → Option Nat} {i : Int32} {ty : FieldType} (hn : pc + 1 = n) (hd : decode k.2.1 pc = .ok (.aaload, 1)) (he : ws[q]? = some (a, .inl (E.2.1 tg, n0, .inr (.inr (.inr (.inr f)))))) (ht : (tyL E.2.1)[tg]? = some (E.2.1 tg, ty)) (hty : ty.isReference = true) (hin : vp_in i n0) (kk : T E k cu su ws n l (va_rf (f i.toNatClampNeg) :: st) Φ) : T E k cu su ws pc l (.int i :: .ref a :: st) Φ := by
  subst hn
  intro p L e s m args below meth c A Q H locs ls hC hE hA hP hD hS hl hF
  have hlt : i.toNatClampNeg < n0 := Nat.not_le.mp fun q => hin (Or.inr q)
  exact W.aald (v := va_rf (f i.toNatClampNeg)) (ty := ty) hC.1 hC.2.1 (hP q _ he) ((hE.1.2 tg _ ht).1 n0 (fun j => va_rf (f j))) hty (fun q => by cases q) (by show ¬ (i < 0 ∨ (arrV _ _ _).slots.size ≤ _); rw [arrV_size]; exact hin) (by show (arrV _ _ _).slots[_]? = _; rw [arrV_read _ _ hlt]) rfl rfl hd (kk p L e s m args below meth c A Q H locs ls hC hE hA hP hD hS hl hF)
/-- the law's own script -/
theorem tj_sld {b L0 n : Nat} {xs : Nat → Int32} {i : Int32} (hsc : E.2.2.2.2 = some (b, L0, xs)) (hn : pc + 1 = n) (hd : decode k.2.1 pc = .ok (.iaload, 1)) (hin : vp_in i L0) (kk : T E k cu su ws n l (.int (xs i.toNatClampNeg) :: st) Φ) : T E k cu su ws pc l (.int i :: .ref b :: st) Φ := by
  subst hn
  intro p L e s m args below meth c A Q H locs ls hC hE hA hP hD hS hl hF
  have hx := hE.2.2.2.2.1
  rw [hsc] at hx
  exact va_sld hC.1 hC.2.1 hx.1 hx.2.1 hx.2.2 hS hin hd (kk p L e s m args below meth c A Q H locs ls hC hE hA hP hD hS hl hF)
theorem tj_slen {b L0 n : Nat} {xs : Nat → Int32} (hsc : E.2.2.2.2 = some (b, L0, xs)) (hn : pc + 1 = n) (hd : decode k.2.1 pc = .ok (.arraylength, 1)) (kk : T E k cu su ws n l (.int (Int32.ofNat L0) :: st) Φ) : T E k cu su ws pc l (.ref b :: st) Φ := by
  subst hn
  intro p L e s m args below meth c A Q H locs ls hC hE hA hP hD hS hl hF
  have hx := hE.2.2.2.2.1
  rw [hsc] at hx
  exact va_slen hC.1 hC.2.1 hx.1 hx.2.1 hx.2.2 hS hd (kk p L e s m args below meth c A Q H locs ls hC hE hA hP hD hS hl hF)
end TR
/-- a callee's end, over the whole world -/
def Qm (E : EV) (ws : va_W) (sz : Nat) (Φ : Option Value → va_W → Prop) : Array Value → State → Outcome → State → Prop := fun _ st oc t =>
  (∃ (r : Option Value) (ws' : va_W), oc = .returned r ∧ Φ r ws' ∧ va_P E.1 vwCl ws' t.heap ∧ va_D (va_A ws sz) ws') ∧ va_F (va_A ws sz) st t
def Pm (E : EV) (ws : va_W) (sz : Nat) (av : List Value) : Array Value → State → Prop := va_Pc av (fun U => U.heap.size = sz ∧ va_P E.1 vwCl ws U.heap ∧ va_D (fun _ => True) ws ∧ ExS E (va_A ws sz) U U.heap)
set_option maxHeartbeats 4000000 in
theorem met_of {E : EV} {k : MD} {ws : va_W} {av : List Value} {Φ : Option Value → va_W → Prop} (L : Launch) (sz : Nat) (hpl : plainName k.1.cls = true) (hlen : (lg_sl av).length ≤ k.2.2.1) (h : Tm E k ws av Φ) :
    Met L k.1 (md_ws k) (md_rm k) (Pm E ws sz av) (Qm E ws sz Φ) k.2.2.2.2.2.2.1 k.2.2.2.2.2.2.2 (va_A ws sz) := by
  refine Met.ofW (cc := k.2.1) (maxL := k.2.2.1) (ret := k.2.2.2.1) hpl rfl ?_
  intro p e s m args below meth c s₁ B hml hv
  obtain ⟨rfl, hsz, hP, hD0, hE⟩ := hv
  subst hsz
  have hts := atoms_spec (ws := md_ws k) B.pre
  have hx := B.exec
  have hb := B.bytes
  have hr := B.returns
  have hlocks := B.notSynchronized
  rw [lg_entry_eq]
  refine h p L e s m av.toArray below meth c (va_A ws s.heap.size) _ s.heap [] _ ⟨hx, hb, hml, findClass_of_methodNamed B.named, fun w hw => hts w (List.mem_cons_of_mem _ hw), hr, hlocks, (name_of_methodNamed B.named B.method).1⟩ hE (fun q h => Or.inr h) hP hD0.self va_S.rf (lv_entry av hlen) ?_
  intro r ws' H' locs' ls' cu' su' pc' hΦ hP' hD' hS' hc hs hrt
  refine W.widen hc hs ?_
  match r, hrt with
  | none, hrt => exact W.vret hx hb (hr.trans hrt.1) (fun t ht hW => ⟨⟨none, ws', rfl, hΦ, by rw [ht]; exact hP', hD'⟩, hS'.F ht⟩) hS'.2.2 hrt.2
  | some (.int v), hrt =>
    obtain ⟨ty, h1, h2, h3⟩ := hrt
    exact W.zret (ty := ty) hx hb (hr.trans h1) h2 (fun t ht hW => ⟨⟨some (.int v), ws', rfl, hΦ, by rw [ht]; exact hP', hD'⟩, hS'.F ht⟩) hS'.2.2 h3
  | some (.long v), hrt => exact W.lret hx hb (hr.trans hrt.1) (fun t ht hW => ⟨⟨some (.long v), ws', rfl, hΦ, by rw [ht]; exact hP', hD'⟩, hS'.F ht⟩) hS'.2.2 hrt.2
theorem exs_call {E : EV} {A B : Nat → Prop} {s U : State} {H : Heap} {locs : List Loc} (h : ExS E A s s.heap) (hS : va_S A s.heap H locs) (hB : ∀ q, B q → A q) (hU : U.heap = H) (hW : s.WarmedH U.vm) : ExS E B U U.heap := by
  subst hU
  obtain ⟨h1, h2, h3, h4, h5, h6⟩ := h
  have hq : ∀ a : Nat, a < s.heap.size → ¬ A a → U.heap[a]? = s.heap[a]? := hS.2.1
  refine ⟨va_K.moved hW.alike h1, vk_S.moved hW.alike ((h2.kept hq).narrow hB), fun i hi => (h3 i hi).warm hW, va_Z.moved hW.alike ((h4.kept hq).narrow hB), ?_, h6.warm hW⟩
  revert h5
  cases E.2.2.2.2 with
  | none => exact fun _ => trivial
  | some x =>
    obtain ⟨b, L, xs⟩ := x
    rintro ⟨g1, g2, g3⟩
    exact ⟨va_X.moved hW.alike (g1.kept (hq b g2 g3)), Nat.lt_of_lt_of_le g2 hS.1, fun z => g3 (hB b z)⟩
theorem pm_blind {E : EV} {ws : va_W} {sz : Nat} {av : List Value} : FrameBlind (Pm E ws sz av) := by
  intro a U g mk h
  obtain ⟨h0, h1, h2, h3, h4, h5, h6, h7, h8, h9⟩ := h
  refine ⟨h0, h1, h2, h3, va_K.moved (u := U) (U := U.calling g mk a) (Vm.Alike.refl U.vm) h4, vk_S.moved (u := U) (U := U.calling g mk a) (Vm.Alike.refl U.vm) h5, fun i hi => (h6 i hi).same rfl, va_Z.moved (u := U) (U := U.calling g mk a) (Vm.Alike.refl U.vm) h7, ?_, h9.same rfl⟩
  revert h8
  cases E.2.2.2.2 with
  | none => exact fun _ => trivial
  | some x =>
    obtain ⟨b, L, xs⟩ := x
    rintro ⟨g1, g2, g3⟩
    exact ⟨va_X.moved (u := U) (U := U.calling g mk a) (Vm.Alike.refl U.vm) g1, g2, g3⟩
section WC
variable {p : Program} {L : Launch} {e : Env} {R : Room} {s : State} {m : MethodId} {args : Array Value} {below : List Frame} {meth : Method} {c : Code} {H : Heap} {locs : List Loc} {cells slots : Nat} {Q : State → Prop}
variable {pc : Nat} {ls : Array Slot} {rest st0 : List Value} {a : Array Value} {A0 : Nat → Prop} {mc ms : Nat}
theorem w_free {ws : va_W} (hD : va_D A0 ws) (hA : ∀ q, s.heap.size ≤ q → A0 q) (hS : va_S A0 s.heap H locs) : ∀ q, va_A ws H.size q → A0 q := by
  intro q h
  rcases h with ⟨k, x, h⟩ | h
  · exact hD.2 k (q, x) h
  · exact hA q (Nat.le_trans hS.1 h)
theorem w_call {E : EV} {ws : va_W} {Ψ : Option Value → va_W → Prop} (hr : va_Run p L e R s m args below meth c H locs cells slots mc ms (F0 m pc ls st0) rest (Qm E ws H.size Ψ a) (va_A ws H.size)) (hD : va_D A0 ws) (hA : ∀ q, s.heap.size ≤ q → A0 q) (hS : va_S A0 s.heap H locs)
    (kk : ∀ (r : Option Value) (ws' : va_W) (H1 : Heap) (locs1 : List Loc), Ψ r ws' → va_P E.1 vwCl ws' H1 → va_D A0 ws' → va_S A0 s.heap H1 locs1 → W p L e R s m args below meth c H1 locs1 (cells + mc) (slots + ms) Q (F0 m (pc + 3) ls (pushR r rest))) : W p L e R s m args below meth c H locs cells slots Q (F0 m pc ls st0) := by
  have hF := w_free hD hA hS
  intro T hT X
  obtain ⟨v, st₀, t, T', L1, h0, X', hL, e1, e2, ⟨⟨r, ws', hv, hp, hP', hD'⟩, hz, hk⟩, st⟩ := hr T hT X
  cases hv
  rw [h0] at hz hk
  have hkk := kk v ws' T'.heap (locs ++ L1) hp (by rw [e1]; exact hP') (hD'.weaken (fun _ q _ h => hF q.1 h))
    ⟨Nat.le_trans hS.1 (by rw [e1]; exact hz), fun q h1 h2 => by rw [e1, hk q (Nat.lt_of_lt_of_le h1 hS.1) (fun z => h2 (hF q z))]; exact hS.2.1 q h1 h2, fun q hq => by
      rcases List.mem_append.mp hq with h | h
      · exact hS.2.2 q h
      · exact hF _ (hL q h)⟩
  obtain ⟨t2, a1, b1⟩ := hkk T' rfl X'
  refine ⟨t2, st t2 ?_, b1⟩
  cases v <;> exact a1
end WC
/-- a method that may be called: its words are in the tables, its n parameters -/
def MokC (z : MD) (n : Nat) : Prop := Cond.code z.1 z.2.1 z.2.2.1 z.2.2.2.1 ∈ TB ∧ Cond.initialized z.1.cls ∈ TB ∧ plainName z.1.cls = true ∧ z.1.cls ≠ "java/lang/invoke/MethodHandle" ∧ z.1.cls ≠ "java/lang/invoke/VarHandle" ∧ (parseMethodDescriptor z.1.desc).map (fun d => d.parameters.length) = some n
def MokV (z : MD) (n : Nat) : Prop := MokC z n ∧ Cond.instanceMethod z.1 ∈ TB ∧ Cond.selects z.1.cls z.1 z.1 ∈ TB
def MokS (z : MD) (n : Nat) : Prop := MokC z n ∧ Cond.static z.1 ∈ TB
def MokI (z : MD) (n : Nat) : Prop := MokC z n ∧ Cond.instanceMethod z.1 ∈ TB ∧ z.1.name = "<init>" ∧ z.2.2.2.1 = none
/-- the callee's room fits the caller's -/
def RoomOk (k z : MD) (cu su : Nat) : Prop := (z.2.2.2.2.1 + 1 ≤ k.2.2.2.2.1 ∧ 8 + (z.2.2.1 + 11) + z.2.2.2.2.2.1 ≤ k.2.2.2.2.2.1) ∧ cu + z.2.2.2.2.2.2.1 ≤ k.2.2.2.2.2.2.1 ∧ su + z.2.2.2.2.2.2.2 ≤ k.2.2.2.2.2.2.2
theorem lw_good : ∀ w ∈ TB, (w.onTables && w.keeps) = true ∨ ∃ ty, w = .arrayClass ty := fun w hw => good_of_word (List.mem_filter.mp hw).2
theorem good_ws {z : MD} {n : Nat} (h : MokC z n) : GoodIn TB (md_ws z) := by
  intro w hw
  rcases List.mem_cons.mp hw with hw | hw
  · rw [hw]; exact ⟨h.1, lw_good _ h.1⟩
  · exact ⟨hw, lw_good _ hw⟩
section TC
variable {E : EV} {k z : MD} {cu su : Nat} {ws : va_W} {pc : Nat} {l : List (Nat × Value)} {st rest As : List Value} {Φ : Option Value → va_W → Prop}
theorem tj_callS {idx n np : Nat} (hn : pc + 3 = n) (hd : decode k.2.1 pc = .ok (.invokestatic idx, 3)) (hst : st = As.reverse ++ rest) (hlk : Cond.methodLink k.1.cls idx z.1 ∈ TB) (hok : MokS z np) (hnp : As.length = np) (hR : RoomOk k z cu su) (hlen : (lg_sl As).length ≤ z.2.2.1) (hcat : (rest.map fun v => v.category).sum ≤ 8)
    (hm : Tm E z ws As (fun r ws' => T E k (cu + z.2.2.2.2.2.2.1) (su + z.2.2.2.2.2.2.2) ws' n l (pushR r rest) Φ)) : T E k cu su ws pc l st Φ := by
  subst hn
  subst hst
  intro p L e s m args below meth c A Q H locs ls hC hE hA hP hD hS hl hF
  have hts := hC.2.2.2.2.1
  refine w_call (va_runS (As := As) (rest := rest) (ws := md_ws z) (rm := md_rm z) (bytes := z.2.1) (maxL := z.2.2.1) (ret := z.2.2.2.1) ⟨hC.1, hC.2.1, hC.2.2.1, hC.2.2.2.1, hts⟩ (met_of L H.size hok.1.2.2.1 hlen hm) ⟨callB_of np hts (good_ws hok.1) rfl rfl rfl (hts _ hok.1.2.1) (hts _ hlk) hok.1.2.2.2 hR.1, hts _ hok.2⟩ ⟨pm_blind, fun U hU hW => ⟨rfl, by rw [hU], by rw [hU]; exact hP, hD.weaken (fun _ _ _ _ => trivial), exs_call hE hS (w_free hD hA hS) hU hW⟩⟩ rfl hnp hl.1 rfl (lv_room hcat) hd hR.2) hD hA hS
    (fun r ws' H1 locs1 hΨ hP1 hD1 hS1 => hΨ p L e s m args below meth c A Q H1 locs1 ls hC hE hA hP1 hD1 hS1 hl hF)
theorem tj_callV {idx n np a q ci : Nat} {fs : List Value} {r0 : vw_C} (hn : pc + 3 = n) (hd : decode k.2.1 pc = .ok (.invokevirtual idx, 3)) (hst : st = As.reverse ++ .ref a :: rest) (hlk : Cond.methodLink k.1.cls idx z.1 ∈ TB) (hok : MokV z np) (hnp : As.length = np) (hR : RoomOk k z cu su) (hlen : (lg_sl (.ref a :: As)).length ≤ z.2.2.1) (hcat : (rest.map fun v => v.category).sum ≤ 8)
    (he : ws[q]? = some (a, .inr (ci, fs))) (hc : vwCl[ci]? = some r0) (hcn : r0.1 = z.1.cls) (hm : Tm E z ws (.ref a :: As) (fun r ws' => T E k (cu + z.2.2.2.2.2.2.1) (su + z.2.2.2.2.2.2.2) ws' n l (pushR r rest) Φ)) : T E k cu su ws pc l st Φ := by
  subst hn
  subst hst
  intro p L e s m args below meth c A Q H locs ls hC hE hA hP hD hS hl hF
  have hts := hC.2.2.2.2.1
  refine w_call (va_runV (As := As) (rest := rest) (C := z.1.cls) (ws := md_ws z) (rm := md_rm z) (bytes := z.2.1) (maxL := z.2.2.1) (ret := z.2.2.2.1) ⟨hC.1, hC.2.1, hC.2.2.1, hC.2.2.2.1, hts⟩ (met_of L H.size hok.1.2.2.1 hlen hm) ⟨callB_of np hts (good_ws hok.1) rfl rfl rfl (hts _ hok.1.2.1) (hts _ hlk) hok.1.2.2.2 hR.1, hts _ hok.2.1, hts _ hok.2.2⟩ ⟨pm_blind, by rw [← hcn]; exact va_recv hE.1 hP hc he, fun U hU hW => ⟨rfl, by rw [hU], by rw [hU]; exact hP, hD.weaken (fun _ _ _ _ => trivial), exs_call hE hS (w_free hD hA hS) hU hW⟩⟩ rfl hnp hl.1 rfl (lv_room hcat) hd hR.2) hD hA hS
    (fun r ws' H1 locs1 hΨ hP1 hD1 hS1 => hΨ p L e s m args below meth c A Q H1 locs1 ls hC hE hA hP1 hD1 hS1 hl hF)
theorem tj_callI {idx n np a : Nat} (hn : pc + 3 = n) (hd : decode k.2.1 pc = .ok (.invokespecial idx, 3)) (hst : st = As.reverse ++ .ref a :: rest) (hlk : Cond.methodLink k.1.cls idx z.1 ∈ TB) (hok : MokI z np) (hnp : As.length = np) (hR : RoomOk k z cu su) (hlen : (lg_sl (.ref a :: As)).length ≤ z.2.2.1) (hcat : (rest.map fun v => v.category).sum ≤ 8)
    (hm : Tm E z ws (.ref a :: As) (fun r ws' => T E k (cu + z.2.2.2.2.2.2.1) (su + z.2.2.2.2.2.2.2) ws' n l (pushR r rest) Φ)) : T E k cu su ws pc l st Φ := by
  subst hn
  subst hst
  intro p L e s m args below meth c A Q H locs ls hC hE hA hP hD hS hl hF
  have hts := hC.2.2.2.2.1
  refine w_call (va_runI (As := As) (rest := rest) (ws := md_ws z) (rm := md_rm z) (bytes := z.2.1) (maxL := z.2.2.1) ⟨hC.1, hC.2.1, hC.2.2.1, hC.2.2.2.1, hts⟩ (met_of L H.size hok.1.2.2.1 hlen hm) ⟨callB_of np hts (good_ws hok.1) (by unfold md_ws; rw [hok.2.2.2]) rfl rfl (hts _ hok.1.2.1) (hts _ hlk) hok.1.2.2.2 hR.1, hok.2.2.1, hts _ hok.2.1⟩ ⟨pm_blind, fun U hU hW => ⟨rfl, by rw [hU], by rw [hU]; exact hP, hD.weaken (fun _ _ _ _ => trivial), exs_call hE hS (w_free hD hA hS) hU hW⟩⟩ rfl hnp hl.1 rfl (lv_room hcat) hd hR.2) hD hA hS
    (fun r ws' H1 locs1 hΨ hP1 hD1 hS1 => hΨ p L e s m args below meth c A Q H1 locs1 ls hC hE hA hP1 hD1 hS1 hl hF)
theorem tj_callSN {idx n np : Nat} (hn : pc + 3 = n) (hd : decode k.2.1 pc = .ok (.invokestatic idx, 3)) (hst : st = As.reverse ++ rest) (hlk : (k.1.cls, idx, z.1) ∈ nestL) (hok : MokS z np) (hnp : As.length = np) (hR : RoomOk k z cu su) (hlen : (lg_sl As).length ≤ z.2.2.1) (hcat : (rest.map fun v => v.category).sum ≤ 8)
    (hm : Tm E z ws As (fun r ws' => T E k (cu + z.2.2.2.2.2.2.1) (su + z.2.2.2.2.2.2.2) ws' n l (pushR r rest) Φ)) : T E k cu su ws pc l st Φ := by
  subst hn
  subst hst
  intro p L e s m args below meth c A Q H locs ls hC hE hA hP hD hS hl hF
  have hts := hC.2.2.2.2.1
  refine w_call (va_runSN (As := As) (rest := rest) (ws := md_ws z) (rm := md_rm z) (bytes := z.2.1) (maxL := z.2.2.1) (ret := z.2.2.2.1) (host := "HouseTwins") ⟨hC.1, hC.2.1, hC.2.2.1, hC.2.2.2.1, hts⟩ (met_of L H.size hok.1.2.2.1 hlen hm) ⟨va_cnB np hts (good_ws hok.1) rfl rfl rfl (hE.2.2.2.2.2.1 _ hlk) (hts _ hok.1.2.1) hok.1.2.2.2 hR.1, hts _ hok.2, trivial⟩ ⟨pm_blind, fun U hU hW => ⟨rfl, by rw [hU], by rw [hU]; exact hP, hD.weaken (fun _ _ _ _ => trivial), exs_call hE hS (w_free hD hA hS) hU hW⟩⟩ rfl hnp hl.1 rfl (lv_room hcat) hd hR.2) hD hA hS
    (fun r ws' H1 locs1 hΨ hP1 hD1 hS1 => hΨ p L e s m args below meth c A Q H1 locs1 ls hC hE hA hP1 hD1 hS1 hl hF)
theorem tj_callIN {idx n np a : Nat} (hn : pc + 3 = n) (hd : decode k.2.1 pc = .ok (.invokespecial idx, 3)) (hst : st = As.reverse ++ .ref a :: rest) (hlk : (k.1.cls, idx, z.1) ∈ nestL) (hok : MokI z np) (hnp : As.length = np) (hR : RoomOk k z cu su) (hlen : (lg_sl (.ref a :: As)).length ≤ z.2.2.1) (hcat : (rest.map fun v => v.category).sum ≤ 8)
    (hm : Tm E z ws (.ref a :: As) (fun r ws' => T E k (cu + z.2.2.2.2.2.2.1) (su + z.2.2.2.2.2.2.2) ws' n l (pushR r rest) Φ)) : T E k cu su ws pc l st Φ := by
  subst hn
  subst hst
  intro p L e s m args below meth c A Q H locs ls hC hE hA hP hD hS hl hF
  have hts := hC.2.2.2.2.1
  refine w_call (va_runIN (As := As) (rest := rest) (ws := md_ws z) (rm := md_rm z) (bytes := z.2.1) (maxL := z.2.2.1) (host := "HouseTwins") ⟨hC.1, hC.2.1, hC.2.2.1, hC.2.2.2.1, hts⟩ (met_of L H.size hok.1.2.2.1 hlen hm) ⟨va_cnB np hts (good_ws hok.1) (by unfold md_ws; rw [hok.2.2.2]) rfl rfl (hE.2.2.2.2.2.1 _ hlk) (hts _ hok.1.2.1) hok.1.2.2.2 hR.1, hok.2.2.1, hts _ hok.2.1⟩ ⟨pm_blind, fun U hU hW => ⟨rfl, by rw [hU], by rw [hU]; exact hP, hD.weaken (fun _ _ _ _ => trivial), exs_call hE hS (w_free hD hA hS) hU hW⟩⟩ rfl hnp hl.1 rfl (lv_room hcat) hd hR.2) hD hA hS
    (fun r ws' H1 locs1 hΨ hP1 hD1 hS1 => hΨ p L e s m args below meth c A Q H1 locs1 ls hC hE hA hP1 hD1 hS1 hl hF)
end TC
end
section
theorem dX0_init_0 : decode cX0_init 0 = .ok (.aload_n 0, 1) := by decide +kernel
theorem dX0_init_1 : decode cX0_init 1 = .ok (.invokespecial 3, 3) := by decide +kernel
theorem dX0_init_4 : decode cX0_init 4 = .ok (.aload_n 0, 1) := by decide +kernel
theorem dX0_init_5 : decode cX0_init 5 = .ok (.aload_n 1, 1) := by decide +kernel
theorem dX0_init_6 : decode cX0_init 6 = .ok (.putfield 9, 3) := by decide +kernel
theorem dX0_init_9 : decode cX0_init 9 = .ok (.aload_n 0, 1) := by decide +kernel
theorem dX0_init_10 : decode cX0_init 10 = .ok (.aload_n 2, 1) := by decide +kernel
theorem dX0_init_11 : decode cX0_init 11 = .ok (.putfield 15, 3) := by decide +kernel
theorem dX0_init_14 : decode cX0_init 14 = .ok (.return_, 1) := by decide +kernel
theorem dX0_gainOf_0 : decode cX0_gainOf 0 = .ok (.aload_n 0, 1) := by decide +kernel
theorem dX0_gainOf_1 : decode cX0_gainOf 1 = .ok (.getfield 9, 3) := by decide +kernel
theorem dX0_gainOf_4 : decode cX0_gainOf 4 = .ok (.iload_n 1, 1) := by decide +kernel
theorem dX0_gainOf_5 : decode cX0_gainOf 5 = .ok (.iload_n 3, 1) := by decide +kernel
theorem dX0_gainOf_6 : decode cX0_gainOf 6 = .ok (.invokevirtual 19, 3) := by decide +kernel
theorem dX0_gainOf_9 : decode cX0_gainOf 9 = .ok (.aload_n 0, 1) := by decide +kernel
theorem dX0_gainOf_10 : decode cX0_gainOf 10 = .ok (.getfield 9, 3) := by decide +kernel
theorem dX0_gainOf_13 : decode cX0_gainOf 13 = .ok (.iload_n 1, 1) := by decide +kernel
theorem dX0_gainOf_14 : decode cX0_gainOf 14 = .ok (.iload_n 3, 1) := by decide +kernel
theorem dX0_gainOf_15 : decode cX0_gainOf 15 = .ok (.invokevirtual 25, 3) := by decide +kernel
theorem dX0_gainOf_18 : decode cX0_gainOf 18 = .ok (.isub, 1) := by decide +kernel
theorem dX0_gainOf_19 : decode cX0_gainOf 19 = .ok (.aload_n 0, 1) := by decide +kernel
theorem dX0_gainOf_20 : decode cX0_gainOf 20 = .ok (.getfield 9, 3) := by decide +kernel
theorem dX0_gainOf_23 : decode cX0_gainOf 23 = .ok (.iload_n 1, 1) := by decide +kernel
theorem dX0_gainOf_24 : decode cX0_gainOf 24 = .ok (.aload_n 0, 1) := by decide +kernel
theorem dX0_gainOf_25 : decode cX0_gainOf 25 = .ok (.getfield 15, 3) := by decide +kernel
theorem dX0_gainOf_28 : decode cX0_gainOf 28 = .ok (.iload_n 1, 1) := by decide +kernel
theorem dX0_gainOf_29 : decode cX0_gainOf 29 = .ok (.iload_n 2, 1) := by decide +kernel
theorem dX0_gainOf_30 : decode cX0_gainOf 30 = .ok (.invokevirtual 28, 3) := by decide +kernel
theorem dX0_gainOf_33 : decode cX0_gainOf 33 = .ok (.invokevirtual 19, 3) := by decide +kernel
theorem dX0_gainOf_36 : decode cX0_gainOf 36 = .ok (.isub, 1) := by decide +kernel
theorem dX0_gainOf_37 : decode cX0_gainOf 37 = .ok (.ireturn, 1) := by decide +kernel
theorem dX0_bestKind_0 : decode cX0_bestKind 0 = .ok (.iconst 0, 1) := by decide +kernel
theorem dX0_bestKind_1 : decode cX0_bestKind 1 = .ok (.istore_n 3, 1) := by decide +kernel
theorem dX0_bestKind_2 : decode cX0_bestKind 2 = .ok (.iconst 0, 1) := by decide +kernel
theorem dX0_bestKind_3 : decode cX0_bestKind 3 = .ok (.istore 4, 2) := by decide +kernel
theorem dX0_bestKind_5 : decode cX0_bestKind 5 = .ok (.iconst 1, 1) := by decide +kernel
theorem dX0_bestKind_6 : decode cX0_bestKind 6 = .ok (.istore 5, 2) := by decide +kernel
theorem dX0_bestKind_8 : decode cX0_bestKind 8 = .ok (.iload 5, 2) := by decide +kernel
theorem dX0_bestKind_10 : decode cX0_bestKind 10 = .ok (.bipush 6, 2) := by decide +kernel
theorem dX0_bestKind_12 : decode cX0_bestKind 12 = .ok (.if_icmp .ge 47, 3) := by decide +kernel
theorem dX0_bestKind_15 : decode cX0_bestKind 15 = .ok (.aload_n 0, 1) := by decide +kernel
theorem dX0_bestKind_16 : decode cX0_bestKind 16 = .ok (.iload_n 1, 1) := by decide +kernel
theorem dX0_bestKind_17 : decode cX0_bestKind 17 = .ok (.iload_n 2, 1) := by decide +kernel
theorem dX0_bestKind_18 : decode cX0_bestKind 18 = .ok (.iload 5, 2) := by decide +kernel
theorem dX0_bestKind_20 : decode cX0_bestKind 20 = .ok (.invokevirtual 33, 3) := by decide +kernel
theorem dX0_bestKind_23 : decode cX0_bestKind 23 = .ok (.istore 6, 2) := by decide +kernel
theorem dX0_bestKind_25 : decode cX0_bestKind 25 = .ok (.iload 6, 2) := by decide +kernel
theorem dX0_bestKind_27 : decode cX0_bestKind 27 = .ok (.iload 4, 2) := by decide +kernel
theorem dX0_bestKind_29 : decode cX0_bestKind 29 = .ok (.if_icmp .le 24, 3) := by decide +kernel
theorem dX0_bestKind_32 : decode cX0_bestKind 32 = .ok (.aload_n 0, 1) := by decide +kernel
theorem dX0_bestKind_33 : decode cX0_bestKind 33 = .ok (.getfield 9, 3) := by decide +kernel
theorem dX0_bestKind_36 : decode cX0_bestKind 36 = .ok (.iload_n 1, 1) := by decide +kernel
theorem dX0_bestKind_37 : decode cX0_bestKind 37 = .ok (.iload_n 2, 1) := by decide +kernel
theorem dX0_bestKind_38 : decode cX0_bestKind 38 = .ok (.iload 5, 2) := by decide +kernel
theorem dX0_bestKind_40 : decode cX0_bestKind 40 = .ok (.invokevirtual 37, 3) := by decide +kernel
theorem dX0_bestKind_43 : decode cX0_bestKind 43 = .ok (.ifCond .eq 10, 3) := by decide +kernel
theorem dX0_bestKind_46 : decode cX0_bestKind 46 = .ok (.iload 6, 2) := by decide +kernel
theorem dX0_bestKind_48 : decode cX0_bestKind 48 = .ok (.istore 4, 2) := by decide +kernel
theorem dX0_bestKind_50 : decode cX0_bestKind 50 = .ok (.iload 5, 2) := by decide +kernel
theorem dX0_bestKind_52 : decode cX0_bestKind 52 = .ok (.istore_n 3, 1) := by decide +kernel
theorem dX0_bestKind_53 : decode cX0_bestKind 53 = .ok (.iinc 5 1, 3) := by decide +kernel
theorem dX0_bestKind_56 : decode cX0_bestKind 56 = .ok (.goto (-48), 3) := by decide +kernel
theorem dX0_bestKind_59 : decode cX0_bestKind 59 = .ok (.iload_n 3, 1) := by decide +kernel
theorem dX0_bestKind_60 : decode cX0_bestKind 60 = .ok (.ireturn, 1) := by decide +kernel
theorem dX0_findVex_0 : decode cX0_findVex 0 = .ok (.aload_n 0, 1) := by decide +kernel
theorem dX0_findVex_1 : decode cX0_findVex 1 = .ok (.iconst 0, 1) := by decide +kernel
theorem dX0_findVex_2 : decode cX0_findVex 2 = .ok (.putfield 41, 3) := by decide +kernel
theorem dX0_findVex_5 : decode cX0_findVex 5 = .ok (.aload_n 0, 1) := by decide +kernel
theorem dX0_findVex_6 : decode cX0_findVex 6 = .ok (.bipush (-4), 2) := by decide +kernel
theorem dX0_findVex_8 : decode cX0_findVex 8 = .ok (.putfield 45, 3) := by decide +kernel
theorem dX0_findVex_11 : decode cX0_findVex 11 = .ok (.aload_n 0, 1) := by decide +kernel
theorem dX0_findVex_12 : decode cX0_findVex 12 = .ok (.iconst 0, 1) := by decide +kernel
theorem dX0_findVex_13 : decode cX0_findVex 13 = .ok (.putfield 48, 3) := by decide +kernel
theorem dX0_findVex_16 : decode cX0_findVex 16 = .ok (.iconst 0, 1) := by decide +kernel
theorem dX0_findVex_17 : decode cX0_findVex 17 = .ok (.istore_n 2, 1) := by decide +kernel
theorem dX0_findVex_18 : decode cX0_findVex 18 = .ok (.iload_n 2, 1) := by decide +kernel
theorem dX0_findVex_19 : decode cX0_findVex 19 = .ok (.aload_n 0, 1) := by decide +kernel
theorem dX0_findVex_20 : decode cX0_findVex 20 = .ok (.getfield 9, 3) := by decide +kernel
theorem dX0_findVex_23 : decode cX0_findVex 23 = .ok (.getfield 51, 3) := by decide +kernel
theorem dX0_findVex_26 : decode cX0_findVex 26 = .ok (.if_icmp .ge 78, 3) := by decide +kernel
theorem dX0_findVex_29 : decode cX0_findVex 29 = .ok (.aload_n 0, 1) := by decide +kernel
theorem dX0_findVex_30 : decode cX0_findVex 30 = .ok (.getfield 9, 3) := by decide +kernel
theorem dX0_findVex_33 : decode cX0_findVex 33 = .ok (.iload_n 1, 1) := by decide +kernel
theorem dX0_findVex_34 : decode cX0_findVex 34 = .ok (.iload_n 2, 1) := by decide +kernel
theorem dX0_findVex_35 : decode cX0_findVex 35 = .ok (.invokevirtual 54, 3) := by decide +kernel
theorem dX0_findVex_38 : decode cX0_findVex 38 = .ok (.istore_n 3, 1) := by decide +kernel
theorem dX0_findVex_39 : decode cX0_findVex 39 = .ok (.iconst 1, 1) := by decide +kernel
theorem dX0_findVex_40 : decode cX0_findVex 40 = .ok (.istore 4, 2) := by decide +kernel
theorem dX0_findVex_42 : decode cX0_findVex 42 = .ok (.iload 4, 2) := by decide +kernel
theorem dX0_findVex_44 : decode cX0_findVex 44 = .ok (.bipush 6, 2) := by decide +kernel
theorem dX0_findVex_46 : decode cX0_findVex 46 = .ok (.if_icmp .ge 52, 3) := by decide +kernel
theorem dX0_findVex_49 : decode cX0_findVex 49 = .ok (.iload_n 3, 1) := by decide +kernel
theorem dX0_findVex_50 : decode cX0_findVex 50 = .ok (.bipush (-4), 2) := by decide +kernel
theorem dX0_findVex_52 : decode cX0_findVex 52 = .ok (.if_icmp .eq 46, 3) := by decide +kernel
theorem dX0_findVex_55 : decode cX0_findVex 55 = .ok (.iload 4, 2) := by decide +kernel
theorem dX0_findVex_57 : decode cX0_findVex 57 = .ok (.aload_n 0, 1) := by decide +kernel
theorem dX0_findVex_58 : decode cX0_findVex 58 = .ok (.getfield 15, 3) := by decide +kernel
theorem dX0_findVex_61 : decode cX0_findVex 61 = .ok (.iload_n 1, 1) := by decide +kernel
theorem dX0_findVex_62 : decode cX0_findVex 62 = .ok (.iload_n 2, 1) := by decide +kernel
theorem dX0_findVex_63 : decode cX0_findVex 63 = .ok (.invokevirtual 28, 3) := by decide +kernel
theorem dX0_findVex_66 : decode cX0_findVex 66 = .ok (.if_icmp .eq 26, 3) := by decide +kernel
theorem dX0_findVex_69 : decode cX0_findVex 69 = .ok (.aload_n 0, 1) := by decide +kernel
theorem dX0_findVex_70 : decode cX0_findVex 70 = .ok (.getfield 9, 3) := by decide +kernel
theorem dX0_findVex_73 : decode cX0_findVex 73 = .ok (.iload_n 1, 1) := by decide +kernel
theorem dX0_findVex_74 : decode cX0_findVex 74 = .ok (.iload_n 2, 1) := by decide +kernel
theorem dX0_findVex_75 : decode cX0_findVex 75 = .ok (.iload 4, 2) := by decide +kernel
theorem dX0_findVex_77 : decode cX0_findVex 77 = .ok (.invokevirtual 37, 3) := by decide +kernel
theorem dX0_findVex_80 : decode cX0_findVex 80 = .ok (.ifCond .eq 12, 3) := by decide +kernel
theorem dX0_findVex_83 : decode cX0_findVex 83 = .ok (.aload_n 0, 1) := by decide +kernel
theorem dX0_findVex_84 : decode cX0_findVex 84 = .ok (.iload_n 1, 1) := by decide +kernel
theorem dX0_findVex_85 : decode cX0_findVex 85 = .ok (.iload_n 2, 1) := by decide +kernel
theorem dX0_findVex_86 : decode cX0_findVex 86 = .ok (.iload_n 3, 1) := by decide +kernel
theorem dX0_findVex_87 : decode cX0_findVex 87 = .ok (.iload 4, 2) := by decide +kernel
theorem dX0_findVex_89 : decode cX0_findVex 89 = .ok (.invokevirtual 57, 3) := by decide +kernel
theorem dX0_findVex_92 : decode cX0_findVex 92 = .ok (.iinc 4 1, 3) := by decide +kernel
theorem dX0_findVex_95 : decode cX0_findVex 95 = .ok (.goto (-53), 3) := by decide +kernel
theorem dX0_findVex_98 : decode cX0_findVex 98 = .ok (.iinc 2 1, 3) := by decide +kernel
theorem dX0_findVex_101 : decode cX0_findVex 101 = .ok (.goto (-83), 3) := by decide +kernel
theorem dX0_findVex_104 : decode cX0_findVex 104 = .ok (.return_, 1) := by decide +kernel
theorem dX0_weighVex_0 : decode cX0_weighVex 0 = .ok (.iconst 1, 1) := by decide +kernel
theorem dX0_weighVex_1 : decode cX0_weighVex 1 = .ok (.iload_n 1, 1) := by decide +kernel
theorem dX0_weighVex_2 : decode cX0_weighVex 2 = .ok (.isub, 1) := by decide +kernel
theorem dX0_weighVex_3 : decode cX0_weighVex 3 = .ok (.istore 5, 2) := by decide +kernel
theorem dX0_weighVex_5 : decode cX0_weighVex 5 = .ok (.aload_n 0, 1) := by decide +kernel
theorem dX0_weighVex_6 : decode cX0_weighVex 6 = .ok (.getfield 9, 3) := by decide +kernel
theorem dX0_weighVex_9 : decode cX0_weighVex 9 = .ok (.iload 4, 2) := by decide +kernel
theorem dX0_weighVex_11 : decode cX0_weighVex 11 = .ok (.invokevirtual 61, 3) := by decide +kernel
theorem dX0_weighVex_14 : decode cX0_weighVex 14 = .ok (.istore 6, 2) := by decide +kernel
theorem dX0_weighVex_16 : decode cX0_weighVex 16 = .ok (.aload_n 0, 1) := by decide +kernel
theorem dX0_weighVex_17 : decode cX0_weighVex 17 = .ok (.getfield 9, 3) := by decide +kernel
theorem dX0_weighVex_20 : decode cX0_weighVex 20 = .ok (.iload 5, 2) := by decide +kernel
theorem dX0_weighVex_22 : decode cX0_weighVex 22 = .ok (.iload 6, 2) := by decide +kernel
theorem dX0_weighVex_24 : decode cX0_weighVex 24 = .ok (.invokevirtual 25, 3) := by decide +kernel
theorem dX0_weighVex_27 : decode cX0_weighVex 27 = .ok (.aload_n 0, 1) := by decide +kernel
theorem dX0_weighVex_28 : decode cX0_weighVex 28 = .ok (.getfield 9, 3) := by decide +kernel
theorem dX0_weighVex_31 : decode cX0_weighVex 31 = .ok (.iload 5, 2) := by decide +kernel
theorem dX0_weighVex_33 : decode cX0_weighVex 33 = .ok (.aload_n 0, 1) := by decide +kernel
theorem dX0_weighVex_34 : decode cX0_weighVex 34 = .ok (.getfield 15, 3) := by decide +kernel
theorem dX0_weighVex_37 : decode cX0_weighVex 37 = .ok (.iload 5, 2) := by decide +kernel
theorem dX0_weighVex_39 : decode cX0_weighVex 39 = .ok (.iload_n 3, 1) := by decide +kernel
theorem dX0_weighVex_40 : decode cX0_weighVex 40 = .ok (.invokevirtual 28, 3) := by decide +kernel
theorem dX0_weighVex_43 : decode cX0_weighVex 43 = .ok (.invokevirtual 19, 3) := by decide +kernel
theorem dX0_weighVex_46 : decode cX0_weighVex 46 = .ok (.iadd, 1) := by decide +kernel
theorem dX0_weighVex_47 : decode cX0_weighVex 47 = .ok (.aload_n 0, 1) := by decide +kernel
theorem dX0_weighVex_48 : decode cX0_weighVex 48 = .ok (.getfield 9, 3) := by decide +kernel
theorem dX0_weighVex_51 : decode cX0_weighVex 51 = .ok (.iload 5, 2) := by decide +kernel
theorem dX0_weighVex_53 : decode cX0_weighVex 53 = .ok (.iload 6, 2) := by decide +kernel
theorem dX0_weighVex_55 : decode cX0_weighVex 55 = .ok (.invokevirtual 19, 3) := by decide +kernel
theorem dX0_weighVex_58 : decode cX0_weighVex 58 = .ok (.isub, 1) := by decide +kernel
theorem dX0_weighVex_59 : decode cX0_weighVex 59 = .ok (.istore 7, 2) := by decide +kernel
theorem dX0_weighVex_61 : decode cX0_weighVex 61 = .ok (.iload 7, 2) := by decide +kernel
theorem dX0_weighVex_63 : decode cX0_weighVex 63 = .ok (.aload_n 0, 1) := by decide +kernel
theorem dX0_weighVex_64 : decode cX0_weighVex 64 = .ok (.getfield 41, 3) := by decide +kernel
theorem dX0_weighVex_67 : decode cX0_weighVex 67 = .ok (.if_icmp .ne 32, 3) := by decide +kernel
theorem dX0_weighVex_70 : decode cX0_weighVex 70 = .ok (.aload_n 0, 1) := by decide +kernel
theorem dX0_weighVex_71 : decode cX0_weighVex 71 = .ok (.getfield 9, 3) := by decide +kernel
theorem dX0_weighVex_74 : decode cX0_weighVex 74 = .ok (.iload_n 1, 1) := by decide +kernel
theorem dX0_weighVex_75 : decode cX0_weighVex 75 = .ok (.iload 4, 2) := by decide +kernel
theorem dX0_weighVex_77 : decode cX0_weighVex 77 = .ok (.invokevirtual 25, 3) := by decide +kernel
theorem dX0_weighVex_80 : decode cX0_weighVex 80 = .ok (.aload_n 0, 1) := by decide +kernel
theorem dX0_weighVex_81 : decode cX0_weighVex 81 = .ok (.getfield 9, 3) := by decide +kernel
theorem dX0_weighVex_84 : decode cX0_weighVex 84 = .ok (.iload_n 1, 1) := by decide +kernel
theorem dX0_weighVex_85 : decode cX0_weighVex 85 = .ok (.aload_n 0, 1) := by decide +kernel
theorem dX0_weighVex_86 : decode cX0_weighVex 86 = .ok (.getfield 48, 3) := by decide +kernel
theorem dX0_weighVex_89 : decode cX0_weighVex 89 = .ok (.invokevirtual 25, 3) := by decide +kernel
theorem dX0_weighVex_92 : decode cX0_weighVex 92 = .ok (.if_icmp .ge 7, 3) := by decide +kernel
theorem dX0_weighVex_95 : decode cX0_weighVex 95 = .ok (.iconst 1, 1) := by decide +kernel
theorem dX0_weighVex_96 : decode cX0_weighVex 96 = .ok (.goto 4, 3) := by decide +kernel
theorem dX0_weighVex_99 : decode cX0_weighVex 99 = .ok (.iconst 0, 1) := by decide +kernel
theorem dX0_weighVex_100 : decode cX0_weighVex 100 = .ok (.istore 8, 2) := by decide +kernel
theorem dX0_weighVex_102 : decode cX0_weighVex 102 = .ok (.aload_n 0, 1) := by decide +kernel
theorem dX0_weighVex_103 : decode cX0_weighVex 103 = .ok (.getfield 45, 3) := by decide +kernel
theorem dX0_weighVex_106 : decode cX0_weighVex 106 = .ok (.bipush (-4), 2) := by decide +kernel
theorem dX0_weighVex_108 : decode cX0_weighVex 108 = .ok (.if_icmp .eq 17, 3) := by decide +kernel
theorem dX0_weighVex_111 : decode cX0_weighVex 111 = .ok (.iload 7, 2) := by decide +kernel
theorem dX0_weighVex_113 : decode cX0_weighVex 113 = .ok (.aload_n 0, 1) := by decide +kernel
theorem dX0_weighVex_114 : decode cX0_weighVex 114 = .ok (.getfield 41, 3) := by decide +kernel
theorem dX0_weighVex_117 : decode cX0_weighVex 117 = .ok (.if_icmp .gt 8, 3) := by decide +kernel
theorem dX0_weighVex_120 : decode cX0_weighVex 120 = .ok (.iload 8, 2) := by decide +kernel
theorem dX0_weighVex_122 : decode cX0_weighVex 122 = .ok (.ifCond .eq 20, 3) := by decide +kernel
theorem dX0_weighVex_125 : decode cX0_weighVex 125 = .ok (.aload_n 0, 1) := by decide +kernel
theorem dX0_weighVex_126 : decode cX0_weighVex 126 = .ok (.iload 7, 2) := by decide +kernel
theorem dX0_weighVex_128 : decode cX0_weighVex 128 = .ok (.putfield 41, 3) := by decide +kernel
theorem dX0_weighVex_131 : decode cX0_weighVex 131 = .ok (.aload_n 0, 1) := by decide +kernel
theorem dX0_weighVex_132 : decode cX0_weighVex 132 = .ok (.iload_n 2, 1) := by decide +kernel
theorem dX0_weighVex_133 : decode cX0_weighVex 133 = .ok (.putfield 45, 3) := by decide +kernel
theorem dX0_weighVex_136 : decode cX0_weighVex 136 = .ok (.aload_n 0, 1) := by decide +kernel
theorem dX0_weighVex_137 : decode cX0_weighVex 137 = .ok (.iload 4, 2) := by decide +kernel
theorem dX0_weighVex_139 : decode cX0_weighVex 139 = .ok (.putfield 48, 3) := by decide +kernel
theorem dX0_weighVex_142 : decode cX0_weighVex 142 = .ok (.return_, 1) := by decide +kernel
theorem dX1_init_0 : decode cX1_init 0 = .ok (.aload_n 0, 1) := by decide +kernel
theorem dX1_init_1 : decode cX1_init 1 = .ok (.invokespecial 3, 3) := by decide +kernel
theorem dX1_init_4 : decode cX1_init 4 = .ok (.aload_n 0, 1) := by decide +kernel
theorem dX1_init_5 : decode cX1_init 5 = .ok (.iconst 4, 1) := by decide +kernel
theorem dX1_init_6 : decode cX1_init 6 = .ok (.newarray .int, 2) := by decide +kernel
theorem dX1_init_8 : decode cX1_init 8 = .ok (.putfield 9, 3) := by decide +kernel
theorem dX1_init_11 : decode cX1_init 11 = .ok (.aload_n 0, 1) := by decide +kernel
theorem dX1_init_12 : decode cX1_init 12 = .ok (.iconst 2, 1) := by decide +kernel
theorem dX1_init_13 : decode cX1_init 13 = .ok (.bipush 6, 2) := by decide +kernel
theorem dX1_init_15 : decode cX1_init 15 = .ok (.multianewarray 15 2, 4) := by decide +kernel
theorem dX1_init_19 : decode cX1_init 19 = .ok (.putfield 17, 3) := by decide +kernel
theorem dX1_init_22 : decode cX1_init 22 = .ok (.aload_n 0, 1) := by decide +kernel
theorem dX1_init_23 : decode cX1_init 23 = .ok (.iconst 2, 1) := by decide +kernel
theorem dX1_init_24 : decode cX1_init 24 = .ok (.bipush 6, 2) := by decide +kernel
theorem dX1_init_26 : decode cX1_init 26 = .ok (.multianewarray 15 2, 4) := by decide +kernel
theorem dX1_init_30 : decode cX1_init 30 = .ok (.putfield 20, 3) := by decide +kernel
theorem dX1_init_33 : decode cX1_init 33 = .ok (.aload_n 0, 1) := by decide +kernel
theorem dX1_init_34 : decode cX1_init 34 = .ok (.iconst 2, 1) := by decide +kernel
theorem dX1_init_35 : decode cX1_init 35 = .ok (.newarray .int, 2) := by decide +kernel
theorem dX1_init_37 : decode cX1_init 37 = .ok (.putfield 23, 3) := by decide +kernel
theorem dX1_init_40 : decode cX1_init 40 = .ok (.aload_n 0, 1) := by decide +kernel
theorem dX1_init_41 : decode cX1_init 41 = .ok (.bipush 6, 2) := by decide +kernel
theorem dX1_init_43 : decode cX1_init 43 = .ok (.newarray .int, 2) := by decide +kernel
theorem dX1_init_45 : decode cX1_init 45 = .ok (.putfield 26, 3) := by decide +kernel
theorem dX1_init_48 : decode cX1_init 48 = .ok (.aload_n 0, 1) := by decide +kernel
theorem dX1_init_49 : decode cX1_init 49 = .ok (.iconst 4, 1) := by decide +kernel
theorem dX1_init_50 : decode cX1_init 50 = .ok (.newarray .int, 2) := by decide +kernel
theorem dX1_init_52 : decode cX1_init 52 = .ok (.putfield 29, 3) := by decide +kernel
theorem dX1_init_55 : decode cX1_init 55 = .ok (.aload_n 0, 1) := by decide +kernel
theorem dX1_init_56 : decode cX1_init 56 = .ok (.invokevirtual 32, 3) := by decide +kernel
theorem dX1_init_59 : decode cX1_init 59 = .ok (.return_, 1) := by decide +kernel
theorem dX1_setFirst_0 : decode cX1_setFirst 0 = .ok (.aload_n 0, 1) := by decide +kernel
theorem dX1_setFirst_1 : decode cX1_setFirst 1 = .ok (.iconst 5, 1) := by decide +kernel
theorem dX1_setFirst_2 : decode cX1_setFirst 2 = .ok (.putfield 35, 3) := by decide +kernel
theorem dX1_setFirst_5 : decode cX1_setFirst 5 = .ok (.aload_n 0, 1) := by decide +kernel
theorem dX1_setFirst_6 : decode cX1_setFirst 6 = .ok (.iconst 3, 1) := by decide +kernel
theorem dX1_setFirst_7 : decode cX1_setFirst 7 = .ok (.putfield 39, 3) := by decide +kernel
theorem dX1_setFirst_10 : decode cX1_setFirst 10 = .ok (.aload_n 0, 1) := by decide +kernel
theorem dX1_setFirst_11 : decode cX1_setFirst 11 = .ok (.iconst 1, 1) := by decide +kernel
theorem dX1_setFirst_12 : decode cX1_setFirst 12 = .ok (.putfield 42, 3) := by decide +kernel
theorem dX1_setFirst_15 : decode cX1_setFirst 15 = .ok (.aload_n 0, 1) := by decide +kernel
theorem dX1_setFirst_16 : decode cX1_setFirst 16 = .ok (.iconst 0, 1) := by decide +kernel
theorem dX1_setFirst_17 : decode cX1_setFirst 17 = .ok (.putfield 45, 3) := by decide +kernel
theorem dX1_setFirst_20 : decode cX1_setFirst 20 = .ok (.iconst 0, 1) := by decide +kernel
theorem dX1_setFirst_21 : decode cX1_setFirst 21 = .ok (.istore_n 1, 1) := by decide +kernel
theorem dX1_setFirst_22 : decode cX1_setFirst 22 = .ok (.iload_n 1, 1) := by decide +kernel
theorem dX1_setFirst_23 : decode cX1_setFirst 23 = .ok (.iconst 4, 1) := by decide +kernel
theorem dX1_setFirst_24 : decode cX1_setFirst 24 = .ok (.if_icmp .ge 16, 3) := by decide +kernel
theorem dX1_setFirst_27 : decode cX1_setFirst 27 = .ok (.aload_n 0, 1) := by decide +kernel
theorem dX1_setFirst_28 : decode cX1_setFirst 28 = .ok (.getfield 9, 3) := by decide +kernel
theorem dX1_setFirst_31 : decode cX1_setFirst 31 = .ok (.iload_n 1, 1) := by decide +kernel
theorem dX1_setFirst_32 : decode cX1_setFirst 32 = .ok (.iconst 1, 1) := by decide +kernel
theorem dX1_setFirst_33 : decode cX1_setFirst 33 = .ok (.iastore, 1) := by decide +kernel
theorem dX1_setFirst_34 : decode cX1_setFirst 34 = .ok (.iinc 1 1, 3) := by decide +kernel
theorem dX1_setFirst_37 : decode cX1_setFirst 37 = .ok (.goto (-15), 3) := by decide +kernel
theorem dX1_setFirst_40 : decode cX1_setFirst 40 = .ok (.iconst 0, 1) := by decide +kernel
theorem dX1_setFirst_41 : decode cX1_setFirst 41 = .ok (.istore_n 1, 1) := by decide +kernel
theorem dX1_setFirst_42 : decode cX1_setFirst 42 = .ok (.iload_n 1, 1) := by decide +kernel
theorem dX1_setFirst_43 : decode cX1_setFirst 43 = .ok (.iconst 2, 1) := by decide +kernel
theorem dX1_setFirst_44 : decode cX1_setFirst 44 = .ok (.if_icmp .ge 48, 3) := by decide +kernel
theorem dX1_setFirst_47 : decode cX1_setFirst 47 = .ok (.aload_n 0, 1) := by decide +kernel
theorem dX1_setFirst_48 : decode cX1_setFirst 48 = .ok (.getfield 23, 3) := by decide +kernel
theorem dX1_setFirst_51 : decode cX1_setFirst 51 = .ok (.iload_n 1, 1) := by decide +kernel
theorem dX1_setFirst_52 : decode cX1_setFirst 52 = .ok (.iconst 0, 1) := by decide +kernel
theorem dX1_setFirst_53 : decode cX1_setFirst 53 = .ok (.iastore, 1) := by decide +kernel
theorem dX1_setFirst_54 : decode cX1_setFirst 54 = .ok (.iconst 1, 1) := by decide +kernel
theorem dX1_setFirst_55 : decode cX1_setFirst 55 = .ok (.istore_n 2, 1) := by decide +kernel
theorem dX1_setFirst_56 : decode cX1_setFirst 56 = .ok (.iload_n 2, 1) := by decide +kernel
theorem dX1_setFirst_57 : decode cX1_setFirst 57 = .ok (.bipush 6, 2) := by decide +kernel
theorem dX1_setFirst_59 : decode cX1_setFirst 59 = .ok (.if_icmp .ge 27, 3) := by decide +kernel
theorem dX1_setFirst_62 : decode cX1_setFirst 62 = .ok (.aload_n 0, 1) := by decide +kernel
theorem dX1_setFirst_63 : decode cX1_setFirst 63 = .ok (.getfield 17, 3) := by decide +kernel
theorem dX1_setFirst_66 : decode cX1_setFirst 66 = .ok (.iload_n 1, 1) := by decide +kernel
theorem dX1_setFirst_67 : decode cX1_setFirst 67 = .ok (.aaload, 1) := by decide +kernel
theorem dX1_setFirst_68 : decode cX1_setFirst 68 = .ok (.iload_n 2, 1) := by decide +kernel
theorem dX1_setFirst_69 : decode cX1_setFirst 69 = .ok (.iconst 5, 1) := by decide +kernel
theorem dX1_setFirst_70 : decode cX1_setFirst 70 = .ok (.iastore, 1) := by decide +kernel
theorem dX1_setFirst_71 : decode cX1_setFirst 71 = .ok (.aload_n 0, 1) := by decide +kernel
theorem dX1_setFirst_72 : decode cX1_setFirst 72 = .ok (.getfield 20, 3) := by decide +kernel
theorem dX1_setFirst_75 : decode cX1_setFirst 75 = .ok (.iload_n 1, 1) := by decide +kernel
theorem dX1_setFirst_76 : decode cX1_setFirst 76 = .ok (.aaload, 1) := by decide +kernel
theorem dX1_setFirst_77 : decode cX1_setFirst 77 = .ok (.iload_n 2, 1) := by decide +kernel
theorem dX1_setFirst_78 : decode cX1_setFirst 78 = .ok (.iconst 3, 1) := by decide +kernel
theorem dX1_setFirst_79 : decode cX1_setFirst 79 = .ok (.iastore, 1) := by decide +kernel
theorem dX1_setFirst_80 : decode cX1_setFirst 80 = .ok (.iinc 2 1, 3) := by decide +kernel
theorem dX1_setFirst_83 : decode cX1_setFirst 83 = .ok (.goto (-27), 3) := by decide +kernel
theorem dX1_setFirst_86 : decode cX1_setFirst 86 = .ok (.iinc 1 1, 3) := by decide +kernel
theorem dX1_setFirst_89 : decode cX1_setFirst 89 = .ok (.goto (-47), 3) := by decide +kernel
theorem dX1_setFirst_92 : decode cX1_setFirst 92 = .ok (.iconst 0, 1) := by decide +kernel
theorem dX1_setFirst_93 : decode cX1_setFirst 93 = .ok (.istore_n 1, 1) := by decide +kernel
theorem dX1_setFirst_94 : decode cX1_setFirst 94 = .ok (.iload_n 1, 1) := by decide +kernel
theorem dX1_setFirst_95 : decode cX1_setFirst 95 = .ok (.bipush 6, 2) := by decide +kernel
theorem dX1_setFirst_97 : decode cX1_setFirst 97 = .ok (.if_icmp .ge 16, 3) := by decide +kernel
theorem dX1_setFirst_100 : decode cX1_setFirst 100 = .ok (.aload_n 0, 1) := by decide +kernel
theorem dX1_setFirst_101 : decode cX1_setFirst 101 = .ok (.getfield 26, 3) := by decide +kernel
theorem dX1_setFirst_104 : decode cX1_setFirst 104 = .ok (.iload_n 1, 1) := by decide +kernel
theorem dX1_setFirst_105 : decode cX1_setFirst 105 = .ok (.iload_n 1, 1) := by decide +kernel
theorem dX1_setFirst_106 : decode cX1_setFirst 106 = .ok (.iastore, 1) := by decide +kernel
theorem dX1_setFirst_107 : decode cX1_setFirst 107 = .ok (.iinc 1 1, 3) := by decide +kernel
theorem dX1_setFirst_110 : decode cX1_setFirst 110 = .ok (.goto (-16), 3) := by decide +kernel
theorem dX1_setFirst_113 : decode cX1_setFirst 113 = .ok (.iconst 0, 1) := by decide +kernel
theorem dX1_setFirst_114 : decode cX1_setFirst 114 = .ok (.istore_n 1, 1) := by decide +kernel
theorem dX1_setFirst_115 : decode cX1_setFirst 115 = .ok (.iload_n 1, 1) := by decide +kernel
theorem dX1_setFirst_116 : decode cX1_setFirst 116 = .ok (.iconst 4, 1) := by decide +kernel
theorem dX1_setFirst_117 : decode cX1_setFirst 117 = .ok (.if_icmp .ge 16, 3) := by decide +kernel
theorem dX1_setFirst_120 : decode cX1_setFirst 120 = .ok (.aload_n 0, 1) := by decide +kernel
theorem dX1_setFirst_121 : decode cX1_setFirst 121 = .ok (.getfield 29, 3) := by decide +kernel
theorem dX1_setFirst_124 : decode cX1_setFirst 124 = .ok (.iload_n 1, 1) := by decide +kernel
theorem dX1_setFirst_125 : decode cX1_setFirst 125 = .ok (.iload_n 1, 1) := by decide +kernel
theorem dX1_setFirst_126 : decode cX1_setFirst 126 = .ok (.iastore, 1) := by decide +kernel
theorem dX1_setFirst_127 : decode cX1_setFirst 127 = .ok (.iinc 1 1, 3) := by decide +kernel
theorem dX1_setFirst_130 : decode cX1_setFirst 130 = .ok (.goto (-15), 3) := by decide +kernel
theorem dX1_setFirst_133 : decode cX1_setFirst 133 = .ok (.return_, 1) := by decide +kernel
theorem dX1_copyFrom_0 : decode cX1_copyFrom 0 = .ok (.aload_n 0, 1) := by decide +kernel
theorem dX1_copyFrom_1 : decode cX1_copyFrom 1 = .ok (.aload_n 1, 1) := by decide +kernel
theorem dX1_copyFrom_2 : decode cX1_copyFrom 2 = .ok (.getfield 35, 3) := by decide +kernel
theorem dX1_copyFrom_5 : decode cX1_copyFrom 5 = .ok (.putfield 35, 3) := by decide +kernel
theorem dX1_copyFrom_8 : decode cX1_copyFrom 8 = .ok (.aload_n 0, 1) := by decide +kernel
theorem dX1_copyFrom_9 : decode cX1_copyFrom 9 = .ok (.aload_n 1, 1) := by decide +kernel
theorem dX1_copyFrom_10 : decode cX1_copyFrom 10 = .ok (.getfield 39, 3) := by decide +kernel
theorem dX1_copyFrom_13 : decode cX1_copyFrom 13 = .ok (.putfield 39, 3) := by decide +kernel
theorem dX1_copyFrom_16 : decode cX1_copyFrom 16 = .ok (.aload_n 0, 1) := by decide +kernel
theorem dX1_copyFrom_17 : decode cX1_copyFrom 17 = .ok (.aload_n 1, 1) := by decide +kernel
theorem dX1_copyFrom_18 : decode cX1_copyFrom 18 = .ok (.getfield 42, 3) := by decide +kernel
theorem dX1_copyFrom_21 : decode cX1_copyFrom 21 = .ok (.putfield 42, 3) := by decide +kernel
theorem dX1_copyFrom_24 : decode cX1_copyFrom 24 = .ok (.aload_n 0, 1) := by decide +kernel
theorem dX1_copyFrom_25 : decode cX1_copyFrom 25 = .ok (.aload_n 1, 1) := by decide +kernel
theorem dX1_copyFrom_26 : decode cX1_copyFrom 26 = .ok (.getfield 45, 3) := by decide +kernel
theorem dX1_copyFrom_29 : decode cX1_copyFrom 29 = .ok (.putfield 45, 3) := by decide +kernel
theorem dX1_copyFrom_32 : decode cX1_copyFrom 32 = .ok (.aload_n 1, 1) := by decide +kernel
theorem dX1_copyFrom_33 : decode cX1_copyFrom 33 = .ok (.getfield 9, 3) := by decide +kernel
theorem dX1_copyFrom_36 : decode cX1_copyFrom 36 = .ok (.iconst 0, 1) := by decide +kernel
theorem dX1_copyFrom_37 : decode cX1_copyFrom 37 = .ok (.aload_n 0, 1) := by decide +kernel
theorem dX1_copyFrom_38 : decode cX1_copyFrom 38 = .ok (.getfield 9, 3) := by decide +kernel
theorem dX1_copyFrom_41 : decode cX1_copyFrom 41 = .ok (.iconst 0, 1) := by decide +kernel
theorem dX1_copyFrom_42 : decode cX1_copyFrom 42 = .ok (.iconst 4, 1) := by decide +kernel
theorem dX1_copyFrom_43 : decode cX1_copyFrom 43 = .ok (.invokestatic 48, 3) := by decide +kernel
theorem dX1_copyFrom_46 : decode cX1_copyFrom 46 = .ok (.aload_n 1, 1) := by decide +kernel
theorem dX1_copyFrom_47 : decode cX1_copyFrom 47 = .ok (.getfield 23, 3) := by decide +kernel
theorem dX1_copyFrom_50 : decode cX1_copyFrom 50 = .ok (.iconst 0, 1) := by decide +kernel
theorem dX1_copyFrom_51 : decode cX1_copyFrom 51 = .ok (.aload_n 0, 1) := by decide +kernel
theorem dX1_copyFrom_52 : decode cX1_copyFrom 52 = .ok (.getfield 23, 3) := by decide +kernel
theorem dX1_copyFrom_55 : decode cX1_copyFrom 55 = .ok (.iconst 0, 1) := by decide +kernel
theorem dX1_copyFrom_56 : decode cX1_copyFrom 56 = .ok (.iconst 2, 1) := by decide +kernel
theorem dX1_copyFrom_57 : decode cX1_copyFrom 57 = .ok (.invokestatic 48, 3) := by decide +kernel
theorem dX1_copyFrom_60 : decode cX1_copyFrom 60 = .ok (.aload_n 1, 1) := by decide +kernel
theorem dX1_copyFrom_61 : decode cX1_copyFrom 61 = .ok (.getfield 26, 3) := by decide +kernel
theorem dX1_copyFrom_64 : decode cX1_copyFrom 64 = .ok (.iconst 0, 1) := by decide +kernel
theorem dX1_copyFrom_65 : decode cX1_copyFrom 65 = .ok (.aload_n 0, 1) := by decide +kernel
theorem dX1_copyFrom_66 : decode cX1_copyFrom 66 = .ok (.getfield 26, 3) := by decide +kernel
theorem dX1_copyFrom_69 : decode cX1_copyFrom 69 = .ok (.iconst 0, 1) := by decide +kernel
theorem dX1_copyFrom_70 : decode cX1_copyFrom 70 = .ok (.bipush 6, 2) := by decide +kernel
theorem dX1_copyFrom_72 : decode cX1_copyFrom 72 = .ok (.invokestatic 48, 3) := by decide +kernel
theorem dX1_copyFrom_75 : decode cX1_copyFrom 75 = .ok (.aload_n 1, 1) := by decide +kernel
theorem dX1_copyFrom_76 : decode cX1_copyFrom 76 = .ok (.getfield 29, 3) := by decide +kernel
theorem dX1_copyFrom_79 : decode cX1_copyFrom 79 = .ok (.iconst 0, 1) := by decide +kernel
theorem dX1_copyFrom_80 : decode cX1_copyFrom 80 = .ok (.aload_n 0, 1) := by decide +kernel
theorem dX1_copyFrom_81 : decode cX1_copyFrom 81 = .ok (.getfield 29, 3) := by decide +kernel
theorem dX1_copyFrom_84 : decode cX1_copyFrom 84 = .ok (.iconst 0, 1) := by decide +kernel
theorem dX1_copyFrom_85 : decode cX1_copyFrom 85 = .ok (.iconst 4, 1) := by decide +kernel
theorem dX1_copyFrom_86 : decode cX1_copyFrom 86 = .ok (.invokestatic 48, 3) := by decide +kernel
theorem dX1_copyFrom_89 : decode cX1_copyFrom 89 = .ok (.iconst 0, 1) := by decide +kernel
theorem dX1_copyFrom_90 : decode cX1_copyFrom 90 = .ok (.istore_n 2, 1) := by decide +kernel
theorem dX1_copyFrom_91 : decode cX1_copyFrom 91 = .ok (.iload_n 2, 1) := by decide +kernel
theorem dX1_copyFrom_92 : decode cX1_copyFrom 92 = .ok (.iconst 2, 1) := by decide +kernel
theorem dX1_copyFrom_93 : decode cX1_copyFrom 93 = .ok (.if_icmp .ge 47, 3) := by decide +kernel
theorem dX1_copyFrom_96 : decode cX1_copyFrom 96 = .ok (.aload_n 1, 1) := by decide +kernel
theorem dX1_copyFrom_97 : decode cX1_copyFrom 97 = .ok (.getfield 17, 3) := by decide +kernel
theorem dX1_copyFrom_100 : decode cX1_copyFrom 100 = .ok (.iload_n 2, 1) := by decide +kernel
theorem dX1_copyFrom_101 : decode cX1_copyFrom 101 = .ok (.aaload, 1) := by decide +kernel
theorem dX1_copyFrom_102 : decode cX1_copyFrom 102 = .ok (.iconst 0, 1) := by decide +kernel
theorem dX1_copyFrom_103 : decode cX1_copyFrom 103 = .ok (.aload_n 0, 1) := by decide +kernel
theorem dX1_copyFrom_104 : decode cX1_copyFrom 104 = .ok (.getfield 17, 3) := by decide +kernel
theorem dX1_copyFrom_107 : decode cX1_copyFrom 107 = .ok (.iload_n 2, 1) := by decide +kernel
theorem dX1_copyFrom_108 : decode cX1_copyFrom 108 = .ok (.aaload, 1) := by decide +kernel
theorem dX1_copyFrom_109 : decode cX1_copyFrom 109 = .ok (.iconst 0, 1) := by decide +kernel
theorem dX1_copyFrom_110 : decode cX1_copyFrom 110 = .ok (.bipush 6, 2) := by decide +kernel
theorem dX1_copyFrom_112 : decode cX1_copyFrom 112 = .ok (.invokestatic 48, 3) := by decide +kernel
theorem dX1_copyFrom_115 : decode cX1_copyFrom 115 = .ok (.aload_n 1, 1) := by decide +kernel
theorem dX1_copyFrom_116 : decode cX1_copyFrom 116 = .ok (.getfield 20, 3) := by decide +kernel
theorem dX1_copyFrom_119 : decode cX1_copyFrom 119 = .ok (.iload_n 2, 1) := by decide +kernel
theorem dX1_copyFrom_120 : decode cX1_copyFrom 120 = .ok (.aaload, 1) := by decide +kernel
theorem dX1_copyFrom_121 : decode cX1_copyFrom 121 = .ok (.iconst 0, 1) := by decide +kernel
theorem dX1_copyFrom_122 : decode cX1_copyFrom 122 = .ok (.aload_n 0, 1) := by decide +kernel
theorem dX1_copyFrom_123 : decode cX1_copyFrom 123 = .ok (.getfield 20, 3) := by decide +kernel
theorem dX1_copyFrom_126 : decode cX1_copyFrom 126 = .ok (.iload_n 2, 1) := by decide +kernel
theorem dX1_copyFrom_127 : decode cX1_copyFrom 127 = .ok (.aaload, 1) := by decide +kernel
theorem dX1_copyFrom_128 : decode cX1_copyFrom 128 = .ok (.iconst 0, 1) := by decide +kernel
theorem dX1_copyFrom_129 : decode cX1_copyFrom 129 = .ok (.bipush 6, 2) := by decide +kernel
theorem dX1_copyFrom_131 : decode cX1_copyFrom 131 = .ok (.invokestatic 48, 3) := by decide +kernel
theorem dX1_copyFrom_134 : decode cX1_copyFrom 134 = .ok (.iinc 2 1, 3) := by decide +kernel
theorem dX1_copyFrom_137 : decode cX1_copyFrom 137 = .ok (.goto (-46), 3) := by decide +kernel
theorem dX1_copyFrom_140 : decode cX1_copyFrom 140 = .ok (.return_, 1) := by decide +kernel
theorem dX1_isLot_0 : decode cX1_isLot 0 = .ok (.iload_n 1, 1) := by decide +kernel
theorem dX1_isLot_1 : decode cX1_isLot 1 = .ok (.iload_n 2, 1) := by decide +kernel
theorem dX1_isLot_2 : decode cX1_isLot 2 = .ok (.invokestatic 54, 3) := by decide +kernel
theorem dX1_isLot_5 : decode cX1_isLot 5 = .ok (.ifCond .eq 15, 3) := by decide +kernel
theorem dX1_isLot_8 : decode cX1_isLot 8 = .ok (.iload_n 2, 1) := by decide +kernel
theorem dX1_isLot_9 : decode cX1_isLot 9 = .ok (.aload_n 0, 1) := by decide +kernel
theorem dX1_isLot_10 : decode cX1_isLot 10 = .ok (.getfield 35, 3) := by decide +kernel
theorem dX1_isLot_13 : decode cX1_isLot 13 = .ok (.if_icmp .ge 7, 3) := by decide +kernel
theorem dX1_isLot_16 : decode cX1_isLot 16 = .ok (.iconst 1, 1) := by decide +kernel
theorem dX1_isLot_17 : decode cX1_isLot 17 = .ok (.goto 4, 3) := by decide +kernel
theorem dX1_isLot_20 : decode cX1_isLot 20 = .ok (.iconst 0, 1) := by decide +kernel
theorem dX1_isLot_21 : decode cX1_isLot 21 = .ok (.ireturn, 1) := by decide +kernel
theorem dX1_twinOf_0 : decode cX1_twinOf 0 = .ok (.iload_n 1, 1) := by decide +kernel
theorem dX1_twinOf_1 : decode cX1_twinOf 1 = .ok (.invokestatic 58, 3) := by decide +kernel
theorem dX1_twinOf_4 : decode cX1_twinOf 4 = .ok (.ifCond .eq 12, 3) := by decide +kernel
theorem dX1_twinOf_7 : decode cX1_twinOf 7 = .ok (.aload_n 0, 1) := by decide +kernel
theorem dX1_twinOf_8 : decode cX1_twinOf 8 = .ok (.getfield 26, 3) := by decide +kernel
theorem dX1_twinOf_11 : decode cX1_twinOf 11 = .ok (.iload_n 1, 1) := by decide +kernel
theorem dX1_twinOf_12 : decode cX1_twinOf 12 = .ok (.iaload, 1) := by decide +kernel
theorem dX1_twinOf_13 : decode cX1_twinOf 13 = .ok (.goto 4, 3) := by decide +kernel
theorem dX1_twinOf_16 : decode cX1_twinOf 16 = .ok (.iconst 0, 1) := by decide +kernel
theorem dX1_twinOf_17 : decode cX1_twinOf 17 = .ok (.ireturn, 1) := by decide +kernel
theorem dX1_costOf_0 : decode cX1_costOf 0 = .ok (.iload_n 1, 1) := by decide +kernel
theorem dX1_costOf_1 : decode cX1_costOf 1 = .ok (.invokestatic 62, 3) := by decide +kernel
theorem dX1_costOf_4 : decode cX1_costOf 4 = .ok (.ifCond .eq 21, 3) := by decide +kernel
theorem dX1_costOf_7 : decode cX1_costOf 7 = .ok (.iload_n 2, 1) := by decide +kernel
theorem dX1_costOf_8 : decode cX1_costOf 8 = .ok (.invokestatic 65, 3) := by decide +kernel
theorem dX1_costOf_11 : decode cX1_costOf 11 = .ok (.ifCond .eq 14, 3) := by decide +kernel
theorem dX1_costOf_14 : decode cX1_costOf 14 = .ok (.aload_n 0, 1) := by decide +kernel
theorem dX1_costOf_15 : decode cX1_costOf 15 = .ok (.getfield 17, 3) := by decide +kernel
theorem dX1_costOf_18 : decode cX1_costOf 18 = .ok (.iload_n 1, 1) := by decide +kernel
theorem dX1_costOf_19 : decode cX1_costOf 19 = .ok (.aaload, 1) := by decide +kernel
theorem dX1_costOf_20 : decode cX1_costOf 20 = .ok (.iload_n 2, 1) := by decide +kernel
theorem dX1_costOf_21 : decode cX1_costOf 21 = .ok (.iaload, 1) := by decide +kernel
theorem dX1_costOf_22 : decode cX1_costOf 22 = .ok (.goto 7, 3) := by decide +kernel
theorem dX1_costOf_25 : decode cX1_costOf 25 = .ok (.aload_n 0, 1) := by decide +kernel
theorem dX1_costOf_26 : decode cX1_costOf 26 = .ok (.getfield 42, 3) := by decide +kernel
theorem dX1_costOf_29 : decode cX1_costOf 29 = .ok (.ireturn, 1) := by decide +kernel
theorem dX1_tasteOf_0 : decode cX1_tasteOf 0 = .ok (.iload_n 1, 1) := by decide +kernel
theorem dX1_tasteOf_1 : decode cX1_tasteOf 1 = .ok (.invokestatic 62, 3) := by decide +kernel
theorem dX1_tasteOf_4 : decode cX1_tasteOf 4 = .ok (.ifCond .eq 21, 3) := by decide +kernel
theorem dX1_tasteOf_7 : decode cX1_tasteOf 7 = .ok (.iload_n 2, 1) := by decide +kernel
theorem dX1_tasteOf_8 : decode cX1_tasteOf 8 = .ok (.invokestatic 65, 3) := by decide +kernel
theorem dX1_tasteOf_11 : decode cX1_tasteOf 11 = .ok (.ifCond .eq 14, 3) := by decide +kernel
theorem dX1_tasteOf_14 : decode cX1_tasteOf 14 = .ok (.aload_n 0, 1) := by decide +kernel
theorem dX1_tasteOf_15 : decode cX1_tasteOf 15 = .ok (.getfield 20, 3) := by decide +kernel
theorem dX1_tasteOf_18 : decode cX1_tasteOf 18 = .ok (.iload_n 1, 1) := by decide +kernel
theorem dX1_tasteOf_19 : decode cX1_tasteOf 19 = .ok (.aaload, 1) := by decide +kernel
theorem dX1_tasteOf_20 : decode cX1_tasteOf 20 = .ok (.iload_n 2, 1) := by decide +kernel
theorem dX1_tasteOf_21 : decode cX1_tasteOf 21 = .ok (.iaload, 1) := by decide +kernel
theorem dX1_tasteOf_22 : decode cX1_tasteOf 22 = .ok (.goto 4, 3) := by decide +kernel
theorem dX1_tasteOf_25 : decode cX1_tasteOf 25 = .ok (.iconst 0, 1) := by decide +kernel
theorem dX1_tasteOf_26 : decode cX1_tasteOf 26 = .ok (.ireturn, 1) := by decide +kernel
theorem dX1_lacks_0 : decode cX1_lacks 0 = .ok (.iload_n 1, 1) := by decide +kernel
theorem dX1_lacks_1 : decode cX1_lacks 1 = .ok (.invokestatic 62, 3) := by decide +kernel
theorem dX1_lacks_4 : decode cX1_lacks 4 = .ok (.ifCond .eq 27, 3) := by decide +kernel
theorem dX1_lacks_7 : decode cX1_lacks 7 = .ok (.iload_n 2, 1) := by decide +kernel
theorem dX1_lacks_8 : decode cX1_lacks 8 = .ok (.invokestatic 65, 3) := by decide +kernel
theorem dX1_lacks_11 : decode cX1_lacks 11 = .ok (.ifCond .eq 20, 3) := by decide +kernel
theorem dX1_lacks_14 : decode cX1_lacks 14 = .ok (.aload_n 0, 1) := by decide +kernel
theorem dX1_lacks_15 : decode cX1_lacks 15 = .ok (.getfield 23, 3) := by decide +kernel
theorem dX1_lacks_18 : decode cX1_lacks 18 = .ok (.iload_n 1, 1) := by decide +kernel
theorem dX1_lacks_19 : decode cX1_lacks 19 = .ok (.iaload, 1) := by decide +kernel
theorem dX1_lacks_20 : decode cX1_lacks 20 = .ok (.iload_n 2, 1) := by decide +kernel
theorem dX1_lacks_21 : decode cX1_lacks 21 = .ok (.ishr, 1) := by decide +kernel
theorem dX1_lacks_22 : decode cX1_lacks 22 = .ok (.iconst 1, 1) := by decide +kernel
theorem dX1_lacks_23 : decode cX1_lacks 23 = .ok (.iand, 1) := by decide +kernel
theorem dX1_lacks_24 : decode cX1_lacks 24 = .ok (.ifCond .eq 7, 3) := by decide +kernel
theorem dX1_lacks_27 : decode cX1_lacks 27 = .ok (.iconst 1, 1) := by decide +kernel
theorem dX1_lacks_28 : decode cX1_lacks 28 = .ok (.goto 4, 3) := by decide +kernel
theorem dX1_lacks_31 : decode cX1_lacks 31 = .ok (.iconst 0, 1) := by decide +kernel
theorem dX1_lacks_32 : decode cX1_lacks 32 = .ok (.ireturn, 1) := by decide +kernel
theorem dX1_mayBuild_0 : decode cX1_mayBuild 0 = .ok (.aload_n 0, 1) := by decide +kernel
theorem dX1_mayBuild_1 : decode cX1_mayBuild 1 = .ok (.iload_n 1, 1) := by decide +kernel
theorem dX1_mayBuild_2 : decode cX1_mayBuild 2 = .ok (.iload_n 3, 1) := by decide +kernel
theorem dX1_mayBuild_3 : decode cX1_mayBuild 3 = .ok (.invokevirtual 68, 3) := by decide +kernel
theorem dX1_mayBuild_6 : decode cX1_mayBuild 6 = .ok (.ifCond .ne 33, 3) := by decide +kernel
theorem dX1_mayBuild_9 : decode cX1_mayBuild 9 = .ok (.aload_n 0, 1) := by decide +kernel
theorem dX1_mayBuild_10 : decode cX1_mayBuild 10 = .ok (.iload_n 1, 1) := by decide +kernel
theorem dX1_mayBuild_11 : decode cX1_mayBuild 11 = .ok (.iload_n 2, 1) := by decide +kernel
theorem dX1_mayBuild_12 : decode cX1_mayBuild 12 = .ok (.invokevirtual 71, 3) := by decide +kernel
theorem dX1_mayBuild_15 : decode cX1_mayBuild 15 = .ok (.bipush (-4), 2) := by decide +kernel
theorem dX1_mayBuild_17 : decode cX1_mayBuild 17 = .ok (.if_icmp .eq 18, 3) := by decide +kernel
theorem dX1_mayBuild_20 : decode cX1_mayBuild 20 = .ok (.aload_n 0, 1) := by decide +kernel
theorem dX1_mayBuild_21 : decode cX1_mayBuild 21 = .ok (.iconst 1, 1) := by decide +kernel
theorem dX1_mayBuild_22 : decode cX1_mayBuild 22 = .ok (.iload_n 1, 1) := by decide +kernel
theorem dX1_mayBuild_23 : decode cX1_mayBuild 23 = .ok (.isub, 1) := by decide +kernel
theorem dX1_mayBuild_24 : decode cX1_mayBuild 24 = .ok (.aload_n 0, 1) := by decide +kernel
theorem dX1_mayBuild_25 : decode cX1_mayBuild 25 = .ok (.iload_n 3, 1) := by decide +kernel
theorem dX1_mayBuild_26 : decode cX1_mayBuild 26 = .ok (.invokevirtual 75, 3) := by decide +kernel
theorem dX1_mayBuild_29 : decode cX1_mayBuild 29 = .ok (.invokevirtual 68, 3) := by decide +kernel
theorem dX1_mayBuild_32 : decode cX1_mayBuild 32 = .ok (.ifCond .ne 7, 3) := by decide +kernel
theorem dX1_mayBuild_35 : decode cX1_mayBuild 35 = .ok (.iconst 1, 1) := by decide +kernel
theorem dX1_mayBuild_36 : decode cX1_mayBuild 36 = .ok (.goto 4, 3) := by decide +kernel
theorem dX1_mayBuild_39 : decode cX1_mayBuild 39 = .ok (.iconst 0, 1) := by decide +kernel
theorem dX1_mayBuild_40 : decode cX1_mayBuild 40 = .ok (.ireturn, 1) := by decide +kernel
theorem dX1_matchOf_0 : decode cX1_matchOf 0 = .ok (.aload_n 0, 1) := by decide +kernel
theorem dX1_matchOf_1 : decode cX1_matchOf 1 = .ok (.aload_n 0, 1) := by decide +kernel
theorem dX1_matchOf_2 : decode cX1_matchOf 2 = .ok (.getfield 39, 3) := by decide +kernel
theorem dX1_matchOf_5 : decode cX1_matchOf 5 = .ok (.iload_n 1, 1) := by decide +kernel
theorem dX1_matchOf_6 : decode cX1_matchOf 6 = .ok (.iload_n 2, 1) := by decide +kernel
theorem dX1_matchOf_7 : decode cX1_matchOf 7 = .ok (.invokevirtual 79, 3) := by decide +kernel
theorem dX1_matchOf_10 : decode cX1_matchOf 10 = .ok (.ireturn, 1) := by decide +kernel
theorem dX1_matchBy_0 : decode cX1_matchBy 0 = .ok (.iload_n 2, 1) := by decide +kernel
theorem dX1_matchBy_1 : decode cX1_matchBy 1 = .ok (.ifCond .ne 11, 3) := by decide +kernel
theorem dX1_matchBy_4 : decode cX1_matchBy 4 = .ok (.iload_n 3, 1) := by decide +kernel
theorem dX1_matchBy_5 : decode cX1_matchBy 5 = .ok (.iload_n 1, 1) := by decide +kernel
theorem dX1_matchBy_6 : decode cX1_matchBy 6 = .ok (.iadd, 1) := by decide +kernel
theorem dX1_matchBy_7 : decode cX1_matchBy 7 = .ok (.iconst 3, 1) := by decide +kernel
theorem dX1_matchBy_8 : decode cX1_matchBy 8 = .ok (.isub, 1) := by decide +kernel
theorem dX1_matchBy_9 : decode cX1_matchBy 9 = .ok (.goto 8, 3) := by decide +kernel
theorem dX1_matchBy_12 : decode cX1_matchBy 12 = .ok (.iload_n 3, 1) := by decide +kernel
theorem dX1_matchBy_13 : decode cX1_matchBy 13 = .ok (.iload_n 1, 1) := by decide +kernel
theorem dX1_matchBy_14 : decode cX1_matchBy 14 = .ok (.isub, 1) := by decide +kernel
theorem dX1_matchBy_15 : decode cX1_matchBy 15 = .ok (.iconst 3, 1) := by decide +kernel
theorem dX1_matchBy_16 : decode cX1_matchBy 16 = .ok (.iadd, 1) := by decide +kernel
theorem dX1_matchBy_17 : decode cX1_matchBy 17 = .ok (.istore 4, 2) := by decide +kernel
theorem dX1_matchBy_19 : decode cX1_matchBy 19 = .ok (.iload 4, 2) := by decide +kernel
theorem dX1_matchBy_21 : decode cX1_matchBy 21 = .ok (.ifCond .lt 17, 3) := by decide +kernel
theorem dX1_matchBy_24 : decode cX1_matchBy 24 = .ok (.iload 4, 2) := by decide +kernel
theorem dX1_matchBy_26 : decode cX1_matchBy 26 = .ok (.aload_n 0, 1) := by decide +kernel
theorem dX1_matchBy_27 : decode cX1_matchBy 27 = .ok (.getfield 35, 3) := by decide +kernel
theorem dX1_matchBy_30 : decode cX1_matchBy 30 = .ok (.if_icmp .ge 8, 3) := by decide +kernel
theorem dX1_matchBy_33 : decode cX1_matchBy 33 = .ok (.iload 4, 2) := by decide +kernel
theorem dX1_matchBy_35 : decode cX1_matchBy 35 = .ok (.goto 5, 3) := by decide +kernel
theorem dX1_matchBy_38 : decode cX1_matchBy 38 = .ok (.bipush (-4), 2) := by decide +kernel
theorem dX1_matchBy_40 : decode cX1_matchBy 40 = .ok (.ireturn, 1) := by decide +kernel
theorem dX1_countPairs_0 : decode cX1_countPairs 0 = .ok (.iconst 0, 1) := by decide +kernel
theorem dX1_countPairs_1 : decode cX1_countPairs 1 = .ok (.istore_n 1, 1) := by decide +kernel
theorem dX1_countPairs_2 : decode cX1_countPairs 2 = .ok (.iconst 0, 1) := by decide +kernel
theorem dX1_countPairs_3 : decode cX1_countPairs 3 = .ok (.istore_n 2, 1) := by decide +kernel
theorem dX1_countPairs_4 : decode cX1_countPairs 4 = .ok (.iload_n 2, 1) := by decide +kernel
theorem dX1_countPairs_5 : decode cX1_countPairs 5 = .ok (.aload_n 0, 1) := by decide +kernel
theorem dX1_countPairs_6 : decode cX1_countPairs 6 = .ok (.getfield 35, 3) := by decide +kernel
theorem dX1_countPairs_9 : decode cX1_countPairs 9 = .ok (.if_icmp .ge 28, 3) := by decide +kernel
theorem dX1_countPairs_12 : decode cX1_countPairs 12 = .ok (.iload_n 1, 1) := by decide +kernel
theorem dX1_countPairs_13 : decode cX1_countPairs 13 = .ok (.aload_n 0, 1) := by decide +kernel
theorem dX1_countPairs_14 : decode cX1_countPairs 14 = .ok (.iconst 0, 1) := by decide +kernel
theorem dX1_countPairs_15 : decode cX1_countPairs 15 = .ok (.iload_n 2, 1) := by decide +kernel
theorem dX1_countPairs_16 : decode cX1_countPairs 16 = .ok (.invokevirtual 71, 3) := by decide +kernel
theorem dX1_countPairs_19 : decode cX1_countPairs 19 = .ok (.bipush (-4), 2) := by decide +kernel
theorem dX1_countPairs_21 : decode cX1_countPairs 21 = .ok (.if_icmp .ne 7, 3) := by decide +kernel
theorem dX1_countPairs_24 : decode cX1_countPairs 24 = .ok (.iconst 0, 1) := by decide +kernel
theorem dX1_countPairs_25 : decode cX1_countPairs 25 = .ok (.goto 4, 3) := by decide +kernel
theorem dX1_countPairs_28 : decode cX1_countPairs 28 = .ok (.iconst 1, 1) := by decide +kernel
theorem dX1_countPairs_29 : decode cX1_countPairs 29 = .ok (.iadd, 1) := by decide +kernel
theorem dX1_countPairs_30 : decode cX1_countPairs 30 = .ok (.istore_n 1, 1) := by decide +kernel
theorem dX1_countPairs_31 : decode cX1_countPairs 31 = .ok (.iinc 2 1, 3) := by decide +kernel
theorem dX1_countPairs_34 : decode cX1_countPairs 34 = .ok (.goto (-30), 3) := by decide +kernel
theorem dX1_countPairs_37 : decode cX1_countPairs 37 = .ok (.iload_n 1, 1) := by decide +kernel
theorem dX1_countPairs_38 : decode cX1_countPairs 38 = .ok (.ireturn, 1) := by decide +kernel
theorem dX1_mirrorOf_0 : decode cX1_mirrorOf 0 = .ok (.iload_n 1, 1) := by decide +kernel
theorem dX1_mirrorOf_1 : decode cX1_mirrorOf 1 = .ok (.bipush 7, 2) := by decide +kernel
theorem dX1_mirrorOf_3 : decode cX1_mirrorOf 3 = .ok (.iand, 1) := by decide +kernel
theorem dX1_mirrorOf_4 : decode cX1_mirrorOf 4 = .ok (.istore_n 2, 1) := by decide +kernel
theorem dX1_mirrorOf_5 : decode cX1_mirrorOf 5 = .ok (.iload_n 2, 1) := by decide +kernel
theorem dX1_mirrorOf_6 : decode cX1_mirrorOf 6 = .ok (.invokestatic 65, 3) := by decide +kernel
theorem dX1_mirrorOf_9 : decode cX1_mirrorOf 9 = .ok (.ifCond .ne 5, 3) := by decide +kernel
theorem dX1_mirrorOf_12 : decode cX1_mirrorOf 12 = .ok (.iconst 0, 1) := by decide +kernel
theorem dX1_mirrorOf_13 : decode cX1_mirrorOf 13 = .ok (.ireturn, 1) := by decide +kernel
theorem dX1_mirrorOf_14 : decode cX1_mirrorOf 14 = .ok (.iload_n 1, 1) := by decide +kernel
theorem dX1_mirrorOf_15 : decode cX1_mirrorOf 15 = .ok (.bipush 32, 2) := by decide +kernel
theorem dX1_mirrorOf_17 : decode cX1_mirrorOf 17 = .ok (.iand, 1) := by decide +kernel
theorem dX1_mirrorOf_18 : decode cX1_mirrorOf 18 = .ok (.istore_n 3, 1) := by decide +kernel
theorem dX1_mirrorOf_19 : decode cX1_mirrorOf 19 = .ok (.aload_n 0, 1) := by decide +kernel
theorem dX1_mirrorOf_20 : decode cX1_mirrorOf 20 = .ok (.iload_n 2, 1) := by decide +kernel
theorem dX1_mirrorOf_21 : decode cX1_mirrorOf 21 = .ok (.invokevirtual 83, 3) := by decide +kernel
theorem dX1_mirrorOf_24 : decode cX1_mirrorOf 24 = .ok (.ifCond .eq 7, 3) := by decide +kernel
theorem dX1_mirrorOf_27 : decode cX1_mirrorOf 27 = .ok (.iload_n 3, 1) := by decide +kernel
theorem dX1_mirrorOf_28 : decode cX1_mirrorOf 28 = .ok (.goto 7, 3) := by decide +kernel
theorem dX1_mirrorOf_31 : decode cX1_mirrorOf 31 = .ok (.bipush 32, 2) := by decide +kernel
theorem dX1_mirrorOf_33 : decode cX1_mirrorOf 33 = .ok (.iload_n 3, 1) := by decide +kernel
theorem dX1_mirrorOf_34 : decode cX1_mirrorOf 34 = .ok (.isub, 1) := by decide +kernel
theorem dX1_mirrorOf_35 : decode cX1_mirrorOf 35 = .ok (.istore 4, 2) := by decide +kernel
theorem dX1_mirrorOf_37 : decode cX1_mirrorOf 37 = .ok (.aload_n 0, 1) := by decide +kernel
theorem dX1_mirrorOf_38 : decode cX1_mirrorOf 38 = .ok (.getfield 26, 3) := by decide +kernel
theorem dX1_mirrorOf_41 : decode cX1_mirrorOf 41 = .ok (.iload_n 2, 1) := by decide +kernel
theorem dX1_mirrorOf_42 : decode cX1_mirrorOf 42 = .ok (.iaload, 1) := by decide +kernel
theorem dX1_mirrorOf_43 : decode cX1_mirrorOf 43 = .ok (.bipush 8, 2) := by decide +kernel
theorem dX1_mirrorOf_45 : decode cX1_mirrorOf 45 = .ok (.aload_n 0, 1) := by decide +kernel
theorem dX1_mirrorOf_46 : decode cX1_mirrorOf 46 = .ok (.getfield 29, 3) := by decide +kernel
theorem dX1_mirrorOf_49 : decode cX1_mirrorOf 49 = .ok (.iload_n 1, 1) := by decide +kernel
theorem dX1_mirrorOf_50 : decode cX1_mirrorOf 50 = .ok (.iconst 3, 1) := by decide +kernel
theorem dX1_mirrorOf_51 : decode cX1_mirrorOf 51 = .ok (.ishr, 1) := by decide +kernel
theorem dX1_mirrorOf_52 : decode cX1_mirrorOf 52 = .ok (.iconst 3, 1) := by decide +kernel
theorem dX1_mirrorOf_53 : decode cX1_mirrorOf 53 = .ok (.iand, 1) := by decide +kernel
theorem dX1_mirrorOf_54 : decode cX1_mirrorOf 54 = .ok (.iaload, 1) := by decide +kernel
theorem dX1_mirrorOf_55 : decode cX1_mirrorOf 55 = .ok (.imul, 1) := by decide +kernel
theorem dX1_mirrorOf_56 : decode cX1_mirrorOf 56 = .ok (.iadd, 1) := by decide +kernel
theorem dX1_mirrorOf_57 : decode cX1_mirrorOf 57 = .ok (.iload 4, 2) := by decide +kernel
theorem dX1_mirrorOf_59 : decode cX1_mirrorOf 59 = .ok (.iadd, 1) := by decide +kernel
theorem dX1_mirrorOf_60 : decode cX1_mirrorOf 60 = .ok (.ireturn, 1) := by decide +kernel
theorem dX1_doorStays_0 : decode cX1_doorStays 0 = .ok (.aload_n 0, 1) := by decide +kernel
theorem dX1_doorStays_1 : decode cX1_doorStays 1 = .ok (.getfield 45, 3) := by decide +kernel
theorem dX1_doorStays_4 : decode cX1_doorStays 4 = .ok (.iload_n 1, 1) := by decide +kernel
theorem dX1_doorStays_5 : decode cX1_doorStays 5 = .ok (.ishr, 1) := by decide +kernel
theorem dX1_doorStays_6 : decode cX1_doorStays 6 = .ok (.iconst 1, 1) := by decide +kernel
theorem dX1_doorStays_7 : decode cX1_doorStays 7 = .ok (.iand, 1) := by decide +kernel
theorem dX1_doorStays_8 : decode cX1_doorStays 8 = .ok (.ifCond .ne 19, 3) := by decide +kernel
theorem dX1_doorStays_11 : decode cX1_doorStays 11 = .ok (.aload_n 0, 1) := by decide +kernel
theorem dX1_doorStays_12 : decode cX1_doorStays 12 = .ok (.getfield 45, 3) := by decide +kernel
theorem dX1_doorStays_15 : decode cX1_doorStays 15 = .ok (.aload_n 0, 1) := by decide +kernel
theorem dX1_doorStays_16 : decode cX1_doorStays 16 = .ok (.getfield 26, 3) := by decide +kernel
theorem dX1_doorStays_19 : decode cX1_doorStays 19 = .ok (.iload_n 1, 1) := by decide +kernel
theorem dX1_doorStays_20 : decode cX1_doorStays 20 = .ok (.iaload, 1) := by decide +kernel
theorem dX1_doorStays_21 : decode cX1_doorStays 21 = .ok (.ishr, 1) := by decide +kernel
theorem dX1_doorStays_22 : decode cX1_doorStays 22 = .ok (.iconst 1, 1) := by decide +kernel
theorem dX1_doorStays_23 : decode cX1_doorStays 23 = .ok (.iand, 1) := by decide +kernel
theorem dX1_doorStays_24 : decode cX1_doorStays 24 = .ok (.ifCond .eq 7, 3) := by decide +kernel
theorem dX1_doorStays_27 : decode cX1_doorStays 27 = .ok (.iconst 1, 1) := by decide +kernel
theorem dX1_doorStays_28 : decode cX1_doorStays 28 = .ok (.goto 4, 3) := by decide +kernel
theorem dX1_doorStays_31 : decode cX1_doorStays 31 = .ok (.iconst 0, 1) := by decide +kernel
theorem dX1_doorStays_32 : decode cX1_doorStays 32 = .ok (.ireturn, 1) := by decide +kernel
theorem dX1_isEven_0 : decode cX1_isEven 0 = .ok (.aload_n 0, 1) := by decide +kernel
theorem dX1_isEven_1 : decode cX1_isEven 1 = .ok (.iload_n 1, 1) := by decide +kernel
theorem dX1_isEven_2 : decode cX1_isEven 2 = .ok (.invokevirtual 86, 3) := by decide +kernel
theorem dX1_isEven_5 : decode cX1_isEven 5 = .ok (.iload_n 2, 1) := by decide +kernel
theorem dX1_isEven_6 : decode cX1_isEven 6 = .ok (.if_icmp .ne 7, 3) := by decide +kernel
theorem dX1_isEven_9 : decode cX1_isEven 9 = .ok (.iconst 1, 1) := by decide +kernel
theorem dX1_isEven_10 : decode cX1_isEven 10 = .ok (.goto 4, 3) := by decide +kernel
theorem dX1_isEven_13 : decode cX1_isEven 13 = .ok (.iconst 0, 1) := by decide +kernel
theorem dX1_isEven_14 : decode cX1_isEven 14 = .ok (.ireturn, 1) := by decide +kernel
theorem dX1_unevenLots_0 : decode cX1_unevenLots 0 = .ok (.iconst 0, 1) := by decide +kernel
theorem dX1_unevenLots_1 : decode cX1_unevenLots 1 = .ok (.istore_n 2, 1) := by decide +kernel
theorem dX1_unevenLots_2 : decode cX1_unevenLots 2 = .ok (.iconst 0, 1) := by decide +kernel
theorem dX1_unevenLots_3 : decode cX1_unevenLots 3 = .ok (.istore_n 3, 1) := by decide +kernel
theorem dX1_unevenLots_4 : decode cX1_unevenLots 4 = .ok (.iload_n 3, 1) := by decide +kernel
theorem dX1_unevenLots_5 : decode cX1_unevenLots 5 = .ok (.aload_n 0, 1) := by decide +kernel
theorem dX1_unevenLots_6 : decode cX1_unevenLots 6 = .ok (.getfield 35, 3) := by decide +kernel
theorem dX1_unevenLots_9 : decode cX1_unevenLots 9 = .ok (.if_icmp .ge 52, 3) := by decide +kernel
theorem dX1_unevenLots_12 : decode cX1_unevenLots 12 = .ok (.aload_n 0, 1) := by decide +kernel
theorem dX1_unevenLots_13 : decode cX1_unevenLots 13 = .ok (.iconst 0, 1) := by decide +kernel
theorem dX1_unevenLots_14 : decode cX1_unevenLots 14 = .ok (.iload_n 3, 1) := by decide +kernel
theorem dX1_unevenLots_15 : decode cX1_unevenLots 15 = .ok (.invokevirtual 71, 3) := by decide +kernel
theorem dX1_unevenLots_18 : decode cX1_unevenLots 18 = .ok (.istore 4, 2) := by decide +kernel
theorem dX1_unevenLots_20 : decode cX1_unevenLots 20 = .ok (.iload 4, 2) := by decide +kernel
theorem dX1_unevenLots_22 : decode cX1_unevenLots 22 = .ok (.bipush (-4), 2) := by decide +kernel
theorem dX1_unevenLots_24 : decode cX1_unevenLots 24 = .ok (.if_icmp .eq 31, 3) := by decide +kernel
theorem dX1_unevenLots_27 : decode cX1_unevenLots 27 = .ok (.aload_n 0, 1) := by decide +kernel
theorem dX1_unevenLots_28 : decode cX1_unevenLots 28 = .ok (.aload_n 1, 1) := by decide +kernel
theorem dX1_unevenLots_29 : decode cX1_unevenLots 29 = .ok (.iconst 0, 1) := by decide +kernel
theorem dX1_unevenLots_30 : decode cX1_unevenLots 30 = .ok (.iload_n 3, 1) := by decide +kernel
theorem dX1_unevenLots_31 : decode cX1_unevenLots 31 = .ok (.invokestatic 89, 3) := by decide +kernel
theorem dX1_unevenLots_34 : decode cX1_unevenLots 34 = .ok (.iaload, 1) := by decide +kernel
theorem dX1_unevenLots_35 : decode cX1_unevenLots 35 = .ok (.aload_n 1, 1) := by decide +kernel
theorem dX1_unevenLots_36 : decode cX1_unevenLots 36 = .ok (.iconst 1, 1) := by decide +kernel
theorem dX1_unevenLots_37 : decode cX1_unevenLots 37 = .ok (.iload 4, 2) := by decide +kernel
theorem dX1_unevenLots_39 : decode cX1_unevenLots 39 = .ok (.invokestatic 89, 3) := by decide +kernel
theorem dX1_unevenLots_42 : decode cX1_unevenLots 42 = .ok (.iaload, 1) := by decide +kernel
theorem dX1_unevenLots_43 : decode cX1_unevenLots 43 = .ok (.invokevirtual 92, 3) := by decide +kernel
theorem dX1_unevenLots_46 : decode cX1_unevenLots 46 = .ok (.ifCond .ne 9, 3) := by decide +kernel
theorem dX1_unevenLots_49 : decode cX1_unevenLots 49 = .ok (.iload_n 2, 1) := by decide +kernel
theorem dX1_unevenLots_50 : decode cX1_unevenLots 50 = .ok (.iconst 1, 1) := by decide +kernel
theorem dX1_unevenLots_51 : decode cX1_unevenLots 51 = .ok (.iload_n 3, 1) := by decide +kernel
theorem dX1_unevenLots_52 : decode cX1_unevenLots 52 = .ok (.ishl, 1) := by decide +kernel
theorem dX1_unevenLots_53 : decode cX1_unevenLots 53 = .ok (.ior, 1) := by decide +kernel
theorem dX1_unevenLots_54 : decode cX1_unevenLots 54 = .ok (.istore_n 2, 1) := by decide +kernel
theorem dX1_unevenLots_55 : decode cX1_unevenLots 55 = .ok (.iinc 3 1, 3) := by decide +kernel
theorem dX1_unevenLots_58 : decode cX1_unevenLots 58 = .ok (.goto (-54), 3) := by decide +kernel
theorem dX1_unevenLots_61 : decode cX1_unevenLots 61 = .ok (.iload_n 2, 1) := by decide +kernel
theorem dX1_unevenLots_62 : decode cX1_unevenLots 62 = .ok (.ireturn, 1) := by decide +kernel
theorem dX2_init_0 : decode cX2_init 0 = .ok (.aload_n 0, 1) := by decide +kernel
theorem dX2_init_1 : decode cX2_init 1 = .ok (.invokespecial 3, 3) := by decide +kernel
theorem dX2_init_4 : decode cX2_init 4 = .ok (.aload_n 0, 1) := by decide +kernel
theorem dX2_init_5 : decode cX2_init 5 = .ok (.aload_n 1, 1) := by decide +kernel
theorem dX2_init_6 : decode cX2_init 6 = .ok (.putfield 9, 3) := by decide +kernel
theorem dX2_init_9 : decode cX2_init 9 = .ok (.aload_n 0, 1) := by decide +kernel
theorem dX2_init_10 : decode cX2_init 10 = .ok (.aload_n 2, 1) := by decide +kernel
theorem dX2_init_11 : decode cX2_init 11 = .ok (.putfield 15, 3) := by decide +kernel
theorem dX2_init_14 : decode cX2_init 14 = .ok (.return_, 1) := by decide +kernel
theorem dX2_hasHistory_0 : decode cX2_hasHistory 0 = .ok (.aload_n 0, 1) := by decide +kernel
theorem dX2_hasHistory_1 : decode cX2_hasHistory 1 = .ok (.getfield 9, 3) := by decide +kernel
theorem dX2_hasHistory_4 : decode cX2_hasHistory 4 = .ok (.iconst 0, 1) := by decide +kernel
theorem dX2_hasHistory_5 : decode cX2_hasHistory 5 = .ok (.iload_n 1, 1) := by decide +kernel
theorem dX2_hasHistory_6 : decode cX2_hasHistory 6 = .ok (.invokevirtual 19, 3) := by decide +kernel
theorem dX2_hasHistory_9 : decode cX2_hasHistory 9 = .ok (.istore_n 2, 1) := by decide +kernel
theorem dX2_hasHistory_10 : decode cX2_hasHistory 10 = .ok (.aload_n 0, 1) := by decide +kernel
theorem dX2_hasHistory_11 : decode cX2_hasHistory 11 = .ok (.getfield 15, 3) := by decide +kernel
theorem dX2_hasHistory_14 : decode cX2_hasHistory 14 = .ok (.iconst 0, 1) := by decide +kernel
theorem dX2_hasHistory_15 : decode cX2_hasHistory 15 = .ok (.iload_n 1, 1) := by decide +kernel
theorem dX2_hasHistory_16 : decode cX2_hasHistory 16 = .ok (.invokevirtual 25, 3) := by decide +kernel
theorem dX2_hasHistory_19 : decode cX2_hasHistory 19 = .ok (.istore_n 3, 1) := by decide +kernel
theorem dX2_hasHistory_20 : decode cX2_hasHistory 20 = .ok (.iload_n 2, 1) := by decide +kernel
theorem dX2_hasHistory_21 : decode cX2_hasHistory 21 = .ok (.bipush (-4), 2) := by decide +kernel
theorem dX2_hasHistory_23 : decode cX2_hasHistory 23 = .ok (.if_icmp .eq 31, 3) := by decide +kernel
theorem dX2_hasHistory_26 : decode cX2_hasHistory 26 = .ok (.iload_n 3, 1) := by decide +kernel
theorem dX2_hasHistory_27 : decode cX2_hasHistory 27 = .ok (.ifCond .eq 27, 3) := by decide +kernel
theorem dX2_hasHistory_30 : decode cX2_hasHistory 30 = .ok (.aload_n 0, 1) := by decide +kernel
theorem dX2_hasHistory_31 : decode cX2_hasHistory 31 = .ok (.getfield 9, 3) := by decide +kernel
theorem dX2_hasHistory_34 : decode cX2_hasHistory 34 = .ok (.iload_n 3, 1) := by decide +kernel
theorem dX2_hasHistory_35 : decode cX2_hasHistory 35 = .ok (.aload_n 0, 1) := by decide +kernel
theorem dX2_hasHistory_36 : decode cX2_hasHistory 36 = .ok (.getfield 15, 3) := by decide +kernel
theorem dX2_hasHistory_39 : decode cX2_hasHistory 39 = .ok (.iconst 1, 1) := by decide +kernel
theorem dX2_hasHistory_40 : decode cX2_hasHistory 40 = .ok (.iload_n 2, 1) := by decide +kernel
theorem dX2_hasHistory_41 : decode cX2_hasHistory 41 = .ok (.invokevirtual 25, 3) := by decide +kernel
theorem dX2_hasHistory_44 : decode cX2_hasHistory 44 = .ok (.invokevirtual 30, 3) := by decide +kernel
theorem dX2_hasHistory_47 : decode cX2_hasHistory 47 = .ok (.ifCond .eq 7, 3) := by decide +kernel
theorem dX2_hasHistory_50 : decode cX2_hasHistory 50 = .ok (.iconst 1, 1) := by decide +kernel
theorem dX2_hasHistory_51 : decode cX2_hasHistory 51 = .ok (.goto 4, 3) := by decide +kernel
theorem dX2_hasHistory_54 : decode cX2_hasHistory 54 = .ok (.iconst 0, 1) := by decide +kernel
theorem dX2_hasHistory_55 : decode cX2_hasHistory 55 = .ok (.ireturn, 1) := by decide +kernel
theorem dX2_findHistories_0 : decode cX2_findHistories 0 = .ok (.aload_n 0, 1) := by decide +kernel
theorem dX2_findHistories_1 : decode cX2_findHistories 1 = .ok (.iconst 0, 1) := by decide +kernel
theorem dX2_findHistories_2 : decode cX2_findHistories 2 = .ok (.putfield 34, 3) := by decide +kernel
theorem dX2_findHistories_5 : decode cX2_findHistories 5 = .ok (.aload_n 0, 1) := by decide +kernel
theorem dX2_findHistories_6 : decode cX2_findHistories 6 = .ok (.iconst 0, 1) := by decide +kernel
theorem dX2_findHistories_7 : decode cX2_findHistories 7 = .ok (.putfield 38, 3) := by decide +kernel
theorem dX2_findHistories_10 : decode cX2_findHistories 10 = .ok (.iconst 0, 1) := by decide +kernel
theorem dX2_findHistories_11 : decode cX2_findHistories 11 = .ok (.istore_n 3, 1) := by decide +kernel
theorem dX2_findHistories_12 : decode cX2_findHistories 12 = .ok (.iload_n 3, 1) := by decide +kernel
theorem dX2_findHistories_13 : decode cX2_findHistories 13 = .ok (.iload_n 2, 1) := by decide +kernel
theorem dX2_findHistories_14 : decode cX2_findHistories 14 = .ok (.if_icmp .gt 66, 3) := by decide +kernel
theorem dX2_findHistories_17 : decode cX2_findHistories 17 = .ok (.iload_n 3, 1) := by decide +kernel
theorem dX2_findHistories_18 : decode cX2_findHistories 18 = .ok (.istore 4, 2) := by decide +kernel
theorem dX2_findHistories_20 : decode cX2_findHistories 20 = .ok (.iload 4, 2) := by decide +kernel
theorem dX2_findHistories_22 : decode cX2_findHistories 22 = .ok (.iload_n 3, 1) := by decide +kernel
theorem dX2_findHistories_23 : decode cX2_findHistories 23 = .ok (.iconst 1, 1) := by decide +kernel
theorem dX2_findHistories_24 : decode cX2_findHistories 24 = .ok (.iadd, 1) := by decide +kernel
theorem dX2_findHistories_25 : decode cX2_findHistories 25 = .ok (.if_icmp .gt 49, 3) := by decide +kernel
theorem dX2_findHistories_28 : decode cX2_findHistories 28 = .ok (.iload 4, 2) := by decide +kernel
theorem dX2_findHistories_30 : decode cX2_findHistories 30 = .ok (.iload_n 2, 1) := by decide +kernel
theorem dX2_findHistories_31 : decode cX2_findHistories 31 = .ok (.if_icmp .gt 43, 3) := by decide +kernel
theorem dX2_findHistories_34 : decode cX2_findHistories 34 = .ok (.aload_n 0, 1) := by decide +kernel
theorem dX2_findHistories_35 : decode cX2_findHistories 35 = .ok (.iload_n 1, 1) := by decide +kernel
theorem dX2_findHistories_36 : decode cX2_findHistories 36 = .ok (.iload_n 3, 1) := by decide +kernel
theorem dX2_findHistories_37 : decode cX2_findHistories 37 = .ok (.iload 4, 2) := by decide +kernel
theorem dX2_findHistories_39 : decode cX2_findHistories 39 = .ok (.invokevirtual 41, 3) := by decide +kernel
theorem dX2_findHistories_42 : decode cX2_findHistories 42 = .ok (.ifCond .eq 9, 3) := by decide +kernel
theorem dX2_findHistories_45 : decode cX2_findHistories 45 = .ok (.aload_n 0, 1) := by decide +kernel
theorem dX2_findHistories_46 : decode cX2_findHistories 46 = .ok (.iconst 0, 1) := by decide +kernel
theorem dX2_findHistories_47 : decode cX2_findHistories 47 = .ok (.iload_n 3, 1) := by decide +kernel
theorem dX2_findHistories_48 : decode cX2_findHistories 48 = .ok (.invokevirtual 45, 3) := by decide +kernel
theorem dX2_findHistories_51 : decode cX2_findHistories 51 = .ok (.aload_n 0, 1) := by decide +kernel
theorem dX2_findHistories_52 : decode cX2_findHistories 52 = .ok (.iload_n 1, 1) := by decide +kernel
theorem dX2_findHistories_53 : decode cX2_findHistories 53 = .ok (.iload 4, 2) := by decide +kernel
theorem dX2_findHistories_55 : decode cX2_findHistories 55 = .ok (.iload_n 3, 1) := by decide +kernel
theorem dX2_findHistories_56 : decode cX2_findHistories 56 = .ok (.invokevirtual 41, 3) := by decide +kernel
theorem dX2_findHistories_59 : decode cX2_findHistories 59 = .ok (.ifCond .eq 9, 3) := by decide +kernel
theorem dX2_findHistories_62 : decode cX2_findHistories 62 = .ok (.aload_n 0, 1) := by decide +kernel
theorem dX2_findHistories_63 : decode cX2_findHistories 63 = .ok (.iconst 1, 1) := by decide +kernel
theorem dX2_findHistories_64 : decode cX2_findHistories 64 = .ok (.iload_n 3, 1) := by decide +kernel
theorem dX2_findHistories_65 : decode cX2_findHistories 65 = .ok (.invokevirtual 45, 3) := by decide +kernel
theorem dX2_findHistories_68 : decode cX2_findHistories 68 = .ok (.iinc 4 1, 3) := by decide +kernel
theorem dX2_findHistories_71 : decode cX2_findHistories 71 = .ok (.goto (-51), 3) := by decide +kernel
theorem dX2_findHistories_74 : decode cX2_findHistories 74 = .ok (.iinc 3 1, 3) := by decide +kernel
theorem dX2_findHistories_77 : decode cX2_findHistories 77 = .ok (.goto (-65), 3) := by decide +kernel
theorem dX2_findHistories_80 : decode cX2_findHistories 80 = .ok (.return_, 1) := by decide +kernel
theorem dX2_note_0 : decode cX2_note 0 = .ok (.aload_n 0, 1) := by decide +kernel
theorem dX2_note_1 : decode cX2_note 1 = .ok (.getfield 34, 3) := by decide +kernel
theorem dX2_note_4 : decode cX2_note 4 = .ok (.ifCond .ne 8, 3) := by decide +kernel
theorem dX2_note_7 : decode cX2_note 7 = .ok (.aload_n 0, 1) := by decide +kernel
theorem dX2_note_8 : decode cX2_note 8 = .ok (.iload_n 2, 1) := by decide +kernel
theorem dX2_note_9 : decode cX2_note 9 = .ok (.putfield 49, 3) := by decide +kernel
theorem dX2_note_12 : decode cX2_note 12 = .ok (.aload_n 0, 1) := by decide +kernel
theorem dX2_note_13 : decode cX2_note 13 = .ok (.iload_n 2, 1) := by decide +kernel
theorem dX2_note_14 : decode cX2_note 14 = .ok (.putfield 52, 3) := by decide +kernel
theorem dX2_note_17 : decode cX2_note 17 = .ok (.aload_n 0, 1) := by decide +kernel
theorem dX2_note_18 : decode cX2_note 18 = .ok (.dup, 1) := by decide +kernel
theorem dX2_note_19 : decode cX2_note 19 = .ok (.getfield 38, 3) := by decide +kernel
theorem dX2_note_22 : decode cX2_note 22 = .ok (.iconst 1, 1) := by decide +kernel
theorem dX2_note_23 : decode cX2_note 23 = .ok (.iload_n 1, 1) := by decide +kernel
theorem dX2_note_24 : decode cX2_note 24 = .ok (.ishl, 1) := by decide +kernel
theorem dX2_note_25 : decode cX2_note 25 = .ok (.ior, 1) := by decide +kernel
theorem dX2_note_26 : decode cX2_note 26 = .ok (.putfield 38, 3) := by decide +kernel
theorem dX2_note_29 : decode cX2_note 29 = .ok (.aload_n 0, 1) := by decide +kernel
theorem dX2_note_30 : decode cX2_note 30 = .ok (.dup, 1) := by decide +kernel
theorem dX2_note_31 : decode cX2_note 31 = .ok (.getfield 34, 3) := by decide +kernel
theorem dX2_note_34 : decode cX2_note 34 = .ok (.iconst 1, 1) := by decide +kernel
theorem dX2_note_35 : decode cX2_note 35 = .ok (.iadd, 1) := by decide +kernel
theorem dX2_note_36 : decode cX2_note 36 = .ok (.putfield 34, 3) := by decide +kernel
theorem dX2_note_39 : decode cX2_note 39 = .ok (.return_, 1) := by decide +kernel
theorem dX2_fitsSeen_0 : decode cX2_fitsSeen 0 = .ok (.aload_n 0, 1) := by decide +kernel
theorem dX2_fitsSeen_1 : decode cX2_fitsSeen 1 = .ok (.getfield 9, 3) := by decide +kernel
theorem dX2_fitsSeen_4 : decode cX2_fitsSeen 4 = .ok (.iconst 0, 1) := by decide +kernel
theorem dX2_fitsSeen_5 : decode cX2_fitsSeen 5 = .ok (.iload_n 1, 1) := by decide +kernel
theorem dX2_fitsSeen_6 : decode cX2_fitsSeen 6 = .ok (.invokevirtual 19, 3) := by decide +kernel
theorem dX2_fitsSeen_9 : decode cX2_fitsSeen 9 = .ok (.istore 4, 2) := by decide +kernel
theorem dX2_fitsSeen_11 : decode cX2_fitsSeen 11 = .ok (.aload_n 0, 1) := by decide +kernel
theorem dX2_fitsSeen_12 : decode cX2_fitsSeen 12 = .ok (.getfield 15, 3) := by decide +kernel
theorem dX2_fitsSeen_15 : decode cX2_fitsSeen 15 = .ok (.getfield 55, 3) := by decide +kernel
theorem dX2_fitsSeen_18 : decode cX2_fitsSeen 18 = .ok (.astore 5, 2) := by decide +kernel
theorem dX2_fitsSeen_20 : decode cX2_fitsSeen 20 = .ok (.iconst 0, 1) := by decide +kernel
theorem dX2_fitsSeen_21 : decode cX2_fitsSeen 21 = .ok (.istore 6, 2) := by decide +kernel
theorem dX2_fitsSeen_23 : decode cX2_fitsSeen 23 = .ok (.iload 6, 2) := by decide +kernel
theorem dX2_fitsSeen_25 : decode cX2_fitsSeen 25 = .ok (.aload 5, 2) := by decide +kernel
theorem dX2_fitsSeen_27 : decode cX2_fitsSeen 27 = .ok (.getfield 59, 3) := by decide +kernel
theorem dX2_fitsSeen_30 : decode cX2_fitsSeen 30 = .ok (.if_icmp .ge 101, 3) := by decide +kernel
theorem dX2_fitsSeen_33 : decode cX2_fitsSeen 33 = .ok (.aload 5, 2) := by decide +kernel
theorem dX2_fitsSeen_35 : decode cX2_fitsSeen 35 = .ok (.iload 6, 2) := by decide +kernel
theorem dX2_fitsSeen_37 : decode cX2_fitsSeen 37 = .ok (.iconst 0, 1) := by decide +kernel
theorem dX2_fitsSeen_38 : decode cX2_fitsSeen 38 = .ok (.invokevirtual 64, 3) := by decide +kernel
theorem dX2_fitsSeen_41 : decode cX2_fitsSeen 41 = .ok (.ifCond .ne 7, 3) := by decide +kernel
theorem dX2_fitsSeen_44 : decode cX2_fitsSeen 44 = .ok (.iconst 1, 1) := by decide +kernel
theorem dX2_fitsSeen_45 : decode cX2_fitsSeen 45 = .ok (.goto 4, 3) := by decide +kernel
theorem dX2_fitsSeen_48 : decode cX2_fitsSeen 48 = .ok (.iconst 0, 1) := by decide +kernel
theorem dX2_fitsSeen_49 : decode cX2_fitsSeen 49 = .ok (.istore 7, 2) := by decide +kernel
theorem dX2_fitsSeen_51 : decode cX2_fitsSeen 51 = .ok (.aload 5, 2) := by decide +kernel
theorem dX2_fitsSeen_53 : decode cX2_fitsSeen 53 = .ok (.iload 6, 2) := by decide +kernel
theorem dX2_fitsSeen_55 : decode cX2_fitsSeen 55 = .ok (.iconst 1, 1) := by decide +kernel
theorem dX2_fitsSeen_56 : decode cX2_fitsSeen 56 = .ok (.invokevirtual 64, 3) := by decide +kernel
theorem dX2_fitsSeen_59 : decode cX2_fitsSeen 59 = .ok (.iload 7, 2) := by decide +kernel
theorem dX2_fitsSeen_61 : decode cX2_fitsSeen 61 = .ok (.ifCond .eq 7, 3) := by decide +kernel
theorem dX2_fitsSeen_64 : decode cX2_fitsSeen 64 = .ok (.iload_n 1, 1) := by decide +kernel
theorem dX2_fitsSeen_65 : decode cX2_fitsSeen 65 = .ok (.goto 5, 3) := by decide +kernel
theorem dX2_fitsSeen_68 : decode cX2_fitsSeen 68 = .ok (.iload 4, 2) := by decide +kernel
theorem dX2_fitsSeen_70 : decode cX2_fitsSeen 70 = .ok (.if_icmp .ne 55, 3) := by decide +kernel
theorem dX2_fitsSeen_73 : decode cX2_fitsSeen 73 = .ok (.iload 7, 2) := by decide +kernel
theorem dX2_fitsSeen_75 : decode cX2_fitsSeen 75 = .ok (.ifCond .eq 7, 3) := by decide +kernel
theorem dX2_fitsSeen_78 : decode cX2_fitsSeen 78 = .ok (.iload_n 2, 1) := by decide +kernel
theorem dX2_fitsSeen_79 : decode cX2_fitsSeen 79 = .ok (.goto 4, 3) := by decide +kernel
theorem dX2_fitsSeen_82 : decode cX2_fitsSeen 82 = .ok (.iload_n 3, 1) := by decide +kernel
theorem dX2_fitsSeen_83 : decode cX2_fitsSeen 83 = .ok (.aload 5, 2) := by decide +kernel
theorem dX2_fitsSeen_85 : decode cX2_fitsSeen 85 = .ok (.iload 6, 2) := by decide +kernel
theorem dX2_fitsSeen_87 : decode cX2_fitsSeen 87 = .ok (.iconst 2, 1) := by decide +kernel
theorem dX2_fitsSeen_88 : decode cX2_fitsSeen 88 = .ok (.invokevirtual 64, 3) := by decide +kernel
theorem dX2_fitsSeen_91 : decode cX2_fitsSeen 91 = .ok (.if_icmp .gt 7, 3) := by decide +kernel
theorem dX2_fitsSeen_94 : decode cX2_fitsSeen 94 = .ok (.iconst 1, 1) := by decide +kernel
theorem dX2_fitsSeen_95 : decode cX2_fitsSeen 95 = .ok (.goto 4, 3) := by decide +kernel
theorem dX2_fitsSeen_98 : decode cX2_fitsSeen 98 = .ok (.iconst 0, 1) := by decide +kernel
theorem dX2_fitsSeen_99 : decode cX2_fitsSeen 99 = .ok (.istore 8, 2) := by decide +kernel
theorem dX2_fitsSeen_101 : decode cX2_fitsSeen 101 = .ok (.iload 8, 2) := by decide +kernel
theorem dX2_fitsSeen_103 : decode cX2_fitsSeen 103 = .ok (.aload 5, 2) := by decide +kernel
theorem dX2_fitsSeen_105 : decode cX2_fitsSeen 105 = .ok (.iload 6, 2) := by decide +kernel
theorem dX2_fitsSeen_107 : decode cX2_fitsSeen 107 = .ok (.iconst 3, 1) := by decide +kernel
theorem dX2_fitsSeen_108 : decode cX2_fitsSeen 108 = .ok (.invokevirtual 64, 3) := by decide +kernel
theorem dX2_fitsSeen_111 : decode cX2_fitsSeen 111 = .ok (.iconst 1, 1) := by decide +kernel
theorem dX2_fitsSeen_112 : decode cX2_fitsSeen 112 = .ok (.if_icmp .ne 7, 3) := by decide +kernel
theorem dX2_fitsSeen_115 : decode cX2_fitsSeen 115 = .ok (.iconst 1, 1) := by decide +kernel
theorem dX2_fitsSeen_116 : decode cX2_fitsSeen 116 = .ok (.goto 4, 3) := by decide +kernel
theorem dX2_fitsSeen_119 : decode cX2_fitsSeen 119 = .ok (.iconst 0, 1) := by decide +kernel
theorem dX2_fitsSeen_120 : decode cX2_fitsSeen 120 = .ok (.if_icmp .eq 5, 3) := by decide +kernel
theorem dX2_fitsSeen_123 : decode cX2_fitsSeen 123 = .ok (.iconst 0, 1) := by decide +kernel
theorem dX2_fitsSeen_124 : decode cX2_fitsSeen 124 = .ok (.ireturn, 1) := by decide +kernel
theorem dX2_fitsSeen_125 : decode cX2_fitsSeen 125 = .ok (.iinc 6 1, 3) := by decide +kernel
theorem dX2_fitsSeen_128 : decode cX2_fitsSeen 128 = .ok (.goto (-105), 3) := by decide +kernel
theorem dX2_fitsSeen_131 : decode cX2_fitsSeen 131 = .ok (.iconst 1, 1) := by decide +kernel
theorem dX2_fitsSeen_132 : decode cX2_fitsSeen 132 = .ok (.ireturn, 1) := by decide +kernel
theorem dX2_onlyBeginner_0 : decode cX2_onlyBeginner 0 = .ok (.aload_n 0, 1) := by decide +kernel
theorem dX2_onlyBeginner_1 : decode cX2_onlyBeginner 1 = .ok (.getfield 38, 3) := by decide +kernel
theorem dX2_onlyBeginner_4 : decode cX2_onlyBeginner 4 = .ok (.iconst 3, 1) := by decide +kernel
theorem dX2_onlyBeginner_5 : decode cX2_onlyBeginner 5 = .ok (.if_icmp .ne 8, 3) := by decide +kernel
theorem dX2_onlyBeginner_8 : decode cX2_onlyBeginner 8 = .ok (.bipush (-4), 2) := by decide +kernel
theorem dX2_onlyBeginner_10 : decode cX2_onlyBeginner 10 = .ok (.goto 9, 3) := by decide +kernel
theorem dX2_onlyBeginner_13 : decode cX2_onlyBeginner 13 = .ok (.aload_n 0, 1) := by decide +kernel
theorem dX2_onlyBeginner_14 : decode cX2_onlyBeginner 14 = .ok (.getfield 38, 3) := by decide +kernel
theorem dX2_onlyBeginner_17 : decode cX2_onlyBeginner 17 = .ok (.iconst 1, 1) := by decide +kernel
theorem dX2_onlyBeginner_18 : decode cX2_onlyBeginner 18 = .ok (.isub, 1) := by decide +kernel
theorem dX2_onlyBeginner_19 : decode cX2_onlyBeginner 19 = .ok (.ireturn, 1) := by decide +kernel
theorem dX3_init_0 : decode cX3_init 0 = .ok (.aload_n 0, 1) := by decide +kernel
theorem dX3_init_1 : decode cX3_init 1 = .ok (.invokespecial 3, 3) := by decide +kernel
theorem dX3_init_4 : decode cX3_init 4 = .ok (.aload_n 0, 1) := by decide +kernel
theorem dX3_init_5 : decode cX3_init 5 = .ok (.sipush 256, 3) := by decide +kernel
theorem dX3_init_8 : decode cX3_init 8 = .ok (.newarray .int, 2) := by decide +kernel
theorem dX3_init_10 : decode cX3_init 10 = .ok (.putfield 11, 3) := by decide +kernel
theorem dX3_init_13 : decode cX3_init 13 = .ok (.aload_n 0, 1) := by decide +kernel
theorem dX3_init_14 : decode cX3_init 14 = .ok (.bipush 6, 2) := by decide +kernel
theorem dX3_init_16 : decode cX3_init 16 = .ok (.newarray .int, 2) := by decide +kernel
theorem dX3_init_18 : decode cX3_init 18 = .ok (.putfield 15, 3) := by decide +kernel
theorem dX3_init_21 : decode cX3_init 21 = .ok (.aload_n 0, 1) := by decide +kernel
theorem dX3_init_22 : decode cX3_init 22 = .ok (.bipush 6, 2) := by decide +kernel
theorem dX3_init_24 : decode cX3_init 24 = .ok (.newarray .int, 2) := by decide +kernel
theorem dX3_init_26 : decode cX3_init 26 = .ok (.putfield 18, 3) := by decide +kernel
theorem dX3_init_29 : decode cX3_init 29 = .ok (.aload_n 0, 1) := by decide +kernel
theorem dX3_init_30 : decode cX3_init 30 = .ok (.aload_n 1, 1) := by decide +kernel
theorem dX3_init_31 : decode cX3_init 31 = .ok (.putfield 21, 3) := by decide +kernel
theorem dX3_init_34 : decode cX3_init 34 = .ok (.aload_n 0, 1) := by decide +kernel
theorem dX3_init_35 : decode cX3_init 35 = .ok (.aload_n 2, 1) := by decide +kernel
theorem dX3_init_36 : decode cX3_init 36 = .ok (.putfield 25, 3) := by decide +kernel
theorem dX3_init_39 : decode cX3_init 39 = .ok (.return_, 1) := by decide +kernel
theorem dX3_monthOf_0 : decode cX3_monthOf 0 = .ok (.iload_n 1, 1) := by decide +kernel
theorem dX3_monthOf_1 : decode cX3_monthOf 1 = .ok (.ifCond .lt 18, 3) := by decide +kernel
theorem dX3_monthOf_4 : decode cX3_monthOf 4 = .ok (.iload_n 1, 1) := by decide +kernel
theorem dX3_monthOf_5 : decode cX3_monthOf 5 = .ok (.bipush 6, 2) := by decide +kernel
theorem dX3_monthOf_7 : decode cX3_monthOf 7 = .ok (.if_icmp .ge 12, 3) := by decide +kernel
theorem dX3_monthOf_10 : decode cX3_monthOf 10 = .ok (.aload_n 0, 1) := by decide +kernel
theorem dX3_monthOf_11 : decode cX3_monthOf 11 = .ok (.getfield 18, 3) := by decide +kernel
theorem dX3_monthOf_14 : decode cX3_monthOf 14 = .ok (.iload_n 1, 1) := by decide +kernel
theorem dX3_monthOf_15 : decode cX3_monthOf 15 = .ok (.iaload, 1) := by decide +kernel
theorem dX3_monthOf_16 : decode cX3_monthOf 16 = .ok (.goto 4, 3) := by decide +kernel
theorem dX3_monthOf_19 : decode cX3_monthOf 19 = .ok (.iconst 0, 1) := by decide +kernel
theorem dX3_monthOf_20 : decode cX3_monthOf 20 = .ok (.ireturn, 1) := by decide +kernel
theorem dX3_findPlan_0 : decode cX3_findPlan 0 = .ok (.aload_n 0, 1) := by decide +kernel
theorem dX3_findPlan_1 : decode cX3_findPlan 1 = .ok (.getfield 25, 3) := by decide +kernel
theorem dX3_findPlan_4 : decode cX3_findPlan 4 = .ok (.getfield 29, 3) := by decide +kernel
theorem dX3_findPlan_7 : decode cX3_findPlan 7 = .ok (.getfield 35, 3) := by decide +kernel
theorem dX3_findPlan_10 : decode cX3_findPlan 10 = .ok (.bipush 6, 2) := by decide +kernel
theorem dX3_findPlan_12 : decode cX3_findPlan 12 = .ok (.invokestatic 41, 3) := by decide +kernel
theorem dX3_findPlan_15 : decode cX3_findPlan 15 = .ok (.istore_n 2, 1) := by decide +kernel
theorem dX3_findPlan_16 : decode cX3_findPlan 16 = .ok (.iconst 0, 1) := by decide +kernel
theorem dX3_findPlan_17 : decode cX3_findPlan 17 = .ok (.istore_n 3, 1) := by decide +kernel
theorem dX3_findPlan_18 : decode cX3_findPlan 18 = .ok (.iload_n 3, 1) := by decide +kernel
theorem dX3_findPlan_19 : decode cX3_findPlan 19 = .ok (.iload_n 2, 1) := by decide +kernel
theorem dX3_findPlan_20 : decode cX3_findPlan 20 = .ok (.if_icmp .ge 57, 3) := by decide +kernel
theorem dX3_findPlan_23 : decode cX3_findPlan 23 = .ok (.aload_n 0, 1) := by decide +kernel
theorem dX3_findPlan_24 : decode cX3_findPlan 24 = .ok (.getfield 25, 3) := by decide +kernel
theorem dX3_findPlan_27 : decode cX3_findPlan 27 = .ok (.getfield 29, 3) := by decide +kernel
theorem dX3_findPlan_30 : decode cX3_findPlan 30 = .ok (.iload_n 3, 1) := by decide +kernel
theorem dX3_findPlan_31 : decode cX3_findPlan 31 = .ok (.iconst 1, 1) := by decide +kernel
theorem dX3_findPlan_32 : decode cX3_findPlan 32 = .ok (.invokevirtual 47, 3) := by decide +kernel
theorem dX3_findPlan_35 : decode cX3_findPlan 35 = .ok (.istore 4, 2) := by decide +kernel
theorem dX3_findPlan_37 : decode cX3_findPlan 37 = .ok (.aload_n 0, 1) := by decide +kernel
theorem dX3_findPlan_38 : decode cX3_findPlan 38 = .ok (.getfield 15, 3) := by decide +kernel
theorem dX3_findPlan_41 : decode cX3_findPlan 41 = .ok (.iload_n 3, 1) := by decide +kernel
theorem dX3_findPlan_42 : decode cX3_findPlan 42 = .ok (.aload_n 0, 1) := by decide +kernel
theorem dX3_findPlan_43 : decode cX3_findPlan 43 = .ok (.getfield 21, 3) := by decide +kernel
theorem dX3_findPlan_46 : decode cX3_findPlan 46 = .ok (.iconst 0, 1) := by decide +kernel
theorem dX3_findPlan_47 : decode cX3_findPlan 47 = .ok (.iload 4, 2) := by decide +kernel
theorem dX3_findPlan_49 : decode cX3_findPlan 49 = .ok (.invokevirtual 50, 3) := by decide +kernel
theorem dX3_findPlan_52 : decode cX3_findPlan 52 = .ok (.aload_n 0, 1) := by decide +kernel
theorem dX3_findPlan_53 : decode cX3_findPlan 53 = .ok (.getfield 21, 3) := by decide +kernel
theorem dX3_findPlan_56 : decode cX3_findPlan 56 = .ok (.iconst 1, 1) := by decide +kernel
theorem dX3_findPlan_57 : decode cX3_findPlan 57 = .ok (.aload_n 0, 1) := by decide +kernel
theorem dX3_findPlan_58 : decode cX3_findPlan 58 = .ok (.getfield 21, 3) := by decide +kernel
theorem dX3_findPlan_61 : decode cX3_findPlan 61 = .ok (.iload 4, 2) := by decide +kernel
theorem dX3_findPlan_63 : decode cX3_findPlan 63 = .ok (.invokevirtual 55, 3) := by decide +kernel
theorem dX3_findPlan_66 : decode cX3_findPlan 66 = .ok (.invokevirtual 50, 3) := by decide +kernel
theorem dX3_findPlan_69 : decode cX3_findPlan 69 = .ok (.iadd, 1) := by decide +kernel
theorem dX3_findPlan_70 : decode cX3_findPlan 70 = .ok (.iastore, 1) := by decide +kernel
theorem dX3_findPlan_71 : decode cX3_findPlan 71 = .ok (.iinc 3 1, 3) := by decide +kernel
theorem dX3_findPlan_74 : decode cX3_findPlan 74 = .ok (.goto (-56), 3) := by decide +kernel
theorem dX3_findPlan_77 : decode cX3_findPlan 77 = .ok (.sipush 255, 3) := by decide +kernel
theorem dX3_findPlan_80 : decode cX3_findPlan 80 = .ok (.istore_n 3, 1) := by decide +kernel
theorem dX3_findPlan_81 : decode cX3_findPlan 81 = .ok (.iload_n 3, 1) := by decide +kernel
theorem dX3_findPlan_82 : decode cX3_findPlan 82 = .ok (.ifCond .lt 62, 3) := by decide +kernel
theorem dX3_findPlan_85 : decode cX3_findPlan 85 = .ok (.iload_n 3, 1) := by decide +kernel
theorem dX3_findPlan_86 : decode cX3_findPlan 86 = .ok (.iconst 0, 1) := by decide +kernel
theorem dX3_findPlan_87 : decode cX3_findPlan 87 = .ok (.invokestatic 59, 3) := by decide +kernel
theorem dX3_findPlan_90 : decode cX3_findPlan 90 = .ok (.iload_n 3, 1) := by decide +kernel
theorem dX3_findPlan_91 : decode cX3_findPlan 91 = .ok (.iconst 1, 1) := by decide +kernel
theorem dX3_findPlan_92 : decode cX3_findPlan 92 = .ok (.invokestatic 59, 3) := by decide +kernel
theorem dX3_findPlan_95 : decode cX3_findPlan 95 = .ok (.iadd, 1) := by decide +kernel
theorem dX3_findPlan_96 : decode cX3_findPlan 96 = .ok (.iload_n 3, 1) := by decide +kernel
theorem dX3_findPlan_97 : decode cX3_findPlan 97 = .ok (.iconst 2, 1) := by decide +kernel
theorem dX3_findPlan_98 : decode cX3_findPlan 98 = .ok (.invokestatic 59, 3) := by decide +kernel
theorem dX3_findPlan_101 : decode cX3_findPlan 101 = .ok (.iadd, 1) := by decide +kernel
theorem dX3_findPlan_102 : decode cX3_findPlan 102 = .ok (.iload_n 3, 1) := by decide +kernel
theorem dX3_findPlan_103 : decode cX3_findPlan 103 = .ok (.iconst 3, 1) := by decide +kernel
theorem dX3_findPlan_104 : decode cX3_findPlan 104 = .ok (.invokestatic 59, 3) := by decide +kernel
theorem dX3_findPlan_107 : decode cX3_findPlan 107 = .ok (.iadd, 1) := by decide +kernel
theorem dX3_findPlan_108 : decode cX3_findPlan 108 = .ok (.istore 4, 2) := by decide +kernel
theorem dX3_findPlan_110 : decode cX3_findPlan 110 = .ok (.aload_n 0, 1) := by decide +kernel
theorem dX3_findPlan_111 : decode cX3_findPlan 111 = .ok (.getfield 11, 3) := by decide +kernel
theorem dX3_findPlan_114 : decode cX3_findPlan 114 = .ok (.iload_n 3, 1) := by decide +kernel
theorem dX3_findPlan_115 : decode cX3_findPlan 115 = .ok (.iload 4, 2) := by decide +kernel
theorem dX3_findPlan_117 : decode cX3_findPlan 117 = .ok (.iload_n 2, 1) := by decide +kernel
theorem dX3_findPlan_118 : decode cX3_findPlan 118 = .ok (.if_icmp .ge 18, 3) := by decide +kernel
theorem dX3_findPlan_121 : decode cX3_findPlan 121 = .ok (.aload_n 0, 1) := by decide +kernel
theorem dX3_findPlan_122 : decode cX3_findPlan 122 = .ok (.iload_n 3, 1) := by decide +kernel
theorem dX3_findPlan_123 : decode cX3_findPlan 123 = .ok (.aload_n 0, 1) := by decide +kernel
theorem dX3_findPlan_124 : decode cX3_findPlan 124 = .ok (.getfield 15, 3) := by decide +kernel
theorem dX3_findPlan_127 : decode cX3_findPlan 127 = .ok (.iload 4, 2) := by decide +kernel
theorem dX3_findPlan_129 : decode cX3_findPlan 129 = .ok (.iaload, 1) := by decide +kernel
theorem dX3_findPlan_130 : decode cX3_findPlan 130 = .ok (.invokevirtual 62, 3) := by decide +kernel
theorem dX3_findPlan_133 : decode cX3_findPlan 133 = .ok (.goto 4, 3) := by decide +kernel
theorem dX3_findPlan_136 : decode cX3_findPlan 136 = .ok (.iconst 0, 1) := by decide +kernel
theorem dX3_findPlan_137 : decode cX3_findPlan 137 = .ok (.iastore, 1) := by decide +kernel
theorem dX3_findPlan_138 : decode cX3_findPlan 138 = .ok (.iinc 3 (-1), 3) := by decide +kernel
theorem dX3_findPlan_141 : decode cX3_findPlan 141 = .ok (.goto (-60), 3) := by decide +kernel
theorem dX3_findPlan_144 : decode cX3_findPlan 144 = .ok (.aload_n 0, 1) := by decide +kernel
theorem dX3_findPlan_145 : decode cX3_findPlan 145 = .ok (.iload_n 1, 1) := by decide +kernel
theorem dX3_findPlan_146 : decode cX3_findPlan 146 = .ok (.iload_n 2, 1) := by decide +kernel
theorem dX3_findPlan_147 : decode cX3_findPlan 147 = .ok (.invokevirtual 65, 3) := by decide +kernel
theorem dX3_findPlan_150 : decode cX3_findPlan 150 = .ok (.aload_n 0, 1) := by decide +kernel
theorem dX3_findPlan_151 : decode cX3_findPlan 151 = .ok (.getfield 11, 3) := by decide +kernel
theorem dX3_findPlan_154 : decode cX3_findPlan 154 = .ok (.iconst 0, 1) := by decide +kernel
theorem dX3_findPlan_155 : decode cX3_findPlan 155 = .ok (.iaload, 1) := by decide +kernel
theorem dX3_findPlan_156 : decode cX3_findPlan 156 = .ok (.ireturn, 1) := by decide +kernel
theorem dX3_taken_0 : decode cX3_taken 0 = .ok (.iload_n 0, 1) := by decide +kernel
theorem dX3_taken_1 : decode cX3_taken 1 = .ok (.iconst 2, 1) := by decide +kernel
theorem dX3_taken_2 : decode cX3_taken 2 = .ok (.iload_n 1, 1) := by decide +kernel
theorem dX3_taken_3 : decode cX3_taken 3 = .ok (.imul, 1) := by decide +kernel
theorem dX3_taken_4 : decode cX3_taken 4 = .ok (.ishr, 1) := by decide +kernel
theorem dX3_taken_5 : decode cX3_taken 5 = .ok (.iconst 3, 1) := by decide +kernel
theorem dX3_taken_6 : decode cX3_taken 6 = .ok (.iand, 1) := by decide +kernel
theorem dX3_taken_7 : decode cX3_taken 7 = .ok (.ireturn, 1) := by decide +kernel
theorem dX3_withOneMore_0 : decode cX3_withOneMore 0 = .ok (.iload_n 0, 1) := by decide +kernel
theorem dX3_withOneMore_1 : decode cX3_withOneMore 1 = .ok (.iconst 1, 1) := by decide +kernel
theorem dX3_withOneMore_2 : decode cX3_withOneMore 2 = .ok (.iconst 2, 1) := by decide +kernel
theorem dX3_withOneMore_3 : decode cX3_withOneMore 3 = .ok (.iload_n 1, 1) := by decide +kernel
theorem dX3_withOneMore_4 : decode cX3_withOneMore 4 = .ok (.imul, 1) := by decide +kernel
theorem dX3_withOneMore_5 : decode cX3_withOneMore 5 = .ok (.ishl, 1) := by decide +kernel
theorem dX3_withOneMore_6 : decode cX3_withOneMore 6 = .ok (.iadd, 1) := by decide +kernel
theorem dX3_withOneMore_7 : decode cX3_withOneMore 7 = .ok (.sipush 255, 3) := by decide +kernel
theorem dX3_withOneMore_10 : decode cX3_withOneMore 10 = .ok (.iand, 1) := by decide +kernel
theorem dX3_withOneMore_11 : decode cX3_withOneMore 11 = .ok (.ireturn, 1) := by decide +kernel
theorem dX3_costWith_0 : decode cX3_costWith 0 = .ok (.aload_n 0, 1) := by decide +kernel
theorem dX3_costWith_1 : decode cX3_costWith 1 = .ok (.getfield 21, 3) := by decide +kernel
theorem dX3_costWith_4 : decode cX3_costWith 4 = .ok (.getfield 69, 3) := by decide +kernel
theorem dX3_costWith_7 : decode cX3_costWith 7 = .ok (.iload_n 2, 1) := by decide +kernel
theorem dX3_costWith_8 : decode cX3_costWith 8 = .ok (.iaload, 1) := by decide +kernel
theorem dX3_costWith_9 : decode cX3_costWith 9 = .ok (.iload_n 3, 1) := by decide +kernel
theorem dX3_costWith_10 : decode cX3_costWith 10 = .ok (.imul, 1) := by decide +kernel
theorem dX3_costWith_11 : decode cX3_costWith 11 = .ok (.aload_n 0, 1) := by decide +kernel
theorem dX3_costWith_12 : decode cX3_costWith 12 = .ok (.getfield 11, 3) := by decide +kernel
theorem dX3_costWith_15 : decode cX3_costWith 15 = .ok (.iload_n 1, 1) := by decide +kernel
theorem dX3_costWith_16 : decode cX3_costWith 16 = .ok (.iload_n 2, 1) := by decide +kernel
theorem dX3_costWith_17 : decode cX3_costWith 17 = .ok (.invokestatic 72, 3) := by decide +kernel
theorem dX3_costWith_20 : decode cX3_costWith 20 = .ok (.iaload, 1) := by decide +kernel
theorem dX3_costWith_21 : decode cX3_costWith 21 = .ok (.iadd, 1) := by decide +kernel
theorem dX3_costWith_22 : decode cX3_costWith 22 = .ok (.ireturn, 1) := by decide +kernel
theorem dX3_leastFrom_0 : decode cX3_leastFrom 0 = .ok (.ldc 75, 2) := by decide +kernel
theorem dX3_leastFrom_2 : decode cX3_leastFrom 2 = .ok (.istore_n 3, 1) := by decide +kernel
theorem dX3_leastFrom_3 : decode cX3_leastFrom 3 = .ok (.iconst 0, 1) := by decide +kernel
theorem dX3_leastFrom_4 : decode cX3_leastFrom 4 = .ok (.istore 4, 2) := by decide +kernel
theorem dX3_leastFrom_6 : decode cX3_leastFrom 6 = .ok (.iload 4, 2) := by decide +kernel
theorem dX3_leastFrom_8 : decode cX3_leastFrom 8 = .ok (.iconst 4, 1) := by decide +kernel
theorem dX3_leastFrom_9 : decode cX3_leastFrom 9 = .ok (.if_icmp .ge 32, 3) := by decide +kernel
theorem dX3_leastFrom_12 : decode cX3_leastFrom 12 = .ok (.iload_n 1, 1) := by decide +kernel
theorem dX3_leastFrom_13 : decode cX3_leastFrom 13 = .ok (.iload 4, 2) := by decide +kernel
theorem dX3_leastFrom_15 : decode cX3_leastFrom 15 = .ok (.invokestatic 59, 3) := by decide +kernel
theorem dX3_leastFrom_18 : decode cX3_leastFrom 18 = .ok (.iconst 3, 1) := by decide +kernel
theorem dX3_leastFrom_19 : decode cX3_leastFrom 19 = .ok (.if_icmp .ge 16, 3) := by decide +kernel
theorem dX3_leastFrom_22 : decode cX3_leastFrom 22 = .ok (.iload_n 3, 1) := by decide +kernel
theorem dX3_leastFrom_23 : decode cX3_leastFrom 23 = .ok (.aload_n 0, 1) := by decide +kernel
theorem dX3_leastFrom_24 : decode cX3_leastFrom 24 = .ok (.iload_n 1, 1) := by decide +kernel
theorem dX3_leastFrom_25 : decode cX3_leastFrom 25 = .ok (.iload 4, 2) := by decide +kernel
theorem dX3_leastFrom_27 : decode cX3_leastFrom 27 = .ok (.iload_n 2, 1) := by decide +kernel
theorem dX3_leastFrom_28 : decode cX3_leastFrom 28 = .ok (.invokevirtual 76, 3) := by decide +kernel
theorem dX3_leastFrom_31 : decode cX3_leastFrom 31 = .ok (.invokestatic 41, 3) := by decide +kernel
theorem dX3_leastFrom_34 : decode cX3_leastFrom 34 = .ok (.istore_n 3, 1) := by decide +kernel
theorem dX3_leastFrom_35 : decode cX3_leastFrom 35 = .ok (.iinc 4 1, 3) := by decide +kernel
theorem dX3_leastFrom_38 : decode cX3_leastFrom 38 = .ok (.goto (-32), 3) := by decide +kernel
theorem dX3_leastFrom_41 : decode cX3_leastFrom 41 = .ok (.iload_n 3, 1) := by decide +kernel
theorem dX3_leastFrom_42 : decode cX3_leastFrom 42 = .ok (.ireturn, 1) := by decide +kernel
theorem dX3_placeWants_0 : decode cX3_placeWants 0 = .ok (.iconst 0, 1) := by decide +kernel
theorem dX3_placeWants_1 : decode cX3_placeWants 1 = .ok (.istore_n 3, 1) := by decide +kernel
theorem dX3_placeWants_2 : decode cX3_placeWants 2 = .ok (.iconst 0, 1) := by decide +kernel
theorem dX3_placeWants_3 : decode cX3_placeWants 3 = .ok (.istore 4, 2) := by decide +kernel
theorem dX3_placeWants_5 : decode cX3_placeWants 5 = .ok (.iload 4, 2) := by decide +kernel
theorem dX3_placeWants_7 : decode cX3_placeWants 7 = .ok (.iload_n 2, 1) := by decide +kernel
theorem dX3_placeWants_8 : decode cX3_placeWants 8 = .ok (.if_icmp .ge 132, 3) := by decide +kernel
theorem dX3_placeWants_11 : decode cX3_placeWants 11 = .ok (.iconst 0, 1) := by decide +kernel
theorem dX3_placeWants_12 : decode cX3_placeWants 12 = .ok (.istore 5, 2) := by decide +kernel
theorem dX3_placeWants_14 : decode cX3_placeWants 14 = .ok (.aload_n 0, 1) := by decide +kernel
theorem dX3_placeWants_15 : decode cX3_placeWants 15 = .ok (.getfield 18, 3) := by decide +kernel
theorem dX3_placeWants_18 : decode cX3_placeWants 18 = .ok (.iload 4, 2) := by decide +kernel
theorem dX3_placeWants_20 : decode cX3_placeWants 20 = .ok (.ldc 75, 2) := by decide +kernel
theorem dX3_placeWants_22 : decode cX3_placeWants 22 = .ok (.iastore, 1) := by decide +kernel
theorem dX3_placeWants_23 : decode cX3_placeWants 23 = .ok (.iconst 0, 1) := by decide +kernel
theorem dX3_placeWants_24 : decode cX3_placeWants 24 = .ok (.istore 6, 2) := by decide +kernel
theorem dX3_placeWants_26 : decode cX3_placeWants 26 = .ok (.iload 6, 2) := by decide +kernel
theorem dX3_placeWants_28 : decode cX3_placeWants 28 = .ok (.iconst 4, 1) := by decide +kernel
theorem dX3_placeWants_29 : decode cX3_placeWants 29 = .ok (.if_icmp .ge 98, 3) := by decide +kernel
theorem dX3_placeWants_32 : decode cX3_placeWants 32 = .ok (.iload_n 1, 1) := by decide +kernel
theorem dX3_placeWants_33 : decode cX3_placeWants 33 = .ok (.iload 6, 2) := by decide +kernel
theorem dX3_placeWants_35 : decode cX3_placeWants 35 = .ok (.iload_n 1, 1) := by decide +kernel
theorem dX3_placeWants_36 : decode cX3_placeWants 36 = .ok (.isub, 1) := by decide +kernel
theorem dX3_placeWants_37 : decode cX3_placeWants 37 = .ok (.iconst 3, 1) := by decide +kernel
theorem dX3_placeWants_38 : decode cX3_placeWants 38 = .ok (.iand, 1) := by decide +kernel
theorem dX3_placeWants_39 : decode cX3_placeWants 39 = .ok (.iadd, 1) := by decide +kernel
theorem dX3_placeWants_40 : decode cX3_placeWants 40 = .ok (.iconst 4, 1) := by decide +kernel
theorem dX3_placeWants_41 : decode cX3_placeWants 41 = .ok (.iload_n 3, 1) := by decide +kernel
theorem dX3_placeWants_42 : decode cX3_placeWants 42 = .ok (.iload 6, 2) := by decide +kernel
theorem dX3_placeWants_44 : decode cX3_placeWants 44 = .ok (.invokestatic 59, 3) := by decide +kernel
theorem dX3_placeWants_47 : decode cX3_placeWants 47 = .ok (.imul, 1) := by decide +kernel
theorem dX3_placeWants_48 : decode cX3_placeWants 48 = .ok (.iadd, 1) := by decide +kernel
theorem dX3_placeWants_49 : decode cX3_placeWants 49 = .ok (.istore 7, 2) := by decide +kernel
theorem dX3_placeWants_51 : decode cX3_placeWants 51 = .ok (.iload_n 3, 1) := by decide +kernel
theorem dX3_placeWants_52 : decode cX3_placeWants 52 = .ok (.iload 6, 2) := by decide +kernel
theorem dX3_placeWants_54 : decode cX3_placeWants 54 = .ok (.invokestatic 59, 3) := by decide +kernel
theorem dX3_placeWants_57 : decode cX3_placeWants 57 = .ok (.iconst 3, 1) := by decide +kernel
theorem dX3_placeWants_58 : decode cX3_placeWants 58 = .ok (.if_icmp .ge 7, 3) := by decide +kernel
theorem dX3_placeWants_61 : decode cX3_placeWants 61 = .ok (.iconst 1, 1) := by decide +kernel
theorem dX3_placeWants_62 : decode cX3_placeWants 62 = .ok (.goto 4, 3) := by decide +kernel
theorem dX3_placeWants_65 : decode cX3_placeWants 65 = .ok (.iconst 0, 1) := by decide +kernel
theorem dX3_placeWants_66 : decode cX3_placeWants 66 = .ok (.istore 8, 2) := by decide +kernel
theorem dX3_placeWants_68 : decode cX3_placeWants 68 = .ok (.iload 8, 2) := by decide +kernel
theorem dX3_placeWants_70 : decode cX3_placeWants 70 = .ok (.ifCond .eq 51, 3) := by decide +kernel
theorem dX3_placeWants_73 : decode cX3_placeWants 73 = .ok (.iload 7, 2) := by decide +kernel
theorem dX3_placeWants_75 : decode cX3_placeWants 75 = .ok (.aload_n 0, 1) := by decide +kernel
theorem dX3_placeWants_76 : decode cX3_placeWants 76 = .ok (.getfield 18, 3) := by decide +kernel
theorem dX3_placeWants_79 : decode cX3_placeWants 79 = .ok (.iload 4, 2) := by decide +kernel
theorem dX3_placeWants_81 : decode cX3_placeWants 81 = .ok (.iaload, 1) := by decide +kernel
theorem dX3_placeWants_82 : decode cX3_placeWants 82 = .ok (.if_icmp .ge 39, 3) := by decide +kernel
theorem dX3_placeWants_85 : decode cX3_placeWants 85 = .ok (.aload_n 0, 1) := by decide +kernel
theorem dX3_placeWants_86 : decode cX3_placeWants 86 = .ok (.iload_n 3, 1) := by decide +kernel
theorem dX3_placeWants_87 : decode cX3_placeWants 87 = .ok (.iload 6, 2) := by decide +kernel
theorem dX3_placeWants_89 : decode cX3_placeWants 89 = .ok (.aload_n 0, 1) := by decide +kernel
theorem dX3_placeWants_90 : decode cX3_placeWants 90 = .ok (.getfield 15, 3) := by decide +kernel
theorem dX3_placeWants_93 : decode cX3_placeWants 93 = .ok (.iload 4, 2) := by decide +kernel
theorem dX3_placeWants_95 : decode cX3_placeWants 95 = .ok (.iaload, 1) := by decide +kernel
theorem dX3_placeWants_96 : decode cX3_placeWants 96 = .ok (.invokevirtual 76, 3) := by decide +kernel
theorem dX3_placeWants_99 : decode cX3_placeWants 99 = .ok (.aload_n 0, 1) := by decide +kernel
theorem dX3_placeWants_100 : decode cX3_placeWants 100 = .ok (.getfield 11, 3) := by decide +kernel
theorem dX3_placeWants_103 : decode cX3_placeWants 103 = .ok (.iload_n 3, 1) := by decide +kernel
theorem dX3_placeWants_104 : decode cX3_placeWants 104 = .ok (.iaload, 1) := by decide +kernel
theorem dX3_placeWants_105 : decode cX3_placeWants 105 = .ok (.if_icmp .ne 16, 3) := by decide +kernel
theorem dX3_placeWants_108 : decode cX3_placeWants 108 = .ok (.aload_n 0, 1) := by decide +kernel
theorem dX3_placeWants_109 : decode cX3_placeWants 109 = .ok (.getfield 18, 3) := by decide +kernel
theorem dX3_placeWants_112 : decode cX3_placeWants 112 = .ok (.iload 4, 2) := by decide +kernel
theorem dX3_placeWants_114 : decode cX3_placeWants 114 = .ok (.iload 7, 2) := by decide +kernel
theorem dX3_placeWants_116 : decode cX3_placeWants 116 = .ok (.iastore, 1) := by decide +kernel
theorem dX3_placeWants_117 : decode cX3_placeWants 117 = .ok (.iload 6, 2) := by decide +kernel
theorem dX3_placeWants_119 : decode cX3_placeWants 119 = .ok (.istore 5, 2) := by decide +kernel
theorem dX3_placeWants_121 : decode cX3_placeWants 121 = .ok (.iinc 6 1, 3) := by decide +kernel
theorem dX3_placeWants_124 : decode cX3_placeWants 124 = .ok (.goto (-98), 3) := by decide +kernel
theorem dX3_placeWants_127 : decode cX3_placeWants 127 = .ok (.iload_n 3, 1) := by decide +kernel
theorem dX3_placeWants_128 : decode cX3_placeWants 128 = .ok (.iload 5, 2) := by decide +kernel
theorem dX3_placeWants_130 : decode cX3_placeWants 130 = .ok (.invokestatic 72, 3) := by decide +kernel
theorem dX3_placeWants_133 : decode cX3_placeWants 133 = .ok (.istore_n 3, 1) := by decide +kernel
theorem dX3_placeWants_134 : decode cX3_placeWants 134 = .ok (.iinc 4 1, 3) := by decide +kernel
theorem dX3_placeWants_137 : decode cX3_placeWants 137 = .ok (.goto (-132), 3) := by decide +kernel
theorem dX3_placeWants_140 : decode cX3_placeWants 140 = .ok (.return_, 1) := by decide +kernel
theorem dX3_kindsBarred_0 : decode cX3_kindsBarred 0 = .ok (.iconst 0, 1) := by decide +kernel
theorem dX3_kindsBarred_1 : decode cX3_kindsBarred 1 = .ok (.istore_n 1, 1) := by decide +kernel
theorem dX3_kindsBarred_2 : decode cX3_kindsBarred 2 = .ok (.iconst 0, 1) := by decide +kernel
theorem dX3_kindsBarred_3 : decode cX3_kindsBarred 3 = .ok (.istore_n 2, 1) := by decide +kernel
theorem dX3_kindsBarred_4 : decode cX3_kindsBarred 4 = .ok (.iload_n 2, 1) := by decide +kernel
theorem dX3_kindsBarred_5 : decode cX3_kindsBarred 5 = .ok (.aload_n 0, 1) := by decide +kernel
theorem dX3_kindsBarred_6 : decode cX3_kindsBarred 6 = .ok (.getfield 25, 3) := by decide +kernel
theorem dX3_kindsBarred_9 : decode cX3_kindsBarred 9 = .ok (.getfield 29, 3) := by decide +kernel
theorem dX3_kindsBarred_12 : decode cX3_kindsBarred 12 = .ok (.getfield 35, 3) := by decide +kernel
theorem dX3_kindsBarred_15 : decode cX3_kindsBarred 15 = .ok (.if_icmp .ge 59, 3) := by decide +kernel
theorem dX3_kindsBarred_18 : decode cX3_kindsBarred 18 = .ok (.aload_n 0, 1) := by decide +kernel
theorem dX3_kindsBarred_19 : decode cX3_kindsBarred 19 = .ok (.getfield 25, 3) := by decide +kernel
theorem dX3_kindsBarred_22 : decode cX3_kindsBarred 22 = .ok (.getfield 29, 3) := by decide +kernel
theorem dX3_kindsBarred_25 : decode cX3_kindsBarred 25 = .ok (.iload_n 2, 1) := by decide +kernel
theorem dX3_kindsBarred_26 : decode cX3_kindsBarred 26 = .ok (.iconst 1, 1) := by decide +kernel
theorem dX3_kindsBarred_27 : decode cX3_kindsBarred 27 = .ok (.invokevirtual 47, 3) := by decide +kernel
theorem dX3_kindsBarred_30 : decode cX3_kindsBarred 30 = .ok (.istore_n 3, 1) := by decide +kernel
theorem dX3_kindsBarred_31 : decode cX3_kindsBarred 31 = .ok (.aload_n 0, 1) := by decide +kernel
theorem dX3_kindsBarred_32 : decode cX3_kindsBarred 32 = .ok (.getfield 21, 3) := by decide +kernel
theorem dX3_kindsBarred_35 : decode cX3_kindsBarred 35 = .ok (.iconst 0, 1) := by decide +kernel
theorem dX3_kindsBarred_36 : decode cX3_kindsBarred 36 = .ok (.iload_n 3, 1) := by decide +kernel
theorem dX3_kindsBarred_37 : decode cX3_kindsBarred 37 = .ok (.invokevirtual 80, 3) := by decide +kernel
theorem dX3_kindsBarred_40 : decode cX3_kindsBarred 40 = .ok (.ifCond .ne 22, 3) := by decide +kernel
theorem dX3_kindsBarred_43 : decode cX3_kindsBarred 43 = .ok (.aload_n 0, 1) := by decide +kernel
theorem dX3_kindsBarred_44 : decode cX3_kindsBarred 44 = .ok (.getfield 21, 3) := by decide +kernel
theorem dX3_kindsBarred_47 : decode cX3_kindsBarred 47 = .ok (.iconst 1, 1) := by decide +kernel
theorem dX3_kindsBarred_48 : decode cX3_kindsBarred 48 = .ok (.aload_n 0, 1) := by decide +kernel
theorem dX3_kindsBarred_49 : decode cX3_kindsBarred 49 = .ok (.getfield 21, 3) := by decide +kernel
theorem dX3_kindsBarred_52 : decode cX3_kindsBarred 52 = .ok (.iload_n 3, 1) := by decide +kernel
theorem dX3_kindsBarred_53 : decode cX3_kindsBarred 53 = .ok (.invokevirtual 55, 3) := by decide +kernel
theorem dX3_kindsBarred_56 : decode cX3_kindsBarred 56 = .ok (.invokevirtual 80, 3) := by decide +kernel
theorem dX3_kindsBarred_59 : decode cX3_kindsBarred 59 = .ok (.ifCond .eq 9, 3) := by decide +kernel
theorem dX3_kindsBarred_62 : decode cX3_kindsBarred 62 = .ok (.iload_n 1, 1) := by decide +kernel
theorem dX3_kindsBarred_63 : decode cX3_kindsBarred 63 = .ok (.iconst 1, 1) := by decide +kernel
theorem dX3_kindsBarred_64 : decode cX3_kindsBarred 64 = .ok (.iload_n 3, 1) := by decide +kernel
theorem dX3_kindsBarred_65 : decode cX3_kindsBarred 65 = .ok (.ishl, 1) := by decide +kernel
theorem dX3_kindsBarred_66 : decode cX3_kindsBarred 66 = .ok (.ior, 1) := by decide +kernel
theorem dX3_kindsBarred_67 : decode cX3_kindsBarred 67 = .ok (.istore_n 1, 1) := by decide +kernel
theorem dX3_kindsBarred_68 : decode cX3_kindsBarred 68 = .ok (.iinc 2 1, 3) := by decide +kernel
theorem dX3_kindsBarred_71 : decode cX3_kindsBarred 71 = .ok (.goto (-67), 3) := by decide +kernel
theorem dX3_kindsBarred_74 : decode cX3_kindsBarred 74 = .ok (.iload_n 1, 1) := by decide +kernel
theorem dX3_kindsBarred_75 : decode cX3_kindsBarred 75 = .ok (.ireturn, 1) := by decide +kernel
theorem dX3_costInstead_0 : decode cX3_costInstead 0 = .ok (.bipush (-4), 2) := by decide +kernel
theorem dX3_costInstead_2 : decode cX3_costInstead 2 = .ok (.istore_n 1, 1) := by decide +kernel
theorem dX3_costInstead_3 : decode cX3_costInstead 3 = .ok (.iconst 1, 1) := by decide +kernel
theorem dX3_costInstead_4 : decode cX3_costInstead 4 = .ok (.istore_n 2, 1) := by decide +kernel
theorem dX3_costInstead_5 : decode cX3_costInstead 5 = .ok (.iload_n 2, 1) := by decide +kernel
theorem dX3_costInstead_6 : decode cX3_costInstead 6 = .ok (.bipush 6, 2) := by decide +kernel
theorem dX3_costInstead_8 : decode cX3_costInstead 8 = .ok (.if_icmp .ge 50, 3) := by decide +kernel
theorem dX3_costInstead_11 : decode cX3_costInstead 11 = .ok (.aload_n 0, 1) := by decide +kernel
theorem dX3_costInstead_12 : decode cX3_costInstead 12 = .ok (.getfield 21, 3) := by decide +kernel
theorem dX3_costInstead_15 : decode cX3_costInstead 15 = .ok (.iconst 1, 1) := by decide +kernel
theorem dX3_costInstead_16 : decode cX3_costInstead 16 = .ok (.iload_n 2, 1) := by decide +kernel
theorem dX3_costInstead_17 : decode cX3_costInstead 17 = .ok (.invokevirtual 80, 3) := by decide +kernel
theorem dX3_costInstead_20 : decode cX3_costInstead 20 = .ok (.ifCond .ne 32, 3) := by decide +kernel
theorem dX3_costInstead_23 : decode cX3_costInstead 23 = .ok (.iload_n 1, 1) := by decide +kernel
theorem dX3_costInstead_24 : decode cX3_costInstead 24 = .ok (.bipush (-4), 2) := by decide +kernel
theorem dX3_costInstead_26 : decode cX3_costInstead 26 = .ok (.if_icmp .eq 16, 3) := by decide +kernel
theorem dX3_costInstead_29 : decode cX3_costInstead 29 = .ok (.aload_n 0, 1) := by decide +kernel
theorem dX3_costInstead_30 : decode cX3_costInstead 30 = .ok (.getfield 21, 3) := by decide +kernel
theorem dX3_costInstead_33 : decode cX3_costInstead 33 = .ok (.iconst 1, 1) := by decide +kernel
theorem dX3_costInstead_34 : decode cX3_costInstead 34 = .ok (.iload_n 2, 1) := by decide +kernel
theorem dX3_costInstead_35 : decode cX3_costInstead 35 = .ok (.invokevirtual 50, 3) := by decide +kernel
theorem dX3_costInstead_38 : decode cX3_costInstead 38 = .ok (.iload_n 1, 1) := by decide +kernel
theorem dX3_costInstead_39 : decode cX3_costInstead 39 = .ok (.if_icmp .ge 13, 3) := by decide +kernel
theorem dX3_costInstead_42 : decode cX3_costInstead 42 = .ok (.aload_n 0, 1) := by decide +kernel
theorem dX3_costInstead_43 : decode cX3_costInstead 43 = .ok (.getfield 21, 3) := by decide +kernel
theorem dX3_costInstead_46 : decode cX3_costInstead 46 = .ok (.iconst 1, 1) := by decide +kernel
theorem dX3_costInstead_47 : decode cX3_costInstead 47 = .ok (.iload_n 2, 1) := by decide +kernel
theorem dX3_costInstead_48 : decode cX3_costInstead 48 = .ok (.invokevirtual 50, 3) := by decide +kernel
theorem dX3_costInstead_51 : decode cX3_costInstead 51 = .ok (.istore_n 1, 1) := by decide +kernel
theorem dX3_costInstead_52 : decode cX3_costInstead 52 = .ok (.iinc 2 1, 3) := by decide +kernel
theorem dX3_costInstead_55 : decode cX3_costInstead 55 = .ok (.goto (-50), 3) := by decide +kernel
theorem dX3_costInstead_58 : decode cX3_costInstead 58 = .ok (.iload_n 1, 1) := by decide +kernel
theorem dX3_costInstead_59 : decode cX3_costInstead 59 = .ok (.bipush (-4), 2) := by decide +kernel
theorem dX3_costInstead_61 : decode cX3_costInstead 61 = .ok (.if_icmp .ne 6, 3) := by decide +kernel
theorem dX3_costInstead_64 : decode cX3_costInstead 64 = .ok (.bipush (-4), 2) := by decide +kernel
theorem dX3_costInstead_66 : decode cX3_costInstead 66 = .ok (.ireturn, 1) := by decide +kernel
theorem dX3_costInstead_67 : decode cX3_costInstead 67 = .ok (.iconst 0, 1) := by decide +kernel
theorem dX3_costInstead_68 : decode cX3_costInstead 68 = .ok (.istore_n 2, 1) := by decide +kernel
theorem dX3_costInstead_69 : decode cX3_costInstead 69 = .ok (.iconst 0, 1) := by decide +kernel
theorem dX3_costInstead_70 : decode cX3_costInstead 70 = .ok (.istore_n 3, 1) := by decide +kernel
theorem dX3_costInstead_71 : decode cX3_costInstead 71 = .ok (.iload_n 3, 1) := by decide +kernel
theorem dX3_costInstead_72 : decode cX3_costInstead 72 = .ok (.aload_n 0, 1) := by decide +kernel
theorem dX3_costInstead_73 : decode cX3_costInstead 73 = .ok (.getfield 25, 3) := by decide +kernel
theorem dX3_costInstead_76 : decode cX3_costInstead 76 = .ok (.getfield 29, 3) := by decide +kernel
theorem dX3_costInstead_79 : decode cX3_costInstead 79 = .ok (.getfield 35, 3) := by decide +kernel
theorem dX3_costInstead_82 : decode cX3_costInstead 82 = .ok (.if_icmp .ge 51, 3) := by decide +kernel
theorem dX3_costInstead_85 : decode cX3_costInstead 85 = .ok (.aload_n 0, 1) := by decide +kernel
theorem dX3_costInstead_86 : decode cX3_costInstead 86 = .ok (.getfield 21, 3) := by decide +kernel
theorem dX3_costInstead_89 : decode cX3_costInstead 89 = .ok (.aload_n 0, 1) := by decide +kernel
theorem dX3_costInstead_90 : decode cX3_costInstead 90 = .ok (.getfield 25, 3) := by decide +kernel
theorem dX3_costInstead_93 : decode cX3_costInstead 93 = .ok (.getfield 29, 3) := by decide +kernel
theorem dX3_costInstead_96 : decode cX3_costInstead 96 = .ok (.iload_n 3, 1) := by decide +kernel
theorem dX3_costInstead_97 : decode cX3_costInstead 97 = .ok (.iconst 1, 1) := by decide +kernel
theorem dX3_costInstead_98 : decode cX3_costInstead 98 = .ok (.invokevirtual 47, 3) := by decide +kernel
theorem dX3_costInstead_101 : decode cX3_costInstead 101 = .ok (.invokevirtual 55, 3) := by decide +kernel
theorem dX3_costInstead_104 : decode cX3_costInstead 104 = .ok (.istore 4, 2) := by decide +kernel
theorem dX3_costInstead_106 : decode cX3_costInstead 106 = .ok (.iload_n 2, 1) := by decide +kernel
theorem dX3_costInstead_107 : decode cX3_costInstead 107 = .ok (.aload_n 0, 1) := by decide +kernel
theorem dX3_costInstead_108 : decode cX3_costInstead 108 = .ok (.getfield 21, 3) := by decide +kernel
theorem dX3_costInstead_111 : decode cX3_costInstead 111 = .ok (.iconst 1, 1) := by decide +kernel
theorem dX3_costInstead_112 : decode cX3_costInstead 112 = .ok (.iload 4, 2) := by decide +kernel
theorem dX3_costInstead_114 : decode cX3_costInstead 114 = .ok (.invokevirtual 80, 3) := by decide +kernel
theorem dX3_costInstead_117 : decode cX3_costInstead 117 = .ok (.ifCond .eq 7, 3) := by decide +kernel
theorem dX3_costInstead_120 : decode cX3_costInstead 120 = .ok (.iload_n 1, 1) := by decide +kernel
theorem dX3_costInstead_121 : decode cX3_costInstead 121 = .ok (.goto 4, 3) := by decide +kernel
theorem dX3_costInstead_124 : decode cX3_costInstead 124 = .ok (.iconst 0, 1) := by decide +kernel
theorem dX3_costInstead_125 : decode cX3_costInstead 125 = .ok (.iadd, 1) := by decide +kernel
theorem dX3_costInstead_126 : decode cX3_costInstead 126 = .ok (.istore_n 2, 1) := by decide +kernel
theorem dX3_costInstead_127 : decode cX3_costInstead 127 = .ok (.iinc 3 1, 3) := by decide +kernel
theorem dX3_costInstead_130 : decode cX3_costInstead 130 = .ok (.goto (-59), 3) := by decide +kernel
theorem dX3_costInstead_133 : decode cX3_costInstead 133 = .ok (.iload_n 2, 1) := by decide +kernel
theorem dX3_costInstead_134 : decode cX3_costInstead 134 = .ok (.ireturn, 1) := by decide +kernel
theorem dX5_init_0 : decode cX5_init 0 = .ok (.aload_n 0, 1) := by decide +kernel
theorem dX5_init_1 : decode cX5_init 1 = .ok (.invokespecial 1, 3) := by decide +kernel
theorem dX5_init_4 : decode cX5_init 4 = .ok (.aload_n 0, 1) := by decide +kernel
theorem dX5_init_5 : decode cX5_init 5 = .ok (.iload_n 1, 1) := by decide +kernel
theorem dX5_init_6 : decode cX5_init 6 = .ok (.putfield 7, 3) := by decide +kernel
theorem dX5_init_9 : decode cX5_init 9 = .ok (.aload_n 0, 1) := by decide +kernel
theorem dX5_init_10 : decode cX5_init 10 = .ok (.iload_n 2, 1) := by decide +kernel
theorem dX5_init_11 : decode cX5_init 11 = .ok (.putfield 13, 3) := by decide +kernel
theorem dX5_init_14 : decode cX5_init 14 = .ok (.aload_n 0, 1) := by decide +kernel
theorem dX5_init_15 : decode cX5_init 15 = .ok (.iload_n 1, 1) := by decide +kernel
theorem dX5_init_16 : decode cX5_init 16 = .ok (.iload_n 2, 1) := by decide +kernel
theorem dX5_init_17 : decode cX5_init 17 = .ok (.imul, 1) := by decide +kernel
theorem dX5_init_18 : decode cX5_init 18 = .ok (.newarray .int, 2) := by decide +kernel
theorem dX5_init_20 : decode cX5_init 20 = .ok (.putfield 16, 3) := by decide +kernel
theorem dX5_init_23 : decode cX5_init 23 = .ok (.return_, 1) := by decide +kernel
theorem dX5_isFull_0 : decode cX5_isFull 0 = .ok (.aload_n 0, 1) := by decide +kernel
theorem dX5_isFull_1 : decode cX5_isFull 1 = .ok (.getfield 20, 3) := by decide +kernel
theorem dX5_isFull_4 : decode cX5_isFull 4 = .ok (.aload_n 0, 1) := by decide +kernel
theorem dX5_isFull_5 : decode cX5_isFull 5 = .ok (.getfield 7, 3) := by decide +kernel
theorem dX5_isFull_8 : decode cX5_isFull 8 = .ok (.if_icmp .lt 7, 3) := by decide +kernel
theorem dX5_isFull_11 : decode cX5_isFull 11 = .ok (.iconst 1, 1) := by decide +kernel
theorem dX5_isFull_12 : decode cX5_isFull 12 = .ok (.goto 4, 3) := by decide +kernel
theorem dX5_isFull_15 : decode cX5_isFull 15 = .ok (.iconst 0, 1) := by decide +kernel
theorem dX5_isFull_16 : decode cX5_isFull 16 = .ok (.ireturn, 1) := by decide +kernel
theorem dX5_addRow_0 : decode cX5_addRow 0 = .ok (.aload_n 0, 1) := by decide +kernel
theorem dX5_addRow_1 : decode cX5_addRow 1 = .ok (.invokevirtual 23, 3) := by decide +kernel
theorem dX5_addRow_4 : decode cX5_addRow 4 = .ok (.ifCond .eq 4, 3) := by decide +kernel
theorem dX5_addRow_7 : decode cX5_addRow 7 = .ok (.return_, 1) := by decide +kernel
theorem dX5_addRow_8 : decode cX5_addRow 8 = .ok (.aload_n 0, 1) := by decide +kernel
theorem dX5_addRow_9 : decode cX5_addRow 9 = .ok (.getfield 20, 3) := by decide +kernel
theorem dX5_addRow_12 : decode cX5_addRow 12 = .ok (.istore 5, 2) := by decide +kernel
theorem dX5_addRow_14 : decode cX5_addRow 14 = .ok (.aload_n 0, 1) := by decide +kernel
theorem dX5_addRow_15 : decode cX5_addRow 15 = .ok (.dup, 1) := by decide +kernel
theorem dX5_addRow_16 : decode cX5_addRow 16 = .ok (.getfield 20, 3) := by decide +kernel
theorem dX5_addRow_19 : decode cX5_addRow 19 = .ok (.iconst 1, 1) := by decide +kernel
theorem dX5_addRow_20 : decode cX5_addRow 20 = .ok (.iadd, 1) := by decide +kernel
theorem dX5_addRow_21 : decode cX5_addRow 21 = .ok (.putfield 20, 3) := by decide +kernel
theorem dX5_addRow_24 : decode cX5_addRow 24 = .ok (.aload_n 0, 1) := by decide +kernel
theorem dX5_addRow_25 : decode cX5_addRow 25 = .ok (.iload 5, 2) := by decide +kernel
theorem dX5_addRow_27 : decode cX5_addRow 27 = .ok (.iconst 0, 1) := by decide +kernel
theorem dX5_addRow_28 : decode cX5_addRow 28 = .ok (.iload_n 1, 1) := by decide +kernel
theorem dX5_addRow_29 : decode cX5_addRow 29 = .ok (.invokevirtual 27, 3) := by decide +kernel
theorem dX5_addRow_32 : decode cX5_addRow 32 = .ok (.aload_n 0, 1) := by decide +kernel
theorem dX5_addRow_33 : decode cX5_addRow 33 = .ok (.iload 5, 2) := by decide +kernel
theorem dX5_addRow_35 : decode cX5_addRow 35 = .ok (.iconst 1, 1) := by decide +kernel
theorem dX5_addRow_36 : decode cX5_addRow 36 = .ok (.iload_n 2, 1) := by decide +kernel
theorem dX5_addRow_37 : decode cX5_addRow 37 = .ok (.invokevirtual 27, 3) := by decide +kernel
theorem dX5_addRow_40 : decode cX5_addRow 40 = .ok (.aload_n 0, 1) := by decide +kernel
theorem dX5_addRow_41 : decode cX5_addRow 41 = .ok (.iload 5, 2) := by decide +kernel
theorem dX5_addRow_43 : decode cX5_addRow 43 = .ok (.iconst 2, 1) := by decide +kernel
theorem dX5_addRow_44 : decode cX5_addRow 44 = .ok (.iload_n 3, 1) := by decide +kernel
theorem dX5_addRow_45 : decode cX5_addRow 45 = .ok (.invokevirtual 27, 3) := by decide +kernel
theorem dX5_addRow_48 : decode cX5_addRow 48 = .ok (.aload_n 0, 1) := by decide +kernel
theorem dX5_addRow_49 : decode cX5_addRow 49 = .ok (.iload 5, 2) := by decide +kernel
theorem dX5_addRow_51 : decode cX5_addRow 51 = .ok (.iconst 3, 1) := by decide +kernel
theorem dX5_addRow_52 : decode cX5_addRow 52 = .ok (.iload 4, 2) := by decide +kernel
theorem dX5_addRow_54 : decode cX5_addRow 54 = .ok (.invokevirtual 27, 3) := by decide +kernel
theorem dX5_addRow_57 : decode cX5_addRow 57 = .ok (.return_, 1) := by decide +kernel
theorem dX5_setCell_0 : decode cX5_setCell 0 = .ok (.iload_n 2, 1) := by decide +kernel
theorem dX5_setCell_1 : decode cX5_setCell 1 = .ok (.aload_n 0, 1) := by decide +kernel
theorem dX5_setCell_2 : decode cX5_setCell 2 = .ok (.getfield 13, 3) := by decide +kernel
theorem dX5_setCell_5 : decode cX5_setCell 5 = .ok (.if_icmp .ge 17, 3) := by decide +kernel
theorem dX5_setCell_8 : decode cX5_setCell 8 = .ok (.aload_n 0, 1) := by decide +kernel
theorem dX5_setCell_9 : decode cX5_setCell 9 = .ok (.getfield 16, 3) := by decide +kernel
theorem dX5_setCell_12 : decode cX5_setCell 12 = .ok (.iload_n 1, 1) := by decide +kernel
theorem dX5_setCell_13 : decode cX5_setCell 13 = .ok (.aload_n 0, 1) := by decide +kernel
theorem dX5_setCell_14 : decode cX5_setCell 14 = .ok (.getfield 13, 3) := by decide +kernel
theorem dX5_setCell_17 : decode cX5_setCell 17 = .ok (.imul, 1) := by decide +kernel
theorem dX5_setCell_18 : decode cX5_setCell 18 = .ok (.iload_n 2, 1) := by decide +kernel
theorem dX5_setCell_19 : decode cX5_setCell 19 = .ok (.iadd, 1) := by decide +kernel
theorem dX5_setCell_20 : decode cX5_setCell 20 = .ok (.iload_n 3, 1) := by decide +kernel
theorem dX5_setCell_21 : decode cX5_setCell 21 = .ok (.iastore, 1) := by decide +kernel
theorem dX5_setCell_22 : decode cX5_setCell 22 = .ok (.return_, 1) := by decide +kernel
theorem dX5_cell_0 : decode cX5_cell 0 = .ok (.iload_n 1, 1) := by decide +kernel
theorem dX5_cell_1 : decode cX5_cell 1 = .ok (.ifCond .lt 23, 3) := by decide +kernel
theorem dX5_cell_4 : decode cX5_cell 4 = .ok (.iload_n 1, 1) := by decide +kernel
theorem dX5_cell_5 : decode cX5_cell 5 = .ok (.aload_n 0, 1) := by decide +kernel
theorem dX5_cell_6 : decode cX5_cell 6 = .ok (.getfield 20, 3) := by decide +kernel
theorem dX5_cell_9 : decode cX5_cell 9 = .ok (.if_icmp .ge 15, 3) := by decide +kernel
theorem dX5_cell_12 : decode cX5_cell 12 = .ok (.iload_n 2, 1) := by decide +kernel
theorem dX5_cell_13 : decode cX5_cell 13 = .ok (.ifCond .lt 11, 3) := by decide +kernel
theorem dX5_cell_16 : decode cX5_cell 16 = .ok (.iload_n 2, 1) := by decide +kernel
theorem dX5_cell_17 : decode cX5_cell 17 = .ok (.aload_n 0, 1) := by decide +kernel
theorem dX5_cell_18 : decode cX5_cell 18 = .ok (.getfield 13, 3) := by decide +kernel
theorem dX5_cell_21 : decode cX5_cell 21 = .ok (.if_icmp .lt 5, 3) := by decide +kernel
theorem dX5_cell_24 : decode cX5_cell 24 = .ok (.iconst 0, 1) := by decide +kernel
theorem dX5_cell_25 : decode cX5_cell 25 = .ok (.ireturn, 1) := by decide +kernel
theorem dX5_cell_26 : decode cX5_cell 26 = .ok (.aload_n 0, 1) := by decide +kernel
theorem dX5_cell_27 : decode cX5_cell 27 = .ok (.getfield 16, 3) := by decide +kernel
theorem dX5_cell_30 : decode cX5_cell 30 = .ok (.iload_n 1, 1) := by decide +kernel
theorem dX5_cell_31 : decode cX5_cell 31 = .ok (.aload_n 0, 1) := by decide +kernel
theorem dX5_cell_32 : decode cX5_cell 32 = .ok (.getfield 13, 3) := by decide +kernel
theorem dX5_cell_35 : decode cX5_cell 35 = .ok (.imul, 1) := by decide +kernel
theorem dX5_cell_36 : decode cX5_cell 36 = .ok (.iload_n 2, 1) := by decide +kernel
theorem dX5_cell_37 : decode cX5_cell 37 = .ok (.iadd, 1) := by decide +kernel
theorem dX5_cell_38 : decode cX5_cell 38 = .ok (.iaload, 1) := by decide +kernel
theorem dX5_cell_39 : decode cX5_cell 39 = .ok (.ireturn, 1) := by decide +kernel
theorem dX5_empty_0 : decode cX5_empty 0 = .ok (.aload_n 0, 1) := by decide +kernel
theorem dX5_empty_1 : decode cX5_empty 1 = .ok (.getfield 20, 3) := by decide +kernel
theorem dX5_empty_4 : decode cX5_empty 4 = .ok (.istore_n 1, 1) := by decide +kernel
theorem dX5_empty_5 : decode cX5_empty 5 = .ok (.aload_n 0, 1) := by decide +kernel
theorem dX5_empty_6 : decode cX5_empty 6 = .ok (.iconst 0, 1) := by decide +kernel
theorem dX5_empty_7 : decode cX5_empty 7 = .ok (.putfield 20, 3) := by decide +kernel
theorem dX5_empty_10 : decode cX5_empty 10 = .ok (.iload_n 1, 1) := by decide +kernel
theorem dX5_empty_11 : decode cX5_empty 11 = .ok (.ireturn, 1) := by decide +kernel
theorem dX5_copyFrom_0 : decode cX5_copyFrom 0 = .ok (.aload_n 0, 1) := by decide +kernel
theorem dX5_copyFrom_1 : decode cX5_copyFrom 1 = .ok (.aload_n 1, 1) := by decide +kernel
theorem dX5_copyFrom_2 : decode cX5_copyFrom 2 = .ok (.getfield 20, 3) := by decide +kernel
theorem dX5_copyFrom_5 : decode cX5_copyFrom 5 = .ok (.putfield 20, 3) := by decide +kernel
theorem dX5_copyFrom_8 : decode cX5_copyFrom 8 = .ok (.aload_n 1, 1) := by decide +kernel
theorem dX5_copyFrom_9 : decode cX5_copyFrom 9 = .ok (.getfield 16, 3) := by decide +kernel
theorem dX5_copyFrom_12 : decode cX5_copyFrom 12 = .ok (.iconst 0, 1) := by decide +kernel
theorem dX5_copyFrom_13 : decode cX5_copyFrom 13 = .ok (.aload_n 0, 1) := by decide +kernel
theorem dX5_copyFrom_14 : decode cX5_copyFrom 14 = .ok (.getfield 16, 3) := by decide +kernel
theorem dX5_copyFrom_17 : decode cX5_copyFrom 17 = .ok (.iconst 0, 1) := by decide +kernel
theorem dX5_copyFrom_18 : decode cX5_copyFrom 18 = .ok (.aload_n 0, 1) := by decide +kernel
theorem dX5_copyFrom_19 : decode cX5_copyFrom 19 = .ok (.getfield 16, 3) := by decide +kernel
theorem dX5_copyFrom_22 : decode cX5_copyFrom 22 = .ok (.arraylength, 1) := by decide +kernel
theorem dX5_copyFrom_23 : decode cX5_copyFrom 23 = .ok (.aload_n 1, 1) := by decide +kernel
theorem dX5_copyFrom_24 : decode cX5_copyFrom 24 = .ok (.getfield 16, 3) := by decide +kernel
theorem dX5_copyFrom_27 : decode cX5_copyFrom 27 = .ok (.arraylength, 1) := by decide +kernel
theorem dX5_copyFrom_28 : decode cX5_copyFrom 28 = .ok (.invokestatic 31, 3) := by decide +kernel
theorem dX5_copyFrom_31 : decode cX5_copyFrom 31 = .ok (.invokestatic 37, 3) := by decide +kernel
theorem dX5_copyFrom_34 : decode cX5_copyFrom 34 = .ok (.return_, 1) := by decide +kernel
theorem dX6_init_0 : decode cX6_init 0 = .ok (.aload_n 0, 1) := by decide +kernel
theorem dX6_init_1 : decode cX6_init 1 = .ok (.invokespecial 3, 3) := by decide +kernel
theorem dX6_init_4 : decode cX6_init 4 = .ok (.aload_n 0, 1) := by decide +kernel
theorem dX6_init_5 : decode cX6_init 5 = .ok (.bipush 16, 2) := by decide +kernel
theorem dX6_init_7 : decode cX6_init 7 = .ok (.newarray .int, 2) := by decide +kernel
theorem dX6_init_9 : decode cX6_init 9 = .ok (.putfield 9, 3) := by decide +kernel
theorem dX6_init_12 : decode cX6_init 12 = .ok (.aload_n 0, 1) := by decide +kernel
theorem dX6_init_13 : decode cX6_init 13 = .ok (.iconst 2, 1) := by decide +kernel
theorem dX6_init_14 : decode cX6_init 14 = .ok (.newarray .int, 2) := by decide +kernel
theorem dX6_init_16 : decode cX6_init 16 = .ok (.putfield 15, 3) := by decide +kernel
theorem dX6_init_19 : decode cX6_init 19 = .ok (.aload_n 0, 1) := by decide +kernel
theorem dX6_init_20 : decode cX6_init 20 = .ok (.bipush 12, 2) := by decide +kernel
theorem dX6_init_22 : decode cX6_init 22 = .ok (.newarray .int, 2) := by decide +kernel
theorem dX6_init_24 : decode cX6_init 24 = .ok (.putfield 18, 3) := by decide +kernel
theorem dX6_init_27 : decode cX6_init 27 = .ok (.aload_n 0, 1) := by decide +kernel
theorem dX6_init_28 : decode cX6_init 28 = .ok (.bipush 8, 2) := by decide +kernel
theorem dX6_init_30 : decode cX6_init 30 = .ok (.newarray .int, 2) := by decide +kernel
theorem dX6_init_32 : decode cX6_init 32 = .ok (.putfield 21, 3) := by decide +kernel
theorem dX6_init_35 : decode cX6_init 35 = .ok (.aload_n 0, 1) := by decide +kernel
theorem dX6_init_36 : decode cX6_init 36 = .ok (.bipush 16, 2) := by decide +kernel
theorem dX6_init_38 : decode cX6_init 38 = .ok (.newarray .int, 2) := by decide +kernel
theorem dX6_init_40 : decode cX6_init 40 = .ok (.putfield 24, 3) := by decide +kernel
theorem dX6_init_43 : decode cX6_init 43 = .ok (.aload_n 0, 1) := by decide +kernel
theorem dX6_init_44 : decode cX6_init 44 = .ok (.aload_n 1, 1) := by decide +kernel
theorem dX6_init_45 : decode cX6_init 45 = .ok (.putfield 27, 3) := by decide +kernel
theorem dX6_init_48 : decode cX6_init 48 = .ok (.aload_n 0, 1) := by decide +kernel
theorem dX6_init_49 : decode cX6_init 49 = .ok (.aload_n 2, 1) := by decide +kernel
theorem dX6_init_50 : decode cX6_init 50 = .ok (.putfield 31, 3) := by decide +kernel
theorem dX6_init_53 : decode cX6_init 53 = .ok (.return_, 1) := by decide +kernel
theorem dX6_runMonths_0 : decode cX6_runMonths 0 = .ok (.aload_n 0, 1) := by decide +kernel
theorem dX6_runMonths_1 : decode cX6_runMonths 1 = .ok (.invokevirtual 35, 3) := by decide +kernel
theorem dX6_runMonths_4 : decode cX6_runMonths 4 = .ok (.iconst 0, 1) := by decide +kernel
theorem dX6_runMonths_5 : decode cX6_runMonths 5 = .ok (.istore_n 2, 1) := by decide +kernel
theorem dX6_runMonths_6 : decode cX6_runMonths 6 = .ok (.iload_n 2, 1) := by decide +kernel
theorem dX6_runMonths_7 : decode cX6_runMonths 7 = .ok (.iload_n 1, 1) := by decide +kernel
theorem dX6_runMonths_8 : decode cX6_runMonths 8 = .ok (.if_icmp .ge 14, 3) := by decide +kernel
theorem dX6_runMonths_11 : decode cX6_runMonths 11 = .ok (.aload_n 0, 1) := by decide +kernel
theorem dX6_runMonths_12 : decode cX6_runMonths 12 = .ok (.iload_n 2, 1) := by decide +kernel
theorem dX6_runMonths_13 : decode cX6_runMonths 13 = .ok (.invokevirtual 38, 3) := by decide +kernel
theorem dX6_runMonths_16 : decode cX6_runMonths 16 = .ok (.iinc 2 1, 3) := by decide +kernel
theorem dX6_runMonths_19 : decode cX6_runMonths 19 = .ok (.goto (-13), 3) := by decide +kernel
theorem dX6_runMonths_22 : decode cX6_runMonths 22 = .ok (.return_, 1) := by decide +kernel
theorem dX6_start_0 : decode cX6_start 0 = .ok (.iconst 0, 1) := by decide +kernel
theorem dX6_start_1 : decode cX6_start 1 = .ok (.istore_n 1, 1) := by decide +kernel
theorem dX6_start_2 : decode cX6_start 2 = .ok (.iload_n 1, 1) := by decide +kernel
theorem dX6_start_3 : decode cX6_start 3 = .ok (.bipush 16, 2) := by decide +kernel
theorem dX6_start_5 : decode cX6_start 5 = .ok (.if_icmp .ge 32, 3) := by decide +kernel
theorem dX6_start_8 : decode cX6_start 8 = .ok (.aload_n 0, 1) := by decide +kernel
theorem dX6_start_9 : decode cX6_start 9 = .ok (.getfield 9, 3) := by decide +kernel
theorem dX6_start_12 : decode cX6_start 12 = .ok (.iload_n 1, 1) := by decide +kernel
theorem dX6_start_13 : decode cX6_start 13 = .ok (.aload_n 0, 1) := by decide +kernel
theorem dX6_start_14 : decode cX6_start 14 = .ok (.getfield 31, 3) := by decide +kernel
theorem dX6_start_17 : decode cX6_start 17 = .ok (.getfield 42, 3) := by decide +kernel
theorem dX6_start_20 : decode cX6_start 20 = .ok (.iload_n 1, 1) := by decide +kernel
theorem dX6_start_21 : decode cX6_start 21 = .ok (.iaload, 1) := by decide +kernel
theorem dX6_start_22 : decode cX6_start 22 = .ok (.iastore, 1) := by decide +kernel
theorem dX6_start_23 : decode cX6_start 23 = .ok (.aload_n 0, 1) := by decide +kernel
theorem dX6_start_24 : decode cX6_start 24 = .ok (.getfield 24, 3) := by decide +kernel
theorem dX6_start_27 : decode cX6_start 27 = .ok (.iload_n 1, 1) := by decide +kernel
theorem dX6_start_28 : decode cX6_start 28 = .ok (.bipush (-4), 2) := by decide +kernel
theorem dX6_start_30 : decode cX6_start 30 = .ok (.iastore, 1) := by decide +kernel
theorem dX6_start_31 : decode cX6_start 31 = .ok (.iinc 1 1, 3) := by decide +kernel
theorem dX6_start_34 : decode cX6_start 34 = .ok (.goto (-32), 3) := by decide +kernel
theorem dX6_start_37 : decode cX6_start 37 = .ok (.iconst 0, 1) := by decide +kernel
theorem dX6_start_38 : decode cX6_start 38 = .ok (.istore_n 1, 1) := by decide +kernel
theorem dX6_start_39 : decode cX6_start 39 = .ok (.iload_n 1, 1) := by decide +kernel
theorem dX6_start_40 : decode cX6_start 40 = .ok (.bipush 8, 2) := by decide +kernel
theorem dX6_start_42 : decode cX6_start 42 = .ok (.if_icmp .ge 17, 3) := by decide +kernel
theorem dX6_start_45 : decode cX6_start 45 = .ok (.aload_n 0, 1) := by decide +kernel
theorem dX6_start_46 : decode cX6_start 46 = .ok (.getfield 21, 3) := by decide +kernel
theorem dX6_start_49 : decode cX6_start 49 = .ok (.iload_n 1, 1) := by decide +kernel
theorem dX6_start_50 : decode cX6_start 50 = .ok (.bipush (-4), 2) := by decide +kernel
theorem dX6_start_52 : decode cX6_start 52 = .ok (.iastore, 1) := by decide +kernel
theorem dX6_start_53 : decode cX6_start 53 = .ok (.iinc 1 1, 3) := by decide +kernel
theorem dX6_start_56 : decode cX6_start 56 = .ok (.goto (-17), 3) := by decide +kernel
theorem dX6_start_59 : decode cX6_start 59 = .ok (.iconst 0, 1) := by decide +kernel
theorem dX6_start_60 : decode cX6_start 60 = .ok (.istore_n 1, 1) := by decide +kernel
theorem dX6_start_61 : decode cX6_start 61 = .ok (.iload_n 1, 1) := by decide +kernel
theorem dX6_start_62 : decode cX6_start 62 = .ok (.iconst 2, 1) := by decide +kernel
theorem dX6_start_63 : decode cX6_start 63 = .ok (.if_icmp .ge 16, 3) := by decide +kernel
theorem dX6_start_66 : decode cX6_start 66 = .ok (.aload_n 0, 1) := by decide +kernel
theorem dX6_start_67 : decode cX6_start 67 = .ok (.getfield 15, 3) := by decide +kernel
theorem dX6_start_70 : decode cX6_start 70 = .ok (.iload_n 1, 1) := by decide +kernel
theorem dX6_start_71 : decode cX6_start 71 = .ok (.iconst 0, 1) := by decide +kernel
theorem dX6_start_72 : decode cX6_start 72 = .ok (.iastore, 1) := by decide +kernel
theorem dX6_start_73 : decode cX6_start 73 = .ok (.iinc 1 1, 3) := by decide +kernel
theorem dX6_start_76 : decode cX6_start 76 = .ok (.goto (-15), 3) := by decide +kernel
theorem dX6_start_79 : decode cX6_start 79 = .ok (.return_, 1) := by decide +kernel
theorem dX6_runMonth_0 : decode cX6_runMonth 0 = .ok (.aload_n 0, 1) := by decide +kernel
theorem dX6_runMonth_1 : decode cX6_runMonth 1 = .ok (.getfield 31, 3) := by decide +kernel
theorem dX6_runMonth_4 : decode cX6_runMonth 4 = .ok (.getfield 45, 3) := by decide +kernel
theorem dX6_runMonth_7 : decode cX6_runMonth 7 = .ok (.astore_n 2, 1) := by decide +kernel
theorem dX6_runMonth_8 : decode cX6_runMonth 8 = .ok (.iconst 0, 1) := by decide +kernel
theorem dX6_runMonth_9 : decode cX6_runMonth 9 = .ok (.istore_n 3, 1) := by decide +kernel
theorem dX6_runMonth_10 : decode cX6_runMonth 10 = .ok (.iload_n 3, 1) := by decide +kernel
theorem dX6_runMonth_11 : decode cX6_runMonth 11 = .ok (.aload_n 2, 1) := by decide +kernel
theorem dX6_runMonth_12 : decode cX6_runMonth 12 = .ok (.getfield 49, 3) := by decide +kernel
theorem dX6_runMonth_15 : decode cX6_runMonth 15 = .ok (.if_icmp .ge 54, 3) := by decide +kernel
theorem dX6_runMonth_18 : decode cX6_runMonth 18 = .ok (.iload_n 3, 1) := by decide +kernel
theorem dX6_runMonth_19 : decode cX6_runMonth 19 = .ok (.bipush 12, 2) := by decide +kernel
theorem dX6_runMonth_21 : decode cX6_runMonth 21 = .ok (.if_icmp .ge 48, 3) := by decide +kernel
theorem dX6_runMonth_24 : decode cX6_runMonth 24 = .ok (.aload_n 2, 1) := by decide +kernel
theorem dX6_runMonth_25 : decode cX6_runMonth 25 = .ok (.iload_n 3, 1) := by decide +kernel
theorem dX6_runMonth_26 : decode cX6_runMonth 26 = .ok (.iconst 0, 1) := by decide +kernel
theorem dX6_runMonth_27 : decode cX6_runMonth 27 = .ok (.invokevirtual 55, 3) := by decide +kernel
theorem dX6_runMonth_30 : decode cX6_runMonth 30 = .ok (.iload_n 1, 1) := by decide +kernel
theorem dX6_runMonth_31 : decode cX6_runMonth 31 = .ok (.if_icmp .ne 32, 3) := by decide +kernel
theorem dX6_runMonth_34 : decode cX6_runMonth 34 = .ok (.aload_n 0, 1) := by decide +kernel
theorem dX6_runMonth_35 : decode cX6_runMonth 35 = .ok (.getfield 18, 3) := by decide +kernel
theorem dX6_runMonth_38 : decode cX6_runMonth 38 = .ok (.iload_n 3, 1) := by decide +kernel
theorem dX6_runMonth_39 : decode cX6_runMonth 39 = .ok (.aload_n 0, 1) := by decide +kernel
theorem dX6_runMonth_40 : decode cX6_runMonth 40 = .ok (.iload_n 1, 1) := by decide +kernel
theorem dX6_runMonth_41 : decode cX6_runMonth 41 = .ok (.aload_n 2, 1) := by decide +kernel
theorem dX6_runMonth_42 : decode cX6_runMonth 42 = .ok (.iload_n 3, 1) := by decide +kernel
theorem dX6_runMonth_43 : decode cX6_runMonth 43 = .ok (.iconst 1, 1) := by decide +kernel
theorem dX6_runMonth_44 : decode cX6_runMonth 44 = .ok (.invokevirtual 55, 3) := by decide +kernel
theorem dX6_runMonth_47 : decode cX6_runMonth 47 = .ok (.aload_n 2, 1) := by decide +kernel
theorem dX6_runMonth_48 : decode cX6_runMonth 48 = .ok (.iload_n 3, 1) := by decide +kernel
theorem dX6_runMonth_49 : decode cX6_runMonth 49 = .ok (.iconst 2, 1) := by decide +kernel
theorem dX6_runMonth_50 : decode cX6_runMonth 50 = .ok (.invokevirtual 55, 3) := by decide +kernel
theorem dX6_runMonth_53 : decode cX6_runMonth 53 = .ok (.aload_n 2, 1) := by decide +kernel
theorem dX6_runMonth_54 : decode cX6_runMonth 54 = .ok (.iload_n 3, 1) := by decide +kernel
theorem dX6_runMonth_55 : decode cX6_runMonth 55 = .ok (.iconst 3, 1) := by decide +kernel
theorem dX6_runMonth_56 : decode cX6_runMonth 56 = .ok (.invokevirtual 55, 3) := by decide +kernel
theorem dX6_runMonth_59 : decode cX6_runMonth 59 = .ok (.invokevirtual 59, 3) := by decide +kernel
theorem dX6_runMonth_62 : decode cX6_runMonth 62 = .ok (.iastore, 1) := by decide +kernel
theorem dX6_runMonth_63 : decode cX6_runMonth 63 = .ok (.iinc 3 1, 3) := by decide +kernel
theorem dX6_runMonth_66 : decode cX6_runMonth 66 = .ok (.goto (-56), 3) := by decide +kernel
theorem dX6_runMonth_69 : decode cX6_runMonth 69 = .ok (.iconst 0, 1) := by decide +kernel
theorem dX6_runMonth_70 : decode cX6_runMonth 70 = .ok (.istore_n 3, 1) := by decide +kernel
theorem dX6_runMonth_71 : decode cX6_runMonth 71 = .ok (.iload_n 3, 1) := by decide +kernel
theorem dX6_runMonth_72 : decode cX6_runMonth 72 = .ok (.aload_n 0, 1) := by decide +kernel
theorem dX6_runMonth_73 : decode cX6_runMonth 73 = .ok (.getfield 27, 3) := by decide +kernel
theorem dX6_runMonth_76 : decode cX6_runMonth 76 = .ok (.getfield 63, 3) := by decide +kernel
theorem dX6_runMonth_79 : decode cX6_runMonth 79 = .ok (.if_icmp .ge 15, 3) := by decide +kernel
theorem dX6_runMonth_82 : decode cX6_runMonth 82 = .ok (.aload_n 0, 1) := by decide +kernel
theorem dX6_runMonth_83 : decode cX6_runMonth 83 = .ok (.iload_n 1, 1) := by decide +kernel
theorem dX6_runMonth_84 : decode cX6_runMonth 84 = .ok (.iload_n 3, 1) := by decide +kernel
theorem dX6_runMonth_85 : decode cX6_runMonth 85 = .ok (.invokevirtual 68, 3) := by decide +kernel
theorem dX6_runMonth_88 : decode cX6_runMonth 88 = .ok (.iinc 3 1, 3) := by decide +kernel
theorem dX6_runMonth_91 : decode cX6_runMonth 91 = .ok (.goto (-20), 3) := by decide +kernel
theorem dX6_runMonth_94 : decode cX6_runMonth 94 = .ok (.return_, 1) := by decide +kernel
theorem dX6_tryWork_0 : decode cX6_tryWork 0 = .ok (.aload_n 0, 1) := by decide +kernel
theorem dX6_tryWork_1 : decode cX6_tryWork 1 = .ok (.getfield 27, 3) := by decide +kernel
theorem dX6_tryWork_4 : decode cX6_tryWork 4 = .ok (.iload_n 2, 1) := by decide +kernel
theorem dX6_tryWork_5 : decode cX6_tryWork 5 = .ok (.iload_n 3, 1) := by decide +kernel
theorem dX6_tryWork_6 : decode cX6_tryWork 6 = .ok (.invokevirtual 72, 3) := by decide +kernel
theorem dX6_tryWork_9 : decode cX6_tryWork 9 = .ok (.ifCond .eq 20, 3) := by decide +kernel
theorem dX6_tryWork_12 : decode cX6_tryWork 12 = .ok (.aload_n 0, 1) := by decide +kernel
theorem dX6_tryWork_13 : decode cX6_tryWork 13 = .ok (.getfield 27, 3) := by decide +kernel
theorem dX6_tryWork_16 : decode cX6_tryWork 16 = .ok (.iload_n 2, 1) := by decide +kernel
theorem dX6_tryWork_17 : decode cX6_tryWork 17 = .ok (.iload_n 3, 1) := by decide +kernel
theorem dX6_tryWork_18 : decode cX6_tryWork 18 = .ok (.iload 4, 2) := by decide +kernel
theorem dX6_tryWork_20 : decode cX6_tryWork 20 = .ok (.bipush 7, 2) := by decide +kernel
theorem dX6_tryWork_22 : decode cX6_tryWork 22 = .ok (.iand, 1) := by decide +kernel
theorem dX6_tryWork_23 : decode cX6_tryWork 23 = .ok (.invokevirtual 76, 3) := by decide +kernel
theorem dX6_tryWork_26 : decode cX6_tryWork 26 = .ok (.ifCond .ne 5, 3) := by decide +kernel
theorem dX6_tryWork_29 : decode cX6_tryWork 29 = .ok (.iconst 2, 1) := by decide +kernel
theorem dX6_tryWork_30 : decode cX6_tryWork 30 = .ok (.ireturn, 1) := by decide +kernel
theorem dX6_tryWork_31 : decode cX6_tryWork 31 = .ok (.aload_n 0, 1) := by decide +kernel
theorem dX6_tryWork_32 : decode cX6_tryWork 32 = .ok (.getfield 27, 3) := by decide +kernel
theorem dX6_tryWork_35 : decode cX6_tryWork 35 = .ok (.iload_n 2, 1) := by decide +kernel
theorem dX6_tryWork_36 : decode cX6_tryWork 36 = .ok (.iload_n 3, 1) := by decide +kernel
theorem dX6_tryWork_37 : decode cX6_tryWork 37 = .ok (.invokevirtual 80, 3) := by decide +kernel
theorem dX6_tryWork_40 : decode cX6_tryWork 40 = .ok (.istore 5, 2) := by decide +kernel
theorem dX6_tryWork_42 : decode cX6_tryWork 42 = .ok (.iload 5, 2) := by decide +kernel
theorem dX6_tryWork_44 : decode cX6_tryWork 44 = .ok (.bipush (-4), 2) := by decide +kernel
theorem dX6_tryWork_46 : decode cX6_tryWork 46 = .ok (.if_icmp .eq 47, 3) := by decide +kernel
theorem dX6_tryWork_49 : decode cX6_tryWork 49 = .ok (.aload_n 0, 1) := by decide +kernel
theorem dX6_tryWork_50 : decode cX6_tryWork 50 = .ok (.getfield 24, 3) := by decide +kernel
theorem dX6_tryWork_53 : decode cX6_tryWork 53 = .ok (.iconst 1, 1) := by decide +kernel
theorem dX6_tryWork_54 : decode cX6_tryWork 54 = .ok (.iload_n 2, 1) := by decide +kernel
theorem dX6_tryWork_55 : decode cX6_tryWork 55 = .ok (.isub, 1) := by decide +kernel
theorem dX6_tryWork_56 : decode cX6_tryWork 56 = .ok (.iload 5, 2) := by decide +kernel
theorem dX6_tryWork_58 : decode cX6_tryWork 58 = .ok (.invokestatic 83, 3) := by decide +kernel
theorem dX6_tryWork_61 : decode cX6_tryWork 61 = .ok (.iaload, 1) := by decide +kernel
theorem dX6_tryWork_62 : decode cX6_tryWork 62 = .ok (.iload_n 1, 1) := by decide +kernel
theorem dX6_tryWork_63 : decode cX6_tryWork 63 = .ok (.if_icmp .ne 30, 3) := by decide +kernel
theorem dX6_tryWork_66 : decode cX6_tryWork 66 = .ok (.aload_n 0, 1) := by decide +kernel
theorem dX6_tryWork_67 : decode cX6_tryWork 67 = .ok (.getfield 27, 3) := by decide +kernel
theorem dX6_tryWork_70 : decode cX6_tryWork 70 = .ok (.iload 4, 2) := by decide +kernel
theorem dX6_tryWork_72 : decode cX6_tryWork 72 = .ok (.aload_n 0, 1) := by decide +kernel
theorem dX6_tryWork_73 : decode cX6_tryWork 73 = .ok (.getfield 9, 3) := by decide +kernel
theorem dX6_tryWork_76 : decode cX6_tryWork 76 = .ok (.iconst 1, 1) := by decide +kernel
theorem dX6_tryWork_77 : decode cX6_tryWork 77 = .ok (.iload_n 2, 1) := by decide +kernel
theorem dX6_tryWork_78 : decode cX6_tryWork 78 = .ok (.isub, 1) := by decide +kernel
theorem dX6_tryWork_79 : decode cX6_tryWork 79 = .ok (.iload 5, 2) := by decide +kernel
theorem dX6_tryWork_81 : decode cX6_tryWork 81 = .ok (.invokestatic 83, 3) := by decide +kernel
theorem dX6_tryWork_84 : decode cX6_tryWork 84 = .ok (.iaload, 1) := by decide +kernel
theorem dX6_tryWork_85 : decode cX6_tryWork 85 = .ok (.invokevirtual 86, 3) := by decide +kernel
theorem dX6_tryWork_88 : decode cX6_tryWork 88 = .ok (.ifCond .ne 5, 3) := by decide +kernel
theorem dX6_tryWork_91 : decode cX6_tryWork 91 = .ok (.iconst 1, 1) := by decide +kernel
theorem dX6_tryWork_92 : decode cX6_tryWork 92 = .ok (.ireturn, 1) := by decide +kernel
theorem dX6_tryWork_93 : decode cX6_tryWork 93 = .ok (.aload_n 0, 1) := by decide +kernel
theorem dX6_tryWork_94 : decode cX6_tryWork 94 = .ok (.iload_n 2, 1) := by decide +kernel
theorem dX6_tryWork_95 : decode cX6_tryWork 95 = .ok (.iload_n 3, 1) := by decide +kernel
theorem dX6_tryWork_96 : decode cX6_tryWork 96 = .ok (.iload 4, 2) := by decide +kernel
theorem dX6_tryWork_98 : decode cX6_tryWork 98 = .ok (.invokevirtual 89, 3) := by decide +kernel
theorem dX6_tryWork_101 : decode cX6_tryWork 101 = .ok (.aload_n 0, 1) := by decide +kernel
theorem dX6_tryWork_102 : decode cX6_tryWork 102 = .ok (.getfield 24, 3) := by decide +kernel
theorem dX6_tryWork_105 : decode cX6_tryWork 105 = .ok (.iload_n 2, 1) := by decide +kernel
theorem dX6_tryWork_106 : decode cX6_tryWork 106 = .ok (.iload_n 3, 1) := by decide +kernel
theorem dX6_tryWork_107 : decode cX6_tryWork 107 = .ok (.invokestatic 83, 3) := by decide +kernel
theorem dX6_tryWork_110 : decode cX6_tryWork 110 = .ok (.iload_n 1, 1) := by decide +kernel
theorem dX6_tryWork_111 : decode cX6_tryWork 111 = .ok (.iastore, 1) := by decide +kernel
theorem dX6_tryWork_112 : decode cX6_tryWork 112 = .ok (.iload 5, 2) := by decide +kernel
theorem dX6_tryWork_114 : decode cX6_tryWork 114 = .ok (.bipush (-4), 2) := by decide +kernel
theorem dX6_tryWork_116 : decode cX6_tryWork 116 = .ok (.if_icmp .eq 19, 3) := by decide +kernel
theorem dX6_tryWork_119 : decode cX6_tryWork 119 = .ok (.aload_n 0, 1) := by decide +kernel
theorem dX6_tryWork_120 : decode cX6_tryWork 120 = .ok (.getfield 21, 3) := by decide +kernel
theorem dX6_tryWork_123 : decode cX6_tryWork 123 = .ok (.iload_n 2, 1) := by decide +kernel
theorem dX6_tryWork_124 : decode cX6_tryWork 124 = .ok (.ifCond .ne 7, 3) := by decide +kernel
theorem dX6_tryWork_127 : decode cX6_tryWork 127 = .ok (.iload_n 3, 1) := by decide +kernel
theorem dX6_tryWork_128 : decode cX6_tryWork 128 = .ok (.goto 5, 3) := by decide +kernel
theorem dX6_tryWork_131 : decode cX6_tryWork 131 = .ok (.iload 5, 2) := by decide +kernel
theorem dX6_tryWork_133 : decode cX6_tryWork 133 = .ok (.iload_n 2, 1) := by decide +kernel
theorem dX6_tryWork_134 : decode cX6_tryWork 134 = .ok (.iastore, 1) := by decide +kernel
theorem dX6_tryWork_135 : decode cX6_tryWork 135 = .ok (.iconst 0, 1) := by decide +kernel
theorem dX6_tryWork_136 : decode cX6_tryWork 136 = .ok (.ireturn, 1) := by decide +kernel
theorem dX6_build_0 : decode cX6_build 0 = .ok (.aload_n 0, 1) := by decide +kernel
theorem dX6_build_1 : decode cX6_build 1 = .ok (.getfield 15, 3) := by decide +kernel
theorem dX6_build_4 : decode cX6_build 4 = .ok (.iload_n 1, 1) := by decide +kernel
theorem dX6_build_5 : decode cX6_build 5 = .ok (.dup2, 1) := by decide +kernel
theorem dX6_build_6 : decode cX6_build 6 = .ok (.iaload, 1) := by decide +kernel
theorem dX6_build_7 : decode cX6_build 7 = .ok (.aload_n 0, 1) := by decide +kernel
theorem dX6_build_8 : decode cX6_build 8 = .ok (.getfield 27, 3) := by decide +kernel
theorem dX6_build_11 : decode cX6_build 11 = .ok (.iload_n 1, 1) := by decide +kernel
theorem dX6_build_12 : decode cX6_build 12 = .ok (.iload_n 3, 1) := by decide +kernel
theorem dX6_build_13 : decode cX6_build 13 = .ok (.bipush 7, 2) := by decide +kernel
theorem dX6_build_15 : decode cX6_build 15 = .ok (.iand, 1) := by decide +kernel
theorem dX6_build_16 : decode cX6_build 16 = .ok (.invokevirtual 93, 3) := by decide +kernel
theorem dX6_build_19 : decode cX6_build 19 = .ok (.iadd, 1) := by decide +kernel
theorem dX6_build_20 : decode cX6_build 20 = .ok (.iastore, 1) := by decide +kernel
theorem dX6_build_21 : decode cX6_build 21 = .ok (.aload_n 0, 1) := by decide +kernel
theorem dX6_build_22 : decode cX6_build 22 = .ok (.getfield 9, 3) := by decide +kernel
theorem dX6_build_25 : decode cX6_build 25 = .ok (.iload_n 1, 1) := by decide +kernel
theorem dX6_build_26 : decode cX6_build 26 = .ok (.iload_n 2, 1) := by decide +kernel
theorem dX6_build_27 : decode cX6_build 27 = .ok (.invokestatic 83, 3) := by decide +kernel
theorem dX6_build_30 : decode cX6_build 30 = .ok (.iload_n 3, 1) := by decide +kernel
theorem dX6_build_31 : decode cX6_build 31 = .ok (.iastore, 1) := by decide +kernel
theorem dX6_build_32 : decode cX6_build 32 = .ok (.return_, 1) := by decide +kernel
theorem dX6_answer_0 : decode cX6_answer 0 = .ok (.aload_n 0, 1) := by decide +kernel
theorem dX6_answer_1 : decode cX6_answer 1 = .ok (.getfield 27, 3) := by decide +kernel
theorem dX6_answer_4 : decode cX6_answer 4 = .ok (.iconst 0, 1) := by decide +kernel
theorem dX6_answer_5 : decode cX6_answer 5 = .ok (.iload_n 2, 1) := by decide +kernel
theorem dX6_answer_6 : decode cX6_answer 6 = .ok (.invokevirtual 80, 3) := by decide +kernel
theorem dX6_answer_9 : decode cX6_answer 9 = .ok (.istore_n 3, 1) := by decide +kernel
theorem dX6_answer_10 : decode cX6_answer 10 = .ok (.iload_n 3, 1) := by decide +kernel
theorem dX6_answer_11 : decode cX6_answer 11 = .ok (.bipush (-4), 2) := by decide +kernel
theorem dX6_answer_13 : decode cX6_answer 13 = .ok (.if_icmp .eq 23, 3) := by decide +kernel
theorem dX6_answer_16 : decode cX6_answer 16 = .ok (.aload_n 0, 1) := by decide +kernel
theorem dX6_answer_17 : decode cX6_answer 17 = .ok (.getfield 21, 3) := by decide +kernel
theorem dX6_answer_20 : decode cX6_answer 20 = .ok (.iload_n 2, 1) := by decide +kernel
theorem dX6_answer_21 : decode cX6_answer 21 = .ok (.iaload, 1) := by decide +kernel
theorem dX6_answer_22 : decode cX6_answer 22 = .ok (.bipush (-4), 2) := by decide +kernel
theorem dX6_answer_24 : decode cX6_answer 24 = .ok (.if_icmp .eq 12, 3) := by decide +kernel
theorem dX6_answer_27 : decode cX6_answer 27 = .ok (.aload_n 0, 1) := by decide +kernel
theorem dX6_answer_28 : decode cX6_answer 28 = .ok (.iload_n 2, 1) := by decide +kernel
theorem dX6_answer_29 : decode cX6_answer 29 = .ok (.iload_n 3, 1) := by decide +kernel
theorem dX6_answer_30 : decode cX6_answer 30 = .ok (.invokevirtual 96, 3) := by decide +kernel
theorem dX6_answer_33 : decode cX6_answer 33 = .ok (.ifCond .eq 4, 3) := by decide +kernel
theorem dX6_answer_36 : decode cX6_answer 36 = .ok (.return_, 1) := by decide +kernel
theorem dX6_answer_37 : decode cX6_answer 37 = .ok (.aload_n 0, 1) := by decide +kernel
theorem dX6_answer_38 : decode cX6_answer 38 = .ok (.getfield 24, 3) := by decide +kernel
theorem dX6_answer_41 : decode cX6_answer 41 = .ok (.iconst 0, 1) := by decide +kernel
theorem dX6_answer_42 : decode cX6_answer 42 = .ok (.iload_n 2, 1) := by decide +kernel
theorem dX6_answer_43 : decode cX6_answer 43 = .ok (.invokestatic 83, 3) := by decide +kernel
theorem dX6_answer_46 : decode cX6_answer 46 = .ok (.iaload, 1) := by decide +kernel
theorem dX6_answer_47 : decode cX6_answer 47 = .ok (.iload_n 1, 1) := by decide +kernel
theorem dX6_answer_48 : decode cX6_answer 48 = .ok (.if_icmp .eq 17, 3) := by decide +kernel
theorem dX6_answer_51 : decode cX6_answer 51 = .ok (.aload_n 0, 1) := by decide +kernel
theorem dX6_answer_52 : decode cX6_answer 52 = .ok (.getfield 24, 3) := by decide +kernel
theorem dX6_answer_55 : decode cX6_answer 55 = .ok (.iconst 1, 1) := by decide +kernel
theorem dX6_answer_56 : decode cX6_answer 56 = .ok (.iload_n 3, 1) := by decide +kernel
theorem dX6_answer_57 : decode cX6_answer 57 = .ok (.invokestatic 83, 3) := by decide +kernel
theorem dX6_answer_60 : decode cX6_answer 60 = .ok (.iaload, 1) := by decide +kernel
theorem dX6_answer_61 : decode cX6_answer 61 = .ok (.iload_n 1, 1) := by decide +kernel
theorem dX6_answer_62 : decode cX6_answer 62 = .ok (.if_icmp .ne 4, 3) := by decide +kernel
theorem dX6_answer_65 : decode cX6_answer 65 = .ok (.return_, 1) := by decide +kernel
theorem dX6_answer_66 : decode cX6_answer 66 = .ok (.aload_n 0, 1) := by decide +kernel
theorem dX6_answer_67 : decode cX6_answer 67 = .ok (.getfield 21, 3) := by decide +kernel
theorem dX6_answer_70 : decode cX6_answer 70 = .ok (.iload_n 2, 1) := by decide +kernel
theorem dX6_answer_71 : decode cX6_answer 71 = .ok (.iaload, 1) := by decide +kernel
theorem dX6_answer_72 : decode cX6_answer 72 = .ok (.ifCond .ne 29, 3) := by decide +kernel
theorem dX6_answer_75 : decode cX6_answer 75 = .ok (.aload_n 0, 1) := by decide +kernel
theorem dX6_answer_76 : decode cX6_answer 76 = .ok (.iconst 1, 1) := by decide +kernel
theorem dX6_answer_77 : decode cX6_answer 77 = .ok (.iload_n 3, 1) := by decide +kernel
theorem dX6_answer_78 : decode cX6_answer 78 = .ok (.aload_n 0, 1) := by decide +kernel
theorem dX6_answer_79 : decode cX6_answer 79 = .ok (.getfield 27, 3) := by decide +kernel
theorem dX6_answer_82 : decode cX6_answer 82 = .ok (.aload_n 0, 1) := by decide +kernel
theorem dX6_answer_83 : decode cX6_answer 83 = .ok (.getfield 9, 3) := by decide +kernel
theorem dX6_answer_86 : decode cX6_answer 86 = .ok (.iconst 0, 1) := by decide +kernel
theorem dX6_answer_87 : decode cX6_answer 87 = .ok (.iload_n 2, 1) := by decide +kernel
theorem dX6_answer_88 : decode cX6_answer 88 = .ok (.invokestatic 83, 3) := by decide +kernel
theorem dX6_answer_91 : decode cX6_answer 91 = .ok (.iaload, 1) := by decide +kernel
theorem dX6_answer_92 : decode cX6_answer 92 = .ok (.invokevirtual 99, 3) := by decide +kernel
theorem dX6_answer_95 : decode cX6_answer 95 = .ok (.invokevirtual 89, 3) := by decide +kernel
theorem dX6_answer_98 : decode cX6_answer 98 = .ok (.goto 26, 3) := by decide +kernel
theorem dX6_answer_101 : decode cX6_answer 101 = .ok (.aload_n 0, 1) := by decide +kernel
theorem dX6_answer_102 : decode cX6_answer 102 = .ok (.iconst 0, 1) := by decide +kernel
theorem dX6_answer_103 : decode cX6_answer 103 = .ok (.iload_n 2, 1) := by decide +kernel
theorem dX6_answer_104 : decode cX6_answer 104 = .ok (.aload_n 0, 1) := by decide +kernel
theorem dX6_answer_105 : decode cX6_answer 105 = .ok (.getfield 27, 3) := by decide +kernel
theorem dX6_answer_108 : decode cX6_answer 108 = .ok (.aload_n 0, 1) := by decide +kernel
theorem dX6_answer_109 : decode cX6_answer 109 = .ok (.getfield 9, 3) := by decide +kernel
theorem dX6_answer_112 : decode cX6_answer 112 = .ok (.iconst 1, 1) := by decide +kernel
theorem dX6_answer_113 : decode cX6_answer 113 = .ok (.iload_n 3, 1) := by decide +kernel
theorem dX6_answer_114 : decode cX6_answer 114 = .ok (.invokestatic 83, 3) := by decide +kernel
theorem dX6_answer_117 : decode cX6_answer 117 = .ok (.iaload, 1) := by decide +kernel
theorem dX6_answer_118 : decode cX6_answer 118 = .ok (.invokevirtual 99, 3) := by decide +kernel
theorem dX6_answer_121 : decode cX6_answer 121 = .ok (.invokevirtual 89, 3) := by decide +kernel
theorem dX6_answer_124 : decode cX6_answer 124 = .ok (.return_, 1) := by decide +kernel
theorem dX6_isEvenPair_0 : decode cX6_isEvenPair 0 = .ok (.aload_n 0, 1) := by decide +kernel
theorem dX6_isEvenPair_1 : decode cX6_isEvenPair 1 = .ok (.getfield 27, 3) := by decide +kernel
theorem dX6_isEvenPair_4 : decode cX6_isEvenPair 4 = .ok (.aload_n 0, 1) := by decide +kernel
theorem dX6_isEvenPair_5 : decode cX6_isEvenPair 5 = .ok (.getfield 9, 3) := by decide +kernel
theorem dX6_isEvenPair_8 : decode cX6_isEvenPair 8 = .ok (.iconst 0, 1) := by decide +kernel
theorem dX6_isEvenPair_9 : decode cX6_isEvenPair 9 = .ok (.iload_n 1, 1) := by decide +kernel
theorem dX6_isEvenPair_10 : decode cX6_isEvenPair 10 = .ok (.invokestatic 83, 3) := by decide +kernel
theorem dX6_isEvenPair_13 : decode cX6_isEvenPair 13 = .ok (.iaload, 1) := by decide +kernel
theorem dX6_isEvenPair_14 : decode cX6_isEvenPair 14 = .ok (.invokevirtual 99, 3) := by decide +kernel
theorem dX6_isEvenPair_17 : decode cX6_isEvenPair 17 = .ok (.aload_n 0, 1) := by decide +kernel
theorem dX6_isEvenPair_18 : decode cX6_isEvenPair 18 = .ok (.getfield 9, 3) := by decide +kernel
theorem dX6_isEvenPair_21 : decode cX6_isEvenPair 21 = .ok (.iconst 1, 1) := by decide +kernel
theorem dX6_isEvenPair_22 : decode cX6_isEvenPair 22 = .ok (.iload_n 2, 1) := by decide +kernel
theorem dX6_isEvenPair_23 : decode cX6_isEvenPair 23 = .ok (.invokestatic 83, 3) := by decide +kernel
theorem dX6_isEvenPair_26 : decode cX6_isEvenPair 26 = .ok (.iaload, 1) := by decide +kernel
theorem dX6_isEvenPair_27 : decode cX6_isEvenPair 27 = .ok (.if_icmp .ne 7, 3) := by decide +kernel
theorem dX6_isEvenPair_30 : decode cX6_isEvenPair 30 = .ok (.iconst 1, 1) := by decide +kernel
theorem dX6_isEvenPair_31 : decode cX6_isEvenPair 31 = .ok (.goto 4, 3) := by decide +kernel
theorem dX6_isEvenPair_34 : decode cX6_isEvenPair 34 = .ok (.iconst 0, 1) := by decide +kernel
theorem dX6_isEvenPair_35 : decode cX6_isEvenPair 35 = .ok (.ireturn, 1) := by decide +kernel
theorem dX6_lotsOwedBy_0 : decode cX6_lotsOwedBy 0 = .ok (.iconst 0, 1) := by decide +kernel
theorem dX6_lotsOwedBy_1 : decode cX6_lotsOwedBy 1 = .ok (.istore_n 2, 1) := by decide +kernel
theorem dX6_lotsOwedBy_2 : decode cX6_lotsOwedBy 2 = .ok (.iconst 0, 1) := by decide +kernel
theorem dX6_lotsOwedBy_3 : decode cX6_lotsOwedBy 3 = .ok (.istore_n 3, 1) := by decide +kernel
theorem dX6_lotsOwedBy_4 : decode cX6_lotsOwedBy 4 = .ok (.iload_n 3, 1) := by decide +kernel
theorem dX6_lotsOwedBy_5 : decode cX6_lotsOwedBy 5 = .ok (.aload_n 0, 1) := by decide +kernel
theorem dX6_lotsOwedBy_6 : decode cX6_lotsOwedBy 6 = .ok (.getfield 27, 3) := by decide +kernel
theorem dX6_lotsOwedBy_9 : decode cX6_lotsOwedBy 9 = .ok (.getfield 63, 3) := by decide +kernel
theorem dX6_lotsOwedBy_12 : decode cX6_lotsOwedBy 12 = .ok (.if_icmp .ge 64, 3) := by decide +kernel
theorem dX6_lotsOwedBy_15 : decode cX6_lotsOwedBy 15 = .ok (.aload_n 0, 1) := by decide +kernel
theorem dX6_lotsOwedBy_16 : decode cX6_lotsOwedBy 16 = .ok (.getfield 27, 3) := by decide +kernel
theorem dX6_lotsOwedBy_19 : decode cX6_lotsOwedBy 19 = .ok (.iconst 0, 1) := by decide +kernel
theorem dX6_lotsOwedBy_20 : decode cX6_lotsOwedBy 20 = .ok (.iload_n 3, 1) := by decide +kernel
theorem dX6_lotsOwedBy_21 : decode cX6_lotsOwedBy 21 = .ok (.invokevirtual 80, 3) := by decide +kernel
theorem dX6_lotsOwedBy_24 : decode cX6_lotsOwedBy 24 = .ok (.istore 4, 2) := by decide +kernel
theorem dX6_lotsOwedBy_26 : decode cX6_lotsOwedBy 26 = .ok (.iload 4, 2) := by decide +kernel
theorem dX6_lotsOwedBy_28 : decode cX6_lotsOwedBy 28 = .ok (.bipush (-4), 2) := by decide +kernel
theorem dX6_lotsOwedBy_30 : decode cX6_lotsOwedBy 30 = .ok (.if_icmp .eq 40, 3) := by decide +kernel
theorem dX6_lotsOwedBy_33 : decode cX6_lotsOwedBy 33 = .ok (.aload_n 0, 1) := by decide +kernel
theorem dX6_lotsOwedBy_34 : decode cX6_lotsOwedBy 34 = .ok (.getfield 21, 3) := by decide +kernel
theorem dX6_lotsOwedBy_37 : decode cX6_lotsOwedBy 37 = .ok (.iload_n 3, 1) := by decide +kernel
theorem dX6_lotsOwedBy_38 : decode cX6_lotsOwedBy 38 = .ok (.iaload, 1) := by decide +kernel
theorem dX6_lotsOwedBy_39 : decode cX6_lotsOwedBy 39 = .ok (.iconst 1, 1) := by decide +kernel
theorem dX6_lotsOwedBy_40 : decode cX6_lotsOwedBy 40 = .ok (.iload_n 1, 1) := by decide +kernel
theorem dX6_lotsOwedBy_41 : decode cX6_lotsOwedBy 41 = .ok (.isub, 1) := by decide +kernel
theorem dX6_lotsOwedBy_42 : decode cX6_lotsOwedBy 42 = .ok (.if_icmp .ne 28, 3) := by decide +kernel
theorem dX6_lotsOwedBy_45 : decode cX6_lotsOwedBy 45 = .ok (.aload_n 0, 1) := by decide +kernel
theorem dX6_lotsOwedBy_46 : decode cX6_lotsOwedBy 46 = .ok (.iload_n 3, 1) := by decide +kernel
theorem dX6_lotsOwedBy_47 : decode cX6_lotsOwedBy 47 = .ok (.iload 4, 2) := by decide +kernel
theorem dX6_lotsOwedBy_49 : decode cX6_lotsOwedBy 49 = .ok (.invokevirtual 96, 3) := by decide +kernel
theorem dX6_lotsOwedBy_52 : decode cX6_lotsOwedBy 52 = .ok (.ifCond .ne 18, 3) := by decide +kernel
theorem dX6_lotsOwedBy_55 : decode cX6_lotsOwedBy 55 = .ok (.iload_n 2, 1) := by decide +kernel
theorem dX6_lotsOwedBy_56 : decode cX6_lotsOwedBy 56 = .ok (.iconst 1, 1) := by decide +kernel
theorem dX6_lotsOwedBy_57 : decode cX6_lotsOwedBy 57 = .ok (.iload_n 1, 1) := by decide +kernel
theorem dX6_lotsOwedBy_58 : decode cX6_lotsOwedBy 58 = .ok (.ifCond .ne 7, 3) := by decide +kernel
theorem dX6_lotsOwedBy_61 : decode cX6_lotsOwedBy 61 = .ok (.iload_n 3, 1) := by decide +kernel
theorem dX6_lotsOwedBy_62 : decode cX6_lotsOwedBy 62 = .ok (.goto 5, 3) := by decide +kernel
theorem dX6_lotsOwedBy_65 : decode cX6_lotsOwedBy 65 = .ok (.iload 4, 2) := by decide +kernel
theorem dX6_lotsOwedBy_67 : decode cX6_lotsOwedBy 67 = .ok (.ishl, 1) := by decide +kernel
theorem dX6_lotsOwedBy_68 : decode cX6_lotsOwedBy 68 = .ok (.ior, 1) := by decide +kernel
theorem dX6_lotsOwedBy_69 : decode cX6_lotsOwedBy 69 = .ok (.istore_n 2, 1) := by decide +kernel
theorem dX6_lotsOwedBy_70 : decode cX6_lotsOwedBy 70 = .ok (.iinc 3 1, 3) := by decide +kernel
theorem dX6_lotsOwedBy_73 : decode cX6_lotsOwedBy 73 = .ok (.goto (-69), 3) := by decide +kernel
theorem dX6_lotsOwedBy_76 : decode cX6_lotsOwedBy 76 = .ok (.iload_n 2, 1) := by decide +kernel
theorem dX6_lotsOwedBy_77 : decode cX6_lotsOwedBy 77 = .ok (.ireturn, 1) := by decide +kernel
theorem dX6_worksDone_0 : decode cX6_worksDone 0 = .ok (.iconst 0, 1) := by decide +kernel
theorem dX6_worksDone_1 : decode cX6_worksDone 1 = .ok (.istore_n 1, 1) := by decide +kernel
theorem dX6_worksDone_2 : decode cX6_worksDone 2 = .ok (.iconst 0, 1) := by decide +kernel
theorem dX6_worksDone_3 : decode cX6_worksDone 3 = .ok (.istore_n 2, 1) := by decide +kernel
theorem dX6_worksDone_4 : decode cX6_worksDone 4 = .ok (.iload_n 2, 1) := by decide +kernel
theorem dX6_worksDone_5 : decode cX6_worksDone 5 = .ok (.aload_n 0, 1) := by decide +kernel
theorem dX6_worksDone_6 : decode cX6_worksDone 6 = .ok (.getfield 31, 3) := by decide +kernel
theorem dX6_worksDone_9 : decode cX6_worksDone 9 = .ok (.getfield 45, 3) := by decide +kernel
theorem dX6_worksDone_12 : decode cX6_worksDone 12 = .ok (.getfield 49, 3) := by decide +kernel
theorem dX6_worksDone_15 : decode cX6_worksDone 15 = .ok (.if_icmp .ge 32, 3) := by decide +kernel
theorem dX6_worksDone_18 : decode cX6_worksDone 18 = .ok (.iload_n 2, 1) := by decide +kernel
theorem dX6_worksDone_19 : decode cX6_worksDone 19 = .ok (.bipush 12, 2) := by decide +kernel
theorem dX6_worksDone_21 : decode cX6_worksDone 21 = .ok (.if_icmp .ge 26, 3) := by decide +kernel
theorem dX6_worksDone_24 : decode cX6_worksDone 24 = .ok (.iload_n 1, 1) := by decide +kernel
theorem dX6_worksDone_25 : decode cX6_worksDone 25 = .ok (.aload_n 0, 1) := by decide +kernel
theorem dX6_worksDone_26 : decode cX6_worksDone 26 = .ok (.getfield 18, 3) := by decide +kernel
theorem dX6_worksDone_29 : decode cX6_worksDone 29 = .ok (.iload_n 2, 1) := by decide +kernel
theorem dX6_worksDone_30 : decode cX6_worksDone 30 = .ok (.iaload, 1) := by decide +kernel
theorem dX6_worksDone_31 : decode cX6_worksDone 31 = .ok (.ifCond .ne 7, 3) := by decide +kernel
theorem dX6_worksDone_34 : decode cX6_worksDone 34 = .ok (.iconst 1, 1) := by decide +kernel
theorem dX6_worksDone_35 : decode cX6_worksDone 35 = .ok (.goto 4, 3) := by decide +kernel
theorem dX6_worksDone_38 : decode cX6_worksDone 38 = .ok (.iconst 0, 1) := by decide +kernel
theorem dX6_worksDone_39 : decode cX6_worksDone 39 = .ok (.iadd, 1) := by decide +kernel
theorem dX6_worksDone_40 : decode cX6_worksDone 40 = .ok (.istore_n 1, 1) := by decide +kernel
theorem dX6_worksDone_41 : decode cX6_worksDone 41 = .ok (.iinc 2 1, 3) := by decide +kernel
theorem dX6_worksDone_44 : decode cX6_worksDone 44 = .ok (.goto (-40), 3) := by decide +kernel
theorem dX6_worksDone_47 : decode cX6_worksDone 47 = .ok (.iload_n 1, 1) := by decide +kernel
theorem dX6_worksDone_48 : decode cX6_worksDone 48 = .ok (.ireturn, 1) := by decide +kernel
theorem dX7_init_0 : decode cX7_init 0 = .ok (.aload_n 0, 1) := by decide +kernel
theorem dX7_init_1 : decode cX7_init 1 = .ok (.invokespecial 3, 3) := by decide +kernel
theorem dX7_init_4 : decode cX7_init 4 = .ok (.aload_n 0, 1) := by decide +kernel
theorem dX7_init_5 : decode cX7_init 5 = .ok (.bipush 16, 2) := by decide +kernel
theorem dX7_init_7 : decode cX7_init 7 = .ok (.newarray .int, 2) := by decide +kernel
theorem dX7_init_9 : decode cX7_init 9 = .ok (.putfield 9, 3) := by decide +kernel
theorem dX7_init_12 : decode cX7_init 12 = .ok (.aload_n 0, 1) := by decide +kernel
theorem dX7_init_13 : decode cX7_init 13 = .ok (.new 15, 3) := by decide +kernel
theorem dX7_init_16 : decode cX7_init 16 = .ok (.dup, 1) := by decide +kernel
theorem dX7_init_17 : decode cX7_init 17 = .ok (.bipush 12, 2) := by decide +kernel
theorem dX7_init_19 : decode cX7_init 19 = .ok (.iconst 4, 1) := by decide +kernel
theorem dX7_init_20 : decode cX7_init 20 = .ok (.invokespecial 17, 3) := by decide +kernel
theorem dX7_init_23 : decode cX7_init 23 = .ok (.putfield 20, 3) := by decide +kernel
theorem dX7_init_26 : decode cX7_init 26 = .ok (.aload_n 0, 1) := by decide +kernel
theorem dX7_init_27 : decode cX7_init 27 = .ok (.new 15, 3) := by decide +kernel
theorem dX7_init_30 : decode cX7_init 30 = .ok (.dup, 1) := by decide +kernel
theorem dX7_init_31 : decode cX7_init 31 = .ok (.bipush 6, 2) := by decide +kernel
theorem dX7_init_33 : decode cX7_init 33 = .ok (.iconst 2, 1) := by decide +kernel
theorem dX7_init_34 : decode cX7_init 34 = .ok (.invokespecial 17, 3) := by decide +kernel
theorem dX7_init_37 : decode cX7_init 37 = .ok (.putfield 24, 3) := by decide +kernel
theorem dX7_init_40 : decode cX7_init 40 = .ok (.aload_n 0, 1) := by decide +kernel
theorem dX7_init_41 : decode cX7_init 41 = .ok (.new 15, 3) := by decide +kernel
theorem dX7_init_44 : decode cX7_init 44 = .ok (.dup, 1) := by decide +kernel
theorem dX7_init_45 : decode cX7_init 45 = .ok (.bipush 12, 2) := by decide +kernel
theorem dX7_init_47 : decode cX7_init 47 = .ok (.iconst 4, 1) := by decide +kernel
theorem dX7_init_48 : decode cX7_init 48 = .ok (.invokespecial 17, 3) := by decide +kernel
theorem dX7_init_51 : decode cX7_init 51 = .ok (.putfield 27, 3) := by decide +kernel
theorem dX7_init_54 : decode cX7_init 54 = .ok (.return_, 1) := by decide +kernel
theorem dX7_clear_0 : decode cX7_clear 0 = .ok (.iconst 0, 1) := by decide +kernel
theorem dX7_clear_1 : decode cX7_clear 1 = .ok (.istore_n 1, 1) := by decide +kernel
theorem dX7_clear_2 : decode cX7_clear 2 = .ok (.iload_n 1, 1) := by decide +kernel
theorem dX7_clear_3 : decode cX7_clear 3 = .ok (.bipush 16, 2) := by decide +kernel
theorem dX7_clear_5 : decode cX7_clear 5 = .ok (.if_icmp .ge 16, 3) := by decide +kernel
theorem dX7_clear_8 : decode cX7_clear 8 = .ok (.aload_n 0, 1) := by decide +kernel
theorem dX7_clear_9 : decode cX7_clear 9 = .ok (.getfield 9, 3) := by decide +kernel
theorem dX7_clear_12 : decode cX7_clear 12 = .ok (.iload_n 1, 1) := by decide +kernel
theorem dX7_clear_13 : decode cX7_clear 13 = .ok (.iconst 0, 1) := by decide +kernel
theorem dX7_clear_14 : decode cX7_clear 14 = .ok (.iastore, 1) := by decide +kernel
theorem dX7_clear_15 : decode cX7_clear 15 = .ok (.iinc 1 1, 3) := by decide +kernel
theorem dX7_clear_18 : decode cX7_clear 18 = .ok (.goto (-16), 3) := by decide +kernel
theorem dX7_clear_21 : decode cX7_clear 21 = .ok (.aload_n 0, 1) := by decide +kernel
theorem dX7_clear_22 : decode cX7_clear 22 = .ok (.getfield 20, 3) := by decide +kernel
theorem dX7_clear_25 : decode cX7_clear 25 = .ok (.invokevirtual 30, 3) := by decide +kernel
theorem dX7_clear_28 : decode cX7_clear 28 = .ok (.pop, 1) := by decide +kernel
theorem dX7_clear_29 : decode cX7_clear 29 = .ok (.aload_n 0, 1) := by decide +kernel
theorem dX7_clear_30 : decode cX7_clear 30 = .ok (.getfield 24, 3) := by decide +kernel
theorem dX7_clear_33 : decode cX7_clear 33 = .ok (.invokevirtual 30, 3) := by decide +kernel
theorem dX7_clear_36 : decode cX7_clear 36 = .ok (.pop, 1) := by decide +kernel
theorem dX7_clear_37 : decode cX7_clear 37 = .ok (.aload_n 0, 1) := by decide +kernel
theorem dX7_clear_38 : decode cX7_clear 38 = .ok (.getfield 27, 3) := by decide +kernel
theorem dX7_clear_41 : decode cX7_clear 41 = .ok (.invokevirtual 30, 3) := by decide +kernel
theorem dX7_clear_44 : decode cX7_clear 44 = .ok (.pop, 1) := by decide +kernel
theorem dX7_clear_45 : decode cX7_clear 45 = .ok (.return_, 1) := by decide +kernel
theorem dX7_copyFrom_0 : decode cX7_copyFrom 0 = .ok (.aload_n 1, 1) := by decide +kernel
theorem dX7_copyFrom_1 : decode cX7_copyFrom 1 = .ok (.getfield 9, 3) := by decide +kernel
theorem dX7_copyFrom_4 : decode cX7_copyFrom 4 = .ok (.iconst 0, 1) := by decide +kernel
theorem dX7_copyFrom_5 : decode cX7_copyFrom 5 = .ok (.aload_n 0, 1) := by decide +kernel
theorem dX7_copyFrom_6 : decode cX7_copyFrom 6 = .ok (.getfield 9, 3) := by decide +kernel
theorem dX7_copyFrom_9 : decode cX7_copyFrom 9 = .ok (.iconst 0, 1) := by decide +kernel
theorem dX7_copyFrom_10 : decode cX7_copyFrom 10 = .ok (.bipush 16, 2) := by decide +kernel
theorem dX7_copyFrom_12 : decode cX7_copyFrom 12 = .ok (.invokestatic 34, 3) := by decide +kernel
theorem dX7_copyFrom_15 : decode cX7_copyFrom 15 = .ok (.aload_n 0, 1) := by decide +kernel
theorem dX7_copyFrom_16 : decode cX7_copyFrom 16 = .ok (.getfield 20, 3) := by decide +kernel
theorem dX7_copyFrom_19 : decode cX7_copyFrom 19 = .ok (.aload_n 1, 1) := by decide +kernel
theorem dX7_copyFrom_20 : decode cX7_copyFrom 20 = .ok (.getfield 20, 3) := by decide +kernel
theorem dX7_copyFrom_23 : decode cX7_copyFrom 23 = .ok (.invokevirtual 40, 3) := by decide +kernel
theorem dX7_copyFrom_26 : decode cX7_copyFrom 26 = .ok (.aload_n 0, 1) := by decide +kernel
theorem dX7_copyFrom_27 : decode cX7_copyFrom 27 = .ok (.getfield 24, 3) := by decide +kernel
theorem dX7_copyFrom_30 : decode cX7_copyFrom 30 = .ok (.aload_n 1, 1) := by decide +kernel
theorem dX7_copyFrom_31 : decode cX7_copyFrom 31 = .ok (.getfield 24, 3) := by decide +kernel
theorem dX7_copyFrom_34 : decode cX7_copyFrom 34 = .ok (.invokevirtual 40, 3) := by decide +kernel
theorem dX7_copyFrom_37 : decode cX7_copyFrom 37 = .ok (.aload_n 0, 1) := by decide +kernel
theorem dX7_copyFrom_38 : decode cX7_copyFrom 38 = .ok (.getfield 27, 3) := by decide +kernel
theorem dX7_copyFrom_41 : decode cX7_copyFrom 41 = .ok (.aload_n 1, 1) := by decide +kernel
theorem dX7_copyFrom_42 : decode cX7_copyFrom 42 = .ok (.getfield 27, 3) := by decide +kernel
theorem dX7_copyFrom_45 : decode cX7_copyFrom 45 = .ok (.invokevirtual 40, 3) := by decide +kernel
theorem dX7_copyFrom_48 : decode cX7_copyFrom 48 = .ok (.return_, 1) := by decide +kernel
theorem dX7_thingAt_0 : decode cX7_thingAt 0 = .ok (.iload_n 1, 1) := by decide +kernel
theorem dX7_thingAt_1 : decode cX7_thingAt 1 = .ok (.iload_n 2, 1) := by decide +kernel
theorem dX7_thingAt_2 : decode cX7_thingAt 2 = .ok (.invokestatic 44, 3) := by decide +kernel
theorem dX7_thingAt_5 : decode cX7_thingAt 5 = .ok (.ifCond .eq 16, 3) := by decide +kernel
theorem dX7_thingAt_8 : decode cX7_thingAt 8 = .ok (.aload_n 0, 1) := by decide +kernel
theorem dX7_thingAt_9 : decode cX7_thingAt 9 = .ok (.getfield 9, 3) := by decide +kernel
theorem dX7_thingAt_12 : decode cX7_thingAt 12 = .ok (.iload_n 1, 1) := by decide +kernel
theorem dX7_thingAt_13 : decode cX7_thingAt 13 = .ok (.iload_n 2, 1) := by decide +kernel
theorem dX7_thingAt_14 : decode cX7_thingAt 14 = .ok (.invokestatic 48, 3) := by decide +kernel
theorem dX7_thingAt_17 : decode cX7_thingAt 17 = .ok (.iaload, 1) := by decide +kernel
theorem dX7_thingAt_18 : decode cX7_thingAt 18 = .ok (.goto 4, 3) := by decide +kernel
theorem dX7_thingAt_21 : decode cX7_thingAt 21 = .ok (.iconst 0, 1) := by decide +kernel
theorem dX7_thingAt_22 : decode cX7_thingAt 22 = .ok (.ireturn, 1) := by decide +kernel
theorem dX7_kindAt_0 : decode cX7_kindAt 0 = .ok (.aload_n 0, 1) := by decide +kernel
theorem dX7_kindAt_1 : decode cX7_kindAt 1 = .ok (.iload_n 1, 1) := by decide +kernel
theorem dX7_kindAt_2 : decode cX7_kindAt 2 = .ok (.iload_n 2, 1) := by decide +kernel
theorem dX7_kindAt_3 : decode cX7_kindAt 3 = .ok (.invokevirtual 52, 3) := by decide +kernel
theorem dX7_kindAt_6 : decode cX7_kindAt 6 = .ok (.bipush 7, 2) := by decide +kernel
theorem dX7_kindAt_8 : decode cX7_kindAt 8 = .ok (.iand, 1) := by decide +kernel
theorem dX7_kindAt_9 : decode cX7_kindAt 9 = .ok (.ireturn, 1) := by decide +kernel
theorem dX7_setThing_0 : decode cX7_setThing 0 = .ok (.iload_n 1, 1) := by decide +kernel
theorem dX7_setThing_1 : decode cX7_setThing 1 = .ok (.iload_n 2, 1) := by decide +kernel
theorem dX7_setThing_2 : decode cX7_setThing 2 = .ok (.invokestatic 44, 3) := by decide +kernel
theorem dX7_setThing_5 : decode cX7_setThing 5 = .ok (.ifCond .eq 14, 3) := by decide +kernel
theorem dX7_setThing_8 : decode cX7_setThing 8 = .ok (.aload_n 0, 1) := by decide +kernel
theorem dX7_setThing_9 : decode cX7_setThing 9 = .ok (.getfield 9, 3) := by decide +kernel
theorem dX7_setThing_12 : decode cX7_setThing 12 = .ok (.iload_n 1, 1) := by decide +kernel
theorem dX7_setThing_13 : decode cX7_setThing 13 = .ok (.iload_n 2, 1) := by decide +kernel
theorem dX7_setThing_14 : decode cX7_setThing 14 = .ok (.invokestatic 48, 3) := by decide +kernel
theorem dX7_setThing_17 : decode cX7_setThing 17 = .ok (.iload_n 3, 1) := by decide +kernel
theorem dX7_setThing_18 : decode cX7_setThing 18 = .ok (.iastore, 1) := by decide +kernel
theorem dX7_setThing_19 : decode cX7_setThing 19 = .ok (.return_, 1) := by decide +kernel
theorem dX7_countThings_0 : decode cX7_countThings 0 = .ok (.iconst 0, 1) := by decide +kernel
theorem dX7_countThings_1 : decode cX7_countThings 1 = .ok (.istore_n 1, 1) := by decide +kernel
theorem dX7_countThings_2 : decode cX7_countThings 2 = .ok (.iconst 0, 1) := by decide +kernel
theorem dX7_countThings_3 : decode cX7_countThings 3 = .ok (.istore_n 2, 1) := by decide +kernel
theorem dX7_countThings_4 : decode cX7_countThings 4 = .ok (.iload_n 2, 1) := by decide +kernel
theorem dX7_countThings_5 : decode cX7_countThings 5 = .ok (.bipush 16, 2) := by decide +kernel
theorem dX7_countThings_7 : decode cX7_countThings 7 = .ok (.if_icmp .ge 26, 3) := by decide +kernel
theorem dX7_countThings_10 : decode cX7_countThings 10 = .ok (.iload_n 1, 1) := by decide +kernel
theorem dX7_countThings_11 : decode cX7_countThings 11 = .ok (.aload_n 0, 1) := by decide +kernel
theorem dX7_countThings_12 : decode cX7_countThings 12 = .ok (.getfield 9, 3) := by decide +kernel
theorem dX7_countThings_15 : decode cX7_countThings 15 = .ok (.iload_n 2, 1) := by decide +kernel
theorem dX7_countThings_16 : decode cX7_countThings 16 = .ok (.iaload, 1) := by decide +kernel
theorem dX7_countThings_17 : decode cX7_countThings 17 = .ok (.ifCond .ne 7, 3) := by decide +kernel
theorem dX7_countThings_20 : decode cX7_countThings 20 = .ok (.iconst 0, 1) := by decide +kernel
theorem dX7_countThings_21 : decode cX7_countThings 21 = .ok (.goto 4, 3) := by decide +kernel
theorem dX7_countThings_24 : decode cX7_countThings 24 = .ok (.iconst 1, 1) := by decide +kernel
theorem dX7_countThings_25 : decode cX7_countThings 25 = .ok (.iadd, 1) := by decide +kernel
theorem dX7_countThings_26 : decode cX7_countThings 26 = .ok (.istore_n 1, 1) := by decide +kernel
theorem dX7_countThings_27 : decode cX7_countThings 27 = .ok (.iinc 2 1, 3) := by decide +kernel
theorem dX7_countThings_30 : decode cX7_countThings 30 = .ok (.goto (-26), 3) := by decide +kernel
theorem dX7_countThings_33 : decode cX7_countThings 33 = .ok (.iload_n 1, 1) := by decide +kernel
theorem dX7_countThings_34 : decode cX7_countThings 34 = .ok (.ireturn, 1) := by decide +kernel
theorem dX7_lastMonth_0 : decode cX7_lastMonth 0 = .ok (.aload_n 0, 1) := by decide +kernel
theorem dX7_lastMonth_1 : decode cX7_lastMonth 1 = .ok (.getfield 20, 3) := by decide +kernel
theorem dX7_lastMonth_4 : decode cX7_lastMonth 4 = .ok (.aload_n 0, 1) := by decide +kernel
theorem dX7_lastMonth_5 : decode cX7_lastMonth 5 = .ok (.getfield 20, 3) := by decide +kernel
theorem dX7_lastMonth_8 : decode cX7_lastMonth 8 = .ok (.getfield 55, 3) := by decide +kernel
theorem dX7_lastMonth_11 : decode cX7_lastMonth 11 = .ok (.iconst 1, 1) := by decide +kernel
theorem dX7_lastMonth_12 : decode cX7_lastMonth 12 = .ok (.isub, 1) := by decide +kernel
theorem dX7_lastMonth_13 : decode cX7_lastMonth 13 = .ok (.iconst 0, 1) := by decide +kernel
theorem dX7_lastMonth_14 : decode cX7_lastMonth 14 = .ok (.invokevirtual 59, 3) := by decide +kernel
theorem dX7_lastMonth_17 : decode cX7_lastMonth 17 = .ok (.ireturn, 1) := by decide +kernel
theorem dX8_init_0 : decode cX8_init 0 = .ok (.aload_n 0, 1) := by decide +kernel
theorem dX8_init_1 : decode cX8_init 1 = .ok (.invokespecial 3, 3) := by decide +kernel
theorem dX8_init_4 : decode cX8_init 4 = .ok (.aload_n 0, 1) := by decide +kernel
theorem dX8_init_5 : decode cX8_init 5 = .ok (.iconst (-1), 1) := by decide +kernel
theorem dX8_init_6 : decode cX8_init 6 = .ok (.putfield 9, 3) := by decide +kernel
theorem dX8_init_9 : decode cX8_init 9 = .ok (.aload_n 0, 1) := by decide +kernel
theorem dX8_init_10 : decode cX8_init 10 = .ok (.bipush 40, 2) := by decide +kernel
theorem dX8_init_12 : decode cX8_init 12 = .ok (.newarray .int, 2) := by decide +kernel
theorem dX8_init_14 : decode cX8_init 14 = .ok (.putfield 15, 3) := by decide +kernel
theorem dX8_init_17 : decode cX8_init 17 = .ok (.return_, 1) := by decide +kernel
theorem dX8_renew_0 : decode cX8_renew 0 = .ok (.aload_n 0, 1) := by decide +kernel
theorem dX8_renew_1 : decode cX8_renew 1 = .ok (.iload_n 1, 1) := by decide +kernel
theorem dX8_renew_2 : decode cX8_renew 2 = .ok (.putfield 19, 3) := by decide +kernel
theorem dX8_renew_5 : decode cX8_renew 5 = .ok (.aload_n 0, 1) := by decide +kernel
theorem dX8_renew_6 : decode cX8_renew 6 = .ok (.iload_n 2, 1) := by decide +kernel
theorem dX8_renew_7 : decode cX8_renew 7 = .ok (.bipush 40, 2) := by decide +kernel
theorem dX8_renew_9 : decode cX8_renew 9 = .ok (.invokestatic 22, 3) := by decide +kernel
theorem dX8_renew_12 : decode cX8_renew 12 = .ok (.putfield 9, 3) := by decide +kernel
theorem dX8_renew_15 : decode cX8_renew 15 = .ok (.iconst 0, 1) := by decide +kernel
theorem dX8_renew_16 : decode cX8_renew 16 = .ok (.istore_n 3, 1) := by decide +kernel
theorem dX8_renew_17 : decode cX8_renew 17 = .ok (.iload_n 3, 1) := by decide +kernel
theorem dX8_renew_18 : decode cX8_renew 18 = .ok (.bipush 40, 2) := by decide +kernel
theorem dX8_renew_20 : decode cX8_renew 20 = .ok (.if_icmp .ge 16, 3) := by decide +kernel
theorem dX8_renew_23 : decode cX8_renew 23 = .ok (.aload_n 0, 1) := by decide +kernel
theorem dX8_renew_24 : decode cX8_renew 24 = .ok (.getfield 15, 3) := by decide +kernel
theorem dX8_renew_27 : decode cX8_renew 27 = .ok (.iload_n 3, 1) := by decide +kernel
theorem dX8_renew_28 : decode cX8_renew 28 = .ok (.iconst 0, 1) := by decide +kernel
theorem dX8_renew_29 : decode cX8_renew 29 = .ok (.iastore, 1) := by decide +kernel
theorem dX8_renew_30 : decode cX8_renew 30 = .ok (.iinc 3 1, 3) := by decide +kernel
theorem dX8_renew_33 : decode cX8_renew 33 = .ok (.goto (-16), 3) := by decide +kernel
theorem dX8_renew_36 : decode cX8_renew 36 = .ok (.return_, 1) := by decide +kernel
theorem dX8_faultAt_0 : decode cX8_faultAt 0 = .ok (.aload_n 0, 1) := by decide +kernel
theorem dX8_faultAt_1 : decode cX8_faultAt 1 = .ok (.getfield 9, 3) := by decide +kernel
theorem dX8_faultAt_4 : decode cX8_faultAt 4 = .ok (.ifCond .ge 5, 3) := by decide +kernel
theorem dX8_faultAt_7 : decode cX8_faultAt 7 = .ok (.iconst 1, 1) := by decide +kernel
theorem dX8_faultAt_8 : decode cX8_faultAt 8 = .ok (.ireturn, 1) := by decide +kernel
theorem dX8_faultAt_9 : decode cX8_faultAt 9 = .ok (.iload_n 1, 1) := by decide +kernel
theorem dX8_faultAt_10 : decode cX8_faultAt 10 = .ok (.ifCond .lt 11, 3) := by decide +kernel
theorem dX8_faultAt_13 : decode cX8_faultAt 13 = .ok (.iload_n 1, 1) := by decide +kernel
theorem dX8_faultAt_14 : decode cX8_faultAt 14 = .ok (.aload_n 0, 1) := by decide +kernel
theorem dX8_faultAt_15 : decode cX8_faultAt 15 = .ok (.getfield 9, 3) := by decide +kernel
theorem dX8_faultAt_18 : decode cX8_faultAt 18 = .ok (.if_icmp .lt 7, 3) := by decide +kernel
theorem dX8_faultAt_21 : decode cX8_faultAt 21 = .ok (.iconst 2, 1) := by decide +kernel
theorem dX8_faultAt_22 : decode cX8_faultAt 22 = .ok (.goto 4, 3) := by decide +kernel
theorem dX8_faultAt_25 : decode cX8_faultAt 25 = .ok (.iconst 0, 1) := by decide +kernel
theorem dX8_faultAt_26 : decode cX8_faultAt 26 = .ok (.ireturn, 1) := by decide +kernel
theorem dX8_setCell_0 : decode cX8_setCell 0 = .ok (.aload_n 0, 1) := by decide +kernel
theorem dX8_setCell_1 : decode cX8_setCell 1 = .ok (.iload_n 1, 1) := by decide +kernel
theorem dX8_setCell_2 : decode cX8_setCell 2 = .ok (.invokevirtual 28, 3) := by decide +kernel
theorem dX8_setCell_5 : decode cX8_setCell 5 = .ok (.ifCond .ne 35, 3) := by decide +kernel
theorem dX8_setCell_8 : decode cX8_setCell 8 = .ok (.aload_n 0, 1) := by decide +kernel
theorem dX8_setCell_9 : decode cX8_setCell 9 = .ok (.getfield 15, 3) := by decide +kernel
theorem dX8_setCell_12 : decode cX8_setCell 12 = .ok (.iload_n 1, 1) := by decide +kernel
theorem dX8_setCell_13 : decode cX8_setCell 13 = .ok (.aload_n 0, 1) := by decide +kernel
theorem dX8_setCell_14 : decode cX8_setCell 14 = .ok (.getfield 19, 3) := by decide +kernel
theorem dX8_setCell_17 : decode cX8_setCell 17 = .ok (.ifCond .ne 8, 3) := by decide +kernel
theorem dX8_setCell_20 : decode cX8_setCell 20 = .ok (.iload_n 2, 1) := by decide +kernel
theorem dX8_setCell_21 : decode cX8_setCell 21 = .ok (.i2b, 1) := by decide +kernel
theorem dX8_setCell_22 : decode cX8_setCell 22 = .ok (.goto 17, 3) := by decide +kernel
theorem dX8_setCell_25 : decode cX8_setCell 25 = .ok (.aload_n 0, 1) := by decide +kernel
theorem dX8_setCell_26 : decode cX8_setCell 26 = .ok (.getfield 19, 3) := by decide +kernel
theorem dX8_setCell_29 : decode cX8_setCell 29 = .ok (.iconst 1, 1) := by decide +kernel
theorem dX8_setCell_30 : decode cX8_setCell 30 = .ok (.if_icmp .ne 8, 3) := by decide +kernel
theorem dX8_setCell_33 : decode cX8_setCell 33 = .ok (.iload_n 2, 1) := by decide +kernel
theorem dX8_setCell_34 : decode cX8_setCell 34 = .ok (.i2s, 1) := by decide +kernel
theorem dX8_setCell_35 : decode cX8_setCell 35 = .ok (.goto 4, 3) := by decide +kernel
theorem dX8_setCell_38 : decode cX8_setCell 38 = .ok (.iload_n 2, 1) := by decide +kernel
theorem dX8_setCell_39 : decode cX8_setCell 39 = .ok (.iastore, 1) := by decide +kernel
theorem dX8_setCell_40 : decode cX8_setCell 40 = .ok (.return_, 1) := by decide +kernel
theorem dX8_cell_0 : decode cX8_cell 0 = .ok (.aload_n 0, 1) := by decide +kernel
theorem dX8_cell_1 : decode cX8_cell 1 = .ok (.iload_n 1, 1) := by decide +kernel
theorem dX8_cell_2 : decode cX8_cell 2 = .ok (.invokevirtual 28, 3) := by decide +kernel
theorem dX8_cell_5 : decode cX8_cell 5 = .ok (.ifCond .ne 12, 3) := by decide +kernel
theorem dX8_cell_8 : decode cX8_cell 8 = .ok (.aload_n 0, 1) := by decide +kernel
theorem dX8_cell_9 : decode cX8_cell 9 = .ok (.getfield 15, 3) := by decide +kernel
theorem dX8_cell_12 : decode cX8_cell 12 = .ok (.iload_n 1, 1) := by decide +kernel
theorem dX8_cell_13 : decode cX8_cell 13 = .ok (.iaload, 1) := by decide +kernel
theorem dX8_cell_14 : decode cX8_cell 14 = .ok (.goto 4, 3) := by decide +kernel
theorem dX8_cell_17 : decode cX8_cell 17 = .ok (.iconst 0, 1) := by decide +kernel
theorem dX8_cell_18 : decode cX8_cell 18 = .ok (.ireturn, 1) := by decide +kernel
theorem dX8_wholeThings_0 : decode cX8_wholeThings 0 = .ok (.aload_n 0, 1) := by decide +kernel
theorem dX8_wholeThings_1 : decode cX8_wholeThings 1 = .ok (.getfield 9, 3) := by decide +kernel
theorem dX8_wholeThings_4 : decode cX8_wholeThings 4 = .ok (.ifCond .lt 23, 3) := by decide +kernel
theorem dX8_wholeThings_7 : decode cX8_wholeThings 7 = .ok (.aload_n 0, 1) := by decide +kernel
theorem dX8_wholeThings_8 : decode cX8_wholeThings 8 = .ok (.getfield 19, 3) := by decide +kernel
theorem dX8_wholeThings_11 : decode cX8_wholeThings 11 = .ok (.iload_n 1, 1) := by decide +kernel
theorem dX8_wholeThings_12 : decode cX8_wholeThings 12 = .ok (.if_icmp .ne 15, 3) := by decide +kernel
theorem dX8_wholeThings_15 : decode cX8_wholeThings 15 = .ok (.iload_n 2, 1) := by decide +kernel
theorem dX8_wholeThings_16 : decode cX8_wholeThings 16 = .ok (.ifCond .lt 11, 3) := by decide +kernel
theorem dX8_wholeThings_19 : decode cX8_wholeThings 19 = .ok (.iload_n 2, 1) := by decide +kernel
theorem dX8_wholeThings_20 : decode cX8_wholeThings 20 = .ok (.aload_n 0, 1) := by decide +kernel
theorem dX8_wholeThings_21 : decode cX8_wholeThings 21 = .ok (.getfield 9, 3) := by decide +kernel
theorem dX8_wholeThings_24 : decode cX8_wholeThings 24 = .ok (.if_icmp .lt 5, 3) := by decide +kernel
theorem dX8_wholeThings_27 : decode cX8_wholeThings 27 = .ok (.iconst 0, 1) := by decide +kernel
theorem dX8_wholeThings_28 : decode cX8_wholeThings 28 = .ok (.ireturn, 1) := by decide +kernel
theorem dX8_wholeThings_29 : decode cX8_wholeThings 29 = .ok (.iload_n 3, 1) := by decide +kernel
theorem dX8_wholeThings_30 : decode cX8_wholeThings 30 = .ok (.aload_n 0, 1) := by decide +kernel
theorem dX8_wholeThings_31 : decode cX8_wholeThings 31 = .ok (.getfield 9, 3) := by decide +kernel
theorem dX8_wholeThings_34 : decode cX8_wholeThings 34 = .ok (.iload_n 2, 1) := by decide +kernel
theorem dX8_wholeThings_35 : decode cX8_wholeThings 35 = .ok (.isub, 1) := by decide +kernel
theorem dX8_wholeThings_36 : decode cX8_wholeThings 36 = .ok (.iconst 3, 1) := by decide +kernel
theorem dX8_wholeThings_37 : decode cX8_wholeThings 37 = .ok (.idiv, 1) := by decide +kernel
theorem dX8_wholeThings_38 : decode cX8_wholeThings 38 = .ok (.invokestatic 22, 3) := by decide +kernel
theorem dX8_wholeThings_41 : decode cX8_wholeThings 41 = .ok (.ireturn, 1) := by decide +kernel
theorem dX8_faultOfReading_0 : decode cX8_faultOfReading 0 = .ok (.aload_n 0, 1) := by decide +kernel
theorem dX8_faultOfReading_1 : decode cX8_faultOfReading 1 = .ok (.iload_n 1, 1) := by decide +kernel
theorem dX8_faultOfReading_2 : decode cX8_faultOfReading 2 = .ok (.iload_n 2, 1) := by decide +kernel
theorem dX8_faultOfReading_3 : decode cX8_faultOfReading 3 = .ok (.iload_n 3, 1) := by decide +kernel
theorem dX8_faultOfReading_4 : decode cX8_faultOfReading 4 = .ok (.invokevirtual 32, 3) := by decide +kernel
theorem dX8_faultOfReading_7 : decode cX8_faultOfReading 7 = .ok (.iload_n 3, 1) := by decide +kernel
theorem dX8_faultOfReading_8 : decode cX8_faultOfReading 8 = .ok (.if_icmp .lt 5, 3) := by decide +kernel
theorem dX8_faultOfReading_11 : decode cX8_faultOfReading 11 = .ok (.iconst 0, 1) := by decide +kernel
theorem dX8_faultOfReading_12 : decode cX8_faultOfReading 12 = .ok (.ireturn, 1) := by decide +kernel
theorem dX8_faultOfReading_13 : decode cX8_faultOfReading 13 = .ok (.aload_n 0, 1) := by decide +kernel
theorem dX8_faultOfReading_14 : decode cX8_faultOfReading 14 = .ok (.getfield 9, 3) := by decide +kernel
theorem dX8_faultOfReading_17 : decode cX8_faultOfReading 17 = .ok (.ifCond .ge 5, 3) := by decide +kernel
theorem dX8_faultOfReading_20 : decode cX8_faultOfReading 20 = .ok (.iconst 1, 1) := by decide +kernel
theorem dX8_faultOfReading_21 : decode cX8_faultOfReading 21 = .ok (.ireturn, 1) := by decide +kernel
theorem dX8_faultOfReading_22 : decode cX8_faultOfReading 22 = .ok (.aload_n 0, 1) := by decide +kernel
theorem dX8_faultOfReading_23 : decode cX8_faultOfReading 23 = .ok (.getfield 19, 3) := by decide +kernel
theorem dX8_faultOfReading_26 : decode cX8_faultOfReading 26 = .ok (.iload_n 1, 1) := by decide +kernel
theorem dX8_faultOfReading_27 : decode cX8_faultOfReading 27 = .ok (.if_icmp .eq 7, 3) := by decide +kernel
theorem dX8_faultOfReading_30 : decode cX8_faultOfReading 30 = .ok (.iconst 3, 1) := by decide +kernel
theorem dX8_faultOfReading_31 : decode cX8_faultOfReading 31 = .ok (.goto 4, 3) := by decide +kernel
theorem dX8_faultOfReading_34 : decode cX8_faultOfReading 34 = .ok (.iconst 2, 1) := by decide +kernel
theorem dX8_faultOfReading_35 : decode cX8_faultOfReading 35 = .ok (.ireturn, 1) := by decide +kernel
theorem dX9_init_0 : decode cX9_init 0 = .ok (.aload_n 0, 1) := by decide +kernel
theorem dX9_init_1 : decode cX9_init 1 = .ok (.invokespecial 3, 3) := by decide +kernel
theorem dX9_init_4 : decode cX9_init 4 = .ok (.aload_n 0, 1) := by decide +kernel
theorem dX9_init_5 : decode cX9_init 5 = .ok (.sipush 400, 3) := by decide +kernel
theorem dX9_init_8 : decode cX9_init 8 = .ok (.newarray .int, 2) := by decide +kernel
theorem dX9_init_10 : decode cX9_init 10 = .ok (.putfield 9, 3) := by decide +kernel
theorem dX9_init_13 : decode cX9_init 13 = .ok (.return_, 1) := by decide +kernel
theorem dX9_append_0 : decode cX9_append 0 = .ok (.bipush 56, 2) := by decide +kernel
theorem dX9_append_2 : decode cX9_append 2 = .ok (.istore_n 3, 1) := by decide +kernel
theorem dX9_append_3 : decode cX9_append 3 = .ok (.iload_n 3, 1) := by decide +kernel
theorem dX9_append_4 : decode cX9_append 4 = .ok (.ifCond .lt 46, 3) := by decide +kernel
theorem dX9_append_7 : decode cX9_append 7 = .ok (.aload_n 0, 1) := by decide +kernel
theorem dX9_append_8 : decode cX9_append 8 = .ok (.getfield 15, 3) := by decide +kernel
theorem dX9_append_11 : decode cX9_append 11 = .ok (.sipush 400, 3) := by decide +kernel
theorem dX9_append_14 : decode cX9_append 14 = .ok (.if_icmp .ge 36, 3) := by decide +kernel
theorem dX9_append_17 : decode cX9_append 17 = .ok (.aload_n 0, 1) := by decide +kernel
theorem dX9_append_18 : decode cX9_append 18 = .ok (.getfield 9, 3) := by decide +kernel
theorem dX9_append_21 : decode cX9_append 21 = .ok (.aload_n 0, 1) := by decide +kernel
theorem dX9_append_22 : decode cX9_append 22 = .ok (.getfield 15, 3) := by decide +kernel
theorem dX9_append_25 : decode cX9_append 25 = .ok (.lload_n 1, 1) := by decide +kernel
theorem dX9_append_26 : decode cX9_append 26 = .ok (.iload_n 3, 1) := by decide +kernel
theorem dX9_append_27 : decode cX9_append 27 = .ok (.lushr, 1) := by decide +kernel
theorem dX9_append_28 : decode cX9_append 28 = .ok (.l2i, 1) := by decide +kernel
theorem dX9_append_29 : decode cX9_append 29 = .ok (.sipush 255, 3) := by decide +kernel
theorem dX9_append_32 : decode cX9_append 32 = .ok (.iand, 1) := by decide +kernel
theorem dX9_append_33 : decode cX9_append 33 = .ok (.iastore, 1) := by decide +kernel
theorem dX9_append_34 : decode cX9_append 34 = .ok (.aload_n 0, 1) := by decide +kernel
theorem dX9_append_35 : decode cX9_append 35 = .ok (.dup, 1) := by decide +kernel
theorem dX9_append_36 : decode cX9_append 36 = .ok (.getfield 15, 3) := by decide +kernel
theorem dX9_append_39 : decode cX9_append 39 = .ok (.iconst 1, 1) := by decide +kernel
theorem dX9_append_40 : decode cX9_append 40 = .ok (.iadd, 1) := by decide +kernel
theorem dX9_append_41 : decode cX9_append 41 = .ok (.putfield 15, 3) := by decide +kernel
theorem dX9_append_44 : decode cX9_append 44 = .ok (.iinc 3 (-8), 3) := by decide +kernel
theorem dX9_append_47 : decode cX9_append 47 = .ok (.goto (-44), 3) := by decide +kernel
theorem dX9_append_50 : decode cX9_append 50 = .ok (.return_, 1) := by decide +kernel
theorem dX9_byteAt_0 : decode cX9_byteAt 0 = .ok (.iload_n 1, 1) := by decide +kernel
theorem dX9_byteAt_1 : decode cX9_byteAt 1 = .ok (.ifCond .lt 27, 3) := by decide +kernel
theorem dX9_byteAt_4 : decode cX9_byteAt 4 = .ok (.iload_n 1, 1) := by decide +kernel
theorem dX9_byteAt_5 : decode cX9_byteAt 5 = .ok (.aload_n 0, 1) := by decide +kernel
theorem dX9_byteAt_6 : decode cX9_byteAt 6 = .ok (.getfield 15, 3) := by decide +kernel
theorem dX9_byteAt_9 : decode cX9_byteAt 9 = .ok (.if_icmp .ge 19, 3) := by decide +kernel
theorem dX9_byteAt_12 : decode cX9_byteAt 12 = .ok (.iload_n 1, 1) := by decide +kernel
theorem dX9_byteAt_13 : decode cX9_byteAt 13 = .ok (.sipush 400, 3) := by decide +kernel
theorem dX9_byteAt_16 : decode cX9_byteAt 16 = .ok (.if_icmp .ge 12, 3) := by decide +kernel
theorem dX9_byteAt_19 : decode cX9_byteAt 19 = .ok (.aload_n 0, 1) := by decide +kernel
theorem dX9_byteAt_20 : decode cX9_byteAt 20 = .ok (.getfield 9, 3) := by decide +kernel
theorem dX9_byteAt_23 : decode cX9_byteAt 23 = .ok (.iload_n 1, 1) := by decide +kernel
theorem dX9_byteAt_24 : decode cX9_byteAt 24 = .ok (.iaload, 1) := by decide +kernel
theorem dX9_byteAt_25 : decode cX9_byteAt 25 = .ok (.goto 4, 3) := by decide +kernel
theorem dX9_byteAt_28 : decode cX9_byteAt 28 = .ok (.iconst (-1), 1) := by decide +kernel
theorem dX9_byteAt_29 : decode cX9_byteAt 29 = .ok (.ireturn, 1) := by decide +kernel
theorem dJ9_min_7cf53_0 : decode cJ9_min_7cf53 0 = .ok (.iload_n 0, 1) := by decide +kernel
theorem dJ9_min_7cf53_1 : decode cJ9_min_7cf53 1 = .ok (.iload_n 1, 1) := by decide +kernel
theorem dJ9_min_7cf53_2 : decode cJ9_min_7cf53 2 = .ok (.if_icmp .gt 7, 3) := by decide +kernel
theorem dJ9_min_7cf53_5 : decode cJ9_min_7cf53 5 = .ok (.iload_n 0, 1) := by decide +kernel
theorem dJ9_min_7cf53_6 : decode cJ9_min_7cf53 6 = .ok (.goto 4, 3) := by decide +kernel
theorem dJ9_min_7cf53_9 : decode cJ9_min_7cf53 9 = .ok (.iload_n 1, 1) := by decide +kernel
theorem dJ9_min_7cf53_10 : decode cJ9_min_7cf53 10 = .ok (.ireturn, 1) := by decide +kernel
theorem dJ0_length_8abf5_0 : decode cJ0_length_8abf5 0 = .ok (.aload_n 0, 1) := by decide +kernel
theorem dJ0_length_8abf5_1 : decode cJ0_length_8abf5 1 = .ok (.getfield 9, 3) := by decide +kernel
theorem dJ0_length_8abf5_4 : decode cJ0_length_8abf5 4 = .ok (.arraylength, 1) := by decide +kernel
theorem dJ0_length_8abf5_5 : decode cJ0_length_8abf5 5 = .ok (.aload_n 0, 1) := by decide +kernel
theorem dJ0_length_8abf5_6 : decode cJ0_length_8abf5 6 = .ok (.invokevirtual 335, 3) := by decide +kernel
theorem dJ0_length_8abf5_9 : decode cJ0_length_8abf5 9 = .ok (.ishr, 1) := by decide +kernel
theorem dJ0_length_8abf5_10 : decode cJ0_length_8abf5 10 = .ok (.ireturn, 1) := by decide +kernel
theorem dJ0_charAt_5068e_0 : decode cJ0_charAt_5068e 0 = .ok (.aload_n 0, 1) := by decide +kernel
theorem dJ0_charAt_5068e_1 : decode cJ0_charAt_5068e 1 = .ok (.invokevirtual 492, 3) := by decide +kernel
theorem dJ0_charAt_5068e_4 : decode cJ0_charAt_5068e 4 = .ok (.ifCond .eq 12, 3) := by decide +kernel
theorem dJ0_charAt_5068e_7 : decode cJ0_charAt_5068e 7 = .ok (.aload_n 0, 1) := by decide +kernel
theorem dJ0_charAt_5068e_8 : decode cJ0_charAt_5068e 8 = .ok (.getfield 9, 3) := by decide +kernel
theorem dJ0_charAt_5068e_11 : decode cJ0_charAt_5068e 11 = .ok (.iload_n 1, 1) := by decide +kernel
theorem dJ0_charAt_5068e_12 : decode cJ0_charAt_5068e 12 = .ok (.invokestatic 495, 3) := by decide +kernel
theorem dJ0_charAt_5068e_15 : decode cJ0_charAt_5068e 15 = .ok (.ireturn, 1) := by decide +kernel
theorem dJ0_charAt_5068e_16 : decode cJ0_charAt_5068e 16 = .ok (.aload_n 0, 1) := by decide +kernel
theorem dJ0_charAt_5068e_17 : decode cJ0_charAt_5068e 17 = .ok (.getfield 9, 3) := by decide +kernel
theorem dJ0_charAt_5068e_20 : decode cJ0_charAt_5068e 20 = .ok (.iload_n 1, 1) := by decide +kernel
theorem dJ0_charAt_5068e_21 : decode cJ0_charAt_5068e 21 = .ok (.invokestatic 498, 3) := by decide +kernel
theorem dJ0_charAt_5068e_24 : decode cJ0_charAt_5068e 24 = .ok (.ireturn, 1) := by decide +kernel
theorem dJ0_coder_7d493_0 : decode cJ0_coder_7d493 0 = .ok (.getstatic 38, 3) := by decide +kernel
theorem dJ0_coder_7d493_3 : decode cJ0_coder_7d493 3 = .ok (.ifCond .eq 10, 3) := by decide +kernel
theorem dJ0_coder_7d493_6 : decode cJ0_coder_7d493 6 = .ok (.aload_n 0, 1) := by decide +kernel
theorem dJ0_coder_7d493_7 : decode cJ0_coder_7d493 7 = .ok (.getfield 15, 3) := by decide +kernel
theorem dJ0_coder_7d493_10 : decode cJ0_coder_7d493 10 = .ok (.goto 4, 3) := by decide +kernel
theorem dJ0_coder_7d493_13 : decode cJ0_coder_7d493 13 = .ok (.iconst 1, 1) := by decide +kernel
theorem dJ0_coder_7d493_14 : decode cJ0_coder_7d493 14 = .ok (.ireturn, 1) := by decide +kernel
theorem dJ0_isLatin1_aae02_0 : decode cJ0_isLatin1_aae02 0 = .ok (.getstatic 38, 3) := by decide +kernel
theorem dJ0_isLatin1_aae02_3 : decode cJ0_isLatin1_aae02 3 = .ok (.ifCond .eq 14, 3) := by decide +kernel
theorem dJ0_isLatin1_aae02_6 : decode cJ0_isLatin1_aae02 6 = .ok (.aload_n 0, 1) := by decide +kernel
theorem dJ0_isLatin1_aae02_7 : decode cJ0_isLatin1_aae02 7 = .ok (.getfield 15, 3) := by decide +kernel
theorem dJ0_isLatin1_aae02_10 : decode cJ0_isLatin1_aae02 10 = .ok (.ifCond .ne 7, 3) := by decide +kernel
theorem dJ0_isLatin1_aae02_13 : decode cJ0_isLatin1_aae02 13 = .ok (.iconst 1, 1) := by decide +kernel
theorem dJ0_isLatin1_aae02_14 : decode cJ0_isLatin1_aae02 14 = .ok (.goto 4, 3) := by decide +kernel
theorem dJ0_isLatin1_aae02_17 : decode cJ0_isLatin1_aae02 17 = .ok (.iconst 0, 1) := by decide +kernel
theorem dJ0_isLatin1_aae02_18 : decode cJ0_isLatin1_aae02 18 = .ok (.ireturn, 1) := by decide +kernel
theorem dJ0_checkIndex_df160_0 : decode cJ0_checkIndex_df160 0 = .ok (.iload_n 0, 1) := by decide +kernel
theorem dJ0_checkIndex_df160_1 : decode cJ0_checkIndex_df160 1 = .ok (.iload_n 1, 1) := by decide +kernel
theorem dJ0_checkIndex_df160_2 : decode cJ0_checkIndex_df160 2 = .ok (.getstatic 1053, 3) := by decide +kernel
theorem dJ0_checkIndex_df160_5 : decode cJ0_checkIndex_df160 5 = .ok (.invokestatic 1059, 3) := by decide +kernel
theorem dJ0_checkIndex_df160_8 : decode cJ0_checkIndex_df160 8 = .ok (.pop, 1) := by decide +kernel
theorem dJ0_checkIndex_df160_9 : decode cJ0_checkIndex_df160 9 = .ok (.return_, 1) := by decide +kernel
theorem dJ1_charAt_3b067_0 : decode cJ1_charAt_3b067 0 = .ok (.iload_n 1, 1) := by decide +kernel
theorem dJ1_charAt_3b067_1 : decode cJ1_charAt_3b067 1 = .ok (.aload_n 0, 1) := by decide +kernel
theorem dJ1_charAt_3b067_2 : decode cJ1_charAt_3b067 2 = .ok (.arraylength, 1) := by decide +kernel
theorem dJ1_charAt_3b067_3 : decode cJ1_charAt_3b067 3 = .ok (.invokestatic 9, 3) := by decide +kernel
theorem dJ1_charAt_3b067_6 : decode cJ1_charAt_3b067 6 = .ok (.aload_n 0, 1) := by decide +kernel
theorem dJ1_charAt_3b067_7 : decode cJ1_charAt_3b067 7 = .ok (.iload_n 1, 1) := by decide +kernel
theorem dJ1_charAt_3b067_8 : decode cJ1_charAt_3b067 8 = .ok (.baload, 1) := by decide +kernel
theorem dJ1_charAt_3b067_9 : decode cJ1_charAt_3b067 9 = .ok (.sipush 255, 3) := by decide +kernel
theorem dJ1_charAt_3b067_12 : decode cJ1_charAt_3b067 12 = .ok (.iand, 1) := by decide +kernel
theorem dJ1_charAt_3b067_13 : decode cJ1_charAt_3b067 13 = .ok (.i2c, 1) := by decide +kernel
theorem dJ1_charAt_3b067_14 : decode cJ1_charAt_3b067 14 = .ok (.ireturn, 1) := by decide +kernel
theorem dJ2_getChar_3b067_0 : decode cJ2_getChar_3b067 0 = .ok (.getstatic 44, 3) := by decide +kernel
theorem dJ2_getChar_3b067_3 : decode cJ2_getChar_3b067 3 = .ok (.ifCond .ne 25, 3) := by decide +kernel
theorem dJ2_getChar_3b067_6 : decode cJ2_getChar_3b067 6 = .ok (.iload_n 1, 1) := by decide +kernel
theorem dJ2_getChar_3b067_7 : decode cJ2_getChar_3b067 7 = .ok (.ifCond .lt 11, 3) := by decide +kernel
theorem dJ2_getChar_3b067_10 : decode cJ2_getChar_3b067 10 = .ok (.iload_n 1, 1) := by decide +kernel
theorem dJ2_getChar_3b067_11 : decode cJ2_getChar_3b067 11 = .ok (.aload_n 0, 1) := by decide +kernel
theorem dJ2_getChar_3b067_12 : decode cJ2_getChar_3b067 12 = .ok (.invokestatic 48, 3) := by decide +kernel
theorem dJ2_getChar_3b067_15 : decode cJ2_getChar_3b067 15 = .ok (.if_icmp .lt 13, 3) := by decide +kernel
theorem dJ2_getChar_3b067_18 : decode cJ2_getChar_3b067 18 = .ok (.new 52, 3) := by decide +kernel
theorem dJ2_getChar_3b067_21 : decode cJ2_getChar_3b067 21 = .ok (.dup, 1) := by decide +kernel
theorem dJ2_getChar_3b067_22 : decode cJ2_getChar_3b067 22 = .ok (.ldc 54, 2) := by decide +kernel
theorem dJ2_getChar_3b067_24 : decode cJ2_getChar_3b067 24 = .ok (.invokespecial 56, 3) := by decide +kernel
theorem dJ2_getChar_3b067_27 : decode cJ2_getChar_3b067 27 = .ok (.athrow, 1) := by decide +kernel
theorem dJ2_getChar_3b067_28 : decode cJ2_getChar_3b067 28 = .ok (.iload_n 1, 1) := by decide +kernel
theorem dJ2_getChar_3b067_29 : decode cJ2_getChar_3b067 29 = .ok (.iconst 1, 1) := by decide +kernel
theorem dJ2_getChar_3b067_30 : decode cJ2_getChar_3b067 30 = .ok (.ishl, 1) := by decide +kernel
theorem dJ2_getChar_3b067_31 : decode cJ2_getChar_3b067 31 = .ok (.istore_n 1, 1) := by decide +kernel
theorem dJ2_getChar_3b067_32 : decode cJ2_getChar_3b067 32 = .ok (.aload_n 0, 1) := by decide +kernel
theorem dJ2_getChar_3b067_33 : decode cJ2_getChar_3b067 33 = .ok (.iload_n 1, 1) := by decide +kernel
theorem dJ2_getChar_3b067_34 : decode cJ2_getChar_3b067 34 = .ok (.iinc 1 1, 3) := by decide +kernel
theorem dJ2_getChar_3b067_37 : decode cJ2_getChar_3b067 37 = .ok (.baload, 1) := by decide +kernel
theorem dJ2_getChar_3b067_38 : decode cJ2_getChar_3b067 38 = .ok (.sipush 255, 3) := by decide +kernel
theorem dJ2_getChar_3b067_41 : decode cJ2_getChar_3b067 41 = .ok (.iand, 1) := by decide +kernel
theorem dJ2_getChar_3b067_42 : decode cJ2_getChar_3b067 42 = .ok (.getstatic 59, 3) := by decide +kernel
theorem dJ2_getChar_3b067_45 : decode cJ2_getChar_3b067 45 = .ok (.ishl, 1) := by decide +kernel
theorem dJ2_getChar_3b067_46 : decode cJ2_getChar_3b067 46 = .ok (.aload_n 0, 1) := by decide +kernel
theorem dJ2_getChar_3b067_47 : decode cJ2_getChar_3b067 47 = .ok (.iload_n 1, 1) := by decide +kernel
theorem dJ2_getChar_3b067_48 : decode cJ2_getChar_3b067 48 = .ok (.baload, 1) := by decide +kernel
theorem dJ2_getChar_3b067_49 : decode cJ2_getChar_3b067 49 = .ok (.sipush 255, 3) := by decide +kernel
theorem dJ2_getChar_3b067_52 : decode cJ2_getChar_3b067 52 = .ok (.iand, 1) := by decide +kernel
theorem dJ2_getChar_3b067_53 : decode cJ2_getChar_3b067 53 = .ok (.getstatic 63, 3) := by decide +kernel
theorem dJ2_getChar_3b067_56 : decode cJ2_getChar_3b067 56 = .ok (.ishl, 1) := by decide +kernel
theorem dJ2_getChar_3b067_57 : decode cJ2_getChar_3b067 57 = .ok (.ior, 1) := by decide +kernel
theorem dJ2_getChar_3b067_58 : decode cJ2_getChar_3b067 58 = .ok (.i2c, 1) := by decide +kernel
theorem dJ2_getChar_3b067_59 : decode cJ2_getChar_3b067 59 = .ok (.ireturn, 1) := by decide +kernel
theorem dJ2_length_9d52b_0 : decode cJ2_length_9d52b 0 = .ok (.aload_n 0, 1) := by decide +kernel
theorem dJ2_length_9d52b_1 : decode cJ2_length_9d52b 1 = .ok (.arraylength, 1) := by decide +kernel
theorem dJ2_length_9d52b_2 : decode cJ2_length_9d52b 2 = .ok (.iconst 1, 1) := by decide +kernel
theorem dJ2_length_9d52b_3 : decode cJ2_length_9d52b 3 = .ok (.ishr, 1) := by decide +kernel
theorem dJ2_length_9d52b_4 : decode cJ2_length_9d52b 4 = .ok (.ireturn, 1) := by decide +kernel
theorem dJ2_charAt_3b067_0 : decode cJ2_charAt_3b067 0 = .ok (.iload_n 1, 1) := by decide +kernel
theorem dJ2_charAt_3b067_1 : decode cJ2_charAt_3b067 1 = .ok (.aload_n 0, 1) := by decide +kernel
theorem dJ2_charAt_3b067_2 : decode cJ2_charAt_3b067 2 = .ok (.invokestatic 67, 3) := by decide +kernel
theorem dJ2_charAt_3b067_5 : decode cJ2_charAt_3b067 5 = .ok (.aload_n 0, 1) := by decide +kernel
theorem dJ2_charAt_3b067_6 : decode cJ2_charAt_3b067 6 = .ok (.iload_n 1, 1) := by decide +kernel
theorem dJ2_charAt_3b067_7 : decode cJ2_charAt_3b067 7 = .ok (.invokestatic 71, 3) := by decide +kernel
theorem dJ2_charAt_3b067_10 : decode cJ2_charAt_3b067 10 = .ok (.ireturn, 1) := by decide +kernel
theorem dJ2_checkIndex_2214a_0 : decode cJ2_checkIndex_2214a 0 = .ok (.iload_n 0, 1) := by decide +kernel
theorem dJ2_checkIndex_2214a_1 : decode cJ2_checkIndex_2214a 1 = .ok (.aload_n 1, 1) := by decide +kernel
theorem dJ2_checkIndex_2214a_2 : decode cJ2_checkIndex_2214a 2 = .ok (.invokestatic 48, 3) := by decide +kernel
theorem dJ2_checkIndex_2214a_5 : decode cJ2_checkIndex_2214a 5 = .ok (.invokestatic 414, 3) := by decide +kernel
theorem dJ2_checkIndex_2214a_8 : decode cJ2_checkIndex_2214a 8 = .ok (.return_, 1) := by decide +kernel
theorem dJ3_checkIndex_8e157_0 : decode cJ3_checkIndex_8e157 0 = .ok (.iload_n 0, 1) := by decide +kernel
theorem dJ3_checkIndex_8e157_1 : decode cJ3_checkIndex_8e157 1 = .ok (.ifCond .lt 8, 3) := by decide +kernel
theorem dJ3_checkIndex_8e157_4 : decode cJ3_checkIndex_8e157 4 = .ok (.iload_n 0, 1) := by decide +kernel
theorem dJ3_checkIndex_8e157_5 : decode cJ3_checkIndex_8e157 5 = .ok (.iload_n 1, 1) := by decide +kernel
theorem dJ3_checkIndex_8e157_6 : decode cJ3_checkIndex_8e157 6 = .ok (.if_icmp .lt 10, 3) := by decide +kernel
theorem dJ3_checkIndex_8e157_9 : decode cJ3_checkIndex_8e157 9 = .ok (.aload_n 2, 1) := by decide +kernel
theorem dJ3_checkIndex_8e157_10 : decode cJ3_checkIndex_8e157 10 = .ok (.iload_n 0, 1) := by decide +kernel
theorem dJ3_checkIndex_8e157_11 : decode cJ3_checkIndex_8e157 11 = .ok (.iload_n 1, 1) := by decide +kernel
theorem dJ3_checkIndex_8e157_12 : decode cJ3_checkIndex_8e157 12 = .ok (.invokestatic 95, 3) := by decide +kernel
theorem dJ3_checkIndex_8e157_15 : decode cJ3_checkIndex_8e157 15 = .ok (.athrow, 1) := by decide +kernel
theorem dJ3_checkIndex_8e157_16 : decode cJ3_checkIndex_8e157 16 = .ok (.iload_n 0, 1) := by decide +kernel
theorem dJ3_checkIndex_8e157_17 : decode cJ3_checkIndex_8e157 17 = .ok (.ireturn, 1) := by decide +kernel
end
section
theorem dX4_init_0 : decode cX4_init 0 = .ok (.aload_n 0, 1) := by decide +kernel
theorem dX4_init_1 : decode cX4_init 1 = .ok (.invokespecial 3, 3) := by decide +kernel
theorem dX4_init_4 : decode cX4_init 4 = .ok (.aload_n 0, 1) := by decide +kernel
theorem dX4_init_5 : decode cX4_init 5 = .ok (.new 9, 3) := by decide +kernel
theorem dX4_init_8 : decode cX4_init 8 = .ok (.dup, 1) := by decide +kernel
theorem dX4_init_9 : decode cX4_init 9 = .ok (.invokespecial 11, 3) := by decide +kernel
theorem dX4_init_12 : decode cX4_init 12 = .ok (.putfield 12, 3) := by decide +kernel
theorem dX4_init_15 : decode cX4_init 15 = .ok (.aload_n 0, 1) := by decide +kernel
theorem dX4_init_16 : decode cX4_init 16 = .ok (.new 18, 3) := by decide +kernel
theorem dX4_init_19 : decode cX4_init 19 = .ok (.dup, 1) := by decide +kernel
theorem dX4_init_20 : decode cX4_init 20 = .ok (.invokespecial 20, 3) := by decide +kernel
theorem dX4_init_23 : decode cX4_init 23 = .ok (.putfield 21, 3) := by decide +kernel
theorem dX4_init_26 : decode cX4_init 26 = .ok (.aload_n 0, 1) := by decide +kernel
theorem dX4_init_27 : decode cX4_init 27 = .ok (.aload_n 1, 1) := by decide +kernel
theorem dX4_init_28 : decode cX4_init 28 = .ok (.putfield 25, 3) := by decide +kernel
theorem dX4_init_31 : decode cX4_init 31 = .ok (.return_, 1) := by decide +kernel
theorem dX4_readAll_0 : decode cX4_readAll 0 = .ok (.aload_n 0, 1) := by decide +kernel
theorem dX4_readAll_1 : decode cX4_readAll 1 = .ok (.invokevirtual 29, 3) := by decide +kernel
theorem dX4_readAll_4 : decode cX4_readAll 4 = .ok (.aload_n 0, 1) := by decide +kernel
theorem dX4_readAll_5 : decode cX4_readAll 5 = .ok (.invokevirtual 32, 3) := by decide +kernel
theorem dX4_readAll_8 : decode cX4_readAll 8 = .ok (.iconst 0, 1) := by decide +kernel
theorem dX4_readAll_9 : decode cX4_readAll 9 = .ok (.istore_n 1, 1) := by decide +kernel
theorem dX4_readAll_10 : decode cX4_readAll 10 = .ok (.iload_n 1, 1) := by decide +kernel
theorem dX4_readAll_11 : decode cX4_readAll 11 = .ok (.sipush 400, 3) := by decide +kernel
theorem dX4_readAll_14 : decode cX4_readAll 14 = .ok (.if_icmp .ge 45, 3) := by decide +kernel
theorem dX4_readAll_17 : decode cX4_readAll 17 = .ok (.aload_n 0, 1) := by decide +kernel
theorem dX4_readAll_18 : decode cX4_readAll 18 = .ok (.getfield 35, 3) := by decide +kernel
theorem dX4_readAll_21 : decode cX4_readAll 21 = .ok (.ifCond .ne 38, 3) := by decide +kernel
theorem dX4_readAll_24 : decode cX4_readAll 24 = .ok (.aload_n 0, 1) := by decide +kernel
theorem dX4_readAll_25 : decode cX4_readAll 25 = .ok (.getfield 39, 3) := by decide +kernel
theorem dX4_readAll_28 : decode cX4_readAll 28 = .ok (.ifCond .eq 31, 3) := by decide +kernel
theorem dX4_readAll_31 : decode cX4_readAll 31 = .ok (.aload_n 0, 1) := by decide +kernel
theorem dX4_readAll_32 : decode cX4_readAll 32 = .ok (.invokevirtual 42, 3) := by decide +kernel
theorem dX4_readAll_35 : decode cX4_readAll 35 = .ok (.aload_n 0, 1) := by decide +kernel
theorem dX4_readAll_36 : decode cX4_readAll 36 = .ok (.invokevirtual 45, 3) := by decide +kernel
theorem dX4_readAll_39 : decode cX4_readAll 39 = .ok (.aload_n 0, 1) := by decide +kernel
theorem dX4_readAll_40 : decode cX4_readAll 40 = .ok (.invokevirtual 32, 3) := by decide +kernel
theorem dX4_readAll_43 : decode cX4_readAll 43 = .ok (.aload_n 0, 1) := by decide +kernel
theorem dX4_readAll_44 : decode cX4_readAll 44 = .ok (.dup, 1) := by decide +kernel
theorem dX4_readAll_45 : decode cX4_readAll 45 = .ok (.getfield 48, 3) := by decide +kernel
theorem dX4_readAll_48 : decode cX4_readAll 48 = .ok (.iconst 1, 1) := by decide +kernel
theorem dX4_readAll_49 : decode cX4_readAll 49 = .ok (.iadd, 1) := by decide +kernel
theorem dX4_readAll_50 : decode cX4_readAll 50 = .ok (.putfield 48, 3) := by decide +kernel
theorem dX4_readAll_53 : decode cX4_readAll 53 = .ok (.iinc 1 1, 3) := by decide +kernel
theorem dX4_readAll_56 : decode cX4_readAll 56 = .ok (.goto (-46), 3) := by decide +kernel
theorem dX4_readAll_59 : decode cX4_readAll 59 = .ok (.aload_n 0, 1) := by decide +kernel
theorem dX4_readAll_60 : decode cX4_readAll 60 = .ok (.getfield 35, 3) := by decide +kernel
theorem dX4_readAll_63 : decode cX4_readAll 63 = .ok (.ifCond .ne 24, 3) := by decide +kernel
theorem dX4_readAll_66 : decode cX4_readAll 66 = .ok (.aload_n 0, 1) := by decide +kernel
theorem dX4_readAll_67 : decode cX4_readAll 67 = .ok (.invokevirtual 51, 3) := by decide +kernel
theorem dX4_readAll_70 : decode cX4_readAll 70 = .ok (.ifCond .ne 17, 3) := by decide +kernel
theorem dX4_readAll_73 : decode cX4_readAll 73 = .ok (.aload_n 0, 1) := by decide +kernel
theorem dX4_readAll_74 : decode cX4_readAll 74 = .ok (.bipush 6, 2) := by decide +kernel
theorem dX4_readAll_76 : decode cX4_readAll 76 = .ok (.aload_n 0, 1) := by decide +kernel
theorem dX4_readAll_77 : decode cX4_readAll 77 = .ok (.getfield 25, 3) := by decide +kernel
theorem dX4_readAll_80 : decode cX4_readAll 80 = .ok (.getfield 55, 3) := by decide +kernel
theorem dX4_readAll_83 : decode cX4_readAll 83 = .ok (.invokevirtual 60, 3) := by decide +kernel
theorem dX4_readAll_86 : decode cX4_readAll 86 = .ok (.pop, 1) := by decide +kernel
theorem dX4_readAll_87 : decode cX4_readAll 87 = .ok (.return_, 1) := by decide +kernel
theorem dX4_restart_0 : decode cX4_restart 0 = .ok (.aload_n 0, 1) := by decide +kernel
theorem dX4_restart_1 : decode cX4_restart 1 = .ok (.getfield 12, 3) := by decide +kernel
theorem dX4_restart_4 : decode cX4_restart 4 = .ok (.invokevirtual 64, 3) := by decide +kernel
theorem dX4_restart_7 : decode cX4_restart 7 = .ok (.aload_n 0, 1) := by decide +kernel
theorem dX4_restart_8 : decode cX4_restart 8 = .ok (.getfield 21, 3) := by decide +kernel
theorem dX4_restart_11 : decode cX4_restart 11 = .ok (.invokevirtual 67, 3) := by decide +kernel
theorem dX4_restart_14 : decode cX4_restart 14 = .ok (.aload_n 0, 1) := by decide +kernel
theorem dX4_restart_15 : decode cX4_restart 15 = .ok (.iconst 0, 1) := by decide +kernel
theorem dX4_restart_16 : decode cX4_restart 16 = .ok (.putfield 35, 3) := by decide +kernel
theorem dX4_restart_19 : decode cX4_restart 19 = .ok (.aload_n 0, 1) := by decide +kernel
theorem dX4_restart_20 : decode cX4_restart 20 = .ok (.iconst 0, 1) := by decide +kernel
theorem dX4_restart_21 : decode cX4_restart 21 = .ok (.putfield 70, 3) := by decide +kernel
theorem dX4_restart_24 : decode cX4_restart 24 = .ok (.aload_n 0, 1) := by decide +kernel
theorem dX4_restart_25 : decode cX4_restart 25 = .ok (.iconst 0, 1) := by decide +kernel
theorem dX4_restart_26 : decode cX4_restart 26 = .ok (.putfield 48, 3) := by decide +kernel
theorem dX4_restart_29 : decode cX4_restart 29 = .ok (.aload_n 0, 1) := by decide +kernel
theorem dX4_restart_30 : decode cX4_restart 30 = .ok (.iconst 0, 1) := by decide +kernel
theorem dX4_restart_31 : decode cX4_restart 31 = .ok (.putfield 73, 3) := by decide +kernel
theorem dX4_restart_34 : decode cX4_restart 34 = .ok (.aload_n 0, 1) := by decide +kernel
theorem dX4_restart_35 : decode cX4_restart 35 = .ok (.lconst 0, 1) := by decide +kernel
theorem dX4_restart_36 : decode cX4_restart 36 = .ok (.putfield 76, 3) := by decide +kernel
theorem dX4_restart_39 : decode cX4_restart 39 = .ok (.return_, 1) := by decide +kernel
theorem dX4_fail_0 : decode cX4_fail 0 = .ok (.aload_n 0, 1) := by decide +kernel
theorem dX4_fail_1 : decode cX4_fail 1 = .ok (.iload_n 1, 1) := by decide +kernel
theorem dX4_fail_2 : decode cX4_fail 2 = .ok (.putfield 35, 3) := by decide +kernel
theorem dX4_fail_5 : decode cX4_fail 5 = .ok (.aload_n 0, 1) := by decide +kernel
theorem dX4_fail_6 : decode cX4_fail 6 = .ok (.iload_n 2, 1) := by decide +kernel
theorem dX4_fail_7 : decode cX4_fail 7 = .ok (.putfield 70, 3) := by decide +kernel
theorem dX4_fail_10 : decode cX4_fail 10 = .ok (.iconst (-1), 1) := by decide +kernel
theorem dX4_fail_11 : decode cX4_fail 11 = .ok (.ireturn, 1) := by decide +kernel
theorem dX4_takeToken_0 : decode cX4_takeToken 0 = .ok (.aload_n 0, 1) := by decide +kernel
theorem dX4_takeToken_1 : decode cX4_takeToken 1 = .ok (.getfield 35, 3) := by decide +kernel
theorem dX4_takeToken_4 : decode cX4_takeToken 4 = .ok (.ifCond .eq 4, 3) := by decide +kernel
theorem dX4_takeToken_7 : decode cX4_takeToken 7 = .ok (.return_, 1) := by decide +kernel
theorem dX4_takeToken_8 : decode cX4_takeToken 8 = .ok (.aload_n 0, 1) := by decide +kernel
theorem dX4_takeToken_9 : decode cX4_takeToken 9 = .ok (.getfield 73, 3) := by decide +kernel
theorem dX4_takeToken_12 : decode cX4_takeToken 12 = .ok (.aload_n 0, 1) := by decide +kernel
theorem dX4_takeToken_13 : decode cX4_takeToken 13 = .ok (.getfield 25, 3) := by decide +kernel
theorem dX4_takeToken_16 : decode cX4_takeToken 16 = .ok (.getfield 55, 3) := by decide +kernel
theorem dX4_takeToken_19 : decode cX4_takeToken 19 = .ok (.if_icmp .ge 32, 3) := by decide +kernel
theorem dX4_takeToken_22 : decode cX4_takeToken 22 = .ok (.aload_n 0, 1) := by decide +kernel
theorem dX4_takeToken_23 : decode cX4_takeToken 23 = .ok (.getfield 25, 3) := by decide +kernel
theorem dX4_takeToken_26 : decode cX4_takeToken 26 = .ok (.aload_n 0, 1) := by decide +kernel
theorem dX4_takeToken_27 : decode cX4_takeToken 27 = .ok (.getfield 73, 3) := by decide +kernel
theorem dX4_takeToken_30 : decode cX4_takeToken 30 = .ok (.invokevirtual 80, 3) := by decide +kernel
theorem dX4_takeToken_33 : decode cX4_takeToken 33 = .ok (.bipush 32, 2) := by decide +kernel
theorem dX4_takeToken_35 : decode cX4_takeToken 35 = .ok (.if_icmp .ne 16, 3) := by decide +kernel
theorem dX4_takeToken_38 : decode cX4_takeToken 38 = .ok (.aload_n 0, 1) := by decide +kernel
theorem dX4_takeToken_39 : decode cX4_takeToken 39 = .ok (.dup, 1) := by decide +kernel
theorem dX4_takeToken_40 : decode cX4_takeToken 40 = .ok (.getfield 73, 3) := by decide +kernel
theorem dX4_takeToken_43 : decode cX4_takeToken 43 = .ok (.iconst 1, 1) := by decide +kernel
theorem dX4_takeToken_44 : decode cX4_takeToken 44 = .ok (.iadd, 1) := by decide +kernel
theorem dX4_takeToken_45 : decode cX4_takeToken 45 = .ok (.putfield 73, 3) := by decide +kernel
theorem dX4_takeToken_48 : decode cX4_takeToken 48 = .ok (.goto (-40), 3) := by decide +kernel
theorem dX4_takeToken_51 : decode cX4_takeToken 51 = .ok (.aload_n 0, 1) := by decide +kernel
theorem dX4_takeToken_52 : decode cX4_takeToken 52 = .ok (.aload_n 0, 1) := by decide +kernel
theorem dX4_takeToken_53 : decode cX4_takeToken 53 = .ok (.getfield 73, 3) := by decide +kernel
theorem dX4_takeToken_56 : decode cX4_takeToken 56 = .ok (.putfield 84, 3) := by decide +kernel
theorem dX4_takeToken_59 : decode cX4_takeToken 59 = .ok (.aload_n 0, 1) := by decide +kernel
theorem dX4_takeToken_60 : decode cX4_takeToken 60 = .ok (.aload_n 0, 1) := by decide +kernel
theorem dX4_takeToken_61 : decode cX4_takeToken 61 = .ok (.getfield 25, 3) := by decide +kernel
theorem dX4_takeToken_64 : decode cX4_takeToken 64 = .ok (.aload_n 0, 1) := by decide +kernel
theorem dX4_takeToken_65 : decode cX4_takeToken 65 = .ok (.getfield 73, 3) := by decide +kernel
theorem dX4_takeToken_68 : decode cX4_takeToken 68 = .ok (.invokevirtual 80, 3) := by decide +kernel
theorem dX4_takeToken_71 : decode cX4_takeToken 71 = .ok (.invokestatic 87, 3) := by decide +kernel
theorem dX4_takeToken_74 : decode cX4_takeToken 74 = .ok (.putfield 39, 3) := by decide +kernel
theorem dX4_takeToken_77 : decode cX4_takeToken 77 = .ok (.aload_n 0, 1) := by decide +kernel
theorem dX4_takeToken_78 : decode cX4_takeToken 78 = .ok (.iconst 0, 1) := by decide +kernel
theorem dX4_takeToken_79 : decode cX4_takeToken 79 = .ok (.putfield 90, 3) := by decide +kernel
theorem dX4_takeToken_82 : decode cX4_takeToken 82 = .ok (.aload_n 0, 1) := by decide +kernel
theorem dX4_takeToken_83 : decode cX4_takeToken 83 = .ok (.getfield 39, 3) := by decide +kernel
theorem dX4_takeToken_86 : decode cX4_takeToken 86 = .ok (.iconst 3, 1) := by decide +kernel
theorem dX4_takeToken_87 : decode cX4_takeToken 87 = .ok (.if_icmp .ne 13, 3) := by decide +kernel
theorem dX4_takeToken_90 : decode cX4_takeToken 90 = .ok (.aload_n 0, 1) := by decide +kernel
theorem dX4_takeToken_91 : decode cX4_takeToken 91 = .ok (.dup, 1) := by decide +kernel
theorem dX4_takeToken_92 : decode cX4_takeToken 92 = .ok (.getfield 73, 3) := by decide +kernel
theorem dX4_takeToken_95 : decode cX4_takeToken 95 = .ok (.iconst 1, 1) := by decide +kernel
theorem dX4_takeToken_96 : decode cX4_takeToken 96 = .ok (.iadd, 1) := by decide +kernel
theorem dX4_takeToken_97 : decode cX4_takeToken 97 = .ok (.putfield 73, 3) := by decide +kernel
theorem dX4_takeToken_100 : decode cX4_takeToken 100 = .ok (.aload_n 0, 1) := by decide +kernel
theorem dX4_takeToken_101 : decode cX4_takeToken 101 = .ok (.getfield 73, 3) := by decide +kernel
theorem dX4_takeToken_104 : decode cX4_takeToken 104 = .ok (.aload_n 0, 1) := by decide +kernel
theorem dX4_takeToken_105 : decode cX4_takeToken 105 = .ok (.getfield 25, 3) := by decide +kernel
theorem dX4_takeToken_108 : decode cX4_takeToken 108 = .ok (.getfield 55, 3) := by decide +kernel
theorem dX4_takeToken_111 : decode cX4_takeToken 111 = .ok (.if_icmp .ge 91, 3) := by decide +kernel
theorem dX4_takeToken_114 : decode cX4_takeToken 114 = .ok (.aload_n 0, 1) := by decide +kernel
theorem dX4_takeToken_115 : decode cX4_takeToken 115 = .ok (.getfield 39, 3) := by decide +kernel
theorem dX4_takeToken_118 : decode cX4_takeToken 118 = .ok (.iconst 1, 1) := by decide +kernel
theorem dX4_takeToken_119 : decode cX4_takeToken 119 = .ok (.if_icmp .eq 11, 3) := by decide +kernel
theorem dX4_takeToken_122 : decode cX4_takeToken 122 = .ok (.aload_n 0, 1) := by decide +kernel
theorem dX4_takeToken_123 : decode cX4_takeToken 123 = .ok (.getfield 39, 3) := by decide +kernel
theorem dX4_takeToken_126 : decode cX4_takeToken 126 = .ok (.iconst 2, 1) := by decide +kernel
theorem dX4_takeToken_127 : decode cX4_takeToken 127 = .ok (.if_icmp .ne 75, 3) := by decide +kernel
theorem dX4_takeToken_130 : decode cX4_takeToken 130 = .ok (.aload_n 0, 1) := by decide +kernel
theorem dX4_takeToken_131 : decode cX4_takeToken 131 = .ok (.getfield 25, 3) := by decide +kernel
theorem dX4_takeToken_134 : decode cX4_takeToken 134 = .ok (.aload_n 0, 1) := by decide +kernel
theorem dX4_takeToken_135 : decode cX4_takeToken 135 = .ok (.getfield 73, 3) := by decide +kernel
theorem dX4_takeToken_138 : decode cX4_takeToken 138 = .ok (.invokevirtual 80, 3) := by decide +kernel
theorem dX4_takeToken_141 : decode cX4_takeToken 141 = .ok (.invokestatic 87, 3) := by decide +kernel
theorem dX4_takeToken_144 : decode cX4_takeToken 144 = .ok (.aload_n 0, 1) := by decide +kernel
theorem dX4_takeToken_145 : decode cX4_takeToken 145 = .ok (.getfield 39, 3) := by decide +kernel
theorem dX4_takeToken_148 : decode cX4_takeToken 148 = .ok (.if_icmp .ne 54, 3) := by decide +kernel
theorem dX4_takeToken_151 : decode cX4_takeToken 151 = .ok (.aload_n 0, 1) := by decide +kernel
theorem dX4_takeToken_152 : decode cX4_takeToken 152 = .ok (.aload_n 0, 1) := by decide +kernel
theorem dX4_takeToken_153 : decode cX4_takeToken 153 = .ok (.getfield 39, 3) := by decide +kernel
theorem dX4_takeToken_156 : decode cX4_takeToken 156 = .ok (.iconst 2, 1) := by decide +kernel
theorem dX4_takeToken_157 : decode cX4_takeToken 157 = .ok (.if_icmp .ne 28, 3) := by decide +kernel
theorem dX4_takeToken_160 : decode cX4_takeToken 160 = .ok (.bipush 10, 2) := by decide +kernel
theorem dX4_takeToken_162 : decode cX4_takeToken 162 = .ok (.aload_n 0, 1) := by decide +kernel
theorem dX4_takeToken_163 : decode cX4_takeToken 163 = .ok (.getfield 90, 3) := by decide +kernel
theorem dX4_takeToken_166 : decode cX4_takeToken 166 = .ok (.imul, 1) := by decide +kernel
theorem dX4_takeToken_167 : decode cX4_takeToken 167 = .ok (.aload_n 0, 1) := by decide +kernel
theorem dX4_takeToken_168 : decode cX4_takeToken 168 = .ok (.getfield 25, 3) := by decide +kernel
theorem dX4_takeToken_171 : decode cX4_takeToken 171 = .ok (.aload_n 0, 1) := by decide +kernel
theorem dX4_takeToken_172 : decode cX4_takeToken 172 = .ok (.getfield 73, 3) := by decide +kernel
theorem dX4_takeToken_175 : decode cX4_takeToken 175 = .ok (.invokevirtual 80, 3) := by decide +kernel
theorem dX4_takeToken_178 : decode cX4_takeToken 178 = .ok (.iadd, 1) := by decide +kernel
theorem dX4_takeToken_179 : decode cX4_takeToken 179 = .ok (.bipush 48, 2) := by decide +kernel
theorem dX4_takeToken_181 : decode cX4_takeToken 181 = .ok (.isub, 1) := by decide +kernel
theorem dX4_takeToken_182 : decode cX4_takeToken 182 = .ok (.goto 4, 3) := by decide +kernel
theorem dX4_takeToken_185 : decode cX4_takeToken 185 = .ok (.iconst 0, 1) := by decide +kernel
theorem dX4_takeToken_186 : decode cX4_takeToken 186 = .ok (.putfield 90, 3) := by decide +kernel
theorem dX4_takeToken_189 : decode cX4_takeToken 189 = .ok (.aload_n 0, 1) := by decide +kernel
theorem dX4_takeToken_190 : decode cX4_takeToken 190 = .ok (.dup, 1) := by decide +kernel
theorem dX4_takeToken_191 : decode cX4_takeToken 191 = .ok (.getfield 73, 3) := by decide +kernel
theorem dX4_takeToken_194 : decode cX4_takeToken 194 = .ok (.iconst 1, 1) := by decide +kernel
theorem dX4_takeToken_195 : decode cX4_takeToken 195 = .ok (.iadd, 1) := by decide +kernel
theorem dX4_takeToken_196 : decode cX4_takeToken 196 = .ok (.putfield 73, 3) := by decide +kernel
theorem dX4_takeToken_199 : decode cX4_takeToken 199 = .ok (.goto (-99), 3) := by decide +kernel
theorem dX4_takeToken_202 : decode cX4_takeToken 202 = .ok (.aload_n 0, 1) := by decide +kernel
theorem dX4_takeToken_203 : decode cX4_takeToken 203 = .ok (.getfield 39, 3) := by decide +kernel
theorem dX4_takeToken_206 : decode cX4_takeToken 206 = .ok (.iconst 4, 1) := by decide +kernel
theorem dX4_takeToken_207 : decode cX4_takeToken 207 = .ok (.if_icmp .eq 24, 3) := by decide +kernel
theorem dX4_takeToken_210 : decode cX4_takeToken 210 = .ok (.aload_n 0, 1) := by decide +kernel
theorem dX4_takeToken_211 : decode cX4_takeToken 211 = .ok (.getfield 39, 3) := by decide +kernel
theorem dX4_takeToken_214 : decode cX4_takeToken 214 = .ok (.iconst 2, 1) := by decide +kernel
theorem dX4_takeToken_215 : decode cX4_takeToken 215 = .ok (.if_icmp .ne 26, 3) := by decide +kernel
theorem dX4_takeToken_218 : decode cX4_takeToken 218 = .ok (.aload_n 0, 1) := by decide +kernel
theorem dX4_takeToken_219 : decode cX4_takeToken 219 = .ok (.getfield 73, 3) := by decide +kernel
theorem dX4_takeToken_222 : decode cX4_takeToken 222 = .ok (.aload_n 0, 1) := by decide +kernel
theorem dX4_takeToken_223 : decode cX4_takeToken 223 = .ok (.getfield 84, 3) := by decide +kernel
theorem dX4_takeToken_226 : decode cX4_takeToken 226 = .ok (.isub, 1) := by decide +kernel
theorem dX4_takeToken_227 : decode cX4_takeToken 227 = .ok (.iconst 2, 1) := by decide +kernel
theorem dX4_takeToken_228 : decode cX4_takeToken 228 = .ok (.if_icmp .le 13, 3) := by decide +kernel
theorem dX4_takeToken_231 : decode cX4_takeToken 231 = .ok (.aload_n 0, 1) := by decide +kernel
theorem dX4_takeToken_232 : decode cX4_takeToken 232 = .ok (.iconst 1, 1) := by decide +kernel
theorem dX4_takeToken_233 : decode cX4_takeToken 233 = .ok (.aload_n 0, 1) := by decide +kernel
theorem dX4_takeToken_234 : decode cX4_takeToken 234 = .ok (.getfield 84, 3) := by decide +kernel
theorem dX4_takeToken_237 : decode cX4_takeToken 237 = .ok (.invokevirtual 60, 3) := by decide +kernel
theorem dX4_takeToken_240 : decode cX4_takeToken 240 = .ok (.pop, 1) := by decide +kernel
theorem dX4_takeToken_241 : decode cX4_takeToken 241 = .ok (.return_, 1) := by decide +kernel
theorem dX4_typeOf_0 : decode cX4_typeOf 0 = .ok (.iload_n 0, 1) := by decide +kernel
theorem dX4_typeOf_1 : decode cX4_typeOf 1 = .ok (.ifCond .ge 5, 3) := by decide +kernel
theorem dX4_typeOf_4 : decode cX4_typeOf 4 = .ok (.iconst 0, 1) := by decide +kernel
theorem dX4_typeOf_5 : decode cX4_typeOf 5 = .ok (.ireturn, 1) := by decide +kernel
theorem dX4_typeOf_6 : decode cX4_typeOf 6 = .ok (.iload_n 0, 1) := by decide +kernel
theorem dX4_typeOf_7 : decode cX4_typeOf 7 = .ok (.bipush 97, 2) := by decide +kernel
theorem dX4_typeOf_9 : decode cX4_typeOf 9 = .ok (.if_icmp .lt 11, 3) := by decide +kernel
theorem dX4_typeOf_12 : decode cX4_typeOf 12 = .ok (.iload_n 0, 1) := by decide +kernel
theorem dX4_typeOf_13 : decode cX4_typeOf 13 = .ok (.bipush 122, 2) := by decide +kernel
theorem dX4_typeOf_15 : decode cX4_typeOf 15 = .ok (.if_icmp .gt 5, 3) := by decide +kernel
theorem dX4_typeOf_18 : decode cX4_typeOf 18 = .ok (.iconst 1, 1) := by decide +kernel
theorem dX4_typeOf_19 : decode cX4_typeOf 19 = .ok (.ireturn, 1) := by decide +kernel
theorem dX4_typeOf_20 : decode cX4_typeOf 20 = .ok (.iload_n 0, 1) := by decide +kernel
theorem dX4_typeOf_21 : decode cX4_typeOf 21 = .ok (.bipush 48, 2) := by decide +kernel
theorem dX4_typeOf_23 : decode cX4_typeOf 23 = .ok (.if_icmp .lt 11, 3) := by decide +kernel
theorem dX4_typeOf_26 : decode cX4_typeOf 26 = .ok (.iload_n 0, 1) := by decide +kernel
theorem dX4_typeOf_27 : decode cX4_typeOf 27 = .ok (.bipush 57, 2) := by decide +kernel
theorem dX4_typeOf_29 : decode cX4_typeOf 29 = .ok (.if_icmp .gt 5, 3) := by decide +kernel
theorem dX4_typeOf_32 : decode cX4_typeOf 32 = .ok (.iconst 2, 1) := by decide +kernel
theorem dX4_typeOf_33 : decode cX4_typeOf 33 = .ok (.ireturn, 1) := by decide +kernel
theorem dX4_typeOf_34 : decode cX4_typeOf 34 = .ok (.iload_n 0, 1) := by decide +kernel
theorem dX4_typeOf_35 : decode cX4_typeOf 35 = .ok (.bipush 59, 2) := by decide +kernel
theorem dX4_typeOf_37 : decode cX4_typeOf 37 = .ok (.if_icmp .ne 7, 3) := by decide +kernel
theorem dX4_typeOf_40 : decode cX4_typeOf 40 = .ok (.iconst 3, 1) := by decide +kernel
theorem dX4_typeOf_41 : decode cX4_typeOf 41 = .ok (.goto 4, 3) := by decide +kernel
theorem dX4_typeOf_44 : decode cX4_typeOf 44 = .ok (.iconst 4, 1) := by decide +kernel
theorem dX4_typeOf_45 : decode cX4_typeOf 45 = .ok (.ireturn, 1) := by decide +kernel
theorem dX4_nameAmong_0 : decode cX4_nameAmong 0 = .ok (.iconst 0, 1) := by decide +kernel
theorem dX4_nameAmong_1 : decode cX4_nameAmong 1 = .ok (.istore_n 2, 1) := by decide +kernel
theorem dX4_nameAmong_2 : decode cX4_nameAmong 2 = .ok (.aload_n 0, 1) := by decide +kernel
theorem dX4_nameAmong_3 : decode cX4_nameAmong 3 = .ok (.getfield 84, 3) := by decide +kernel
theorem dX4_nameAmong_6 : decode cX4_nameAmong 6 = .ok (.istore_n 3, 1) := by decide +kernel
theorem dX4_nameAmong_7 : decode cX4_nameAmong 7 = .ok (.aload_n 0, 1) := by decide +kernel
theorem dX4_nameAmong_8 : decode cX4_nameAmong 8 = .ok (.getfield 39, 3) := by decide +kernel
theorem dX4_nameAmong_11 : decode cX4_nameAmong 11 = .ok (.iconst 1, 1) := by decide +kernel
theorem dX4_nameAmong_12 : decode cX4_nameAmong 12 = .ok (.if_icmp .ne 7, 3) := by decide +kernel
theorem dX4_nameAmong_15 : decode cX4_nameAmong 15 = .ok (.iconst 1, 1) := by decide +kernel
theorem dX4_nameAmong_16 : decode cX4_nameAmong 16 = .ok (.goto 4, 3) := by decide +kernel
theorem dX4_nameAmong_19 : decode cX4_nameAmong 19 = .ok (.iconst 0, 1) := by decide +kernel
theorem dX4_nameAmong_20 : decode cX4_nameAmong 20 = .ok (.istore 4, 2) := by decide +kernel
theorem dX4_nameAmong_22 : decode cX4_nameAmong 22 = .ok (.iconst 0, 1) := by decide +kernel
theorem dX4_nameAmong_23 : decode cX4_nameAmong 23 = .ok (.istore 5, 2) := by decide +kernel
theorem dX4_nameAmong_25 : decode cX4_nameAmong 25 = .ok (.iload 5, 2) := by decide +kernel
theorem dX4_nameAmong_27 : decode cX4_nameAmong 27 = .ok (.aload_n 1, 1) := by decide +kernel
theorem dX4_nameAmong_28 : decode cX4_nameAmong 28 = .ok (.invokevirtual 93, 3) := by decide +kernel
theorem dX4_nameAmong_31 : decode cX4_nameAmong 31 = .ok (.if_icmp .gt 110, 3) := by decide +kernel
theorem dX4_nameAmong_34 : decode cX4_nameAmong 34 = .ok (.iload 5, 2) := by decide +kernel
theorem dX4_nameAmong_36 : decode cX4_nameAmong 36 = .ok (.aload_n 1, 1) := by decide +kernel
theorem dX4_nameAmong_37 : decode cX4_nameAmong 37 = .ok (.invokevirtual 93, 3) := by decide +kernel
theorem dX4_nameAmong_40 : decode cX4_nameAmong 40 = .ok (.if_icmp .eq 14, 3) := by decide +kernel
theorem dX4_nameAmong_43 : decode cX4_nameAmong 43 = .ok (.aload_n 1, 1) := by decide +kernel
theorem dX4_nameAmong_44 : decode cX4_nameAmong 44 = .ok (.iload 5, 2) := by decide +kernel
theorem dX4_nameAmong_46 : decode cX4_nameAmong 46 = .ok (.invokevirtual 99, 3) := by decide +kernel
theorem dX4_nameAmong_49 : decode cX4_nameAmong 49 = .ok (.bipush 32, 2) := by decide +kernel
theorem dX4_nameAmong_51 : decode cX4_nameAmong 51 = .ok (.if_icmp .ne 44, 3) := by decide +kernel
theorem dX4_nameAmong_54 : decode cX4_nameAmong 54 = .ok (.iload 4, 2) := by decide +kernel
theorem dX4_nameAmong_56 : decode cX4_nameAmong 56 = .ok (.ifCond .eq 13, 3) := by decide +kernel
theorem dX4_nameAmong_59 : decode cX4_nameAmong 59 = .ok (.iload_n 3, 1) := by decide +kernel
theorem dX4_nameAmong_60 : decode cX4_nameAmong 60 = .ok (.aload_n 0, 1) := by decide +kernel
theorem dX4_nameAmong_61 : decode cX4_nameAmong 61 = .ok (.getfield 73, 3) := by decide +kernel
theorem dX4_nameAmong_64 : decode cX4_nameAmong 64 = .ok (.if_icmp .ne 5, 3) := by decide +kernel
theorem dX4_nameAmong_67 : decode cX4_nameAmong 67 = .ok (.iload_n 2, 1) := by decide +kernel
theorem dX4_nameAmong_68 : decode cX4_nameAmong 68 = .ok (.ireturn, 1) := by decide +kernel
theorem dX4_nameAmong_69 : decode cX4_nameAmong 69 = .ok (.iinc 2 1, 3) := by decide +kernel
theorem dX4_nameAmong_72 : decode cX4_nameAmong 72 = .ok (.aload_n 0, 1) := by decide +kernel
theorem dX4_nameAmong_73 : decode cX4_nameAmong 73 = .ok (.getfield 84, 3) := by decide +kernel
theorem dX4_nameAmong_76 : decode cX4_nameAmong 76 = .ok (.istore_n 3, 1) := by decide +kernel
theorem dX4_nameAmong_77 : decode cX4_nameAmong 77 = .ok (.aload_n 0, 1) := by decide +kernel
theorem dX4_nameAmong_78 : decode cX4_nameAmong 78 = .ok (.getfield 39, 3) := by decide +kernel
theorem dX4_nameAmong_81 : decode cX4_nameAmong 81 = .ok (.iconst 1, 1) := by decide +kernel
theorem dX4_nameAmong_82 : decode cX4_nameAmong 82 = .ok (.if_icmp .ne 7, 3) := by decide +kernel
theorem dX4_nameAmong_85 : decode cX4_nameAmong 85 = .ok (.iconst 1, 1) := by decide +kernel
theorem dX4_nameAmong_86 : decode cX4_nameAmong 86 = .ok (.goto 4, 3) := by decide +kernel
theorem dX4_nameAmong_89 : decode cX4_nameAmong 89 = .ok (.iconst 0, 1) := by decide +kernel
theorem dX4_nameAmong_90 : decode cX4_nameAmong 90 = .ok (.istore 4, 2) := by decide +kernel
theorem dX4_nameAmong_92 : decode cX4_nameAmong 92 = .ok (.goto 43, 3) := by decide +kernel
theorem dX4_nameAmong_95 : decode cX4_nameAmong 95 = .ok (.iload 4, 2) := by decide +kernel
theorem dX4_nameAmong_97 : decode cX4_nameAmong 97 = .ok (.ifCond .eq 32, 3) := by decide +kernel
theorem dX4_nameAmong_100 : decode cX4_nameAmong 100 = .ok (.iload_n 3, 1) := by decide +kernel
theorem dX4_nameAmong_101 : decode cX4_nameAmong 101 = .ok (.aload_n 0, 1) := by decide +kernel
theorem dX4_nameAmong_102 : decode cX4_nameAmong 102 = .ok (.getfield 73, 3) := by decide +kernel
theorem dX4_nameAmong_105 : decode cX4_nameAmong 105 = .ok (.if_icmp .ge 24, 3) := by decide +kernel
theorem dX4_nameAmong_108 : decode cX4_nameAmong 108 = .ok (.aload_n 1, 1) := by decide +kernel
theorem dX4_nameAmong_109 : decode cX4_nameAmong 109 = .ok (.iload 5, 2) := by decide +kernel
theorem dX4_nameAmong_111 : decode cX4_nameAmong 111 = .ok (.invokevirtual 99, 3) := by decide +kernel
theorem dX4_nameAmong_114 : decode cX4_nameAmong 114 = .ok (.aload_n 0, 1) := by decide +kernel
theorem dX4_nameAmong_115 : decode cX4_nameAmong 115 = .ok (.getfield 25, 3) := by decide +kernel
theorem dX4_nameAmong_118 : decode cX4_nameAmong 118 = .ok (.iload_n 3, 1) := by decide +kernel
theorem dX4_nameAmong_119 : decode cX4_nameAmong 119 = .ok (.invokevirtual 80, 3) := by decide +kernel
theorem dX4_nameAmong_122 : decode cX4_nameAmong 122 = .ok (.if_icmp .ne 7, 3) := by decide +kernel
theorem dX4_nameAmong_125 : decode cX4_nameAmong 125 = .ok (.iconst 1, 1) := by decide +kernel
theorem dX4_nameAmong_126 : decode cX4_nameAmong 126 = .ok (.goto 4, 3) := by decide +kernel
theorem dX4_nameAmong_129 : decode cX4_nameAmong 129 = .ok (.iconst 0, 1) := by decide +kernel
theorem dX4_nameAmong_130 : decode cX4_nameAmong 130 = .ok (.istore 4, 2) := by decide +kernel
theorem dX4_nameAmong_132 : decode cX4_nameAmong 132 = .ok (.iinc 3 1, 3) := by decide +kernel
theorem dX4_nameAmong_135 : decode cX4_nameAmong 135 = .ok (.iinc 5 1, 3) := by decide +kernel
theorem dX4_nameAmong_138 : decode cX4_nameAmong 138 = .ok (.goto (-113), 3) := by decide +kernel
theorem dX4_nameAmong_141 : decode cX4_nameAmong 141 = .ok (.iconst (-1), 1) := by decide +kernel
theorem dX4_nameAmong_142 : decode cX4_nameAmong 142 = .ok (.ireturn, 1) := by decide +kernel
theorem dX4_takeNumber_0 : decode cX4_takeNumber 0 = .ok (.aload_n 0, 1) := by decide +kernel
theorem dX4_takeNumber_1 : decode cX4_takeNumber 1 = .ok (.invokevirtual 32, 3) := by decide +kernel
theorem dX4_takeNumber_4 : decode cX4_takeNumber 4 = .ok (.aload_n 0, 1) := by decide +kernel
theorem dX4_takeNumber_5 : decode cX4_takeNumber 5 = .ok (.getfield 35, 3) := by decide +kernel
theorem dX4_takeNumber_8 : decode cX4_takeNumber 8 = .ok (.ifCond .eq 5, 3) := by decide +kernel
theorem dX4_takeNumber_11 : decode cX4_takeNumber 11 = .ok (.iconst (-1), 1) := by decide +kernel
theorem dX4_takeNumber_12 : decode cX4_takeNumber 12 = .ok (.ireturn, 1) := by decide +kernel
theorem dX4_takeNumber_13 : decode cX4_takeNumber 13 = .ok (.aload_n 0, 1) := by decide +kernel
theorem dX4_takeNumber_14 : decode cX4_takeNumber 14 = .ok (.getfield 39, 3) := by decide +kernel
theorem dX4_takeNumber_17 : decode cX4_takeNumber 17 = .ok (.iconst 2, 1) := by decide +kernel
theorem dX4_takeNumber_18 : decode cX4_takeNumber 18 = .ok (.if_icmp .eq 13, 3) := by decide +kernel
theorem dX4_takeNumber_21 : decode cX4_takeNumber 21 = .ok (.aload_n 0, 1) := by decide +kernel
theorem dX4_takeNumber_22 : decode cX4_takeNumber 22 = .ok (.iconst 2, 1) := by decide +kernel
theorem dX4_takeNumber_23 : decode cX4_takeNumber 23 = .ok (.aload_n 0, 1) := by decide +kernel
theorem dX4_takeNumber_24 : decode cX4_takeNumber 24 = .ok (.getfield 84, 3) := by decide +kernel
theorem dX4_takeNumber_27 : decode cX4_takeNumber 27 = .ok (.invokevirtual 60, 3) := by decide +kernel
theorem dX4_takeNumber_30 : decode cX4_takeNumber 30 = .ok (.ireturn, 1) := by decide +kernel
theorem dX4_takeNumber_31 : decode cX4_takeNumber 31 = .ok (.aload_n 0, 1) := by decide +kernel
theorem dX4_takeNumber_32 : decode cX4_takeNumber 32 = .ok (.getfield 90, 3) := by decide +kernel
theorem dX4_takeNumber_35 : decode cX4_takeNumber 35 = .ok (.iload_n 1, 1) := by decide +kernel
theorem dX4_takeNumber_36 : decode cX4_takeNumber 36 = .ok (.if_icmp .lt 11, 3) := by decide +kernel
theorem dX4_takeNumber_39 : decode cX4_takeNumber 39 = .ok (.aload_n 0, 1) := by decide +kernel
theorem dX4_takeNumber_40 : decode cX4_takeNumber 40 = .ok (.getfield 90, 3) := by decide +kernel
theorem dX4_takeNumber_43 : decode cX4_takeNumber 43 = .ok (.iload_n 2, 1) := by decide +kernel
theorem dX4_takeNumber_44 : decode cX4_takeNumber 44 = .ok (.if_icmp .le 15, 3) := by decide +kernel
theorem dX4_takeNumber_47 : decode cX4_takeNumber 47 = .ok (.aload_n 0, 1) := by decide +kernel
theorem dX4_takeNumber_48 : decode cX4_takeNumber 48 = .ok (.iconst 3, 1) := by decide +kernel
theorem dX4_takeNumber_49 : decode cX4_takeNumber 49 = .ok (.aload_n 0, 1) := by decide +kernel
theorem dX4_takeNumber_50 : decode cX4_takeNumber 50 = .ok (.getfield 84, 3) := by decide +kernel
theorem dX4_takeNumber_53 : decode cX4_takeNumber 53 = .ok (.invokevirtual 60, 3) := by decide +kernel
theorem dX4_takeNumber_56 : decode cX4_takeNumber 56 = .ok (.goto 7, 3) := by decide +kernel
theorem dX4_takeNumber_59 : decode cX4_takeNumber 59 = .ok (.aload_n 0, 1) := by decide +kernel
theorem dX4_takeNumber_60 : decode cX4_takeNumber 60 = .ok (.getfield 90, 3) := by decide +kernel
theorem dX4_takeNumber_63 : decode cX4_takeNumber 63 = .ok (.ireturn, 1) := by decide +kernel
theorem dX4_takeBank_0 : decode cX4_takeBank 0 = .ok (.aload_n 0, 1) := by decide +kernel
theorem dX4_takeBank_1 : decode cX4_takeBank 1 = .ok (.iconst 0, 1) := by decide +kernel
theorem dX4_takeBank_2 : decode cX4_takeBank 2 = .ok (.iconst 1, 1) := by decide +kernel
theorem dX4_takeBank_3 : decode cX4_takeBank 3 = .ok (.invokevirtual 103, 3) := by decide +kernel
theorem dX4_takeBank_6 : decode cX4_takeBank 6 = .ok (.ireturn, 1) := by decide +kernel
theorem dX4_takeNameOf_0 : decode cX4_takeNameOf 0 = .ok (.aload_n 0, 1) := by decide +kernel
theorem dX4_takeNameOf_1 : decode cX4_takeNameOf 1 = .ok (.invokevirtual 32, 3) := by decide +kernel
theorem dX4_takeNameOf_4 : decode cX4_takeNameOf 4 = .ok (.aload_n 0, 1) := by decide +kernel
theorem dX4_takeNameOf_5 : decode cX4_takeNameOf 5 = .ok (.getfield 35, 3) := by decide +kernel
theorem dX4_takeNameOf_8 : decode cX4_takeNameOf 8 = .ok (.ifCond .eq 5, 3) := by decide +kernel
theorem dX4_takeNameOf_11 : decode cX4_takeNameOf 11 = .ok (.iconst (-1), 1) := by decide +kernel
theorem dX4_takeNameOf_12 : decode cX4_takeNameOf 12 = .ok (.ireturn, 1) := by decide +kernel
theorem dX4_takeNameOf_13 : decode cX4_takeNameOf 13 = .ok (.aload_n 0, 1) := by decide +kernel
theorem dX4_takeNameOf_14 : decode cX4_takeNameOf 14 = .ok (.aload_n 1, 1) := by decide +kernel
theorem dX4_takeNameOf_15 : decode cX4_takeNameOf 15 = .ok (.invokevirtual 106, 3) := by decide +kernel
theorem dX4_takeNameOf_18 : decode cX4_takeNameOf 18 = .ok (.istore_n 2, 1) := by decide +kernel
theorem dX4_takeNameOf_19 : decode cX4_takeNameOf 19 = .ok (.iload_n 2, 1) := by decide +kernel
theorem dX4_takeNameOf_20 : decode cX4_takeNameOf 20 = .ok (.ifCond .ge 15, 3) := by decide +kernel
theorem dX4_takeNameOf_23 : decode cX4_takeNameOf 23 = .ok (.aload_n 0, 1) := by decide +kernel
theorem dX4_takeNameOf_24 : decode cX4_takeNameOf 24 = .ok (.iconst 2, 1) := by decide +kernel
theorem dX4_takeNameOf_25 : decode cX4_takeNameOf 25 = .ok (.aload_n 0, 1) := by decide +kernel
theorem dX4_takeNameOf_26 : decode cX4_takeNameOf 26 = .ok (.getfield 84, 3) := by decide +kernel
theorem dX4_takeNameOf_29 : decode cX4_takeNameOf 29 = .ok (.invokevirtual 60, 3) := by decide +kernel
theorem dX4_takeNameOf_32 : decode cX4_takeNameOf 32 = .ok (.goto 4, 3) := by decide +kernel
theorem dX4_takeNameOf_35 : decode cX4_takeNameOf 35 = .ok (.iload_n 2, 1) := by decide +kernel
theorem dX4_takeNameOf_36 : decode cX4_takeNameOf 36 = .ok (.ireturn, 1) := by decide +kernel
theorem dX4_takeThing_0 : decode cX4_takeThing 0 = .ok (.aload_n 0, 1) := by decide +kernel
theorem dX4_takeThing_1 : decode cX4_takeThing 1 = .ok (.ldc 110, 2) := by decide +kernel
theorem dX4_takeThing_3 : decode cX4_takeThing 3 = .ok (.invokevirtual 112, 3) := by decide +kernel
theorem dX4_takeThing_6 : decode cX4_takeThing 6 = .ok (.istore_n 1, 1) := by decide +kernel
theorem dX4_takeThing_7 : decode cX4_takeThing 7 = .ok (.iload_n 1, 1) := by decide +kernel
theorem dX4_takeThing_8 : decode cX4_takeThing 8 = .ok (.ifCond .gt 5, 3) := by decide +kernel
theorem dX4_takeThing_11 : decode cX4_takeThing 11 = .ok (.iload_n 1, 1) := by decide +kernel
theorem dX4_takeThing_12 : decode cX4_takeThing 12 = .ok (.ireturn, 1) := by decide +kernel
theorem dX4_takeThing_13 : decode cX4_takeThing 13 = .ok (.aload_n 0, 1) := by decide +kernel
theorem dX4_takeThing_14 : decode cX4_takeThing 14 = .ok (.iconst 0, 1) := by decide +kernel
theorem dX4_takeThing_15 : decode cX4_takeThing 15 = .ok (.iconst 3, 1) := by decide +kernel
theorem dX4_takeThing_16 : decode cX4_takeThing 16 = .ok (.invokevirtual 103, 3) := by decide +kernel
theorem dX4_takeThing_19 : decode cX4_takeThing 19 = .ok (.istore_n 2, 1) := by decide +kernel
theorem dX4_takeThing_20 : decode cX4_takeThing 20 = .ok (.aload_n 0, 1) := by decide +kernel
theorem dX4_takeThing_21 : decode cX4_takeThing 21 = .ok (.ldc 115, 2) := by decide +kernel
theorem dX4_takeThing_23 : decode cX4_takeThing 23 = .ok (.invokevirtual 112, 3) := by decide +kernel
theorem dX4_takeThing_26 : decode cX4_takeThing 26 = .ok (.istore_n 3, 1) := by decide +kernel
theorem dX4_takeThing_27 : decode cX4_takeThing 27 = .ok (.aload_n 0, 1) := by decide +kernel
theorem dX4_takeThing_28 : decode cX4_takeThing 28 = .ok (.getfield 35, 3) := by decide +kernel
theorem dX4_takeThing_31 : decode cX4_takeThing 31 = .ok (.ifCond .ne 17, 3) := by decide +kernel
theorem dX4_takeThing_34 : decode cX4_takeThing 34 = .ok (.iload_n 1, 1) := by decide +kernel
theorem dX4_takeThing_35 : decode cX4_takeThing 35 = .ok (.bipush 8, 2) := by decide +kernel
theorem dX4_takeThing_37 : decode cX4_takeThing 37 = .ok (.iload_n 2, 1) := by decide +kernel
theorem dX4_takeThing_38 : decode cX4_takeThing 38 = .ok (.imul, 1) := by decide +kernel
theorem dX4_takeThing_39 : decode cX4_takeThing 39 = .ok (.iadd, 1) := by decide +kernel
theorem dX4_takeThing_40 : decode cX4_takeThing 40 = .ok (.bipush 32, 2) := by decide +kernel
theorem dX4_takeThing_42 : decode cX4_takeThing 42 = .ok (.iload_n 3, 1) := by decide +kernel
theorem dX4_takeThing_43 : decode cX4_takeThing 43 = .ok (.imul, 1) := by decide +kernel
theorem dX4_takeThing_44 : decode cX4_takeThing 44 = .ok (.iadd, 1) := by decide +kernel
theorem dX4_takeThing_45 : decode cX4_takeThing 45 = .ok (.goto 4, 3) := by decide +kernel
theorem dX4_takeThing_48 : decode cX4_takeThing 48 = .ok (.iconst (-1), 1) := by decide +kernel
theorem dX4_takeThing_49 : decode cX4_takeThing 49 = .ok (.ireturn, 1) := by decide +kernel
theorem dX4_takeStop_0 : decode cX4_takeStop 0 = .ok (.aload_n 0, 1) := by decide +kernel
theorem dX4_takeStop_1 : decode cX4_takeStop 1 = .ok (.invokevirtual 32, 3) := by decide +kernel
theorem dX4_takeStop_4 : decode cX4_takeStop 4 = .ok (.aload_n 0, 1) := by decide +kernel
theorem dX4_takeStop_5 : decode cX4_takeStop 5 = .ok (.getfield 35, 3) := by decide +kernel
theorem dX4_takeStop_8 : decode cX4_takeStop 8 = .ok (.ifCond .ne 21, 3) := by decide +kernel
theorem dX4_takeStop_11 : decode cX4_takeStop 11 = .ok (.aload_n 0, 1) := by decide +kernel
theorem dX4_takeStop_12 : decode cX4_takeStop 12 = .ok (.getfield 39, 3) := by decide +kernel
theorem dX4_takeStop_15 : decode cX4_takeStop 15 = .ok (.iconst 3, 1) := by decide +kernel
theorem dX4_takeStop_16 : decode cX4_takeStop 16 = .ok (.if_icmp .eq 13, 3) := by decide +kernel
theorem dX4_takeStop_19 : decode cX4_takeStop 19 = .ok (.aload_n 0, 1) := by decide +kernel
theorem dX4_takeStop_20 : decode cX4_takeStop 20 = .ok (.iconst 2, 1) := by decide +kernel
theorem dX4_takeStop_21 : decode cX4_takeStop 21 = .ok (.aload_n 0, 1) := by decide +kernel
theorem dX4_takeStop_22 : decode cX4_takeStop 22 = .ok (.getfield 84, 3) := by decide +kernel
theorem dX4_takeStop_25 : decode cX4_takeStop 25 = .ok (.invokevirtual 60, 3) := by decide +kernel
theorem dX4_takeStop_28 : decode cX4_takeStop 28 = .ok (.pop, 1) := by decide +kernel
theorem dX4_takeStop_29 : decode cX4_takeStop 29 = .ok (.return_, 1) := by decide +kernel
theorem dX4_tellOnce_0 : decode cX4_tellOnce 0 = .ok (.aload_n 0, 1) := by decide +kernel
theorem dX4_tellOnce_1 : decode cX4_tellOnce 1 = .ok (.getfield 35, 3) := by decide +kernel
theorem dX4_tellOnce_4 : decode cX4_tellOnce 4 = .ok (.ifCond .eq 4, 3) := by decide +kernel
theorem dX4_tellOnce_7 : decode cX4_tellOnce 7 = .ok (.return_, 1) := by decide +kernel
theorem dX4_tellOnce_8 : decode cX4_tellOnce 8 = .ok (.aload_n 0, 1) := by decide +kernel
theorem dX4_tellOnce_9 : decode cX4_tellOnce 9 = .ok (.getfield 76, 3) := by decide +kernel
theorem dX4_tellOnce_12 : decode cX4_tellOnce 12 = .ok (.iload_n 1, 1) := by decide +kernel
theorem dX4_tellOnce_13 : decode cX4_tellOnce 13 = .ok (.lshr, 1) := by decide +kernel
theorem dX4_tellOnce_14 : decode cX4_tellOnce 14 = .ok (.lconst 1, 1) := by decide +kernel
theorem dX4_tellOnce_15 : decode cX4_tellOnce 15 = .ok (.land, 1) := by decide +kernel
theorem dX4_tellOnce_16 : decode cX4_tellOnce 16 = .ok (.lconst 0, 1) := by decide +kernel
theorem dX4_tellOnce_17 : decode cX4_tellOnce 17 = .ok (.lcmp, 1) := by decide +kernel
theorem dX4_tellOnce_18 : decode cX4_tellOnce 18 = .ok (.ifCond .eq 13, 3) := by decide +kernel
theorem dX4_tellOnce_21 : decode cX4_tellOnce 21 = .ok (.aload_n 0, 1) := by decide +kernel
theorem dX4_tellOnce_22 : decode cX4_tellOnce 22 = .ok (.iconst 4, 1) := by decide +kernel
theorem dX4_tellOnce_23 : decode cX4_tellOnce 23 = .ok (.aload_n 0, 1) := by decide +kernel
theorem dX4_tellOnce_24 : decode cX4_tellOnce 24 = .ok (.getfield 84, 3) := by decide +kernel
theorem dX4_tellOnce_27 : decode cX4_tellOnce 27 = .ok (.invokevirtual 60, 3) := by decide +kernel
theorem dX4_tellOnce_30 : decode cX4_tellOnce 30 = .ok (.pop, 1) := by decide +kernel
theorem dX4_tellOnce_31 : decode cX4_tellOnce 31 = .ok (.aload_n 0, 1) := by decide +kernel
theorem dX4_tellOnce_32 : decode cX4_tellOnce 32 = .ok (.dup, 1) := by decide +kernel
theorem dX4_tellOnce_33 : decode cX4_tellOnce 33 = .ok (.getfield 76, 3) := by decide +kernel
theorem dX4_tellOnce_36 : decode cX4_tellOnce 36 = .ok (.lconst 1, 1) := by decide +kernel
theorem dX4_tellOnce_37 : decode cX4_tellOnce 37 = .ok (.iload_n 1, 1) := by decide +kernel
theorem dX4_tellOnce_38 : decode cX4_tellOnce 38 = .ok (.lshl, 1) := by decide +kernel
theorem dX4_tellOnce_39 : decode cX4_tellOnce 39 = .ok (.lor, 1) := by decide +kernel
theorem dX4_tellOnce_40 : decode cX4_tellOnce 40 = .ok (.putfield 76, 3) := by decide +kernel
theorem dX4_tellOnce_43 : decode cX4_tellOnce 43 = .ok (.return_, 1) := by decide +kernel
theorem dX4_readLine_0 : decode cX4_readLine 0 = .ok (.aload_n 0, 1) := by decide +kernel
theorem dX4_readLine_1 : decode cX4_readLine 1 = .ok (.ldc 117, 2) := by decide +kernel
theorem dX4_readLine_3 : decode cX4_readLine 3 = .ok (.invokevirtual 106, 3) := by decide +kernel
theorem dX4_readLine_6 : decode cX4_readLine 6 = .ok (.istore_n 1, 1) := by decide +kernel
theorem dX4_readLine_7 : decode cX4_readLine 7 = .ok (.iload_n 1, 1) := by decide +kernel
theorem dX4_readLine_8 : decode cX4_readLine 8 = .ok (.ifCond .ge 13, 3) := by decide +kernel
theorem dX4_readLine_11 : decode cX4_readLine 11 = .ok (.aload_n 0, 1) := by decide +kernel
theorem dX4_readLine_12 : decode cX4_readLine 12 = .ok (.iconst 2, 1) := by decide +kernel
theorem dX4_readLine_13 : decode cX4_readLine 13 = .ok (.aload_n 0, 1) := by decide +kernel
theorem dX4_readLine_14 : decode cX4_readLine 14 = .ok (.getfield 84, 3) := by decide +kernel
theorem dX4_readLine_17 : decode cX4_readLine 17 = .ok (.invokevirtual 60, 3) := by decide +kernel
theorem dX4_readLine_20 : decode cX4_readLine 20 = .ok (.pop, 1) := by decide +kernel
theorem dX4_readLine_21 : decode cX4_readLine 21 = .ok (.iload_n 1, 1) := by decide +kernel
theorem dX4_readLine_22 : decode cX4_readLine 22 = .ok (.tableswitch 213 0 11 #[62, 84, 106, 128, 140, 155, 171, 178, 185, 192, 199, 206], 62) := by decide +kernel
theorem dX4_readLine_84 : decode cX4_readLine 84 = .ok (.aload_n 0, 1) := by decide +kernel
theorem dX4_readLine_85 : decode cX4_readLine 85 = .ok (.iconst 0, 1) := by decide +kernel
theorem dX4_readLine_86 : decode cX4_readLine 86 = .ok (.invokevirtual 119, 3) := by decide +kernel
theorem dX4_readLine_89 : decode cX4_readLine 89 = .ok (.aload_n 0, 1) := by decide +kernel
theorem dX4_readLine_90 : decode cX4_readLine 90 = .ok (.getfield 12, 3) := by decide +kernel
theorem dX4_readLine_93 : decode cX4_readLine 93 = .ok (.aload_n 0, 1) := by decide +kernel
theorem dX4_readLine_94 : decode cX4_readLine 94 = .ok (.iconst 1, 1) := by decide +kernel
theorem dX4_readLine_95 : decode cX4_readLine 95 = .ok (.bipush 8, 2) := by decide +kernel
theorem dX4_readLine_97 : decode cX4_readLine 97 = .ok (.invokevirtual 103, 3) := by decide +kernel
theorem dX4_readLine_100 : decode cX4_readLine 100 = .ok (.putfield 123, 3) := by decide +kernel
theorem dX4_readLine_103 : decode cX4_readLine 103 = .ok (.goto 132, 3) := by decide +kernel
theorem dX4_readLine_106 : decode cX4_readLine 106 = .ok (.aload_n 0, 1) := by decide +kernel
theorem dX4_readLine_107 : decode cX4_readLine 107 = .ok (.iconst 1, 1) := by decide +kernel
theorem dX4_readLine_108 : decode cX4_readLine 108 = .ok (.invokevirtual 119, 3) := by decide +kernel
theorem dX4_readLine_111 : decode cX4_readLine 111 = .ok (.aload_n 0, 1) := by decide +kernel
theorem dX4_readLine_112 : decode cX4_readLine 112 = .ok (.getfield 12, 3) := by decide +kernel
theorem dX4_readLine_115 : decode cX4_readLine 115 = .ok (.aload_n 0, 1) := by decide +kernel
theorem dX4_readLine_116 : decode cX4_readLine 116 = .ok (.iconst 0, 1) := by decide +kernel
theorem dX4_readLine_117 : decode cX4_readLine 117 = .ok (.bipush 6, 2) := by decide +kernel
theorem dX4_readLine_119 : decode cX4_readLine 119 = .ok (.invokevirtual 103, 3) := by decide +kernel
theorem dX4_readLine_122 : decode cX4_readLine 122 = .ok (.putfield 126, 3) := by decide +kernel
theorem dX4_readLine_125 : decode cX4_readLine 125 = .ok (.goto 110, 3) := by decide +kernel
theorem dX4_readLine_128 : decode cX4_readLine 128 = .ok (.aload_n 0, 1) := by decide +kernel
theorem dX4_readLine_129 : decode cX4_readLine 129 = .ok (.iconst 2, 1) := by decide +kernel
theorem dX4_readLine_130 : decode cX4_readLine 130 = .ok (.invokevirtual 119, 3) := by decide +kernel
theorem dX4_readLine_133 : decode cX4_readLine 133 = .ok (.aload_n 0, 1) := by decide +kernel
theorem dX4_readLine_134 : decode cX4_readLine 134 = .ok (.getfield 12, 3) := by decide +kernel
theorem dX4_readLine_137 : decode cX4_readLine 137 = .ok (.aload_n 0, 1) := by decide +kernel
theorem dX4_readLine_138 : decode cX4_readLine 138 = .ok (.iconst 0, 1) := by decide +kernel
theorem dX4_readLine_139 : decode cX4_readLine 139 = .ok (.bipush 20, 2) := by decide +kernel
theorem dX4_readLine_141 : decode cX4_readLine 141 = .ok (.invokevirtual 103, 3) := by decide +kernel
theorem dX4_readLine_144 : decode cX4_readLine 144 = .ok (.putfield 129, 3) := by decide +kernel
theorem dX4_readLine_147 : decode cX4_readLine 147 = .ok (.goto 88, 3) := by decide +kernel
theorem dX4_readLine_150 : decode cX4_readLine 150 = .ok (.aload_n 0, 1) := by decide +kernel
theorem dX4_readLine_151 : decode cX4_readLine 151 = .ok (.iconst 3, 1) := by decide +kernel
theorem dX4_readLine_152 : decode cX4_readLine 152 = .ok (.invokevirtual 119, 3) := by decide +kernel
theorem dX4_readLine_155 : decode cX4_readLine 155 = .ok (.aload_n 0, 1) := by decide +kernel
theorem dX4_readLine_156 : decode cX4_readLine 156 = .ok (.invokevirtual 132, 3) := by decide +kernel
theorem dX4_readLine_159 : decode cX4_readLine 159 = .ok (.goto 76, 3) := by decide +kernel
theorem dX4_readLine_162 : decode cX4_readLine 162 = .ok (.aload_n 0, 1) := by decide +kernel
theorem dX4_readLine_163 : decode cX4_readLine 163 = .ok (.aload_n 0, 1) := by decide +kernel
theorem dX4_readLine_164 : decode cX4_readLine 164 = .ok (.getfield 12, 3) := by decide +kernel
theorem dX4_readLine_167 : decode cX4_readLine 167 = .ok (.getfield 135, 3) := by decide +kernel
theorem dX4_readLine_170 : decode cX4_readLine 170 = .ok (.iconst 4, 1) := by decide +kernel
theorem dX4_readLine_171 : decode cX4_readLine 171 = .ok (.invokevirtual 139, 3) := by decide +kernel
theorem dX4_readLine_174 : decode cX4_readLine 174 = .ok (.goto 61, 3) := by decide +kernel
theorem dX4_readLine_177 : decode cX4_readLine 177 = .ok (.aload_n 0, 1) := by decide +kernel
theorem dX4_readLine_178 : decode cX4_readLine 178 = .ok (.aload_n 0, 1) := by decide +kernel
theorem dX4_readLine_179 : decode cX4_readLine 179 = .ok (.getfield 12, 3) := by decide +kernel
theorem dX4_readLine_182 : decode cX4_readLine 182 = .ok (.getfield 143, 3) := by decide +kernel
theorem dX4_readLine_185 : decode cX4_readLine 185 = .ok (.bipush 6, 2) := by decide +kernel
theorem dX4_readLine_187 : decode cX4_readLine 187 = .ok (.invokevirtual 139, 3) := by decide +kernel
theorem dX4_readLine_190 : decode cX4_readLine 190 = .ok (.goto 45, 3) := by decide +kernel
theorem dX4_readLine_193 : decode cX4_readLine 193 = .ok (.aload_n 0, 1) := by decide +kernel
theorem dX4_readLine_194 : decode cX4_readLine 194 = .ok (.invokevirtual 146, 3) := by decide +kernel
theorem dX4_readLine_197 : decode cX4_readLine 197 = .ok (.goto 38, 3) := by decide +kernel
theorem dX4_readLine_200 : decode cX4_readLine 200 = .ok (.aload_n 0, 1) := by decide +kernel
theorem dX4_readLine_201 : decode cX4_readLine 201 = .ok (.invokevirtual 149, 3) := by decide +kernel
theorem dX4_readLine_204 : decode cX4_readLine 204 = .ok (.goto 31, 3) := by decide +kernel
theorem dX4_readLine_207 : decode cX4_readLine 207 = .ok (.aload_n 0, 1) := by decide +kernel
theorem dX4_readLine_208 : decode cX4_readLine 208 = .ok (.invokevirtual 152, 3) := by decide +kernel
theorem dX4_readLine_211 : decode cX4_readLine 211 = .ok (.goto 24, 3) := by decide +kernel
theorem dX4_readLine_214 : decode cX4_readLine 214 = .ok (.aload_n 0, 1) := by decide +kernel
theorem dX4_readLine_215 : decode cX4_readLine 215 = .ok (.invokevirtual 155, 3) := by decide +kernel
theorem dX4_readLine_218 : decode cX4_readLine 218 = .ok (.goto 17, 3) := by decide +kernel
theorem dX4_readLine_221 : decode cX4_readLine 221 = .ok (.aload_n 0, 1) := by decide +kernel
theorem dX4_readLine_222 : decode cX4_readLine 222 = .ok (.invokevirtual 158, 3) := by decide +kernel
theorem dX4_readLine_225 : decode cX4_readLine 225 = .ok (.goto 10, 3) := by decide +kernel
theorem dX4_readLine_228 : decode cX4_readLine 228 = .ok (.aload_n 0, 1) := by decide +kernel
theorem dX4_readLine_229 : decode cX4_readLine 229 = .ok (.invokevirtual 161, 3) := by decide +kernel
theorem dX4_readLine_232 : decode cX4_readLine 232 = .ok (.goto 3, 3) := by decide +kernel
theorem dX4_readLine_235 : decode cX4_readLine 235 = .ok (.return_, 1) := by decide +kernel
theorem dX4_readPrices_0 : decode cX4_readPrices 0 = .ok (.iconst 0, 1) := by decide +kernel
theorem dX4_readPrices_1 : decode cX4_readPrices 1 = .ok (.istore_n 1, 1) := by decide +kernel
theorem dX4_readPrices_2 : decode cX4_readPrices 2 = .ok (.iload_n 1, 1) := by decide +kernel
theorem dX4_readPrices_3 : decode cX4_readPrices 3 = .ok (.iconst 4, 1) := by decide +kernel
theorem dX4_readPrices_4 : decode cX4_readPrices 4 = .ok (.if_icmp .ge 32, 3) := by decide +kernel
theorem dX4_readPrices_7 : decode cX4_readPrices 7 = .ok (.aload_n 0, 1) := by decide +kernel
theorem dX4_readPrices_8 : decode cX4_readPrices 8 = .ok (.getfield 35, 3) := by decide +kernel
theorem dX4_readPrices_11 : decode cX4_readPrices 11 = .ok (.ifCond .ne 25, 3) := by decide +kernel
theorem dX4_readPrices_14 : decode cX4_readPrices 14 = .ok (.aload_n 0, 1) := by decide +kernel
theorem dX4_readPrices_15 : decode cX4_readPrices 15 = .ok (.getfield 12, 3) := by decide +kernel
theorem dX4_readPrices_18 : decode cX4_readPrices 18 = .ok (.getfield 164, 3) := by decide +kernel
theorem dX4_readPrices_21 : decode cX4_readPrices 21 = .ok (.iload_n 1, 1) := by decide +kernel
theorem dX4_readPrices_22 : decode cX4_readPrices 22 = .ok (.aload_n 0, 1) := by decide +kernel
theorem dX4_readPrices_23 : decode cX4_readPrices 23 = .ok (.iconst 1, 1) := by decide +kernel
theorem dX4_readPrices_24 : decode cX4_readPrices 24 = .ok (.bipush 9, 2) := by decide +kernel
theorem dX4_readPrices_26 : decode cX4_readPrices 26 = .ok (.invokevirtual 103, 3) := by decide +kernel
theorem dX4_readPrices_29 : decode cX4_readPrices 29 = .ok (.iastore, 1) := by decide +kernel
theorem dX4_readPrices_30 : decode cX4_readPrices 30 = .ok (.iinc 1 1, 3) := by decide +kernel
theorem dX4_readPrices_33 : decode cX4_readPrices 33 = .ok (.goto (-31), 3) := by decide +kernel
theorem dX4_readPrices_36 : decode cX4_readPrices 36 = .ok (.return_, 1) := by decide +kernel
theorem dX4_readOfKinds_0 : decode cX4_readOfKinds 0 = .ok (.aload_n 0, 1) := by decide +kernel
theorem dX4_readOfKinds_1 : decode cX4_readOfKinds 1 = .ok (.invokevirtual 168, 3) := by decide +kernel
theorem dX4_readOfKinds_4 : decode cX4_readOfKinds 4 = .ok (.istore_n 3, 1) := by decide +kernel
theorem dX4_readOfKinds_5 : decode cX4_readOfKinds 5 = .ok (.aload_n 0, 1) := by decide +kernel
theorem dX4_readOfKinds_6 : decode cX4_readOfKinds 6 = .ok (.iload_n 2, 1) := by decide +kernel
theorem dX4_readOfKinds_7 : decode cX4_readOfKinds 7 = .ok (.iload_n 3, 1) := by decide +kernel
theorem dX4_readOfKinds_8 : decode cX4_readOfKinds 8 = .ok (.iadd, 1) := by decide +kernel
theorem dX4_readOfKinds_9 : decode cX4_readOfKinds 9 = .ok (.invokevirtual 119, 3) := by decide +kernel
theorem dX4_readOfKinds_12 : decode cX4_readOfKinds 12 = .ok (.iconst 1, 1) := by decide +kernel
theorem dX4_readOfKinds_13 : decode cX4_readOfKinds 13 = .ok (.istore 4, 2) := by decide +kernel
theorem dX4_readOfKinds_15 : decode cX4_readOfKinds 15 = .ok (.iload 4, 2) := by decide +kernel
theorem dX4_readOfKinds_17 : decode cX4_readOfKinds 17 = .ok (.bipush 6, 2) := by decide +kernel
theorem dX4_readOfKinds_19 : decode cX4_readOfKinds 19 = .ok (.if_icmp .ge 29, 3) := by decide +kernel
theorem dX4_readOfKinds_22 : decode cX4_readOfKinds 22 = .ok (.aload_n 0, 1) := by decide +kernel
theorem dX4_readOfKinds_23 : decode cX4_readOfKinds 23 = .ok (.getfield 35, 3) := by decide +kernel
theorem dX4_readOfKinds_26 : decode cX4_readOfKinds 26 = .ok (.ifCond .ne 22, 3) := by decide +kernel
theorem dX4_readOfKinds_29 : decode cX4_readOfKinds 29 = .ok (.aload_n 1, 1) := by decide +kernel
theorem dX4_readOfKinds_30 : decode cX4_readOfKinds 30 = .ok (.iload_n 3, 1) := by decide +kernel
theorem dX4_readOfKinds_31 : decode cX4_readOfKinds 31 = .ok (.aaload, 1) := by decide +kernel
theorem dX4_readOfKinds_32 : decode cX4_readOfKinds 32 = .ok (.iload 4, 2) := by decide +kernel
theorem dX4_readOfKinds_34 : decode cX4_readOfKinds 34 = .ok (.aload_n 0, 1) := by decide +kernel
theorem dX4_readOfKinds_35 : decode cX4_readOfKinds 35 = .ok (.iconst 0, 1) := by decide +kernel
theorem dX4_readOfKinds_36 : decode cX4_readOfKinds 36 = .ok (.bipush 20, 2) := by decide +kernel
theorem dX4_readOfKinds_38 : decode cX4_readOfKinds 38 = .ok (.invokevirtual 103, 3) := by decide +kernel
theorem dX4_readOfKinds_41 : decode cX4_readOfKinds 41 = .ok (.iastore, 1) := by decide +kernel
theorem dX4_readOfKinds_42 : decode cX4_readOfKinds 42 = .ok (.iinc 4 1, 3) := by decide +kernel
theorem dX4_readOfKinds_45 : decode cX4_readOfKinds 45 = .ok (.goto (-30), 3) := by decide +kernel
theorem dX4_readOfKinds_48 : decode cX4_readOfKinds 48 = .ok (.return_, 1) := by decide +kernel
theorem dX4_readLack_0 : decode cX4_readLack 0 = .ok (.aload_n 0, 1) := by decide +kernel
theorem dX4_readLack_1 : decode cX4_readLack 1 = .ok (.invokevirtual 168, 3) := by decide +kernel
theorem dX4_readLack_4 : decode cX4_readLack 4 = .ok (.istore_n 1, 1) := by decide +kernel
theorem dX4_readLack_5 : decode cX4_readLack 5 = .ok (.aload_n 0, 1) := by decide +kernel
theorem dX4_readLack_6 : decode cX4_readLack 6 = .ok (.ldc 171, 2) := by decide +kernel
theorem dX4_readLack_8 : decode cX4_readLack 8 = .ok (.invokevirtual 112, 3) := by decide +kernel
theorem dX4_readLack_11 : decode cX4_readLack 11 = .ok (.iconst 1, 1) := by decide +kernel
theorem dX4_readLack_12 : decode cX4_readLack 12 = .ok (.iadd, 1) := by decide +kernel
theorem dX4_readLack_13 : decode cX4_readLack 13 = .ok (.istore_n 2, 1) := by decide +kernel
theorem dX4_readLack_14 : decode cX4_readLack 14 = .ok (.aload_n 0, 1) := by decide +kernel
theorem dX4_readLack_15 : decode cX4_readLack 15 = .ok (.getfield 35, 3) := by decide +kernel
theorem dX4_readLack_18 : decode cX4_readLack 18 = .ok (.ifCond .ne 18, 3) := by decide +kernel
theorem dX4_readLack_21 : decode cX4_readLack 21 = .ok (.aload_n 0, 1) := by decide +kernel
theorem dX4_readLack_22 : decode cX4_readLack 22 = .ok (.getfield 12, 3) := by decide +kernel
theorem dX4_readLack_25 : decode cX4_readLack 25 = .ok (.getfield 173, 3) := by decide +kernel
theorem dX4_readLack_28 : decode cX4_readLack 28 = .ok (.iload_n 1, 1) := by decide +kernel
theorem dX4_readLack_29 : decode cX4_readLack 29 = .ok (.dup2, 1) := by decide +kernel
theorem dX4_readLack_30 : decode cX4_readLack 30 = .ok (.iaload, 1) := by decide +kernel
theorem dX4_readLack_31 : decode cX4_readLack 31 = .ok (.iconst 1, 1) := by decide +kernel
theorem dX4_readLack_32 : decode cX4_readLack 32 = .ok (.iload_n 2, 1) := by decide +kernel
theorem dX4_readLack_33 : decode cX4_readLack 33 = .ok (.ishl, 1) := by decide +kernel
theorem dX4_readLack_34 : decode cX4_readLack 34 = .ok (.ior, 1) := by decide +kernel
theorem dX4_readLack_35 : decode cX4_readLack 35 = .ok (.iastore, 1) := by decide +kernel
theorem dX4_readLack_36 : decode cX4_readLack 36 = .ok (.return_, 1) := by decide +kernel
theorem dX4_readTwins_0 : decode cX4_readTwins 0 = .ok (.aload_n 0, 1) := by decide +kernel
theorem dX4_readTwins_1 : decode cX4_readTwins 1 = .ok (.ldc 171, 2) := by decide +kernel
theorem dX4_readTwins_3 : decode cX4_readTwins 3 = .ok (.invokevirtual 112, 3) := by decide +kernel
theorem dX4_readTwins_6 : decode cX4_readTwins 6 = .ok (.iconst 1, 1) := by decide +kernel
theorem dX4_readTwins_7 : decode cX4_readTwins 7 = .ok (.iadd, 1) := by decide +kernel
theorem dX4_readTwins_8 : decode cX4_readTwins 8 = .ok (.istore_n 1, 1) := by decide +kernel
theorem dX4_readTwins_9 : decode cX4_readTwins 9 = .ok (.aload_n 0, 1) := by decide +kernel
theorem dX4_readTwins_10 : decode cX4_readTwins 10 = .ok (.bipush 8, 2) := by decide +kernel
theorem dX4_readTwins_12 : decode cX4_readTwins 12 = .ok (.iload_n 1, 1) := by decide +kernel
theorem dX4_readTwins_13 : decode cX4_readTwins 13 = .ok (.iadd, 1) := by decide +kernel
theorem dX4_readTwins_14 : decode cX4_readTwins 14 = .ok (.invokevirtual 119, 3) := by decide +kernel
theorem dX4_readTwins_17 : decode cX4_readTwins 17 = .ok (.aload_n 0, 1) := by decide +kernel
theorem dX4_readTwins_18 : decode cX4_readTwins 18 = .ok (.ldc 171, 2) := by decide +kernel
theorem dX4_readTwins_20 : decode cX4_readTwins 20 = .ok (.invokevirtual 112, 3) := by decide +kernel
theorem dX4_readTwins_23 : decode cX4_readTwins 23 = .ok (.iconst 1, 1) := by decide +kernel
theorem dX4_readTwins_24 : decode cX4_readTwins 24 = .ok (.iadd, 1) := by decide +kernel
theorem dX4_readTwins_25 : decode cX4_readTwins 25 = .ok (.istore_n 2, 1) := by decide +kernel
theorem dX4_readTwins_26 : decode cX4_readTwins 26 = .ok (.aload_n 0, 1) := by decide +kernel
theorem dX4_readTwins_27 : decode cX4_readTwins 27 = .ok (.bipush 8, 2) := by decide +kernel
theorem dX4_readTwins_29 : decode cX4_readTwins 29 = .ok (.iload_n 2, 1) := by decide +kernel
theorem dX4_readTwins_30 : decode cX4_readTwins 30 = .ok (.iadd, 1) := by decide +kernel
theorem dX4_readTwins_31 : decode cX4_readTwins 31 = .ok (.invokevirtual 119, 3) := by decide +kernel
theorem dX4_readTwins_34 : decode cX4_readTwins 34 = .ok (.aload_n 0, 1) := by decide +kernel
theorem dX4_readTwins_35 : decode cX4_readTwins 35 = .ok (.getfield 35, 3) := by decide +kernel
theorem dX4_readTwins_38 : decode cX4_readTwins 38 = .ok (.ifCond .ne 23, 3) := by decide +kernel
theorem dX4_readTwins_41 : decode cX4_readTwins 41 = .ok (.aload_n 0, 1) := by decide +kernel
theorem dX4_readTwins_42 : decode cX4_readTwins 42 = .ok (.getfield 12, 3) := by decide +kernel
theorem dX4_readTwins_45 : decode cX4_readTwins 45 = .ok (.getfield 176, 3) := by decide +kernel
theorem dX4_readTwins_48 : decode cX4_readTwins 48 = .ok (.iload_n 1, 1) := by decide +kernel
theorem dX4_readTwins_49 : decode cX4_readTwins 49 = .ok (.iload_n 2, 1) := by decide +kernel
theorem dX4_readTwins_50 : decode cX4_readTwins 50 = .ok (.iastore, 1) := by decide +kernel
theorem dX4_readTwins_51 : decode cX4_readTwins 51 = .ok (.aload_n 0, 1) := by decide +kernel
theorem dX4_readTwins_52 : decode cX4_readTwins 52 = .ok (.getfield 12, 3) := by decide +kernel
theorem dX4_readTwins_55 : decode cX4_readTwins 55 = .ok (.getfield 176, 3) := by decide +kernel
theorem dX4_readTwins_58 : decode cX4_readTwins 58 = .ok (.iload_n 2, 1) := by decide +kernel
theorem dX4_readTwins_59 : decode cX4_readTwins 59 = .ok (.iload_n 1, 1) := by decide +kernel
theorem dX4_readTwins_60 : decode cX4_readTwins 60 = .ok (.iastore, 1) := by decide +kernel
theorem dX4_readTwins_61 : decode cX4_readTwins 61 = .ok (.return_, 1) := by decide +kernel
theorem dX4_readPaint_0 : decode cX4_readPaint 0 = .ok (.aload_n 0, 1) := by decide +kernel
theorem dX4_readPaint_1 : decode cX4_readPaint 1 = .ok (.iconst 0, 1) := by decide +kernel
theorem dX4_readPaint_2 : decode cX4_readPaint 2 = .ok (.iconst 3, 1) := by decide +kernel
theorem dX4_readPaint_3 : decode cX4_readPaint 3 = .ok (.invokevirtual 103, 3) := by decide +kernel
theorem dX4_readPaint_6 : decode cX4_readPaint 6 = .ok (.istore_n 1, 1) := by decide +kernel
theorem dX4_readPaint_7 : decode cX4_readPaint 7 = .ok (.aload_n 0, 1) := by decide +kernel
theorem dX4_readPaint_8 : decode cX4_readPaint 8 = .ok (.bipush 14, 2) := by decide +kernel
theorem dX4_readPaint_10 : decode cX4_readPaint 10 = .ok (.iload_n 1, 1) := by decide +kernel
theorem dX4_readPaint_11 : decode cX4_readPaint 11 = .ok (.iadd, 1) := by decide +kernel
theorem dX4_readPaint_12 : decode cX4_readPaint 12 = .ok (.invokevirtual 119, 3) := by decide +kernel
theorem dX4_readPaint_15 : decode cX4_readPaint 15 = .ok (.aload_n 0, 1) := by decide +kernel
theorem dX4_readPaint_16 : decode cX4_readPaint 16 = .ok (.iconst 0, 1) := by decide +kernel
theorem dX4_readPaint_17 : decode cX4_readPaint 17 = .ok (.iconst 3, 1) := by decide +kernel
theorem dX4_readPaint_18 : decode cX4_readPaint 18 = .ok (.invokevirtual 103, 3) := by decide +kernel
theorem dX4_readPaint_21 : decode cX4_readPaint 21 = .ok (.istore_n 2, 1) := by decide +kernel
theorem dX4_readPaint_22 : decode cX4_readPaint 22 = .ok (.aload_n 0, 1) := by decide +kernel
theorem dX4_readPaint_23 : decode cX4_readPaint 23 = .ok (.bipush 14, 2) := by decide +kernel
theorem dX4_readPaint_25 : decode cX4_readPaint 25 = .ok (.iload_n 2, 1) := by decide +kernel
theorem dX4_readPaint_26 : decode cX4_readPaint 26 = .ok (.iadd, 1) := by decide +kernel
theorem dX4_readPaint_27 : decode cX4_readPaint 27 = .ok (.invokevirtual 119, 3) := by decide +kernel
theorem dX4_readPaint_30 : decode cX4_readPaint 30 = .ok (.aload_n 0, 1) := by decide +kernel
theorem dX4_readPaint_31 : decode cX4_readPaint 31 = .ok (.getfield 35, 3) := by decide +kernel
theorem dX4_readPaint_34 : decode cX4_readPaint 34 = .ok (.ifCond .ne 23, 3) := by decide +kernel
theorem dX4_readPaint_37 : decode cX4_readPaint 37 = .ok (.aload_n 0, 1) := by decide +kernel
theorem dX4_readPaint_38 : decode cX4_readPaint 38 = .ok (.getfield 12, 3) := by decide +kernel
theorem dX4_readPaint_41 : decode cX4_readPaint 41 = .ok (.getfield 179, 3) := by decide +kernel
theorem dX4_readPaint_44 : decode cX4_readPaint 44 = .ok (.iload_n 1, 1) := by decide +kernel
theorem dX4_readPaint_45 : decode cX4_readPaint 45 = .ok (.iload_n 2, 1) := by decide +kernel
theorem dX4_readPaint_46 : decode cX4_readPaint 46 = .ok (.iastore, 1) := by decide +kernel
theorem dX4_readPaint_47 : decode cX4_readPaint 47 = .ok (.aload_n 0, 1) := by decide +kernel
theorem dX4_readPaint_48 : decode cX4_readPaint 48 = .ok (.getfield 12, 3) := by decide +kernel
theorem dX4_readPaint_51 : decode cX4_readPaint 51 = .ok (.getfield 179, 3) := by decide +kernel
theorem dX4_readPaint_54 : decode cX4_readPaint 54 = .ok (.iload_n 2, 1) := by decide +kernel
theorem dX4_readPaint_55 : decode cX4_readPaint 55 = .ok (.iload_n 1, 1) := by decide +kernel
theorem dX4_readPaint_56 : decode cX4_readPaint 56 = .ok (.iastore, 1) := by decide +kernel
theorem dX4_readPaint_57 : decode cX4_readPaint 57 = .ok (.return_, 1) := by decide +kernel
theorem dX4_readRight_0 : decode cX4_readRight 0 = .ok (.aload_n 0, 1) := by decide +kernel
theorem dX4_readRight_1 : decode cX4_readRight 1 = .ok (.ldc 171, 2) := by decide +kernel
theorem dX4_readRight_3 : decode cX4_readRight 3 = .ok (.invokevirtual 112, 3) := by decide +kernel
theorem dX4_readRight_6 : decode cX4_readRight 6 = .ok (.iconst 1, 1) := by decide +kernel
theorem dX4_readRight_7 : decode cX4_readRight 7 = .ok (.iadd, 1) := by decide +kernel
theorem dX4_readRight_8 : decode cX4_readRight 8 = .ok (.istore_n 1, 1) := by decide +kernel
theorem dX4_readRight_9 : decode cX4_readRight 9 = .ok (.aload_n 0, 1) := by decide +kernel
theorem dX4_readRight_10 : decode cX4_readRight 10 = .ok (.getfield 35, 3) := by decide +kernel
theorem dX4_readRight_13 : decode cX4_readRight 13 = .ok (.ifCond .ne 18, 3) := by decide +kernel
theorem dX4_readRight_16 : decode cX4_readRight 16 = .ok (.aload_n 0, 1) := by decide +kernel
theorem dX4_readRight_17 : decode cX4_readRight 17 = .ok (.getfield 12, 3) := by decide +kernel
theorem dX4_readRight_20 : decode cX4_readRight 20 = .ok (.dup, 1) := by decide +kernel
theorem dX4_readRight_21 : decode cX4_readRight 21 = .ok (.getfield 182, 3) := by decide +kernel
theorem dX4_readRight_24 : decode cX4_readRight 24 = .ok (.iconst 1, 1) := by decide +kernel
theorem dX4_readRight_25 : decode cX4_readRight 25 = .ok (.iload_n 1, 1) := by decide +kernel
theorem dX4_readRight_26 : decode cX4_readRight 26 = .ok (.ishl, 1) := by decide +kernel
theorem dX4_readRight_27 : decode cX4_readRight 27 = .ok (.ior, 1) := by decide +kernel
theorem dX4_readRight_28 : decode cX4_readRight 28 = .ok (.putfield 182, 3) := by decide +kernel
theorem dX4_readRight_31 : decode cX4_readRight 31 = .ok (.return_, 1) := by decide +kernel
theorem dX4_readThing_0 : decode cX4_readThing 0 = .ok (.aload_n 0, 1) := by decide +kernel
theorem dX4_readThing_1 : decode cX4_readThing 1 = .ok (.invokevirtual 168, 3) := by decide +kernel
theorem dX4_readThing_4 : decode cX4_readThing 4 = .ok (.istore_n 1, 1) := by decide +kernel
theorem dX4_readThing_5 : decode cX4_readThing 5 = .ok (.aload_n 0, 1) := by decide +kernel
theorem dX4_readThing_6 : decode cX4_readThing 6 = .ok (.iconst 0, 1) := by decide +kernel
theorem dX4_readThing_7 : decode cX4_readThing 7 = .ok (.bipush 7, 2) := by decide +kernel
theorem dX4_readThing_9 : decode cX4_readThing 9 = .ok (.invokevirtual 103, 3) := by decide +kernel
theorem dX4_readThing_12 : decode cX4_readThing 12 = .ok (.istore_n 2, 1) := by decide +kernel
theorem dX4_readThing_13 : decode cX4_readThing 13 = .ok (.aload_n 0, 1) := by decide +kernel
theorem dX4_readThing_14 : decode cX4_readThing 14 = .ok (.bipush 18, 2) := by decide +kernel
theorem dX4_readThing_16 : decode cX4_readThing 16 = .ok (.iload_n 1, 1) := by decide +kernel
theorem dX4_readThing_17 : decode cX4_readThing 17 = .ok (.iload_n 2, 1) := by decide +kernel
theorem dX4_readThing_18 : decode cX4_readThing 18 = .ok (.invokestatic 185, 3) := by decide +kernel
theorem dX4_readThing_21 : decode cX4_readThing 21 = .ok (.iadd, 1) := by decide +kernel
theorem dX4_readThing_22 : decode cX4_readThing 22 = .ok (.invokevirtual 119, 3) := by decide +kernel
theorem dX4_readThing_25 : decode cX4_readThing 25 = .ok (.aload_n 0, 1) := by decide +kernel
theorem dX4_readThing_26 : decode cX4_readThing 26 = .ok (.invokevirtual 188, 3) := by decide +kernel
theorem dX4_readThing_29 : decode cX4_readThing 29 = .ok (.istore_n 3, 1) := by decide +kernel
theorem dX4_readThing_30 : decode cX4_readThing 30 = .ok (.aload_n 0, 1) := by decide +kernel
theorem dX4_readThing_31 : decode cX4_readThing 31 = .ok (.getfield 35, 3) := by decide +kernel
theorem dX4_readThing_34 : decode cX4_readThing 34 = .ok (.ifCond .ne 13, 3) := by decide +kernel
theorem dX4_readThing_37 : decode cX4_readThing 37 = .ok (.aload_n 0, 1) := by decide +kernel
theorem dX4_readThing_38 : decode cX4_readThing 38 = .ok (.getfield 21, 3) := by decide +kernel
theorem dX4_readThing_41 : decode cX4_readThing 41 = .ok (.iload_n 1, 1) := by decide +kernel
theorem dX4_readThing_42 : decode cX4_readThing 42 = .ok (.iload_n 2, 1) := by decide +kernel
theorem dX4_readThing_43 : decode cX4_readThing 43 = .ok (.iload_n 3, 1) := by decide +kernel
theorem dX4_readThing_44 : decode cX4_readThing 44 = .ok (.invokevirtual 191, 3) := by decide +kernel
theorem dX4_readThing_47 : decode cX4_readThing 47 = .ok (.return_, 1) := by decide +kernel
theorem dX4_readWork_0 : decode cX4_readWork 0 = .ok (.aload_n 0, 1) := by decide +kernel
theorem dX4_readWork_1 : decode cX4_readWork 1 = .ok (.getfield 21, 3) := by decide +kernel
theorem dX4_readWork_4 : decode cX4_readWork 4 = .ok (.getfield 195, 3) := by decide +kernel
theorem dX4_readWork_7 : decode cX4_readWork 7 = .ok (.invokevirtual 199, 3) := by decide +kernel
theorem dX4_readWork_10 : decode cX4_readWork 10 = .ok (.ifCond .eq 13, 3) := by decide +kernel
theorem dX4_readWork_13 : decode cX4_readWork 13 = .ok (.aload_n 0, 1) := by decide +kernel
theorem dX4_readWork_14 : decode cX4_readWork 14 = .ok (.iconst 5, 1) := by decide +kernel
theorem dX4_readWork_15 : decode cX4_readWork 15 = .ok (.aload_n 0, 1) := by decide +kernel
theorem dX4_readWork_16 : decode cX4_readWork 16 = .ok (.getfield 84, 3) := by decide +kernel
theorem dX4_readWork_19 : decode cX4_readWork 19 = .ok (.invokevirtual 60, 3) := by decide +kernel
theorem dX4_readWork_22 : decode cX4_readWork 22 = .ok (.pop, 1) := by decide +kernel
theorem dX4_readWork_23 : decode cX4_readWork 23 = .ok (.aload_n 0, 1) := by decide +kernel
theorem dX4_readWork_24 : decode cX4_readWork 24 = .ok (.aload_n 0, 1) := by decide +kernel
theorem dX4_readWork_25 : decode cX4_readWork 25 = .ok (.getfield 21, 3) := by decide +kernel
theorem dX4_readWork_28 : decode cX4_readWork 28 = .ok (.invokevirtual 204, 3) := by decide +kernel
theorem dX4_readWork_31 : decode cX4_readWork 31 = .ok (.bipush 23, 2) := by decide +kernel
theorem dX4_readWork_33 : decode cX4_readWork 33 = .ok (.invokevirtual 103, 3) := by decide +kernel
theorem dX4_readWork_36 : decode cX4_readWork 36 = .ok (.istore_n 1, 1) := by decide +kernel
theorem dX4_readWork_37 : decode cX4_readWork 37 = .ok (.aload_n 0, 1) := by decide +kernel
theorem dX4_readWork_38 : decode cX4_readWork 38 = .ok (.invokevirtual 168, 3) := by decide +kernel
theorem dX4_readWork_41 : decode cX4_readWork 41 = .ok (.istore_n 2, 1) := by decide +kernel
theorem dX4_readWork_42 : decode cX4_readWork 42 = .ok (.aload_n 0, 1) := by decide +kernel
theorem dX4_readWork_43 : decode cX4_readWork 43 = .ok (.iconst 0, 1) := by decide +kernel
theorem dX4_readWork_44 : decode cX4_readWork 44 = .ok (.bipush 7, 2) := by decide +kernel
theorem dX4_readWork_46 : decode cX4_readWork 46 = .ok (.invokevirtual 103, 3) := by decide +kernel
theorem dX4_readWork_49 : decode cX4_readWork 49 = .ok (.istore_n 3, 1) := by decide +kernel
theorem dX4_readWork_50 : decode cX4_readWork 50 = .ok (.aload_n 0, 1) := by decide +kernel
theorem dX4_readWork_51 : decode cX4_readWork 51 = .ok (.invokevirtual 188, 3) := by decide +kernel
theorem dX4_readWork_54 : decode cX4_readWork 54 = .ok (.istore 4, 2) := by decide +kernel
theorem dX4_readWork_56 : decode cX4_readWork 56 = .ok (.aload_n 0, 1) := by decide +kernel
theorem dX4_readWork_57 : decode cX4_readWork 57 = .ok (.getfield 35, 3) := by decide +kernel
theorem dX4_readWork_60 : decode cX4_readWork 60 = .ok (.ifCond .ne 18, 3) := by decide +kernel
theorem dX4_readWork_63 : decode cX4_readWork 63 = .ok (.aload_n 0, 1) := by decide +kernel
theorem dX4_readWork_64 : decode cX4_readWork 64 = .ok (.getfield 21, 3) := by decide +kernel
theorem dX4_readWork_67 : decode cX4_readWork 67 = .ok (.getfield 195, 3) := by decide +kernel
theorem dX4_readWork_70 : decode cX4_readWork 70 = .ok (.iload_n 1, 1) := by decide +kernel
theorem dX4_readWork_71 : decode cX4_readWork 71 = .ok (.iload_n 2, 1) := by decide +kernel
theorem dX4_readWork_72 : decode cX4_readWork 72 = .ok (.iload_n 3, 1) := by decide +kernel
theorem dX4_readWork_73 : decode cX4_readWork 73 = .ok (.iload 4, 2) := by decide +kernel
theorem dX4_readWork_75 : decode cX4_readWork 75 = .ok (.invokevirtual 207, 3) := by decide +kernel
theorem dX4_readWork_78 : decode cX4_readWork 78 = .ok (.return_, 1) := by decide +kernel
theorem dX4_allLotsAre_0 : decode cX4_allLotsAre 0 = .ok (.iconst 0, 1) := by decide +kernel
theorem dX4_allLotsAre_1 : decode cX4_allLotsAre 1 = .ok (.istore_n 1, 1) := by decide +kernel
theorem dX4_allLotsAre_2 : decode cX4_allLotsAre 2 = .ok (.iload_n 1, 1) := by decide +kernel
theorem dX4_allLotsAre_3 : decode cX4_allLotsAre 3 = .ok (.iconst 2, 1) := by decide +kernel
theorem dX4_allLotsAre_4 : decode cX4_allLotsAre 4 = .ok (.if_icmp .ge 51, 3) := by decide +kernel
theorem dX4_allLotsAre_7 : decode cX4_allLotsAre 7 = .ok (.aload_n 0, 1) := by decide +kernel
theorem dX4_allLotsAre_8 : decode cX4_allLotsAre 8 = .ok (.getfield 12, 3) := by decide +kernel
theorem dX4_allLotsAre_11 : decode cX4_allLotsAre 11 = .ok (.getfield 123, 3) := by decide +kernel
theorem dX4_allLotsAre_14 : decode cX4_allLotsAre 14 = .ok (.istore_n 2, 1) := by decide +kernel
theorem dX4_allLotsAre_15 : decode cX4_allLotsAre 15 = .ok (.iload_n 2, 1) := by decide +kernel
theorem dX4_allLotsAre_16 : decode cX4_allLotsAre 16 = .ok (.bipush 8, 2) := by decide +kernel
theorem dX4_allLotsAre_18 : decode cX4_allLotsAre 18 = .ok (.if_icmp .ge 31, 3) := by decide +kernel
theorem dX4_allLotsAre_21 : decode cX4_allLotsAre 21 = .ok (.aload_n 0, 1) := by decide +kernel
theorem dX4_allLotsAre_22 : decode cX4_allLotsAre 22 = .ok (.getfield 76, 3) := by decide +kernel
theorem dX4_allLotsAre_25 : decode cX4_allLotsAre 25 = .ok (.bipush 18, 2) := by decide +kernel
theorem dX4_allLotsAre_27 : decode cX4_allLotsAre 27 = .ok (.iload_n 1, 1) := by decide +kernel
theorem dX4_allLotsAre_28 : decode cX4_allLotsAre 28 = .ok (.iload_n 2, 1) := by decide +kernel
theorem dX4_allLotsAre_29 : decode cX4_allLotsAre 29 = .ok (.invokestatic 185, 3) := by decide +kernel
theorem dX4_allLotsAre_32 : decode cX4_allLotsAre 32 = .ok (.iadd, 1) := by decide +kernel
theorem dX4_allLotsAre_33 : decode cX4_allLotsAre 33 = .ok (.lshr, 1) := by decide +kernel
theorem dX4_allLotsAre_34 : decode cX4_allLotsAre 34 = .ok (.lconst 1, 1) := by decide +kernel
theorem dX4_allLotsAre_35 : decode cX4_allLotsAre 35 = .ok (.land, 1) := by decide +kernel
theorem dX4_allLotsAre_36 : decode cX4_allLotsAre 36 = .ok (.lconst 0, 1) := by decide +kernel
theorem dX4_allLotsAre_37 : decode cX4_allLotsAre 37 = .ok (.lcmp, 1) := by decide +kernel
theorem dX4_allLotsAre_38 : decode cX4_allLotsAre 38 = .ok (.ifCond .eq 5, 3) := by decide +kernel
theorem dX4_allLotsAre_41 : decode cX4_allLotsAre 41 = .ok (.iconst 0, 1) := by decide +kernel
theorem dX4_allLotsAre_42 : decode cX4_allLotsAre 42 = .ok (.ireturn, 1) := by decide +kernel
theorem dX4_allLotsAre_43 : decode cX4_allLotsAre 43 = .ok (.iinc 2 1, 3) := by decide +kernel
theorem dX4_allLotsAre_46 : decode cX4_allLotsAre 46 = .ok (.goto (-31), 3) := by decide +kernel
theorem dX4_allLotsAre_49 : decode cX4_allLotsAre 49 = .ok (.iinc 1 1, 3) := by decide +kernel
theorem dX4_allLotsAre_52 : decode cX4_allLotsAre 52 = .ok (.goto (-50), 3) := by decide +kernel
theorem dX4_allLotsAre_55 : decode cX4_allLotsAre 55 = .ok (.iconst 0, 1) := by decide +kernel
theorem dX4_allLotsAre_56 : decode cX4_allLotsAre 56 = .ok (.istore_n 1, 1) := by decide +kernel
theorem dX4_allLotsAre_57 : decode cX4_allLotsAre 57 = .ok (.iload_n 1, 1) := by decide +kernel
theorem dX4_allLotsAre_58 : decode cX4_allLotsAre 58 = .ok (.aload_n 0, 1) := by decide +kernel
theorem dX4_allLotsAre_59 : decode cX4_allLotsAre 59 = .ok (.getfield 21, 3) := by decide +kernel
theorem dX4_allLotsAre_62 : decode cX4_allLotsAre 62 = .ok (.getfield 195, 3) := by decide +kernel
theorem dX4_allLotsAre_65 : decode cX4_allLotsAre 65 = .ok (.getfield 211, 3) := by decide +kernel
theorem dX4_allLotsAre_68 : decode cX4_allLotsAre 68 = .ok (.if_icmp .ge 33, 3) := by decide +kernel
theorem dX4_allLotsAre_71 : decode cX4_allLotsAre 71 = .ok (.aload_n 0, 1) := by decide +kernel
theorem dX4_allLotsAre_72 : decode cX4_allLotsAre 72 = .ok (.getfield 21, 3) := by decide +kernel
theorem dX4_allLotsAre_75 : decode cX4_allLotsAre 75 = .ok (.getfield 195, 3) := by decide +kernel
theorem dX4_allLotsAre_78 : decode cX4_allLotsAre 78 = .ok (.iload_n 1, 1) := by decide +kernel
theorem dX4_allLotsAre_79 : decode cX4_allLotsAre 79 = .ok (.iconst 2, 1) := by decide +kernel
theorem dX4_allLotsAre_80 : decode cX4_allLotsAre 80 = .ok (.invokevirtual 212, 3) := by decide +kernel
theorem dX4_allLotsAre_83 : decode cX4_allLotsAre 83 = .ok (.aload_n 0, 1) := by decide +kernel
theorem dX4_allLotsAre_84 : decode cX4_allLotsAre 84 = .ok (.getfield 12, 3) := by decide +kernel
theorem dX4_allLotsAre_87 : decode cX4_allLotsAre 87 = .ok (.getfield 123, 3) := by decide +kernel
theorem dX4_allLotsAre_90 : decode cX4_allLotsAre 90 = .ok (.if_icmp .lt 5, 3) := by decide +kernel
theorem dX4_allLotsAre_93 : decode cX4_allLotsAre 93 = .ok (.iconst 0, 1) := by decide +kernel
theorem dX4_allLotsAre_94 : decode cX4_allLotsAre 94 = .ok (.ireturn, 1) := by decide +kernel
theorem dX4_allLotsAre_95 : decode cX4_allLotsAre 95 = .ok (.iinc 1 1, 3) := by decide +kernel
theorem dX4_allLotsAre_98 : decode cX4_allLotsAre 98 = .ok (.goto (-41), 3) := by decide +kernel
theorem dX4_allLotsAre_101 : decode cX4_allLotsAre 101 = .ok (.iconst 1, 1) := by decide +kernel
theorem dX4_allLotsAre_102 : decode cX4_allLotsAre 102 = .ok (.ireturn, 1) := by decide +kernel
theorem dX10_init_0 : decode cX10_init 0 = .ok (.aload_n 0, 1) := by decide +kernel
theorem dX10_init_1 : decode cX10_init 1 = .ok (.invokespecial 1, 3) := by decide +kernel
theorem dX10_init_4 : decode cX10_init 4 = .ok (.aload_n 0, 1) := by decide +kernel
theorem dX10_init_5 : decode cX10_init 5 = .ok (.new 7, 3) := by decide +kernel
theorem dX10_init_8 : decode cX10_init 8 = .ok (.dup, 1) := by decide +kernel
theorem dX10_init_9 : decode cX10_init 9 = .ok (.invokespecial 9, 3) := by decide +kernel
theorem dX10_init_12 : decode cX10_init 12 = .ok (.putfield 10, 3) := by decide +kernel
theorem dX10_init_15 : decode cX10_init 15 = .ok (.aload_n 0, 1) := by decide +kernel
theorem dX10_init_16 : decode cX10_init 16 = .ok (.new 16, 3) := by decide +kernel
theorem dX10_init_19 : decode cX10_init 19 = .ok (.dup, 1) := by decide +kernel
theorem dX10_init_20 : decode cX10_init 20 = .ok (.invokespecial 18, 3) := by decide +kernel
theorem dX10_init_23 : decode cX10_init 23 = .ok (.putfield 19, 3) := by decide +kernel
theorem dX10_init_26 : decode cX10_init 26 = .ok (.aload_n 0, 1) := by decide +kernel
theorem dX10_init_27 : decode cX10_init 27 = .ok (.new 23, 3) := by decide +kernel
theorem dX10_init_30 : decode cX10_init 30 = .ok (.dup, 1) := by decide +kernel
theorem dX10_init_31 : decode cX10_init 31 = .ok (.invokespecial 25, 3) := by decide +kernel
theorem dX10_init_34 : decode cX10_init 34 = .ok (.putfield 26, 3) := by decide +kernel
theorem dX10_init_37 : decode cX10_init 37 = .ok (.aload_n 0, 1) := by decide +kernel
theorem dX10_init_38 : decode cX10_init 38 = .ok (.new 30, 3) := by decide +kernel
theorem dX10_init_41 : decode cX10_init 41 = .ok (.dup, 1) := by decide +kernel
theorem dX10_init_42 : decode cX10_init 42 = .ok (.aload_n 0, 1) := by decide +kernel
theorem dX10_init_43 : decode cX10_init 43 = .ok (.getfield 10, 3) := by decide +kernel
theorem dX10_init_46 : decode cX10_init 46 = .ok (.invokespecial 32, 3) := by decide +kernel
theorem dX10_init_49 : decode cX10_init 49 = .ok (.putfield 35, 3) := by decide +kernel
theorem dX10_init_52 : decode cX10_init 52 = .ok (.aload_n 0, 1) := by decide +kernel
theorem dX10_init_53 : decode cX10_init 53 = .ok (.new 39, 3) := by decide +kernel
theorem dX10_init_56 : decode cX10_init 56 = .ok (.dup, 1) := by decide +kernel
theorem dX10_init_57 : decode cX10_init 57 = .ok (.aload_n 0, 1) := by decide +kernel
theorem dX10_init_58 : decode cX10_init 58 = .ok (.getfield 19, 3) := by decide +kernel
theorem dX10_init_61 : decode cX10_init 61 = .ok (.aload_n 0, 1) := by decide +kernel
theorem dX10_init_62 : decode cX10_init 62 = .ok (.getfield 26, 3) := by decide +kernel
theorem dX10_init_65 : decode cX10_init 65 = .ok (.invokespecial 41, 3) := by decide +kernel
theorem dX10_init_68 : decode cX10_init 68 = .ok (.putfield 44, 3) := by decide +kernel
theorem dX10_init_71 : decode cX10_init 71 = .ok (.aload_n 0, 1) := by decide +kernel
theorem dX10_init_72 : decode cX10_init 72 = .ok (.new 48, 3) := by decide +kernel
theorem dX10_init_75 : decode cX10_init 75 = .ok (.dup, 1) := by decide +kernel
theorem dX10_init_76 : decode cX10_init 76 = .ok (.aload_n 0, 1) := by decide +kernel
theorem dX10_init_77 : decode cX10_init 77 = .ok (.getfield 19, 3) := by decide +kernel
theorem dX10_init_80 : decode cX10_init 80 = .ok (.aload_n 0, 1) := by decide +kernel
theorem dX10_init_81 : decode cX10_init 81 = .ok (.getfield 26, 3) := by decide +kernel
theorem dX10_init_84 : decode cX10_init 84 = .ok (.invokespecial 50, 3) := by decide +kernel
theorem dX10_init_87 : decode cX10_init 87 = .ok (.putfield 51, 3) := by decide +kernel
theorem dX10_init_90 : decode cX10_init 90 = .ok (.aload_n 0, 1) := by decide +kernel
theorem dX10_init_91 : decode cX10_init 91 = .ok (.new 55, 3) := by decide +kernel
theorem dX10_init_94 : decode cX10_init 94 = .ok (.dup, 1) := by decide +kernel
theorem dX10_init_95 : decode cX10_init 95 = .ok (.aload_n 0, 1) := by decide +kernel
theorem dX10_init_96 : decode cX10_init 96 = .ok (.getfield 19, 3) := by decide +kernel
theorem dX10_init_99 : decode cX10_init 99 = .ok (.aload_n 0, 1) := by decide +kernel
theorem dX10_init_100 : decode cX10_init 100 = .ok (.getfield 26, 3) := by decide +kernel
theorem dX10_init_103 : decode cX10_init 103 = .ok (.invokespecial 57, 3) := by decide +kernel
theorem dX10_init_106 : decode cX10_init 106 = .ok (.putfield 58, 3) := by decide +kernel
theorem dX10_init_109 : decode cX10_init 109 = .ok (.aload_n 0, 1) := by decide +kernel
theorem dX10_init_110 : decode cX10_init 110 = .ok (.new 62, 3) := by decide +kernel
theorem dX10_init_113 : decode cX10_init 113 = .ok (.dup, 1) := by decide +kernel
theorem dX10_init_114 : decode cX10_init 114 = .ok (.aload_n 0, 1) := by decide +kernel
theorem dX10_init_115 : decode cX10_init 115 = .ok (.getfield 19, 3) := by decide +kernel
theorem dX10_init_118 : decode cX10_init 118 = .ok (.aload_n 0, 1) := by decide +kernel
theorem dX10_init_119 : decode cX10_init 119 = .ok (.getfield 26, 3) := by decide +kernel
theorem dX10_init_122 : decode cX10_init 122 = .ok (.invokespecial 64, 3) := by decide +kernel
theorem dX10_init_125 : decode cX10_init 125 = .ok (.putfield 65, 3) := by decide +kernel
theorem dX10_init_128 : decode cX10_init 128 = .ok (.aload_n 0, 1) := by decide +kernel
theorem dX10_init_129 : decode cX10_init 129 = .ok (.iconst 2, 1) := by decide +kernel
theorem dX10_init_130 : decode cX10_init 130 = .ok (.anewarray 23, 3) := by decide +kernel
theorem dX10_init_133 : decode cX10_init 133 = .ok (.putfield 69, 3) := by decide +kernel
theorem dX10_init_136 : decode cX10_init 136 = .ok (.aload_n 0, 1) := by decide +kernel
theorem dX10_init_137 : decode cX10_init 137 = .ok (.iconst 2, 1) := by decide +kernel
theorem dX10_init_138 : decode cX10_init 138 = .ok (.newarray .boolean, 2) := by decide +kernel
theorem dX10_init_140 : decode cX10_init 140 = .ok (.putfield 73, 3) := by decide +kernel
theorem dX10_init_143 : decode cX10_init 143 = .ok (.iconst 0, 1) := by decide +kernel
theorem dX10_init_144 : decode cX10_init 144 = .ok (.istore_n 1, 1) := by decide +kernel
theorem dX10_init_145 : decode cX10_init 145 = .ok (.iload_n 1, 1) := by decide +kernel
theorem dX10_init_146 : decode cX10_init 146 = .ok (.iconst 2, 1) := by decide +kernel
theorem dX10_init_147 : decode cX10_init 147 = .ok (.if_icmp .ge 22, 3) := by decide +kernel
theorem dX10_init_150 : decode cX10_init 150 = .ok (.aload_n 0, 1) := by decide +kernel
theorem dX10_init_151 : decode cX10_init 151 = .ok (.getfield 69, 3) := by decide +kernel
theorem dX10_init_154 : decode cX10_init 154 = .ok (.iload_n 1, 1) := by decide +kernel
theorem dX10_init_155 : decode cX10_init 155 = .ok (.new 23, 3) := by decide +kernel
theorem dX10_init_158 : decode cX10_init 158 = .ok (.dup, 1) := by decide +kernel
theorem dX10_init_159 : decode cX10_init 159 = .ok (.invokespecial 25, 3) := by decide +kernel
theorem dX10_init_162 : decode cX10_init 162 = .ok (.aastore, 1) := by decide +kernel
theorem dX10_init_163 : decode cX10_init 163 = .ok (.iinc 1 1, 3) := by decide +kernel
theorem dX10_init_166 : decode cX10_init 166 = .ok (.goto (-21), 3) := by decide +kernel
theorem dX10_init_169 : decode cX10_init 169 = .ok (.aload_n 0, 1) := by decide +kernel
theorem dX10_init_170 : decode cX10_init 170 = .ok (.iconst 4, 1) := by decide +kernel
theorem dX10_init_171 : decode cX10_init 171 = .ok (.anewarray 77, 3) := by decide +kernel
theorem dX10_init_174 : decode cX10_init 174 = .ok (.putfield 79, 3) := by decide +kernel
theorem dX10_init_177 : decode cX10_init 177 = .ok (.iconst 0, 1) := by decide +kernel
theorem dX10_init_178 : decode cX10_init 178 = .ok (.istore_n 1, 1) := by decide +kernel
theorem dX10_init_179 : decode cX10_init 179 = .ok (.iload_n 1, 1) := by decide +kernel
theorem dX10_init_180 : decode cX10_init 180 = .ok (.iconst 4, 1) := by decide +kernel
theorem dX10_init_181 : decode cX10_init 181 = .ok (.if_icmp .ge 22, 3) := by decide +kernel
theorem dX10_init_184 : decode cX10_init 184 = .ok (.aload_n 0, 1) := by decide +kernel
theorem dX10_init_185 : decode cX10_init 185 = .ok (.getfield 79, 3) := by decide +kernel
theorem dX10_init_188 : decode cX10_init 188 = .ok (.iload_n 1, 1) := by decide +kernel
theorem dX10_init_189 : decode cX10_init 189 = .ok (.new 77, 3) := by decide +kernel
theorem dX10_init_192 : decode cX10_init 192 = .ok (.dup, 1) := by decide +kernel
theorem dX10_init_193 : decode cX10_init 193 = .ok (.invokespecial 83, 3) := by decide +kernel
theorem dX10_init_196 : decode cX10_init 196 = .ok (.aastore, 1) := by decide +kernel
theorem dX10_init_197 : decode cX10_init 197 = .ok (.iinc 1 1, 3) := by decide +kernel
theorem dX10_init_200 : decode cX10_init 200 = .ok (.goto (-21), 3) := by decide +kernel
theorem dX10_init_203 : decode cX10_init 203 = .ok (.return_, 1) := by decide +kernel
theorem dX10_feed_0 : decode cX10_feed 0 = .ok (.aload_n 0, 1) := by decide +kernel
theorem dX10_feed_1 : decode cX10_feed 1 = .ok (.getfield 10, 3) := by decide +kernel
theorem dX10_feed_4 : decode cX10_feed 4 = .ok (.getfield 84, 3) := by decide +kernel
theorem dX10_feed_7 : decode cX10_feed 7 = .ok (.bipush 8, 2) := by decide +kernel
theorem dX10_feed_9 : decode cX10_feed 9 = .ok (.iadd, 1) := by decide +kernel
theorem dX10_feed_10 : decode cX10_feed 10 = .ok (.sipush 400, 3) := by decide +kernel
theorem dX10_feed_13 : decode cX10_feed 13 = .ok (.if_icmp .le 6, 3) := by decide +kernel
theorem dX10_feed_16 : decode cX10_feed 16 = .ok (.bipush (-3), 2) := by decide +kernel
theorem dX10_feed_18 : decode cX10_feed 18 = .ok (.ireturn, 1) := by decide +kernel
theorem dX10_feed_19 : decode cX10_feed 19 = .ok (.aload_n 0, 1) := by decide +kernel
theorem dX10_feed_20 : decode cX10_feed 20 = .ok (.getfield 10, 3) := by decide +kernel
theorem dX10_feed_23 : decode cX10_feed 23 = .ok (.lload_n 1, 1) := by decide +kernel
theorem dX10_feed_24 : decode cX10_feed 24 = .ok (.invokevirtual 88, 3) := by decide +kernel
theorem dX10_feed_27 : decode cX10_feed 27 = .ok (.aload_n 0, 1) := by decide +kernel
theorem dX10_feed_28 : decode cX10_feed 28 = .ok (.getfield 10, 3) := by decide +kernel
theorem dX10_feed_31 : decode cX10_feed 31 = .ok (.getfield 84, 3) := by decide +kernel
theorem dX10_feed_34 : decode cX10_feed 34 = .ok (.ireturn, 1) := by decide +kernel
theorem dX10_end_0 : decode cX10_end 0 = .ok (.iload_n 1, 1) := by decide +kernel
theorem dX10_end_1 : decode cX10_end 1 = .ok (.ifCond .lt 14, 3) := by decide +kernel
theorem dX10_end_4 : decode cX10_end 4 = .ok (.iload_n 1, 1) := by decide +kernel
theorem dX10_end_5 : decode cX10_end 5 = .ok (.aload_n 0, 1) := by decide +kernel
theorem dX10_end_6 : decode cX10_end 6 = .ok (.getfield 10, 3) := by decide +kernel
theorem dX10_end_9 : decode cX10_end 9 = .ok (.getfield 84, 3) := by decide +kernel
theorem dX10_end_12 : decode cX10_end 12 = .ok (.if_icmp .le 5, 3) := by decide +kernel
theorem dX10_end_15 : decode cX10_end 15 = .ok (.iconst (-1), 1) := by decide +kernel
theorem dX10_end_16 : decode cX10_end 16 = .ok (.ireturn, 1) := by decide +kernel
theorem dX10_end_17 : decode cX10_end 17 = .ok (.aload_n 0, 1) := by decide +kernel
theorem dX10_end_18 : decode cX10_end 18 = .ok (.getfield 10, 3) := by decide +kernel
theorem dX10_end_21 : decode cX10_end 21 = .ok (.getfield 84, 3) := by decide +kernel
theorem dX10_end_24 : decode cX10_end 24 = .ok (.istore_n 2, 1) := by decide +kernel
theorem dX10_end_25 : decode cX10_end 25 = .ok (.aload_n 0, 1) := by decide +kernel
theorem dX10_end_26 : decode cX10_end 26 = .ok (.getfield 10, 3) := by decide +kernel
theorem dX10_end_29 : decode cX10_end 29 = .ok (.iload_n 1, 1) := by decide +kernel
theorem dX10_end_30 : decode cX10_end 30 = .ok (.putfield 84, 3) := by decide +kernel
theorem dX10_end_33 : decode cX10_end 33 = .ok (.iload_n 2, 1) := by decide +kernel
theorem dX10_end_34 : decode cX10_end 34 = .ok (.ireturn, 1) := by decide +kernel
theorem dX10_text_0 : decode cX10_text 0 = .ok (.aload_n 0, 1) := by decide +kernel
theorem dX10_text_1 : decode cX10_text 1 = .ok (.getfield 35, 3) := by decide +kernel
theorem dX10_text_4 : decode cX10_text 4 = .ok (.invokevirtual 92, 3) := by decide +kernel
theorem dX10_text_7 : decode cX10_text 7 = .ok (.aload_n 0, 1) := by decide +kernel
theorem dX10_text_8 : decode cX10_text 8 = .ok (.getfield 10, 3) := by decide +kernel
theorem dX10_text_11 : decode cX10_text 11 = .ok (.iconst 0, 1) := by decide +kernel
theorem dX10_text_12 : decode cX10_text 12 = .ok (.putfield 84, 3) := by decide +kernel
theorem dX10_text_15 : decode cX10_text 15 = .ok (.aload_n 0, 1) := by decide +kernel
theorem dX10_text_16 : decode cX10_text 16 = .ok (.aload_n 0, 1) := by decide +kernel
theorem dX10_text_17 : decode cX10_text 17 = .ok (.getfield 35, 3) := by decide +kernel
theorem dX10_text_20 : decode cX10_text 20 = .ok (.getfield 95, 3) := by decide +kernel
theorem dX10_text_23 : decode cX10_text 23 = .ok (.putfield 98, 3) := by decide +kernel
theorem dX10_text_26 : decode cX10_text 26 = .ok (.aload_n 0, 1) := by decide +kernel
theorem dX10_text_27 : decode cX10_text 27 = .ok (.getfield 35, 3) := by decide +kernel
theorem dX10_text_30 : decode cX10_text 30 = .ok (.getfield 95, 3) := by decide +kernel
theorem dX10_text_33 : decode cX10_text 33 = .ok (.ifCond .eq 14, 3) := by decide +kernel
theorem dX10_text_36 : decode cX10_text 36 = .ok (.bipush (-10), 2) := by decide +kernel
theorem dX10_text_38 : decode cX10_text 38 = .ok (.aload_n 0, 1) := by decide +kernel
theorem dX10_text_39 : decode cX10_text 39 = .ok (.getfield 35, 3) := by decide +kernel
theorem dX10_text_42 : decode cX10_text 42 = .ok (.getfield 101, 3) := by decide +kernel
theorem dX10_text_45 : decode cX10_text 45 = .ok (.isub, 1) := by decide +kernel
theorem dX10_text_46 : decode cX10_text 46 = .ok (.ireturn, 1) := by decide +kernel
theorem dX10_text_47 : decode cX10_text 47 = .ok (.aload_n 0, 1) := by decide +kernel
theorem dX10_text_48 : decode cX10_text 48 = .ok (.getfield 19, 3) := by decide +kernel
theorem dX10_text_51 : decode cX10_text 51 = .ok (.aload_n 0, 1) := by decide +kernel
theorem dX10_text_52 : decode cX10_text 52 = .ok (.getfield 35, 3) := by decide +kernel
theorem dX10_text_55 : decode cX10_text 55 = .ok (.getfield 104, 3) := by decide +kernel
theorem dX10_text_58 : decode cX10_text 58 = .ok (.invokevirtual 105, 3) := by decide +kernel
theorem dX10_text_61 : decode cX10_text 61 = .ok (.aload_n 0, 1) := by decide +kernel
theorem dX10_text_62 : decode cX10_text 62 = .ok (.getfield 26, 3) := by decide +kernel
theorem dX10_text_65 : decode cX10_text 65 = .ok (.aload_n 0, 1) := by decide +kernel
theorem dX10_text_66 : decode cX10_text 66 = .ok (.getfield 35, 3) := by decide +kernel
theorem dX10_text_69 : decode cX10_text 69 = .ok (.getfield 109, 3) := by decide +kernel
theorem dX10_text_72 : decode cX10_text 72 = .ok (.invokevirtual 110, 3) := by decide +kernel
theorem dX10_text_75 : decode cX10_text 75 = .ok (.iconst 0, 1) := by decide +kernel
theorem dX10_text_76 : decode cX10_text 76 = .ok (.istore_n 1, 1) := by decide +kernel
theorem dX10_text_77 : decode cX10_text 77 = .ok (.iload_n 1, 1) := by decide +kernel
theorem dX10_text_78 : decode cX10_text 78 = .ok (.iconst 2, 1) := by decide +kernel
theorem dX10_text_79 : decode cX10_text 79 = .ok (.if_icmp .ge 16, 3) := by decide +kernel
theorem dX10_text_82 : decode cX10_text 82 = .ok (.aload_n 0, 1) := by decide +kernel
theorem dX10_text_83 : decode cX10_text 83 = .ok (.getfield 73, 3) := by decide +kernel
theorem dX10_text_86 : decode cX10_text 86 = .ok (.iload_n 1, 1) := by decide +kernel
theorem dX10_text_87 : decode cX10_text 87 = .ok (.iconst 0, 1) := by decide +kernel
theorem dX10_text_88 : decode cX10_text 88 = .ok (.bastore, 1) := by decide +kernel
theorem dX10_text_89 : decode cX10_text 89 = .ok (.iinc 1 1, 3) := by decide +kernel
theorem dX10_text_92 : decode cX10_text 92 = .ok (.goto (-15), 3) := by decide +kernel
theorem dX10_text_95 : decode cX10_text 95 = .ok (.aload_n 0, 1) := by decide +kernel
theorem dX10_text_96 : decode cX10_text 96 = .ok (.getfield 35, 3) := by decide +kernel
theorem dX10_text_99 : decode cX10_text 99 = .ok (.getfield 113, 3) := by decide +kernel
theorem dX10_text_102 : decode cX10_text 102 = .ok (.ireturn, 1) := by decide +kernel
theorem dX10_fault_0 : decode cX10_fault 0 = .ok (.aload_n 0, 1) := by decide +kernel
theorem dX10_fault_1 : decode cX10_fault 1 = .ok (.getfield 98, 3) := by decide +kernel
theorem dX10_fault_4 : decode cX10_fault 4 = .ok (.ireturn, 1) := by decide +kernel
theorem dX10_rule_0 : decode cX10_rule 0 = .ok (.iload_n 1, 1) := by decide +kernel
theorem dX10_rule_1 : decode cX10_rule 1 = .ok (.tableswitch 66 0 3 #[31, 39, 47, 55], 31) := by decide +kernel
theorem dX10_rule_32 : decode cX10_rule 32 = .ok (.aload_n 0, 1) := by decide +kernel
theorem dX10_rule_33 : decode cX10_rule 33 = .ok (.getfield 19, 3) := by decide +kernel
theorem dX10_rule_36 : decode cX10_rule 36 = .ok (.getfield 116, 3) := by decide +kernel
theorem dX10_rule_39 : decode cX10_rule 39 = .ok (.ireturn, 1) := by decide +kernel
theorem dX10_rule_40 : decode cX10_rule 40 = .ok (.aload_n 0, 1) := by decide +kernel
theorem dX10_rule_41 : decode cX10_rule 41 = .ok (.getfield 19, 3) := by decide +kernel
theorem dX10_rule_44 : decode cX10_rule 44 = .ok (.getfield 119, 3) := by decide +kernel
theorem dX10_rule_47 : decode cX10_rule 47 = .ok (.ireturn, 1) := by decide +kernel
theorem dX10_rule_48 : decode cX10_rule 48 = .ok (.aload_n 0, 1) := by decide +kernel
theorem dX10_rule_49 : decode cX10_rule 49 = .ok (.getfield 19, 3) := by decide +kernel
theorem dX10_rule_52 : decode cX10_rule 52 = .ok (.getfield 122, 3) := by decide +kernel
theorem dX10_rule_55 : decode cX10_rule 55 = .ok (.ireturn, 1) := by decide +kernel
theorem dX10_rule_56 : decode cX10_rule 56 = .ok (.aload_n 0, 1) := by decide +kernel
theorem dX10_rule_57 : decode cX10_rule 57 = .ok (.getfield 26, 3) := by decide +kernel
theorem dX10_rule_60 : decode cX10_rule 60 = .ok (.getfield 125, 3) := by decide +kernel
theorem dX10_rule_63 : decode cX10_rule 63 = .ok (.getfield 129, 3) := by decide +kernel
theorem dX10_rule_66 : decode cX10_rule 66 = .ok (.ireturn, 1) := by decide +kernel
theorem dX10_rule_67 : decode cX10_rule 67 = .ok (.iload_n 1, 1) := by decide +kernel
theorem dX10_rule_68 : decode cX10_rule 68 = .ok (.bipush 10, 2) := by decide +kernel
theorem dX10_rule_70 : decode cX10_rule 70 = .ok (.if_icmp .lt 24, 3) := by decide +kernel
theorem dX10_rule_73 : decode cX10_rule 73 = .ok (.iload_n 1, 1) := by decide +kernel
theorem dX10_rule_74 : decode cX10_rule 74 = .ok (.bipush 14, 2) := by decide +kernel
theorem dX10_rule_76 : decode cX10_rule 76 = .ok (.if_icmp .ge 18, 3) := by decide +kernel
theorem dX10_rule_79 : decode cX10_rule 79 = .ok (.aload_n 0, 1) := by decide +kernel
theorem dX10_rule_80 : decode cX10_rule 80 = .ok (.getfield 19, 3) := by decide +kernel
theorem dX10_rule_83 : decode cX10_rule 83 = .ok (.getfield 132, 3) := by decide +kernel
theorem dX10_rule_86 : decode cX10_rule 86 = .ok (.iload_n 1, 1) := by decide +kernel
theorem dX10_rule_87 : decode cX10_rule 87 = .ok (.bipush 10, 2) := by decide +kernel
theorem dX10_rule_89 : decode cX10_rule 89 = .ok (.isub, 1) := by decide +kernel
theorem dX10_rule_90 : decode cX10_rule 90 = .ok (.iaload, 1) := by decide +kernel
theorem dX10_rule_91 : decode cX10_rule 91 = .ok (.goto 4, 3) := by decide +kernel
theorem dX10_rule_94 : decode cX10_rule 94 = .ok (.iconst (-1), 1) := by decide +kernel
theorem dX10_rule_95 : decode cX10_rule 95 = .ok (.ireturn, 1) := by decide +kernel
theorem dX10_kind_0 : decode cX10_kind 0 = .ok (.iload_n 1, 1) := by decide +kernel
theorem dX10_kind_1 : decode cX10_kind 1 = .ok (.invokestatic 136, 3) := by decide +kernel
theorem dX10_kind_4 : decode cX10_kind 4 = .ok (.ifCond .ne 5, 3) := by decide +kernel
theorem dX10_kind_7 : decode cX10_kind 7 = .ok (.iconst (-1), 1) := by decide +kernel
theorem dX10_kind_8 : decode cX10_kind 8 = .ok (.ireturn, 1) := by decide +kernel
theorem dX10_kind_9 : decode cX10_kind 9 = .ok (.iload_n 2, 1) := by decide +kernel
theorem dX10_kind_10 : decode cX10_kind 10 = .ok (.lookupswitch 142 #[(0, 74), (1, 83), (10, 95), (11, 95), (20, 108), (21, 108), (30, 121), (31, 121)], 74) := by decide +kernel
theorem dX10_kind_84 : decode cX10_kind 84 = .ok (.aload_n 0, 1) := by decide +kernel
theorem dX10_kind_85 : decode cX10_kind 85 = .ok (.getfield 19, 3) := by decide +kernel
theorem dX10_kind_88 : decode cX10_kind 88 = .ok (.iload_n 1, 1) := by decide +kernel
theorem dX10_kind_89 : decode cX10_kind 89 = .ok (.invokevirtual 140, 3) := by decide +kernel
theorem dX10_kind_92 : decode cX10_kind 92 = .ok (.ireturn, 1) := by decide +kernel
theorem dX10_kind_93 : decode cX10_kind 93 = .ok (.aload_n 0, 1) := by decide +kernel
theorem dX10_kind_94 : decode cX10_kind 94 = .ok (.getfield 19, 3) := by decide +kernel
theorem dX10_kind_97 : decode cX10_kind 97 = .ok (.getfield 144, 3) := by decide +kernel
theorem dX10_kind_100 : decode cX10_kind 100 = .ok (.iload_n 1, 1) := by decide +kernel
theorem dX10_kind_101 : decode cX10_kind 101 = .ok (.ishr, 1) := by decide +kernel
theorem dX10_kind_102 : decode cX10_kind 102 = .ok (.iconst 1, 1) := by decide +kernel
theorem dX10_kind_103 : decode cX10_kind 103 = .ok (.iand, 1) := by decide +kernel
theorem dX10_kind_104 : decode cX10_kind 104 = .ok (.ireturn, 1) := by decide +kernel
theorem dX10_kind_105 : decode cX10_kind 105 = .ok (.aload_n 0, 1) := by decide +kernel
theorem dX10_kind_106 : decode cX10_kind 106 = .ok (.getfield 19, 3) := by decide +kernel
theorem dX10_kind_109 : decode cX10_kind 109 = .ok (.iload_n 2, 1) := by decide +kernel
theorem dX10_kind_110 : decode cX10_kind 110 = .ok (.bipush 10, 2) := by decide +kernel
theorem dX10_kind_112 : decode cX10_kind 112 = .ok (.isub, 1) := by decide +kernel
theorem dX10_kind_113 : decode cX10_kind 113 = .ok (.iload_n 1, 1) := by decide +kernel
theorem dX10_kind_114 : decode cX10_kind 114 = .ok (.invokevirtual 147, 3) := by decide +kernel
theorem dX10_kind_117 : decode cX10_kind 117 = .ok (.ireturn, 1) := by decide +kernel
theorem dX10_kind_118 : decode cX10_kind 118 = .ok (.aload_n 0, 1) := by decide +kernel
theorem dX10_kind_119 : decode cX10_kind 119 = .ok (.getfield 19, 3) := by decide +kernel
theorem dX10_kind_122 : decode cX10_kind 122 = .ok (.iload_n 2, 1) := by decide +kernel
theorem dX10_kind_123 : decode cX10_kind 123 = .ok (.bipush 20, 2) := by decide +kernel
theorem dX10_kind_125 : decode cX10_kind 125 = .ok (.isub, 1) := by decide +kernel
theorem dX10_kind_126 : decode cX10_kind 126 = .ok (.iload_n 1, 1) := by decide +kernel
theorem dX10_kind_127 : decode cX10_kind 127 = .ok (.invokevirtual 151, 3) := by decide +kernel
theorem dX10_kind_130 : decode cX10_kind 130 = .ok (.ireturn, 1) := by decide +kernel
theorem dX10_kind_131 : decode cX10_kind 131 = .ok (.aload_n 0, 1) := by decide +kernel
theorem dX10_kind_132 : decode cX10_kind 132 = .ok (.getfield 19, 3) := by decide +kernel
theorem dX10_kind_135 : decode cX10_kind 135 = .ok (.iload_n 2, 1) := by decide +kernel
theorem dX10_kind_136 : decode cX10_kind 136 = .ok (.bipush 30, 2) := by decide +kernel
theorem dX10_kind_138 : decode cX10_kind 138 = .ok (.isub, 1) := by decide +kernel
theorem dX10_kind_139 : decode cX10_kind 139 = .ok (.iload_n 1, 1) := by decide +kernel
theorem dX10_kind_140 : decode cX10_kind 140 = .ok (.invokevirtual 154, 3) := by decide +kernel
theorem dX10_kind_143 : decode cX10_kind 143 = .ok (.ifCond .eq 7, 3) := by decide +kernel
theorem dX10_kind_146 : decode cX10_kind 146 = .ok (.iconst 1, 1) := by decide +kernel
theorem dX10_kind_147 : decode cX10_kind 147 = .ok (.goto 4, 3) := by decide +kernel
theorem dX10_kind_150 : decode cX10_kind 150 = .ok (.iconst 0, 1) := by decide +kernel
theorem dX10_kind_151 : decode cX10_kind 151 = .ok (.ireturn, 1) := by decide +kernel
theorem dX10_kind_152 : decode cX10_kind 152 = .ok (.iconst (-1), 1) := by decide +kernel
theorem dX10_kind_153 : decode cX10_kind 153 = .ok (.ireturn, 1) := by decide +kernel
theorem dX10_colour_0 : decode cX10_colour 0 = .ok (.iload_n 1, 1) := by decide +kernel
theorem dX10_colour_1 : decode cX10_colour 1 = .ok (.ifCond .lt 20, 3) := by decide +kernel
theorem dX10_colour_4 : decode cX10_colour 4 = .ok (.iload_n 1, 1) := by decide +kernel
theorem dX10_colour_5 : decode cX10_colour 5 = .ok (.iconst 4, 1) := by decide +kernel
theorem dX10_colour_6 : decode cX10_colour 6 = .ok (.if_icmp .ge 15, 3) := by decide +kernel
theorem dX10_colour_9 : decode cX10_colour 9 = .ok (.aload_n 0, 1) := by decide +kernel
theorem dX10_colour_10 : decode cX10_colour 10 = .ok (.getfield 19, 3) := by decide +kernel
theorem dX10_colour_13 : decode cX10_colour 13 = .ok (.getfield 158, 3) := by decide +kernel
theorem dX10_colour_16 : decode cX10_colour 16 = .ok (.iload_n 1, 1) := by decide +kernel
theorem dX10_colour_17 : decode cX10_colour 17 = .ok (.iaload, 1) := by decide +kernel
theorem dX10_colour_18 : decode cX10_colour 18 = .ok (.goto 4, 3) := by decide +kernel
theorem dX10_colour_21 : decode cX10_colour 21 = .ok (.iconst (-1), 1) := by decide +kernel
theorem dX10_colour_22 : decode cX10_colour 22 = .ok (.ireturn, 1) := by decide +kernel
theorem dX10_mirror_0 : decode cX10_mirror 0 = .ok (.iload_n 1, 1) := by decide +kernel
theorem dX10_mirror_1 : decode cX10_mirror 1 = .ok (.invokestatic 161, 3) := by decide +kernel
theorem dX10_mirror_4 : decode cX10_mirror 4 = .ok (.ifCond .eq 14, 3) := by decide +kernel
theorem dX10_mirror_7 : decode cX10_mirror 7 = .ok (.aload_n 0, 1) := by decide +kernel
theorem dX10_mirror_8 : decode cX10_mirror 8 = .ok (.getfield 19, 3) := by decide +kernel
theorem dX10_mirror_11 : decode cX10_mirror 11 = .ok (.iload_n 1, 1) := by decide +kernel
theorem dX10_mirror_12 : decode cX10_mirror 12 = .ok (.invokevirtual 164, 3) := by decide +kernel
theorem dX10_mirror_15 : decode cX10_mirror 15 = .ok (.goto 4, 3) := by decide +kernel
theorem dX10_mirror_18 : decode cX10_mirror 18 = .ok (.iconst (-1), 1) := by decide +kernel
theorem dX10_mirror_19 : decode cX10_mirror 19 = .ok (.ireturn, 1) := by decide +kernel
theorem dX10_work_0 : decode cX10_work 0 = .ok (.aload_n 0, 1) := by decide +kernel
theorem dX10_work_1 : decode cX10_work 1 = .ok (.getfield 26, 3) := by decide +kernel
theorem dX10_work_4 : decode cX10_work 4 = .ok (.getfield 125, 3) := by decide +kernel
theorem dX10_work_7 : decode cX10_work 7 = .ok (.astore_n 3, 1) := by decide +kernel
theorem dX10_work_8 : decode cX10_work 8 = .ok (.iload_n 1, 1) := by decide +kernel
theorem dX10_work_9 : decode cX10_work 9 = .ok (.ifCond .lt 23, 3) := by decide +kernel
theorem dX10_work_12 : decode cX10_work 12 = .ok (.iload_n 1, 1) := by decide +kernel
theorem dX10_work_13 : decode cX10_work 13 = .ok (.aload_n 3, 1) := by decide +kernel
theorem dX10_work_14 : decode cX10_work 14 = .ok (.getfield 129, 3) := by decide +kernel
theorem dX10_work_17 : decode cX10_work 17 = .ok (.if_icmp .ge 15, 3) := by decide +kernel
theorem dX10_work_20 : decode cX10_work 20 = .ok (.iload_n 2, 1) := by decide +kernel
theorem dX10_work_21 : decode cX10_work 21 = .ok (.ifCond .lt 11, 3) := by decide +kernel
theorem dX10_work_24 : decode cX10_work 24 = .ok (.iload_n 2, 1) := by decide +kernel
theorem dX10_work_25 : decode cX10_work 25 = .ok (.aload_n 3, 1) := by decide +kernel
theorem dX10_work_26 : decode cX10_work 26 = .ok (.getfield 167, 3) := by decide +kernel
theorem dX10_work_29 : decode cX10_work 29 = .ok (.if_icmp .lt 5, 3) := by decide +kernel
theorem dX10_work_32 : decode cX10_work 32 = .ok (.iconst (-1), 1) := by decide +kernel
theorem dX10_work_33 : decode cX10_work 33 = .ok (.ireturn, 1) := by decide +kernel
theorem dX10_work_34 : decode cX10_work 34 = .ok (.aload_n 3, 1) := by decide +kernel
theorem dX10_work_35 : decode cX10_work 35 = .ok (.iload_n 1, 1) := by decide +kernel
theorem dX10_work_36 : decode cX10_work 36 = .ok (.iload_n 2, 1) := by decide +kernel
theorem dX10_work_37 : decode cX10_work 37 = .ok (.invokevirtual 170, 3) := by decide +kernel
theorem dX10_work_40 : decode cX10_work 40 = .ok (.ireturn, 1) := by decide +kernel
theorem dX10_thing_0 : decode cX10_thing 0 = .ok (.aload_n 0, 1) := by decide +kernel
theorem dX10_thing_1 : decode cX10_thing 1 = .ok (.getfield 19, 3) := by decide +kernel
theorem dX10_thing_4 : decode cX10_thing 4 = .ok (.iload_n 1, 1) := by decide +kernel
theorem dX10_thing_5 : decode cX10_thing 5 = .ok (.iload_n 2, 1) := by decide +kernel
theorem dX10_thing_6 : decode cX10_thing 6 = .ok (.invokevirtual 173, 3) := by decide +kernel
theorem dX10_thing_9 : decode cX10_thing 9 = .ok (.ifCond .eq 15, 3) := by decide +kernel
theorem dX10_thing_12 : decode cX10_thing 12 = .ok (.aload_n 0, 1) := by decide +kernel
theorem dX10_thing_13 : decode cX10_thing 13 = .ok (.getfield 26, 3) := by decide +kernel
theorem dX10_thing_16 : decode cX10_thing 16 = .ok (.iload_n 1, 1) := by decide +kernel
theorem dX10_thing_17 : decode cX10_thing 17 = .ok (.iload_n 2, 1) := by decide +kernel
theorem dX10_thing_18 : decode cX10_thing 18 = .ok (.invokevirtual 176, 3) := by decide +kernel
theorem dX10_thing_21 : decode cX10_thing 21 = .ok (.goto 4, 3) := by decide +kernel
theorem dX10_thing_24 : decode cX10_thing 24 = .ok (.iconst (-1), 1) := by decide +kernel
theorem dX10_thing_25 : decode cX10_thing 25 = .ok (.ireturn, 1) := by decide +kernel
theorem dX10_put_0 : decode cX10_put 0 = .ok (.aload_n 0, 1) := by decide +kernel
theorem dX10_put_1 : decode cX10_put 1 = .ok (.getfield 19, 3) := by decide +kernel
theorem dX10_put_4 : decode cX10_put 4 = .ok (.iload_n 1, 1) := by decide +kernel
theorem dX10_put_5 : decode cX10_put 5 = .ok (.iload_n 2, 1) := by decide +kernel
theorem dX10_put_6 : decode cX10_put 6 = .ok (.invokevirtual 173, 3) := by decide +kernel
theorem dX10_put_9 : decode cX10_put 9 = .ok (.ifCond .eq 10, 3) := by decide +kernel
theorem dX10_put_12 : decode cX10_put 12 = .ok (.iload_n 3, 1) := by decide +kernel
theorem dX10_put_13 : decode cX10_put 13 = .ok (.invokestatic 161, 3) := by decide +kernel
theorem dX10_put_16 : decode cX10_put 16 = .ok (.ifCond .ne 5, 3) := by decide +kernel
theorem dX10_put_19 : decode cX10_put 19 = .ok (.iconst (-1), 1) := by decide +kernel
theorem dX10_put_20 : decode cX10_put 20 = .ok (.ireturn, 1) := by decide +kernel
theorem dX10_put_21 : decode cX10_put 21 = .ok (.aload_n 0, 1) := by decide +kernel
theorem dX10_put_22 : decode cX10_put 22 = .ok (.getfield 26, 3) := by decide +kernel
theorem dX10_put_25 : decode cX10_put 25 = .ok (.iload_n 1, 1) := by decide +kernel
theorem dX10_put_26 : decode cX10_put 26 = .ok (.iload_n 2, 1) := by decide +kernel
theorem dX10_put_27 : decode cX10_put 27 = .ok (.invokevirtual 176, 3) := by decide +kernel
theorem dX10_put_30 : decode cX10_put 30 = .ok (.istore 4, 2) := by decide +kernel
theorem dX10_put_32 : decode cX10_put 32 = .ok (.aload_n 0, 1) := by decide +kernel
theorem dX10_put_33 : decode cX10_put 33 = .ok (.getfield 26, 3) := by decide +kernel
theorem dX10_put_36 : decode cX10_put 36 = .ok (.iload_n 1, 1) := by decide +kernel
theorem dX10_put_37 : decode cX10_put 37 = .ok (.iload_n 2, 1) := by decide +kernel
theorem dX10_put_38 : decode cX10_put 38 = .ok (.iload_n 3, 1) := by decide +kernel
theorem dX10_put_39 : decode cX10_put 39 = .ok (.invokevirtual 179, 3) := by decide +kernel
theorem dX10_put_42 : decode cX10_put 42 = .ok (.iload 4, 2) := by decide +kernel
theorem dX10_put_44 : decode cX10_put 44 = .ok (.ireturn, 1) := by decide +kernel
theorem dX10_match_0 : decode cX10_match 0 = .ok (.aload_n 0, 1) := by decide +kernel
theorem dX10_match_1 : decode cX10_match 1 = .ok (.getfield 19, 3) := by decide +kernel
theorem dX10_match_4 : decode cX10_match 4 = .ok (.iload_n 1, 1) := by decide +kernel
theorem dX10_match_5 : decode cX10_match 5 = .ok (.iload_n 2, 1) := by decide +kernel
theorem dX10_match_6 : decode cX10_match 6 = .ok (.invokevirtual 173, 3) := by decide +kernel
theorem dX10_match_9 : decode cX10_match 9 = .ok (.ifCond .eq 15, 3) := by decide +kernel
theorem dX10_match_12 : decode cX10_match 12 = .ok (.aload_n 0, 1) := by decide +kernel
theorem dX10_match_13 : decode cX10_match 13 = .ok (.getfield 19, 3) := by decide +kernel
theorem dX10_match_16 : decode cX10_match 16 = .ok (.iload_n 1, 1) := by decide +kernel
theorem dX10_match_17 : decode cX10_match 17 = .ok (.iload_n 2, 1) := by decide +kernel
theorem dX10_match_18 : decode cX10_match 18 = .ok (.invokevirtual 183, 3) := by decide +kernel
theorem dX10_match_21 : decode cX10_match 21 = .ok (.goto 4, 3) := by decide +kernel
theorem dX10_match_24 : decode cX10_match 24 = .ok (.iconst (-1), 1) := by decide +kernel
theorem dX10_match_25 : decode cX10_match 25 = .ok (.ireturn, 1) := by decide +kernel
theorem dX10_odd_0 : decode cX10_odd 0 = .ok (.aload_n 0, 1) := by decide +kernel
theorem dX10_odd_1 : decode cX10_odd 1 = .ok (.getfield 19, 3) := by decide +kernel
theorem dX10_odd_4 : decode cX10_odd 4 = .ok (.aload_n 0, 1) := by decide +kernel
theorem dX10_odd_5 : decode cX10_odd 5 = .ok (.getfield 26, 3) := by decide +kernel
theorem dX10_odd_8 : decode cX10_odd 8 = .ok (.getfield 186, 3) := by decide +kernel
theorem dX10_odd_11 : decode cX10_odd 11 = .ok (.invokevirtual 189, 3) := by decide +kernel
theorem dX10_odd_14 : decode cX10_odd 14 = .ok (.ireturn, 1) := by decide +kernel
theorem dX10_third_0 : decode cX10_third 0 = .ok (.aload_n 0, 1) := by decide +kernel
theorem dX10_third_1 : decode cX10_third 1 = .ok (.getfield 19, 3) := by decide +kernel
theorem dX10_third_4 : decode cX10_third 4 = .ok (.iconst 0, 1) := by decide +kernel
theorem dX10_third_5 : decode cX10_third 5 = .ok (.iload_n 1, 1) := by decide +kernel
theorem dX10_third_6 : decode cX10_third 6 = .ok (.invokevirtual 173, 3) := by decide +kernel
theorem dX10_third_9 : decode cX10_third 9 = .ok (.ifCond .ne 5, 3) := by decide +kernel
theorem dX10_third_12 : decode cX10_third 12 = .ok (.iconst (-1), 1) := by decide +kernel
theorem dX10_third_13 : decode cX10_third 13 = .ok (.ireturn, 1) := by decide +kernel
theorem dX10_third_14 : decode cX10_third 14 = .ok (.aload_n 0, 1) := by decide +kernel
theorem dX10_third_15 : decode cX10_third 15 = .ok (.getfield 19, 3) := by decide +kernel
theorem dX10_third_18 : decode cX10_third 18 = .ok (.iconst 0, 1) := by decide +kernel
theorem dX10_third_19 : decode cX10_third 19 = .ok (.iload_n 1, 1) := by decide +kernel
theorem dX10_third_20 : decode cX10_third 20 = .ok (.invokevirtual 183, 3) := by decide +kernel
theorem dX10_third_23 : decode cX10_third 23 = .ok (.istore_n 2, 1) := by decide +kernel
theorem dX10_third_24 : decode cX10_third 24 = .ok (.iload_n 2, 1) := by decide +kernel
theorem dX10_third_25 : decode cX10_third 25 = .ok (.bipush (-4), 2) := by decide +kernel
theorem dX10_third_27 : decode cX10_third 27 = .ok (.if_icmp .ne 8, 3) := by decide +kernel
theorem dX10_third_30 : decode cX10_third 30 = .ok (.bipush (-4), 2) := by decide +kernel
theorem dX10_third_32 : decode cX10_third 32 = .ok (.goto 19, 3) := by decide +kernel
theorem dX10_third_35 : decode cX10_third 35 = .ok (.aload_n 0, 1) := by decide +kernel
theorem dX10_third_36 : decode cX10_third 36 = .ok (.getfield 19, 3) := by decide +kernel
theorem dX10_third_39 : decode cX10_third 39 = .ok (.aload_n 0, 1) := by decide +kernel
theorem dX10_third_40 : decode cX10_third 40 = .ok (.getfield 26, 3) := by decide +kernel
theorem dX10_third_43 : decode cX10_third 43 = .ok (.iconst 1, 1) := by decide +kernel
theorem dX10_third_44 : decode cX10_third 44 = .ok (.iload_n 2, 1) := by decide +kernel
theorem dX10_third_45 : decode cX10_third 45 = .ok (.invokevirtual 176, 3) := by decide +kernel
theorem dX10_third_48 : decode cX10_third 48 = .ok (.invokevirtual 164, 3) := by decide +kernel
theorem dX10_third_51 : decode cX10_third 51 = .ok (.ireturn, 1) := by decide +kernel
theorem dX10_after_0 : decode cX10_after 0 = .ok (.iload_n 1, 1) := by decide +kernel
theorem dX10_after_1 : decode cX10_after 1 = .ok (.ifCond .lt 21, 3) := by decide +kernel
theorem dX10_after_4 : decode cX10_after 4 = .ok (.iload_n 1, 1) := by decide +kernel
theorem dX10_after_5 : decode cX10_after 5 = .ok (.bipush 24, 2) := by decide +kernel
theorem dX10_after_7 : decode cX10_after 7 = .ok (.if_icmp .gt 15, 3) := by decide +kernel
theorem dX10_after_10 : decode cX10_after 10 = .ok (.aload_n 0, 1) := by decide +kernel
theorem dX10_after_11 : decode cX10_after 11 = .ok (.getfield 19, 3) := by decide +kernel
theorem dX10_after_14 : decode cX10_after 14 = .ok (.iload_n 2, 1) := by decide +kernel
theorem dX10_after_15 : decode cX10_after 15 = .ok (.iload_n 3, 1) := by decide +kernel
theorem dX10_after_16 : decode cX10_after 16 = .ok (.invokevirtual 173, 3) := by decide +kernel
theorem dX10_after_19 : decode cX10_after 19 = .ok (.ifCond .ne 5, 3) := by decide +kernel
theorem dX10_after_22 : decode cX10_after 22 = .ok (.iconst (-1), 1) := by decide +kernel
theorem dX10_after_23 : decode cX10_after 23 = .ok (.ireturn, 1) := by decide +kernel
theorem dX10_after_24 : decode cX10_after 24 = .ok (.aload_n 0, 1) := by decide +kernel
theorem dX10_after_25 : decode cX10_after 25 = .ok (.getfield 44, 3) := by decide +kernel
theorem dX10_after_28 : decode cX10_after 28 = .ok (.iload_n 1, 1) := by decide +kernel
theorem dX10_after_29 : decode cX10_after 29 = .ok (.invokevirtual 193, 3) := by decide +kernel
theorem dX10_after_32 : decode cX10_after 32 = .ok (.aload_n 0, 1) := by decide +kernel
theorem dX10_after_33 : decode cX10_after 33 = .ok (.getfield 44, 3) := by decide +kernel
theorem dX10_after_36 : decode cX10_after 36 = .ok (.getfield 197, 3) := by decide +kernel
theorem dX10_after_39 : decode cX10_after 39 = .ok (.iload_n 2, 1) := by decide +kernel
theorem dX10_after_40 : decode cX10_after 40 = .ok (.iload_n 3, 1) := by decide +kernel
theorem dX10_after_41 : decode cX10_after 41 = .ok (.invokestatic 198, 3) := by decide +kernel
theorem dX10_after_44 : decode cX10_after 44 = .ok (.iaload, 1) := by decide +kernel
theorem dX10_after_45 : decode cX10_after 45 = .ok (.ireturn, 1) := by decide +kernel
theorem dX10_paid_0 : decode cX10_paid 0 = .ok (.iload_n 1, 1) := by decide +kernel
theorem dX10_paid_1 : decode cX10_paid 1 = .ok (.ifCond .lt 16, 3) := by decide +kernel
theorem dX10_paid_4 : decode cX10_paid 4 = .ok (.iload_n 1, 1) := by decide +kernel
theorem dX10_paid_5 : decode cX10_paid 5 = .ok (.bipush 24, 2) := by decide +kernel
theorem dX10_paid_7 : decode cX10_paid 7 = .ok (.if_icmp .gt 10, 3) := by decide +kernel
theorem dX10_paid_10 : decode cX10_paid 10 = .ok (.iload_n 2, 1) := by decide +kernel
theorem dX10_paid_11 : decode cX10_paid 11 = .ok (.invokestatic 201, 3) := by decide +kernel
theorem dX10_paid_14 : decode cX10_paid 14 = .ok (.ifCond .ne 5, 3) := by decide +kernel
theorem dX10_paid_17 : decode cX10_paid 17 = .ok (.iconst (-1), 1) := by decide +kernel
theorem dX10_paid_18 : decode cX10_paid 18 = .ok (.ireturn, 1) := by decide +kernel
theorem dX10_paid_19 : decode cX10_paid 19 = .ok (.aload_n 0, 1) := by decide +kernel
theorem dX10_paid_20 : decode cX10_paid 20 = .ok (.getfield 44, 3) := by decide +kernel
theorem dX10_paid_23 : decode cX10_paid 23 = .ok (.iload_n 1, 1) := by decide +kernel
theorem dX10_paid_24 : decode cX10_paid 24 = .ok (.invokevirtual 193, 3) := by decide +kernel
theorem dX10_paid_27 : decode cX10_paid 27 = .ok (.aload_n 0, 1) := by decide +kernel
theorem dX10_paid_28 : decode cX10_paid 28 = .ok (.getfield 44, 3) := by decide +kernel
theorem dX10_paid_31 : decode cX10_paid 31 = .ok (.getfield 204, 3) := by decide +kernel
theorem dX10_paid_34 : decode cX10_paid 34 = .ok (.iload_n 2, 1) := by decide +kernel
theorem dX10_paid_35 : decode cX10_paid 35 = .ok (.iaload, 1) := by decide +kernel
theorem dX10_paid_36 : decode cX10_paid 36 = .ok (.ireturn, 1) := by decide +kernel
theorem dX10_owes_0 : decode cX10_owes 0 = .ok (.iload_n 1, 1) := by decide +kernel
theorem dX10_owes_1 : decode cX10_owes 1 = .ok (.ifCond .lt 16, 3) := by decide +kernel
theorem dX10_owes_4 : decode cX10_owes 4 = .ok (.iload_n 1, 1) := by decide +kernel
theorem dX10_owes_5 : decode cX10_owes 5 = .ok (.bipush 24, 2) := by decide +kernel
theorem dX10_owes_7 : decode cX10_owes 7 = .ok (.if_icmp .gt 10, 3) := by decide +kernel
theorem dX10_owes_10 : decode cX10_owes 10 = .ok (.iload_n 2, 1) := by decide +kernel
theorem dX10_owes_11 : decode cX10_owes 11 = .ok (.invokestatic 201, 3) := by decide +kernel
theorem dX10_owes_14 : decode cX10_owes 14 = .ok (.ifCond .ne 5, 3) := by decide +kernel
theorem dX10_owes_17 : decode cX10_owes 17 = .ok (.iconst (-1), 1) := by decide +kernel
theorem dX10_owes_18 : decode cX10_owes 18 = .ok (.ireturn, 1) := by decide +kernel
theorem dX10_owes_19 : decode cX10_owes 19 = .ok (.aload_n 0, 1) := by decide +kernel
theorem dX10_owes_20 : decode cX10_owes 20 = .ok (.getfield 44, 3) := by decide +kernel
theorem dX10_owes_23 : decode cX10_owes 23 = .ok (.iload_n 1, 1) := by decide +kernel
theorem dX10_owes_24 : decode cX10_owes 24 = .ok (.invokevirtual 193, 3) := by decide +kernel
theorem dX10_owes_27 : decode cX10_owes 27 = .ok (.aload_n 0, 1) := by decide +kernel
theorem dX10_owes_28 : decode cX10_owes 28 = .ok (.getfield 44, 3) := by decide +kernel
theorem dX10_owes_31 : decode cX10_owes 31 = .ok (.iload_n 2, 1) := by decide +kernel
theorem dX10_owes_32 : decode cX10_owes 32 = .ok (.invokevirtual 207, 3) := by decide +kernel
theorem dX10_owes_35 : decode cX10_owes 35 = .ok (.ireturn, 1) := by decide +kernel
theorem dX10_fate_0 : decode cX10_fate 0 = .ok (.iload_n 1, 1) := by decide +kernel
theorem dX10_fate_1 : decode cX10_fate 1 = .ok (.ifCond .lt 23, 3) := by decide +kernel
theorem dX10_fate_4 : decode cX10_fate 4 = .ok (.iload_n 1, 1) := by decide +kernel
theorem dX10_fate_5 : decode cX10_fate 5 = .ok (.aload_n 0, 1) := by decide +kernel
theorem dX10_fate_6 : decode cX10_fate 6 = .ok (.getfield 26, 3) := by decide +kernel
theorem dX10_fate_9 : decode cX10_fate 9 = .ok (.getfield 125, 3) := by decide +kernel
theorem dX10_fate_12 : decode cX10_fate 12 = .ok (.getfield 129, 3) := by decide +kernel
theorem dX10_fate_15 : decode cX10_fate 15 = .ok (.if_icmp .ge 9, 3) := by decide +kernel
theorem dX10_fate_18 : decode cX10_fate 18 = .ok (.iload_n 1, 1) := by decide +kernel
theorem dX10_fate_19 : decode cX10_fate 19 = .ok (.bipush 12, 2) := by decide +kernel
theorem dX10_fate_21 : decode cX10_fate 21 = .ok (.if_icmp .lt 5, 3) := by decide +kernel
theorem dX10_fate_24 : decode cX10_fate 24 = .ok (.iconst (-1), 1) := by decide +kernel
theorem dX10_fate_25 : decode cX10_fate 25 = .ok (.ireturn, 1) := by decide +kernel
theorem dX10_fate_26 : decode cX10_fate 26 = .ok (.aload_n 0, 1) := by decide +kernel
theorem dX10_fate_27 : decode cX10_fate 27 = .ok (.getfield 44, 3) := by decide +kernel
theorem dX10_fate_30 : decode cX10_fate 30 = .ok (.bipush 24, 2) := by decide +kernel
theorem dX10_fate_32 : decode cX10_fate 32 = .ok (.invokevirtual 193, 3) := by decide +kernel
theorem dX10_fate_35 : decode cX10_fate 35 = .ok (.aload_n 0, 1) := by decide +kernel
theorem dX10_fate_36 : decode cX10_fate 36 = .ok (.getfield 44, 3) := by decide +kernel
theorem dX10_fate_39 : decode cX10_fate 39 = .ok (.getfield 210, 3) := by decide +kernel
theorem dX10_fate_42 : decode cX10_fate 42 = .ok (.iload_n 1, 1) := by decide +kernel
theorem dX10_fate_43 : decode cX10_fate 43 = .ok (.iaload, 1) := by decide +kernel
theorem dX10_fate_44 : decode cX10_fate 44 = .ok (.ireturn, 1) := by decide +kernel
theorem dX10_uneven_0 : decode cX10_uneven 0 = .ok (.iload_n 1, 1) := by decide +kernel
theorem dX10_uneven_1 : decode cX10_uneven 1 = .ok (.ifCond .lt 8, 3) := by decide +kernel
theorem dX10_uneven_4 : decode cX10_uneven 4 = .ok (.iload_n 1, 1) := by decide +kernel
theorem dX10_uneven_5 : decode cX10_uneven 5 = .ok (.iconst 1, 1) := by decide +kernel
theorem dX10_uneven_6 : decode cX10_uneven 6 = .ok (.if_icmp .le 5, 3) := by decide +kernel
theorem dX10_uneven_9 : decode cX10_uneven 9 = .ok (.iconst (-1), 1) := by decide +kernel
theorem dX10_uneven_10 : decode cX10_uneven 10 = .ok (.ireturn, 1) := by decide +kernel
theorem dX10_uneven_11 : decode cX10_uneven 11 = .ok (.aload_n 0, 1) := by decide +kernel
theorem dX10_uneven_12 : decode cX10_uneven 12 = .ok (.getfield 44, 3) := by decide +kernel
theorem dX10_uneven_15 : decode cX10_uneven 15 = .ok (.invokevirtual 213, 3) := by decide +kernel
theorem dX10_uneven_18 : decode cX10_uneven 18 = .ok (.iconst 0, 1) := by decide +kernel
theorem dX10_uneven_19 : decode cX10_uneven 19 = .ok (.istore_n 2, 1) := by decide +kernel
theorem dX10_uneven_20 : decode cX10_uneven 20 = .ok (.iload_n 2, 1) := by decide +kernel
theorem dX10_uneven_21 : decode cX10_uneven 21 = .ok (.bipush 24, 2) := by decide +kernel
theorem dX10_uneven_23 : decode cX10_uneven 23 = .ok (.if_icmp .ge 49, 3) := by decide +kernel
theorem dX10_uneven_26 : decode cX10_uneven 26 = .ok (.aload_n 0, 1) := by decide +kernel
theorem dX10_uneven_27 : decode cX10_uneven 27 = .ok (.getfield 44, 3) := by decide +kernel
theorem dX10_uneven_30 : decode cX10_uneven 30 = .ok (.iload_n 2, 1) := by decide +kernel
theorem dX10_uneven_31 : decode cX10_uneven 31 = .ok (.invokevirtual 216, 3) := by decide +kernel
theorem dX10_uneven_34 : decode cX10_uneven 34 = .ok (.aload_n 0, 1) := by decide +kernel
theorem dX10_uneven_35 : decode cX10_uneven 35 = .ok (.getfield 19, 3) := by decide +kernel
theorem dX10_uneven_38 : decode cX10_uneven 38 = .ok (.aload_n 0, 1) := by decide +kernel
theorem dX10_uneven_39 : decode cX10_uneven 39 = .ok (.getfield 44, 3) := by decide +kernel
theorem dX10_uneven_42 : decode cX10_uneven 42 = .ok (.getfield 197, 3) := by decide +kernel
theorem dX10_uneven_45 : decode cX10_uneven 45 = .ok (.invokevirtual 189, 3) := by decide +kernel
theorem dX10_uneven_48 : decode cX10_uneven 48 = .ok (.istore_n 3, 1) := by decide +kernel
theorem dX10_uneven_49 : decode cX10_uneven 49 = .ok (.iload_n 3, 1) := by decide +kernel
theorem dX10_uneven_50 : decode cX10_uneven 50 = .ok (.ifCond .eq 16, 3) := by decide +kernel
theorem dX10_uneven_53 : decode cX10_uneven 53 = .ok (.iload_n 1, 1) := by decide +kernel
theorem dX10_uneven_54 : decode cX10_uneven 54 = .ok (.ifCond .ne 7, 3) := by decide +kernel
theorem dX10_uneven_57 : decode cX10_uneven 57 = .ok (.iload_n 2, 1) := by decide +kernel
theorem dX10_uneven_58 : decode cX10_uneven 58 = .ok (.goto 7, 3) := by decide +kernel
theorem dX10_uneven_61 : decode cX10_uneven 61 = .ok (.iload_n 3, 1) := by decide +kernel
theorem dX10_uneven_62 : decode cX10_uneven 62 = .ok (.invokestatic 219, 3) := by decide +kernel
theorem dX10_uneven_65 : decode cX10_uneven 65 = .ok (.ireturn, 1) := by decide +kernel
theorem dX10_uneven_66 : decode cX10_uneven 66 = .ok (.iinc 2 1, 3) := by decide +kernel
theorem dX10_uneven_69 : decode cX10_uneven 69 = .ok (.goto (-49), 3) := by decide +kernel
theorem dX10_uneven_72 : decode cX10_uneven 72 = .ok (.bipush (-4), 2) := by decide +kernel
theorem dX10_uneven_74 : decode cX10_uneven 74 = .ok (.ireturn, 1) := by decide +kernel
theorem dX10_firstLot_0 : decode cX10_firstLot 0 = .ok (.iconst 0, 1) := by decide +kernel
theorem dX10_firstLot_1 : decode cX10_firstLot 1 = .ok (.istore_n 1, 1) := by decide +kernel
theorem dX10_firstLot_2 : decode cX10_firstLot 2 = .ok (.iload_n 1, 1) := by decide +kernel
theorem dX10_firstLot_3 : decode cX10_firstLot 3 = .ok (.bipush 8, 2) := by decide +kernel
theorem dX10_firstLot_5 : decode cX10_firstLot 5 = .ok (.if_icmp .ge 19, 3) := by decide +kernel
theorem dX10_firstLot_8 : decode cX10_firstLot 8 = .ok (.iload_n 0, 1) := by decide +kernel
theorem dX10_firstLot_9 : decode cX10_firstLot 9 = .ok (.iload_n 1, 1) := by decide +kernel
theorem dX10_firstLot_10 : decode cX10_firstLot 10 = .ok (.ishr, 1) := by decide +kernel
theorem dX10_firstLot_11 : decode cX10_firstLot 11 = .ok (.iconst 1, 1) := by decide +kernel
theorem dX10_firstLot_12 : decode cX10_firstLot 12 = .ok (.iand, 1) := by decide +kernel
theorem dX10_firstLot_13 : decode cX10_firstLot 13 = .ok (.ifCond .eq 5, 3) := by decide +kernel
theorem dX10_firstLot_16 : decode cX10_firstLot 16 = .ok (.iload_n 1, 1) := by decide +kernel
theorem dX10_firstLot_17 : decode cX10_firstLot 17 = .ok (.ireturn, 1) := by decide +kernel
theorem dX10_firstLot_18 : decode cX10_firstLot 18 = .ok (.iinc 1 1, 3) := by decide +kernel
theorem dX10_firstLot_21 : decode cX10_firstLot 21 = .ok (.goto (-19), 3) := by decide +kernel
theorem dX10_firstLot_24 : decode cX10_firstLot 24 = .ok (.bipush (-4), 2) := by decide +kernel
theorem dX10_firstLot_26 : decode cX10_firstLot 26 = .ok (.ireturn, 1) := by decide +kernel
theorem dX10_go_0 : decode cX10_go 0 = .ok (.aload_n 0, 1) := by decide +kernel
theorem dX10_go_1 : decode cX10_go 1 = .ok (.getfield 44, 3) := by decide +kernel
theorem dX10_go_4 : decode cX10_go 4 = .ok (.bipush 24, 2) := by decide +kernel
theorem dX10_go_6 : decode cX10_go 6 = .ok (.invokevirtual 193, 3) := by decide +kernel
theorem dX10_go_9 : decode cX10_go 9 = .ok (.aload_n 0, 1) := by decide +kernel
theorem dX10_go_10 : decode cX10_go 10 = .ok (.getfield 44, 3) := by decide +kernel
theorem dX10_go_13 : decode cX10_go 13 = .ok (.invokevirtual 222, 3) := by decide +kernel
theorem dX10_go_16 : decode cX10_go 16 = .ok (.istore_n 1, 1) := by decide +kernel
theorem dX10_go_17 : decode cX10_go 17 = .ok (.aload_n 0, 1) := by decide +kernel
theorem dX10_go_18 : decode cX10_go 18 = .ok (.getfield 44, 3) := by decide +kernel
theorem dX10_go_21 : decode cX10_go 21 = .ok (.getfield 197, 3) := by decide +kernel
theorem dX10_go_24 : decode cX10_go 24 = .ok (.iconst 0, 1) := by decide +kernel
theorem dX10_go_25 : decode cX10_go 25 = .ok (.aload_n 0, 1) := by decide +kernel
theorem dX10_go_26 : decode cX10_go 26 = .ok (.getfield 26, 3) := by decide +kernel
theorem dX10_go_29 : decode cX10_go 29 = .ok (.getfield 186, 3) := by decide +kernel
theorem dX10_go_32 : decode cX10_go 32 = .ok (.iconst 0, 1) := by decide +kernel
theorem dX10_go_33 : decode cX10_go 33 = .ok (.bipush 16, 2) := by decide +kernel
theorem dX10_go_35 : decode cX10_go 35 = .ok (.invokestatic 226, 3) := by decide +kernel
theorem dX10_go_38 : decode cX10_go 38 = .ok (.aload_n 0, 1) := by decide +kernel
theorem dX10_go_39 : decode cX10_go 39 = .ok (.getfield 26, 3) := by decide +kernel
theorem dX10_go_42 : decode cX10_go 42 = .ok (.getfield 125, 3) := by decide +kernel
theorem dX10_go_45 : decode cX10_go 45 = .ok (.iconst 0, 1) := by decide +kernel
theorem dX10_go_46 : decode cX10_go 46 = .ok (.putfield 129, 3) := by decide +kernel
theorem dX10_go_49 : decode cX10_go 49 = .ok (.iload_n 1, 1) := by decide +kernel
theorem dX10_go_50 : decode cX10_go 50 = .ok (.ireturn, 1) := by decide +kernel
theorem dX10_plot_0 : decode cX10_plot 0 = .ok (.aload_n 0, 1) := by decide +kernel
theorem dX10_plot_1 : decode cX10_plot 1 = .ok (.getfield 26, 3) := by decide +kernel
theorem dX10_plot_4 : decode cX10_plot 4 = .ok (.getfield 125, 3) := by decide +kernel
theorem dX10_plot_7 : decode cX10_plot 7 = .ok (.astore 5, 2) := by decide +kernel
theorem dX10_plot_9 : decode cX10_plot 9 = .ok (.iload_n 1, 1) := by decide +kernel
theorem dX10_plot_10 : decode cX10_plot 10 = .ok (.aload_n 0, 1) := by decide +kernel
theorem dX10_plot_11 : decode cX10_plot 11 = .ok (.getfield 26, 3) := by decide +kernel
theorem dX10_plot_14 : decode cX10_plot 14 = .ok (.invokevirtual 232, 3) := by decide +kernel
theorem dX10_plot_17 : decode cX10_plot 17 = .ok (.if_icmp .lt 29, 3) := by decide +kernel
theorem dX10_plot_20 : decode cX10_plot 20 = .ok (.iload_n 1, 1) := by decide +kernel
theorem dX10_plot_21 : decode cX10_plot 21 = .ok (.bipush 24, 2) := by decide +kernel
theorem dX10_plot_23 : decode cX10_plot 23 = .ok (.if_icmp .ge 23, 3) := by decide +kernel
theorem dX10_plot_26 : decode cX10_plot 26 = .ok (.aload_n 0, 1) := by decide +kernel
theorem dX10_plot_27 : decode cX10_plot 27 = .ok (.getfield 19, 3) := by decide +kernel
theorem dX10_plot_30 : decode cX10_plot 30 = .ok (.iload_n 2, 1) := by decide +kernel
theorem dX10_plot_31 : decode cX10_plot 31 = .ok (.iload_n 3, 1) := by decide +kernel
theorem dX10_plot_32 : decode cX10_plot 32 = .ok (.invokevirtual 173, 3) := by decide +kernel
theorem dX10_plot_35 : decode cX10_plot 35 = .ok (.ifCond .eq 11, 3) := by decide +kernel
theorem dX10_plot_38 : decode cX10_plot 38 = .ok (.iload 4, 2) := by decide +kernel
theorem dX10_plot_40 : decode cX10_plot 40 = .ok (.invokestatic 161, 3) := by decide +kernel
theorem dX10_plot_43 : decode cX10_plot 43 = .ok (.ifCond .ne 5, 3) := by decide +kernel
theorem dX10_plot_46 : decode cX10_plot 46 = .ok (.iconst (-1), 1) := by decide +kernel
theorem dX10_plot_47 : decode cX10_plot 47 = .ok (.ireturn, 1) := by decide +kernel
theorem dX10_plot_48 : decode cX10_plot 48 = .ok (.aload 5, 2) := by decide +kernel
theorem dX10_plot_50 : decode cX10_plot 50 = .ok (.invokevirtual 235, 3) := by decide +kernel
theorem dX10_plot_53 : decode cX10_plot 53 = .ok (.ifCond .eq 6, 3) := by decide +kernel
theorem dX10_plot_56 : decode cX10_plot 56 = .ok (.bipush (-3), 2) := by decide +kernel
theorem dX10_plot_58 : decode cX10_plot 58 = .ok (.ireturn, 1) := by decide +kernel
theorem dX10_plot_59 : decode cX10_plot 59 = .ok (.aload 5, 2) := by decide +kernel
theorem dX10_plot_61 : decode cX10_plot 61 = .ok (.iload_n 1, 1) := by decide +kernel
theorem dX10_plot_62 : decode cX10_plot 62 = .ok (.iload_n 2, 1) := by decide +kernel
theorem dX10_plot_63 : decode cX10_plot 63 = .ok (.iload_n 3, 1) := by decide +kernel
theorem dX10_plot_64 : decode cX10_plot 64 = .ok (.iload 4, 2) := by decide +kernel
theorem dX10_plot_66 : decode cX10_plot 66 = .ok (.invokevirtual 239, 3) := by decide +kernel
theorem dX10_plot_69 : decode cX10_plot 69 = .ok (.aload 5, 2) := by decide +kernel
theorem dX10_plot_71 : decode cX10_plot 71 = .ok (.getfield 129, 3) := by decide +kernel
theorem dX10_plot_74 : decode cX10_plot 74 = .ok (.ireturn, 1) := by decide +kernel
theorem dX10_gain_0 : decode cX10_gain 0 = .ok (.aload_n 0, 1) := by decide +kernel
theorem dX10_gain_1 : decode cX10_gain 1 = .ok (.getfield 19, 3) := by decide +kernel
theorem dX10_gain_4 : decode cX10_gain 4 = .ok (.iload_n 1, 1) := by decide +kernel
theorem dX10_gain_5 : decode cX10_gain 5 = .ok (.iload_n 2, 1) := by decide +kernel
theorem dX10_gain_6 : decode cX10_gain 6 = .ok (.invokevirtual 173, 3) := by decide +kernel
theorem dX10_gain_9 : decode cX10_gain 9 = .ok (.ifCond .eq 10, 3) := by decide +kernel
theorem dX10_gain_12 : decode cX10_gain 12 = .ok (.iload_n 3, 1) := by decide +kernel
theorem dX10_gain_13 : decode cX10_gain 13 = .ok (.invokestatic 243, 3) := by decide +kernel
theorem dX10_gain_16 : decode cX10_gain 16 = .ok (.ifCond .ne 5, 3) := by decide +kernel
theorem dX10_gain_19 : decode cX10_gain 19 = .ok (.iconst (-1), 1) := by decide +kernel
theorem dX10_gain_20 : decode cX10_gain 20 = .ok (.ireturn, 1) := by decide +kernel
theorem dX10_gain_21 : decode cX10_gain 21 = .ok (.aload_n 0, 1) := by decide +kernel
theorem dX10_gain_22 : decode cX10_gain 22 = .ok (.getfield 51, 3) := by decide +kernel
theorem dX10_gain_25 : decode cX10_gain 25 = .ok (.iload_n 1, 1) := by decide +kernel
theorem dX10_gain_26 : decode cX10_gain 26 = .ok (.iload_n 2, 1) := by decide +kernel
theorem dX10_gain_27 : decode cX10_gain 27 = .ok (.iload_n 3, 1) := by decide +kernel
theorem dX10_gain_28 : decode cX10_gain 28 = .ok (.invokevirtual 246, 3) := by decide +kernel
theorem dX10_gain_31 : decode cX10_gain 31 = .ok (.sipush 1000, 3) := by decide +kernel
theorem dX10_gain_34 : decode cX10_gain 34 = .ok (.iadd, 1) := by decide +kernel
theorem dX10_gain_35 : decode cX10_gain 35 = .ok (.ireturn, 1) := by decide +kernel
theorem dX10_begin_0 : decode cX10_begin 0 = .ok (.aload_n 0, 1) := by decide +kernel
theorem dX10_begin_1 : decode cX10_begin 1 = .ok (.getfield 19, 3) := by decide +kernel
theorem dX10_begin_4 : decode cX10_begin 4 = .ok (.iload_n 1, 1) := by decide +kernel
theorem dX10_begin_5 : decode cX10_begin 5 = .ok (.iload_n 2, 1) := by decide +kernel
theorem dX10_begin_6 : decode cX10_begin 6 = .ok (.invokevirtual 173, 3) := by decide +kernel
theorem dX10_begin_9 : decode cX10_begin 9 = .ok (.ifCond .eq 12, 3) := by decide +kernel
theorem dX10_begin_12 : decode cX10_begin 12 = .ok (.iload_n 3, 1) := by decide +kernel
theorem dX10_begin_13 : decode cX10_begin 13 = .ok (.ifCond .lt 8, 3) := by decide +kernel
theorem dX10_begin_16 : decode cX10_begin 16 = .ok (.iload_n 3, 1) := by decide +kernel
theorem dX10_begin_17 : decode cX10_begin 17 = .ok (.iconst 1, 1) := by decide +kernel
theorem dX10_begin_18 : decode cX10_begin 18 = .ok (.if_icmp .le 5, 3) := by decide +kernel
theorem dX10_begin_21 : decode cX10_begin 21 = .ok (.iconst (-1), 1) := by decide +kernel
theorem dX10_begin_22 : decode cX10_begin 22 = .ok (.ireturn, 1) := by decide +kernel
theorem dX10_begin_23 : decode cX10_begin 23 = .ok (.aload_n 0, 1) := by decide +kernel
theorem dX10_begin_24 : decode cX10_begin 24 = .ok (.getfield 51, 3) := by decide +kernel
theorem dX10_begin_27 : decode cX10_begin 27 = .ok (.iload_n 1, 1) := by decide +kernel
theorem dX10_begin_28 : decode cX10_begin 28 = .ok (.iload_n 2, 1) := by decide +kernel
theorem dX10_begin_29 : decode cX10_begin 29 = .ok (.invokevirtual 250, 3) := by decide +kernel
theorem dX10_begin_32 : decode cX10_begin 32 = .ok (.istore 4, 2) := by decide +kernel
theorem dX10_begin_34 : decode cX10_begin 34 = .ok (.iload 4, 2) := by decide +kernel
theorem dX10_begin_36 : decode cX10_begin 36 = .ok (.ifCond .ne 6, 3) := by decide +kernel
theorem dX10_begin_39 : decode cX10_begin 39 = .ok (.bipush (-4), 2) := by decide +kernel
theorem dX10_begin_41 : decode cX10_begin 41 = .ok (.ireturn, 1) := by decide +kernel
theorem dX10_begin_42 : decode cX10_begin 42 = .ok (.iload_n 3, 1) := by decide +kernel
theorem dX10_begin_43 : decode cX10_begin 43 = .ok (.ifCond .ne 8, 3) := by decide +kernel
theorem dX10_begin_46 : decode cX10_begin 46 = .ok (.iload 4, 2) := by decide +kernel
theorem dX10_begin_48 : decode cX10_begin 48 = .ok (.goto 14, 3) := by decide +kernel
theorem dX10_begin_51 : decode cX10_begin 51 = .ok (.aload_n 0, 1) := by decide +kernel
theorem dX10_begin_52 : decode cX10_begin 52 = .ok (.getfield 51, 3) := by decide +kernel
theorem dX10_begin_55 : decode cX10_begin 55 = .ok (.iload_n 1, 1) := by decide +kernel
theorem dX10_begin_56 : decode cX10_begin 56 = .ok (.iload_n 2, 1) := by decide +kernel
theorem dX10_begin_57 : decode cX10_begin 57 = .ok (.iload 4, 2) := by decide +kernel
theorem dX10_begin_59 : decode cX10_begin 59 = .ok (.invokevirtual 246, 3) := by decide +kernel
theorem dX10_begin_62 : decode cX10_begin 62 = .ok (.ireturn, 1) := by decide +kernel
theorem dX10_waits_0 : decode cX10_waits 0 = .ok (.aload_n 0, 1) := by decide +kernel
theorem dX10_waits_1 : decode cX10_waits 1 = .ok (.getfield 19, 3) := by decide +kernel
theorem dX10_waits_4 : decode cX10_waits 4 = .ok (.iload_n 1, 1) := by decide +kernel
theorem dX10_waits_5 : decode cX10_waits 5 = .ok (.iload_n 2, 1) := by decide +kernel
theorem dX10_waits_6 : decode cX10_waits 6 = .ok (.invokevirtual 173, 3) := by decide +kernel
theorem dX10_waits_9 : decode cX10_waits 9 = .ok (.ifCond .ne 5, 3) := by decide +kernel
theorem dX10_waits_12 : decode cX10_waits 12 = .ok (.iconst (-1), 1) := by decide +kernel
theorem dX10_waits_13 : decode cX10_waits 13 = .ok (.ireturn, 1) := by decide +kernel
theorem dX10_waits_14 : decode cX10_waits 14 = .ok (.aload_n 0, 1) := by decide +kernel
theorem dX10_waits_15 : decode cX10_waits 15 = .ok (.getfield 19, 3) := by decide +kernel
theorem dX10_waits_18 : decode cX10_waits 18 = .ok (.iload_n 1, 1) := by decide +kernel
theorem dX10_waits_19 : decode cX10_waits 19 = .ok (.iload_n 2, 1) := by decide +kernel
theorem dX10_waits_20 : decode cX10_waits 20 = .ok (.invokevirtual 183, 3) := by decide +kernel
theorem dX10_waits_23 : decode cX10_waits 23 = .ok (.istore_n 3, 1) := by decide +kernel
theorem dX10_waits_24 : decode cX10_waits 24 = .ok (.iload_n 3, 1) := by decide +kernel
theorem dX10_waits_25 : decode cX10_waits 25 = .ok (.bipush (-4), 2) := by decide +kernel
theorem dX10_waits_27 : decode cX10_waits 27 = .ok (.if_icmp .ne 6, 3) := by decide +kernel
theorem dX10_waits_30 : decode cX10_waits 30 = .ok (.bipush (-2), 2) := by decide +kernel
theorem dX10_waits_32 : decode cX10_waits 32 = .ok (.ireturn, 1) := by decide +kernel
theorem dX10_waits_33 : decode cX10_waits 33 = .ok (.aload_n 0, 1) := by decide +kernel
theorem dX10_waits_34 : decode cX10_waits 34 = .ok (.getfield 51, 3) := by decide +kernel
theorem dX10_waits_37 : decode cX10_waits 37 = .ok (.iconst 1, 1) := by decide +kernel
theorem dX10_waits_38 : decode cX10_waits 38 = .ok (.iload_n 1, 1) := by decide +kernel
theorem dX10_waits_39 : decode cX10_waits 39 = .ok (.isub, 1) := by decide +kernel
theorem dX10_waits_40 : decode cX10_waits 40 = .ok (.iload_n 3, 1) := by decide +kernel
theorem dX10_waits_41 : decode cX10_waits 41 = .ok (.invokevirtual 250, 3) := by decide +kernel
theorem dX10_waits_44 : decode cX10_waits 44 = .ok (.istore 4, 2) := by decide +kernel
theorem dX10_waits_46 : decode cX10_waits 46 = .ok (.iload 4, 2) := by decide +kernel
theorem dX10_waits_48 : decode cX10_waits 48 = .ok (.ifCond .ne 9, 3) := by decide +kernel
theorem dX10_waits_51 : decode cX10_waits 51 = .ok (.sipush 1000, 3) := by decide +kernel
theorem dX10_waits_54 : decode cX10_waits 54 = .ok (.goto 25, 3) := by decide +kernel
theorem dX10_waits_57 : decode cX10_waits 57 = .ok (.aload_n 0, 1) := by decide +kernel
end
section
theorem dX10_waits_58 : decode cX10_waits 58 = .ok (.getfield 51, 3) := by decide +kernel
theorem dX10_waits_61 : decode cX10_waits 61 = .ok (.iload_n 1, 1) := by decide +kernel
theorem dX10_waits_62 : decode cX10_waits 62 = .ok (.iload_n 2, 1) := by decide +kernel
theorem dX10_waits_63 : decode cX10_waits 63 = .ok (.aload_n 0, 1) := by decide +kernel
theorem dX10_waits_64 : decode cX10_waits 64 = .ok (.getfield 19, 3) := by decide +kernel
theorem dX10_waits_67 : decode cX10_waits 67 = .ok (.iload 4, 2) := by decide +kernel
theorem dX10_waits_69 : decode cX10_waits 69 = .ok (.invokevirtual 140, 3) := by decide +kernel
theorem dX10_waits_72 : decode cX10_waits 72 = .ok (.invokevirtual 246, 3) := by decide +kernel
theorem dX10_waits_75 : decode cX10_waits 75 = .ok (.sipush 1000, 3) := by decide +kernel
theorem dX10_waits_78 : decode cX10_waits 78 = .ok (.iadd, 1) := by decide +kernel
theorem dX10_waits_79 : decode cX10_waits 79 = .ok (.ireturn, 1) := by decide +kernel
theorem dX10_vex_0 : decode cX10_vex 0 = .ok (.iload_n 1, 1) := by decide +kernel
theorem dX10_vex_1 : decode cX10_vex 1 = .ok (.invokestatic 201, 3) := by decide +kernel
theorem dX10_vex_4 : decode cX10_vex 4 = .ok (.ifCond .eq 12, 3) := by decide +kernel
theorem dX10_vex_7 : decode cX10_vex 7 = .ok (.iload_n 2, 1) := by decide +kernel
theorem dX10_vex_8 : decode cX10_vex 8 = .ok (.ifCond .lt 8, 3) := by decide +kernel
theorem dX10_vex_11 : decode cX10_vex 11 = .ok (.iload_n 2, 1) := by decide +kernel
theorem dX10_vex_12 : decode cX10_vex 12 = .ok (.iconst 2, 1) := by decide +kernel
theorem dX10_vex_13 : decode cX10_vex 13 = .ok (.if_icmp .le 5, 3) := by decide +kernel
theorem dX10_vex_16 : decode cX10_vex 16 = .ok (.iconst (-1), 1) := by decide +kernel
theorem dX10_vex_17 : decode cX10_vex 17 = .ok (.ireturn, 1) := by decide +kernel
theorem dX10_vex_18 : decode cX10_vex 18 = .ok (.aload_n 0, 1) := by decide +kernel
theorem dX10_vex_19 : decode cX10_vex 19 = .ok (.getfield 51, 3) := by decide +kernel
theorem dX10_vex_22 : decode cX10_vex 22 = .ok (.iload_n 1, 1) := by decide +kernel
theorem dX10_vex_23 : decode cX10_vex 23 = .ok (.invokevirtual 253, 3) := by decide +kernel
theorem dX10_vex_26 : decode cX10_vex 26 = .ok (.aload_n 0, 1) := by decide +kernel
theorem dX10_vex_27 : decode cX10_vex 27 = .ok (.getfield 51, 3) := by decide +kernel
theorem dX10_vex_30 : decode cX10_vex 30 = .ok (.getfield 256, 3) := by decide +kernel
theorem dX10_vex_33 : decode cX10_vex 33 = .ok (.ifCond .ge 6, 3) := by decide +kernel
theorem dX10_vex_36 : decode cX10_vex 36 = .ok (.bipush (-4), 2) := by decide +kernel
theorem dX10_vex_38 : decode cX10_vex 38 = .ok (.ireturn, 1) := by decide +kernel
theorem dX10_vex_39 : decode cX10_vex 39 = .ok (.iload_n 2, 1) := by decide +kernel
theorem dX10_vex_40 : decode cX10_vex 40 = .ok (.ifCond .ne 15, 3) := by decide +kernel
theorem dX10_vex_43 : decode cX10_vex 43 = .ok (.aload_n 0, 1) := by decide +kernel
theorem dX10_vex_44 : decode cX10_vex 44 = .ok (.getfield 51, 3) := by decide +kernel
theorem dX10_vex_47 : decode cX10_vex 47 = .ok (.getfield 259, 3) := by decide +kernel
theorem dX10_vex_50 : decode cX10_vex 50 = .ok (.sipush 1000, 3) := by decide +kernel
theorem dX10_vex_53 : decode cX10_vex 53 = .ok (.iadd, 1) := by decide +kernel
theorem dX10_vex_54 : decode cX10_vex 54 = .ok (.ireturn, 1) := by decide +kernel
theorem dX10_vex_55 : decode cX10_vex 55 = .ok (.iload_n 2, 1) := by decide +kernel
theorem dX10_vex_56 : decode cX10_vex 56 = .ok (.iconst 1, 1) := by decide +kernel
theorem dX10_vex_57 : decode cX10_vex 57 = .ok (.if_icmp .ne 13, 3) := by decide +kernel
theorem dX10_vex_60 : decode cX10_vex 60 = .ok (.aload_n 0, 1) := by decide +kernel
theorem dX10_vex_61 : decode cX10_vex 61 = .ok (.getfield 51, 3) := by decide +kernel
theorem dX10_vex_64 : decode cX10_vex 64 = .ok (.getfield 256, 3) := by decide +kernel
theorem dX10_vex_67 : decode cX10_vex 67 = .ok (.goto 10, 3) := by decide +kernel
theorem dX10_vex_70 : decode cX10_vex 70 = .ok (.aload_n 0, 1) := by decide +kernel
theorem dX10_vex_71 : decode cX10_vex 71 = .ok (.getfield 51, 3) := by decide +kernel
theorem dX10_vex_74 : decode cX10_vex 74 = .ok (.getfield 262, 3) := by decide +kernel
theorem dX10_vex_77 : decode cX10_vex 77 = .ok (.ireturn, 1) := by decide +kernel
theorem dX10_want_0 : decode cX10_want 0 = .ok (.aload_n 0, 1) := by decide +kernel
theorem dX10_want_1 : decode cX10_want 1 = .ok (.getfield 19, 3) := by decide +kernel
theorem dX10_want_4 : decode cX10_want 4 = .ok (.iconst 0, 1) := by decide +kernel
theorem dX10_want_5 : decode cX10_want 5 = .ok (.iload_n 1, 1) := by decide +kernel
theorem dX10_want_6 : decode cX10_want 6 = .ok (.invokevirtual 173, 3) := by decide +kernel
theorem dX10_want_9 : decode cX10_want 9 = .ok (.ifCond .eq 10, 3) := by decide +kernel
theorem dX10_want_12 : decode cX10_want 12 = .ok (.iload_n 2, 1) := by decide +kernel
theorem dX10_want_13 : decode cX10_want 13 = .ok (.invokestatic 243, 3) := by decide +kernel
theorem dX10_want_16 : decode cX10_want 16 = .ok (.ifCond .ne 5, 3) := by decide +kernel
theorem dX10_want_19 : decode cX10_want 19 = .ok (.iconst (-1), 1) := by decide +kernel
theorem dX10_want_20 : decode cX10_want 20 = .ok (.ireturn, 1) := by decide +kernel
theorem dX10_want_21 : decode cX10_want 21 = .ok (.aload_n 0, 1) := by decide +kernel
theorem dX10_want_22 : decode cX10_want 22 = .ok (.getfield 26, 3) := by decide +kernel
theorem dX10_want_25 : decode cX10_want 25 = .ok (.getfield 265, 3) := by decide +kernel
theorem dX10_want_28 : decode cX10_want 28 = .ok (.invokevirtual 235, 3) := by decide +kernel
theorem dX10_want_31 : decode cX10_want 31 = .ok (.ifCond .eq 6, 3) := by decide +kernel
theorem dX10_want_34 : decode cX10_want 34 = .ok (.bipush (-3), 2) := by decide +kernel
theorem dX10_want_36 : decode cX10_want 36 = .ok (.ireturn, 1) := by decide +kernel
theorem dX10_want_37 : decode cX10_want 37 = .ok (.aload_n 0, 1) := by decide +kernel
theorem dX10_want_38 : decode cX10_want 38 = .ok (.getfield 26, 3) := by decide +kernel
theorem dX10_want_41 : decode cX10_want 41 = .ok (.getfield 265, 3) := by decide +kernel
theorem dX10_want_44 : decode cX10_want 44 = .ok (.iload_n 1, 1) := by decide +kernel
theorem dX10_want_45 : decode cX10_want 45 = .ok (.iload_n 2, 1) := by decide +kernel
theorem dX10_want_46 : decode cX10_want 46 = .ok (.iconst 0, 1) := by decide +kernel
theorem dX10_want_47 : decode cX10_want 47 = .ok (.iconst 0, 1) := by decide +kernel
theorem dX10_want_48 : decode cX10_want 48 = .ok (.invokevirtual 239, 3) := by decide +kernel
theorem dX10_want_51 : decode cX10_want 51 = .ok (.aload_n 0, 1) := by decide +kernel
theorem dX10_want_52 : decode cX10_want 52 = .ok (.getfield 26, 3) := by decide +kernel
theorem dX10_want_55 : decode cX10_want 55 = .ok (.getfield 265, 3) := by decide +kernel
theorem dX10_want_58 : decode cX10_want 58 = .ok (.getfield 129, 3) := by decide +kernel
theorem dX10_want_61 : decode cX10_want 61 = .ok (.ireturn, 1) := by decide +kernel
theorem dX10_content_0 : decode cX10_content 0 = .ok (.aload_n 0, 1) := by decide +kernel
theorem dX10_content_1 : decode cX10_content 1 = .ok (.getfield 26, 3) := by decide +kernel
theorem dX10_content_4 : decode cX10_content 4 = .ok (.getfield 265, 3) := by decide +kernel
theorem dX10_content_7 : decode cX10_content 7 = .ok (.invokevirtual 268, 3) := by decide +kernel
theorem dX10_content_10 : decode cX10_content 10 = .ok (.ireturn, 1) := by decide +kernel
theorem dX10_plan_0 : decode cX10_plan 0 = .ok (.aload_n 0, 1) := by decide +kernel
theorem dX10_plan_1 : decode cX10_plan 1 = .ok (.getfield 26, 3) := by decide +kernel
theorem dX10_plan_4 : decode cX10_plan 4 = .ok (.getfield 265, 3) := by decide +kernel
theorem dX10_plan_7 : decode cX10_plan 7 = .ok (.getfield 129, 3) := by decide +kernel
theorem dX10_plan_10 : decode cX10_plan 10 = .ok (.istore_n 3, 1) := by decide +kernel
theorem dX10_plan_11 : decode cX10_plan 11 = .ok (.iload_n 2, 1) := by decide +kernel
theorem dX10_plan_12 : decode cX10_plan 12 = .ok (.bipush 10, 2) := by decide +kernel
theorem dX10_plan_14 : decode cX10_plan 14 = .ok (.if_icmp .lt 15, 3) := by decide +kernel
theorem dX10_plan_17 : decode cX10_plan 17 = .ok (.iload_n 2, 1) := by decide +kernel
theorem dX10_plan_18 : decode cX10_plan 18 = .ok (.bipush 10, 2) := by decide +kernel
theorem dX10_plan_20 : decode cX10_plan 20 = .ok (.iload_n 3, 1) := by decide +kernel
theorem dX10_plan_21 : decode cX10_plan 21 = .ok (.iadd, 1) := by decide +kernel
theorem dX10_plan_22 : decode cX10_plan 22 = .ok (.if_icmp .ge 7, 3) := by decide +kernel
theorem dX10_plan_25 : decode cX10_plan 25 = .ok (.iconst 1, 1) := by decide +kernel
theorem dX10_plan_26 : decode cX10_plan 26 = .ok (.goto 4, 3) := by decide +kernel
theorem dX10_plan_29 : decode cX10_plan 29 = .ok (.iconst 0, 1) := by decide +kernel
theorem dX10_plan_30 : decode cX10_plan 30 = .ok (.istore 4, 2) := by decide +kernel
theorem dX10_plan_32 : decode cX10_plan 32 = .ok (.iload_n 1, 1) := by decide +kernel
theorem dX10_plan_33 : decode cX10_plan 33 = .ok (.ifCond .lt 17, 3) := by decide +kernel
theorem dX10_plan_36 : decode cX10_plan 36 = .ok (.iload_n 1, 1) := by decide +kernel
theorem dX10_plan_37 : decode cX10_plan 37 = .ok (.iconst 4, 1) := by decide +kernel
theorem dX10_plan_38 : decode cX10_plan 38 = .ok (.if_icmp .ge 12, 3) := by decide +kernel
theorem dX10_plan_41 : decode cX10_plan 41 = .ok (.iload_n 2, 1) := by decide +kernel
theorem dX10_plan_42 : decode cX10_plan 42 = .ok (.ifCond .eq 10, 3) := by decide +kernel
theorem dX10_plan_45 : decode cX10_plan 45 = .ok (.iload 4, 2) := by decide +kernel
theorem dX10_plan_47 : decode cX10_plan 47 = .ok (.ifCond .ne 5, 3) := by decide +kernel
theorem dX10_plan_50 : decode cX10_plan 50 = .ok (.iconst (-1), 1) := by decide +kernel
theorem dX10_plan_51 : decode cX10_plan 51 = .ok (.ireturn, 1) := by decide +kernel
theorem dX10_plan_52 : decode cX10_plan 52 = .ok (.iload_n 3, 1) := by decide +kernel
theorem dX10_plan_53 : decode cX10_plan 53 = .ok (.ifCond .ne 6, 3) := by decide +kernel
theorem dX10_plan_56 : decode cX10_plan 56 = .ok (.bipush (-2), 2) := by decide +kernel
theorem dX10_plan_58 : decode cX10_plan 58 = .ok (.ireturn, 1) := by decide +kernel
theorem dX10_plan_59 : decode cX10_plan 59 = .ok (.aload_n 0, 1) := by decide +kernel
theorem dX10_plan_60 : decode cX10_plan 60 = .ok (.getfield 58, 3) := by decide +kernel
theorem dX10_plan_63 : decode cX10_plan 63 = .ok (.iload_n 1, 1) := by decide +kernel
theorem dX10_plan_64 : decode cX10_plan 64 = .ok (.invokevirtual 271, 3) := by decide +kernel
theorem dX10_plan_67 : decode cX10_plan 67 = .ok (.istore 5, 2) := by decide +kernel
theorem dX10_plan_69 : decode cX10_plan 69 = .ok (.iload_n 2, 1) := by decide +kernel
theorem dX10_plan_70 : decode cX10_plan 70 = .ok (.ifCond .ne 8, 3) := by decide +kernel
theorem dX10_plan_73 : decode cX10_plan 73 = .ok (.iload 5, 2) := by decide +kernel
theorem dX10_plan_75 : decode cX10_plan 75 = .ok (.goto 14, 3) := by decide +kernel
theorem dX10_plan_78 : decode cX10_plan 78 = .ok (.aload_n 0, 1) := by decide +kernel
theorem dX10_plan_79 : decode cX10_plan 79 = .ok (.getfield 58, 3) := by decide +kernel
theorem dX10_plan_82 : decode cX10_plan 82 = .ok (.iload_n 2, 1) := by decide +kernel
theorem dX10_plan_83 : decode cX10_plan 83 = .ok (.bipush 10, 2) := by decide +kernel
theorem dX10_plan_85 : decode cX10_plan 85 = .ok (.isub, 1) := by decide +kernel
theorem dX10_plan_86 : decode cX10_plan 86 = .ok (.invokevirtual 274, 3) := by decide +kernel
theorem dX10_plan_89 : decode cX10_plan 89 = .ok (.ireturn, 1) := by decide +kernel
theorem dX10_cannot_0 : decode cX10_cannot 0 = .ok (.iload_n 1, 1) := by decide +kernel
theorem dX10_cannot_1 : decode cX10_cannot 1 = .ok (.ifCond .lt 8, 3) := by decide +kernel
theorem dX10_cannot_4 : decode cX10_cannot 4 = .ok (.iload_n 1, 1) := by decide +kernel
theorem dX10_cannot_5 : decode cX10_cannot 5 = .ok (.iconst 1, 1) := by decide +kernel
theorem dX10_cannot_6 : decode cX10_cannot 6 = .ok (.if_icmp .le 5, 3) := by decide +kernel
theorem dX10_cannot_9 : decode cX10_cannot 9 = .ok (.iconst (-1), 1) := by decide +kernel
theorem dX10_cannot_10 : decode cX10_cannot 10 = .ok (.ireturn, 1) := by decide +kernel
theorem dX10_cannot_11 : decode cX10_cannot 11 = .ok (.iload_n 1, 1) := by decide +kernel
theorem dX10_cannot_12 : decode cX10_cannot 12 = .ok (.ifCond .ne 13, 3) := by decide +kernel
theorem dX10_cannot_15 : decode cX10_cannot 15 = .ok (.aload_n 0, 1) := by decide +kernel
theorem dX10_cannot_16 : decode cX10_cannot 16 = .ok (.getfield 58, 3) := by decide +kernel
theorem dX10_cannot_19 : decode cX10_cannot 19 = .ok (.invokevirtual 277, 3) := by decide +kernel
theorem dX10_cannot_22 : decode cX10_cannot 22 = .ok (.goto 10, 3) := by decide +kernel
theorem dX10_cannot_25 : decode cX10_cannot 25 = .ok (.aload_n 0, 1) := by decide +kernel
theorem dX10_cannot_26 : decode cX10_cannot 26 = .ok (.getfield 58, 3) := by decide +kernel
theorem dX10_cannot_29 : decode cX10_cannot 29 = .ok (.invokevirtual 280, 3) := by decide +kernel
theorem dX10_cannot_32 : decode cX10_cannot 32 = .ok (.ireturn, 1) := by decide +kernel
theorem dX10_fire_0 : decode cX10_fire 0 = .ok (.aload_n 0, 1) := by decide +kernel
theorem dX10_fire_1 : decode cX10_fire 1 = .ok (.getfield 19, 3) := by decide +kernel
theorem dX10_fire_4 : decode cX10_fire 4 = .ok (.iload_n 1, 1) := by decide +kernel
theorem dX10_fire_5 : decode cX10_fire 5 = .ok (.iload_n 2, 1) := by decide +kernel
theorem dX10_fire_6 : decode cX10_fire 6 = .ok (.invokevirtual 173, 3) := by decide +kernel
theorem dX10_fire_9 : decode cX10_fire 9 = .ok (.ifCond .eq 12, 3) := by decide +kernel
theorem dX10_fire_12 : decode cX10_fire 12 = .ok (.iload_n 3, 1) := by decide +kernel
theorem dX10_fire_13 : decode cX10_fire 13 = .ok (.ifCond .lt 8, 3) := by decide +kernel
theorem dX10_fire_16 : decode cX10_fire 16 = .ok (.iload_n 3, 1) := by decide +kernel
theorem dX10_fire_17 : decode cX10_fire 17 = .ok (.iconst 1, 1) := by decide +kernel
theorem dX10_fire_18 : decode cX10_fire 18 = .ok (.if_icmp .le 5, 3) := by decide +kernel
theorem dX10_fire_21 : decode cX10_fire 21 = .ok (.iconst (-1), 1) := by decide +kernel
theorem dX10_fire_22 : decode cX10_fire 22 = .ok (.ireturn, 1) := by decide +kernel
theorem dX10_fire_23 : decode cX10_fire 23 = .ok (.aload_n 0, 1) := by decide +kernel
theorem dX10_fire_24 : decode cX10_fire 24 = .ok (.getfield 26, 3) := by decide +kernel
theorem dX10_fire_27 : decode cX10_fire 27 = .ok (.iload_n 1, 1) := by decide +kernel
theorem dX10_fire_28 : decode cX10_fire 28 = .ok (.iload_n 2, 1) := by decide +kernel
theorem dX10_fire_29 : decode cX10_fire 29 = .ok (.invokevirtual 283, 3) := by decide +kernel
theorem dX10_fire_32 : decode cX10_fire 32 = .ok (.istore 4, 2) := by decide +kernel
theorem dX10_fire_34 : decode cX10_fire 34 = .ok (.iload 4, 2) := by decide +kernel
theorem dX10_fire_36 : decode cX10_fire 36 = .ok (.ifCond .ne 6, 3) := by decide +kernel
theorem dX10_fire_39 : decode cX10_fire 39 = .ok (.bipush (-2), 2) := by decide +kernel
theorem dX10_fire_41 : decode cX10_fire 41 = .ok (.ireturn, 1) := by decide +kernel
theorem dX10_fire_42 : decode cX10_fire 42 = .ok (.aload_n 0, 1) := by decide +kernel
theorem dX10_fire_43 : decode cX10_fire 43 = .ok (.getfield 19, 3) := by decide +kernel
theorem dX10_fire_46 : decode cX10_fire 46 = .ok (.iload_n 1, 1) := by decide +kernel
theorem dX10_fire_47 : decode cX10_fire 47 = .ok (.iload 4, 2) := by decide +kernel
theorem dX10_fire_49 : decode cX10_fire 49 = .ok (.invokevirtual 147, 3) := by decide +kernel
theorem dX10_fire_52 : decode cX10_fire 52 = .ok (.istore 5, 2) := by decide +kernel
theorem dX10_fire_54 : decode cX10_fire 54 = .ok (.aload_n 0, 1) := by decide +kernel
theorem dX10_fire_55 : decode cX10_fire 55 = .ok (.iload_n 1, 1) := by decide +kernel
theorem dX10_fire_56 : decode cX10_fire 56 = .ok (.iload_n 2, 1) := by decide +kernel
theorem dX10_fire_57 : decode cX10_fire 57 = .ok (.iload 4, 2) := by decide +kernel
theorem dX10_fire_59 : decode cX10_fire 59 = .ok (.invokevirtual 286, 3) := by decide +kernel
theorem dX10_fire_62 : decode cX10_fire 62 = .ok (.istore 6, 2) := by decide +kernel
theorem dX10_fire_64 : decode cX10_fire 64 = .ok (.iload_n 3, 1) := by decide +kernel
theorem dX10_fire_65 : decode cX10_fire 65 = .ok (.ifCond .ne 16, 3) := by decide +kernel
theorem dX10_fire_68 : decode cX10_fire 68 = .ok (.iload 5, 2) := by decide +kernel
theorem dX10_fire_70 : decode cX10_fire 70 = .ok (.iload 6, 2) := by decide +kernel
theorem dX10_fire_72 : decode cX10_fire 72 = .ok (.if_icmp .gt 7, 3) := by decide +kernel
theorem dX10_fire_75 : decode cX10_fire 75 = .ok (.iconst 1, 1) := by decide +kernel
theorem dX10_fire_76 : decode cX10_fire 76 = .ok (.goto 4, 3) := by decide +kernel
theorem dX10_fire_79 : decode cX10_fire 79 = .ok (.iconst 0, 1) := by decide +kernel
theorem dX10_fire_80 : decode cX10_fire 80 = .ok (.ireturn, 1) := by decide +kernel
theorem dX10_fire_81 : decode cX10_fire 81 = .ok (.iload 5, 2) := by decide +kernel
theorem dX10_fire_83 : decode cX10_fire 83 = .ok (.iload 6, 2) := by decide +kernel
theorem dX10_fire_85 : decode cX10_fire 85 = .ok (.invokestatic 289, 3) := by decide +kernel
theorem dX10_fire_88 : decode cX10_fire 88 = .ok (.ireturn, 1) := by decide +kernel
theorem dX10_lossOfBoth_0 : decode cX10_lossOfBoth 0 = .ok (.aload_n 0, 1) := by decide +kernel
theorem dX10_lossOfBoth_1 : decode cX10_lossOfBoth 1 = .ok (.getfield 19, 3) := by decide +kernel
theorem dX10_lossOfBoth_4 : decode cX10_lossOfBoth 4 = .ok (.iload_n 1, 1) := by decide +kernel
theorem dX10_lossOfBoth_5 : decode cX10_lossOfBoth 5 = .ok (.iload_n 3, 1) := by decide +kernel
theorem dX10_lossOfBoth_6 : decode cX10_lossOfBoth 6 = .ok (.invokevirtual 151, 3) := by decide +kernel
theorem dX10_lossOfBoth_9 : decode cX10_lossOfBoth 9 = .ok (.istore 4, 2) := by decide +kernel
theorem dX10_lossOfBoth_11 : decode cX10_lossOfBoth 11 = .ok (.aload_n 0, 1) := by decide +kernel
theorem dX10_lossOfBoth_12 : decode cX10_lossOfBoth 12 = .ok (.getfield 19, 3) := by decide +kernel
theorem dX10_lossOfBoth_15 : decode cX10_lossOfBoth 15 = .ok (.iload_n 1, 1) := by decide +kernel
theorem dX10_lossOfBoth_16 : decode cX10_lossOfBoth 16 = .ok (.iload_n 2, 1) := by decide +kernel
theorem dX10_lossOfBoth_17 : decode cX10_lossOfBoth 17 = .ok (.invokevirtual 183, 3) := by decide +kernel
theorem dX10_lossOfBoth_20 : decode cX10_lossOfBoth 20 = .ok (.istore 5, 2) := by decide +kernel
theorem dX10_lossOfBoth_22 : decode cX10_lossOfBoth 22 = .ok (.iload 5, 2) := by decide +kernel
theorem dX10_lossOfBoth_24 : decode cX10_lossOfBoth 24 = .ok (.bipush (-4), 2) := by decide +kernel
theorem dX10_lossOfBoth_26 : decode cX10_lossOfBoth 26 = .ok (.if_icmp .ne 6, 3) := by decide +kernel
theorem dX10_lossOfBoth_29 : decode cX10_lossOfBoth 29 = .ok (.iload 4, 2) := by decide +kernel
theorem dX10_lossOfBoth_31 : decode cX10_lossOfBoth 31 = .ok (.ireturn, 1) := by decide +kernel
theorem dX10_lossOfBoth_32 : decode cX10_lossOfBoth 32 = .ok (.aload_n 0, 1) := by decide +kernel
theorem dX10_lossOfBoth_33 : decode cX10_lossOfBoth 33 = .ok (.getfield 19, 3) := by decide +kernel
theorem dX10_lossOfBoth_36 : decode cX10_lossOfBoth 36 = .ok (.getfield 122, 3) := by decide +kernel
theorem dX10_lossOfBoth_39 : decode cX10_lossOfBoth 39 = .ok (.iload 4, 2) := by decide +kernel
theorem dX10_lossOfBoth_41 : decode cX10_lossOfBoth 41 = .ok (.iadd, 1) := by decide +kernel
theorem dX10_lossOfBoth_42 : decode cX10_lossOfBoth 42 = .ok (.aload_n 0, 1) := by decide +kernel
theorem dX10_lossOfBoth_43 : decode cX10_lossOfBoth 43 = .ok (.getfield 19, 3) := by decide +kernel
theorem dX10_lossOfBoth_46 : decode cX10_lossOfBoth 46 = .ok (.iconst 1, 1) := by decide +kernel
theorem dX10_lossOfBoth_47 : decode cX10_lossOfBoth 47 = .ok (.iload_n 1, 1) := by decide +kernel
theorem dX10_lossOfBoth_48 : decode cX10_lossOfBoth 48 = .ok (.isub, 1) := by decide +kernel
theorem dX10_lossOfBoth_49 : decode cX10_lossOfBoth 49 = .ok (.aload_n 0, 1) := by decide +kernel
theorem dX10_lossOfBoth_50 : decode cX10_lossOfBoth 50 = .ok (.getfield 26, 3) := by decide +kernel
theorem dX10_lossOfBoth_53 : decode cX10_lossOfBoth 53 = .ok (.iconst 1, 1) := by decide +kernel
theorem dX10_lossOfBoth_54 : decode cX10_lossOfBoth 54 = .ok (.iload_n 1, 1) := by decide +kernel
theorem dX10_lossOfBoth_55 : decode cX10_lossOfBoth 55 = .ok (.isub, 1) := by decide +kernel
theorem dX10_lossOfBoth_56 : decode cX10_lossOfBoth 56 = .ok (.iload 5, 2) := by decide +kernel
theorem dX10_lossOfBoth_58 : decode cX10_lossOfBoth 58 = .ok (.invokevirtual 283, 3) := by decide +kernel
theorem dX10_lossOfBoth_61 : decode cX10_lossOfBoth 61 = .ok (.invokevirtual 151, 3) := by decide +kernel
theorem dX10_lossOfBoth_64 : decode cX10_lossOfBoth 64 = .ok (.iadd, 1) := by decide +kernel
theorem dX10_lossOfBoth_65 : decode cX10_lossOfBoth 65 = .ok (.ireturn, 1) := by decide +kernel
theorem dX10_quarrel_0 : decode cX10_quarrel 0 = .ok (.iload_n 1, 1) := by decide +kernel
theorem dX10_quarrel_1 : decode cX10_quarrel 1 = .ok (.ifCond .lt 9, 3) := by decide +kernel
theorem dX10_quarrel_4 : decode cX10_quarrel 4 = .ok (.iload_n 1, 1) := by decide +kernel
theorem dX10_quarrel_5 : decode cX10_quarrel 5 = .ok (.bipush 6, 2) := by decide +kernel
theorem dX10_quarrel_7 : decode cX10_quarrel 7 = .ok (.if_icmp .le 7, 3) := by decide +kernel
theorem dX10_quarrel_10 : decode cX10_quarrel 10 = .ok (.iconst (-1), 1) := by decide +kernel
theorem dX10_quarrel_11 : decode cX10_quarrel 11 = .ok (.goto 8, 3) := by decide +kernel
theorem dX10_quarrel_14 : decode cX10_quarrel 14 = .ok (.aload_n 0, 1) := by decide +kernel
theorem dX10_quarrel_15 : decode cX10_quarrel 15 = .ok (.iload_n 1, 1) := by decide +kernel
theorem dX10_quarrel_16 : decode cX10_quarrel 16 = .ok (.invokevirtual 294, 3) := by decide +kernel
theorem dX10_quarrel_19 : decode cX10_quarrel 19 = .ok (.ireturn, 1) := by decide +kernel
theorem dX10_quarrelBy_0 : decode cX10_quarrelBy 0 = .ok (.iconst 0, 1) := by decide +kernel
theorem dX10_quarrelBy_1 : decode cX10_quarrelBy 1 = .ok (.istore_n 2, 1) := by decide +kernel
theorem dX10_quarrelBy_2 : decode cX10_quarrelBy 2 = .ok (.iconst 0, 1) := by decide +kernel
theorem dX10_quarrelBy_3 : decode cX10_quarrelBy 3 = .ok (.istore_n 3, 1) := by decide +kernel
theorem dX10_quarrelBy_4 : decode cX10_quarrelBy 4 = .ok (.iload_n 3, 1) := by decide +kernel
theorem dX10_quarrelBy_5 : decode cX10_quarrelBy 5 = .ok (.aload_n 0, 1) := by decide +kernel
theorem dX10_quarrelBy_6 : decode cX10_quarrelBy 6 = .ok (.getfield 19, 3) := by decide +kernel
theorem dX10_quarrelBy_9 : decode cX10_quarrelBy 9 = .ok (.getfield 116, 3) := by decide +kernel
theorem dX10_quarrelBy_12 : decode cX10_quarrelBy 12 = .ok (.if_icmp .ge 113, 3) := by decide +kernel
theorem dX10_quarrelBy_15 : decode cX10_quarrelBy 15 = .ok (.aload_n 0, 1) := by decide +kernel
theorem dX10_quarrelBy_16 : decode cX10_quarrelBy 16 = .ok (.getfield 19, 3) := by decide +kernel
theorem dX10_quarrelBy_19 : decode cX10_quarrelBy 19 = .ok (.iload_n 1, 1) := by decide +kernel
theorem dX10_quarrelBy_20 : decode cX10_quarrelBy 20 = .ok (.iconst 0, 1) := by decide +kernel
theorem dX10_quarrelBy_21 : decode cX10_quarrelBy 21 = .ok (.iload_n 3, 1) := by decide +kernel
theorem dX10_quarrelBy_22 : decode cX10_quarrelBy 22 = .ok (.invokevirtual 297, 3) := by decide +kernel
theorem dX10_quarrelBy_25 : decode cX10_quarrelBy 25 = .ok (.istore 4, 2) := by decide +kernel
theorem dX10_quarrelBy_27 : decode cX10_quarrelBy 27 = .ok (.iload 4, 2) := by decide +kernel
theorem dX10_quarrelBy_29 : decode cX10_quarrelBy 29 = .ok (.bipush (-4), 2) := by decide +kernel
theorem dX10_quarrelBy_31 : decode cX10_quarrelBy 31 = .ok (.if_icmp .ne 26, 3) := by decide +kernel
theorem dX10_quarrelBy_34 : decode cX10_quarrelBy 34 = .ok (.iload_n 2, 1) := by decide +kernel
theorem dX10_quarrelBy_35 : decode cX10_quarrelBy 35 = .ok (.aload_n 0, 1) := by decide +kernel
theorem dX10_quarrelBy_36 : decode cX10_quarrelBy 36 = .ok (.getfield 26, 3) := by decide +kernel
theorem dX10_quarrelBy_39 : decode cX10_quarrelBy 39 = .ok (.iconst 0, 1) := by decide +kernel
theorem dX10_quarrelBy_40 : decode cX10_quarrelBy 40 = .ok (.iload_n 3, 1) := by decide +kernel
theorem dX10_quarrelBy_41 : decode cX10_quarrelBy 41 = .ok (.invokevirtual 283, 3) := by decide +kernel
theorem dX10_quarrelBy_44 : decode cX10_quarrelBy 44 = .ok (.ifCond .ne 7, 3) := by decide +kernel
theorem dX10_quarrelBy_47 : decode cX10_quarrelBy 47 = .ok (.iconst 0, 1) := by decide +kernel
theorem dX10_quarrelBy_48 : decode cX10_quarrelBy 48 = .ok (.goto 4, 3) := by decide +kernel
theorem dX10_quarrelBy_51 : decode cX10_quarrelBy 51 = .ok (.iconst 1, 1) := by decide +kernel
theorem dX10_quarrelBy_52 : decode cX10_quarrelBy 52 = .ok (.iadd, 1) := by decide +kernel
theorem dX10_quarrelBy_53 : decode cX10_quarrelBy 53 = .ok (.istore_n 2, 1) := by decide +kernel
theorem dX10_quarrelBy_54 : decode cX10_quarrelBy 54 = .ok (.goto 35, 3) := by decide +kernel
theorem dX10_quarrelBy_57 : decode cX10_quarrelBy 57 = .ok (.aload_n 0, 1) := by decide +kernel
theorem dX10_quarrelBy_58 : decode cX10_quarrelBy 58 = .ok (.getfield 19, 3) := by decide +kernel
theorem dX10_quarrelBy_61 : decode cX10_quarrelBy 61 = .ok (.aload_n 0, 1) := by decide +kernel
theorem dX10_quarrelBy_62 : decode cX10_quarrelBy 62 = .ok (.getfield 26, 3) := by decide +kernel
theorem dX10_quarrelBy_65 : decode cX10_quarrelBy 65 = .ok (.iconst 0, 1) := by decide +kernel
theorem dX10_quarrelBy_66 : decode cX10_quarrelBy 66 = .ok (.iload_n 3, 1) := by decide +kernel
theorem dX10_quarrelBy_67 : decode cX10_quarrelBy 67 = .ok (.invokevirtual 176, 3) := by decide +kernel
theorem dX10_quarrelBy_70 : decode cX10_quarrelBy 70 = .ok (.aload_n 0, 1) := by decide +kernel
theorem dX10_quarrelBy_71 : decode cX10_quarrelBy 71 = .ok (.getfield 26, 3) := by decide +kernel
theorem dX10_quarrelBy_74 : decode cX10_quarrelBy 74 = .ok (.iconst 1, 1) := by decide +kernel
theorem dX10_quarrelBy_75 : decode cX10_quarrelBy 75 = .ok (.iload 4, 2) := by decide +kernel
theorem dX10_quarrelBy_77 : decode cX10_quarrelBy 77 = .ok (.invokevirtual 176, 3) := by decide +kernel
theorem dX10_quarrelBy_80 : decode cX10_quarrelBy 80 = .ok (.invokevirtual 300, 3) := by decide +kernel
theorem dX10_quarrelBy_83 : decode cX10_quarrelBy 83 = .ok (.ifCond .ne 6, 3) := by decide +kernel
theorem dX10_quarrelBy_86 : decode cX10_quarrelBy 86 = .ok (.iinc 2 1, 3) := by decide +kernel
theorem dX10_quarrelBy_89 : decode cX10_quarrelBy 89 = .ok (.aload_n 0, 1) := by decide +kernel
theorem dX10_quarrelBy_90 : decode cX10_quarrelBy 90 = .ok (.getfield 19, 3) := by decide +kernel
theorem dX10_quarrelBy_93 : decode cX10_quarrelBy 93 = .ok (.iload_n 1, 1) := by decide +kernel
theorem dX10_quarrelBy_94 : decode cX10_quarrelBy 94 = .ok (.iconst 1, 1) := by decide +kernel
theorem dX10_quarrelBy_95 : decode cX10_quarrelBy 95 = .ok (.iload_n 3, 1) := by decide +kernel
theorem dX10_quarrelBy_96 : decode cX10_quarrelBy 96 = .ok (.invokevirtual 297, 3) := by decide +kernel
theorem dX10_quarrelBy_99 : decode cX10_quarrelBy 99 = .ok (.bipush (-4), 2) := by decide +kernel
theorem dX10_quarrelBy_101 : decode cX10_quarrelBy 101 = .ok (.if_icmp .ne 18, 3) := by decide +kernel
theorem dX10_quarrelBy_104 : decode cX10_quarrelBy 104 = .ok (.aload_n 0, 1) := by decide +kernel
theorem dX10_quarrelBy_105 : decode cX10_quarrelBy 105 = .ok (.getfield 26, 3) := by decide +kernel
theorem dX10_quarrelBy_108 : decode cX10_quarrelBy 108 = .ok (.iconst 1, 1) := by decide +kernel
theorem dX10_quarrelBy_109 : decode cX10_quarrelBy 109 = .ok (.iload_n 3, 1) := by decide +kernel
theorem dX10_quarrelBy_110 : decode cX10_quarrelBy 110 = .ok (.invokevirtual 283, 3) := by decide +kernel
theorem dX10_quarrelBy_113 : decode cX10_quarrelBy 113 = .ok (.ifCond .eq 6, 3) := by decide +kernel
theorem dX10_quarrelBy_116 : decode cX10_quarrelBy 116 = .ok (.iinc 2 1, 3) := by decide +kernel
theorem dX10_quarrelBy_119 : decode cX10_quarrelBy 119 = .ok (.iinc 3 1, 3) := by decide +kernel
theorem dX10_quarrelBy_122 : decode cX10_quarrelBy 122 = .ok (.goto (-118), 3) := by decide +kernel
theorem dX10_quarrelBy_125 : decode cX10_quarrelBy 125 = .ok (.iload_n 2, 1) := by decide +kernel
theorem dX10_quarrelBy_126 : decode cX10_quarrelBy 126 = .ok (.ireturn, 1) := by decide +kernel
theorem dX10_bend_0 : decode cX10_bend 0 = .ok (.iconst 0, 1) := by decide +kernel
theorem dX10_bend_1 : decode cX10_bend 1 = .ok (.istore_n 1, 1) := by decide +kernel
theorem dX10_bend_2 : decode cX10_bend 2 = .ok (.aload_n 0, 1) := by decide +kernel
theorem dX10_bend_3 : decode cX10_bend 3 = .ok (.iconst 0, 1) := by decide +kernel
theorem dX10_bend_4 : decode cX10_bend 4 = .ok (.invokevirtual 294, 3) := by decide +kernel
theorem dX10_bend_7 : decode cX10_bend 7 = .ok (.istore_n 2, 1) := by decide +kernel
theorem dX10_bend_8 : decode cX10_bend 8 = .ok (.iconst 1, 1) := by decide +kernel
theorem dX10_bend_9 : decode cX10_bend 9 = .ok (.istore_n 3, 1) := by decide +kernel
theorem dX10_bend_10 : decode cX10_bend 10 = .ok (.iload_n 3, 1) := by decide +kernel
theorem dX10_bend_11 : decode cX10_bend 11 = .ok (.bipush 6, 2) := by decide +kernel
theorem dX10_bend_13 : decode cX10_bend 13 = .ok (.if_icmp .gt 27, 3) := by decide +kernel
theorem dX10_bend_16 : decode cX10_bend 16 = .ok (.aload_n 0, 1) := by decide +kernel
theorem dX10_bend_17 : decode cX10_bend 17 = .ok (.iload_n 3, 1) := by decide +kernel
theorem dX10_bend_18 : decode cX10_bend 18 = .ok (.invokevirtual 294, 3) := by decide +kernel
theorem dX10_bend_21 : decode cX10_bend 21 = .ok (.istore 4, 2) := by decide +kernel
theorem dX10_bend_23 : decode cX10_bend 23 = .ok (.iload 4, 2) := by decide +kernel
theorem dX10_bend_25 : decode cX10_bend 25 = .ok (.iload_n 2, 1) := by decide +kernel
theorem dX10_bend_26 : decode cX10_bend 26 = .ok (.if_icmp .ge 8, 3) := by decide +kernel
theorem dX10_bend_29 : decode cX10_bend 29 = .ok (.iload 4, 2) := by decide +kernel
theorem dX10_bend_31 : decode cX10_bend 31 = .ok (.istore_n 2, 1) := by decide +kernel
theorem dX10_bend_32 : decode cX10_bend 32 = .ok (.iload_n 3, 1) := by decide +kernel
theorem dX10_bend_33 : decode cX10_bend 33 = .ok (.istore_n 1, 1) := by decide +kernel
theorem dX10_bend_34 : decode cX10_bend 34 = .ok (.iinc 3 1, 3) := by decide +kernel
theorem dX10_bend_37 : decode cX10_bend 37 = .ok (.goto (-27), 3) := by decide +kernel
theorem dX10_bend_40 : decode cX10_bend 40 = .ok (.iload_n 1, 1) := by decide +kernel
theorem dX10_bend_41 : decode cX10_bend 41 = .ok (.ireturn, 1) := by decide +kernel
theorem dX10_shops_0 : decode cX10_shops 0 = .ok (.iload_n 1, 1) := by decide +kernel
theorem dX10_shops_1 : decode cX10_shops 1 = .ok (.invokestatic 201, 3) := by decide +kernel
theorem dX10_shops_4 : decode cX10_shops 4 = .ok (.ifCond .eq 12, 3) := by decide +kernel
theorem dX10_shops_7 : decode cX10_shops 7 = .ok (.iload_n 2, 1) := by decide +kernel
theorem dX10_shops_8 : decode cX10_shops 8 = .ok (.ifCond .lt 8, 3) := by decide +kernel
theorem dX10_shops_11 : decode cX10_shops 11 = .ok (.iload_n 2, 1) := by decide +kernel
theorem dX10_shops_12 : decode cX10_shops 12 = .ok (.iconst 1, 1) := by decide +kernel
theorem dX10_shops_13 : decode cX10_shops 13 = .ok (.if_icmp .le 5, 3) := by decide +kernel
theorem dX10_shops_16 : decode cX10_shops 16 = .ok (.iconst (-1), 1) := by decide +kernel
theorem dX10_shops_17 : decode cX10_shops 17 = .ok (.ireturn, 1) := by decide +kernel
theorem dX10_shops_18 : decode cX10_shops 18 = .ok (.iconst 0, 1) := by decide +kernel
theorem dX10_shops_19 : decode cX10_shops 19 = .ok (.istore_n 3, 1) := by decide +kernel
theorem dX10_shops_20 : decode cX10_shops 20 = .ok (.iconst 0, 1) := by decide +kernel
theorem dX10_shops_21 : decode cX10_shops 21 = .ok (.istore 4, 2) := by decide +kernel
theorem dX10_shops_23 : decode cX10_shops 23 = .ok (.iload 4, 2) := by decide +kernel
theorem dX10_shops_25 : decode cX10_shops 25 = .ok (.aload_n 0, 1) := by decide +kernel
theorem dX10_shops_26 : decode cX10_shops 26 = .ok (.getfield 19, 3) := by decide +kernel
theorem dX10_shops_29 : decode cX10_shops 29 = .ok (.getfield 116, 3) := by decide +kernel
theorem dX10_shops_32 : decode cX10_shops 32 = .ok (.if_icmp .ge 30, 3) := by decide +kernel
theorem dX10_shops_35 : decode cX10_shops 35 = .ok (.aload_n 0, 1) := by decide +kernel
theorem dX10_shops_36 : decode cX10_shops 36 = .ok (.getfield 26, 3) := by decide +kernel
theorem dX10_shops_39 : decode cX10_shops 39 = .ok (.iload_n 1, 1) := by decide +kernel
theorem dX10_shops_40 : decode cX10_shops 40 = .ok (.iload 4, 2) := by decide +kernel
theorem dX10_shops_42 : decode cX10_shops 42 = .ok (.invokevirtual 283, 3) := by decide +kernel
theorem dX10_shops_45 : decode cX10_shops 45 = .ok (.iconst 3, 1) := by decide +kernel
theorem dX10_shops_46 : decode cX10_shops 46 = .ok (.if_icmp .ne 10, 3) := by decide +kernel
theorem dX10_shops_49 : decode cX10_shops 49 = .ok (.iload_n 3, 1) := by decide +kernel
theorem dX10_shops_50 : decode cX10_shops 50 = .ok (.iconst 1, 1) := by decide +kernel
theorem dX10_shops_51 : decode cX10_shops 51 = .ok (.iload 4, 2) := by decide +kernel
theorem dX10_shops_53 : decode cX10_shops 53 = .ok (.ishl, 1) := by decide +kernel
theorem dX10_shops_54 : decode cX10_shops 54 = .ok (.ior, 1) := by decide +kernel
theorem dX10_shops_55 : decode cX10_shops 55 = .ok (.istore_n 3, 1) := by decide +kernel
theorem dX10_shops_56 : decode cX10_shops 56 = .ok (.iinc 4 1, 3) := by decide +kernel
theorem dX10_shops_59 : decode cX10_shops 59 = .ok (.goto (-36), 3) := by decide +kernel
theorem dX10_shops_62 : decode cX10_shops 62 = .ok (.iload_n 2, 1) := by decide +kernel
theorem dX10_shops_63 : decode cX10_shops 63 = .ok (.ifCond .ne 15, 3) := by decide +kernel
theorem dX10_shops_66 : decode cX10_shops 66 = .ok (.iload_n 3, 1) := by decide +kernel
theorem dX10_shops_67 : decode cX10_shops 67 = .ok (.iload_n 3, 1) := by decide +kernel
theorem dX10_shops_68 : decode cX10_shops 68 = .ok (.iconst 1, 1) := by decide +kernel
theorem dX10_shops_69 : decode cX10_shops 69 = .ok (.ishl, 1) := by decide +kernel
theorem dX10_shops_70 : decode cX10_shops 70 = .ok (.iload_n 3, 1) := by decide +kernel
theorem dX10_shops_71 : decode cX10_shops 71 = .ok (.iconst 1, 1) := by decide +kernel
theorem dX10_shops_72 : decode cX10_shops 72 = .ok (.ishr, 1) := by decide +kernel
theorem dX10_shops_73 : decode cX10_shops 73 = .ok (.ior, 1) := by decide +kernel
theorem dX10_shops_74 : decode cX10_shops 74 = .ok (.iand, 1) := by decide +kernel
theorem dX10_shops_75 : decode cX10_shops 75 = .ok (.goto 7, 3) := by decide +kernel
theorem dX10_shops_78 : decode cX10_shops 78 = .ok (.iload_n 3, 1) := by decide +kernel
theorem dX10_shops_79 : decode cX10_shops 79 = .ok (.invokestatic 303, 3) := by decide +kernel
theorem dX10_shops_82 : decode cX10_shops 82 = .ok (.ireturn, 1) := by decide +kernel
theorem dX10_fewestToGo_0 : decode cX10_fewestToGo 0 = .ok (.iload_n 0, 1) := by decide +kernel
theorem dX10_fewestToGo_1 : decode cX10_fewestToGo 1 = .ok (.istore_n 1, 1) := by decide +kernel
theorem dX10_fewestToGo_2 : decode cX10_fewestToGo 2 = .ok (.iconst 0, 1) := by decide +kernel
theorem dX10_fewestToGo_3 : decode cX10_fewestToGo 3 = .ok (.istore_n 2, 1) := by decide +kernel
theorem dX10_fewestToGo_4 : decode cX10_fewestToGo 4 = .ok (.iconst 1, 1) := by decide +kernel
theorem dX10_fewestToGo_5 : decode cX10_fewestToGo 5 = .ok (.istore_n 3, 1) := by decide +kernel
theorem dX10_fewestToGo_6 : decode cX10_fewestToGo 6 = .ok (.iload_n 3, 1) := by decide +kernel
theorem dX10_fewestToGo_7 : decode cX10_fewestToGo 7 = .ok (.bipush 8, 2) := by decide +kernel
theorem dX10_fewestToGo_9 : decode cX10_fewestToGo 9 = .ok (.if_icmp .ge 31, 3) := by decide +kernel
theorem dX10_fewestToGo_12 : decode cX10_fewestToGo 12 = .ok (.iload_n 1, 1) := by decide +kernel
theorem dX10_fewestToGo_13 : decode cX10_fewestToGo 13 = .ok (.iload_n 3, 1) := by decide +kernel
theorem dX10_fewestToGo_14 : decode cX10_fewestToGo 14 = .ok (.iconst 1, 1) := by decide +kernel
theorem dX10_fewestToGo_15 : decode cX10_fewestToGo 15 = .ok (.isub, 1) := by decide +kernel
theorem dX10_fewestToGo_16 : decode cX10_fewestToGo 16 = .ok (.ishr, 1) := by decide +kernel
theorem dX10_fewestToGo_17 : decode cX10_fewestToGo 17 = .ok (.iconst 3, 1) := by decide +kernel
theorem dX10_fewestToGo_18 : decode cX10_fewestToGo 18 = .ok (.iand, 1) := by decide +kernel
theorem dX10_fewestToGo_19 : decode cX10_fewestToGo 19 = .ok (.iconst 3, 1) := by decide +kernel
theorem dX10_fewestToGo_20 : decode cX10_fewestToGo 20 = .ok (.if_icmp .ne 14, 3) := by decide +kernel
theorem dX10_fewestToGo_23 : decode cX10_fewestToGo 23 = .ok (.iload_n 1, 1) := by decide +kernel
theorem dX10_fewestToGo_24 : decode cX10_fewestToGo 24 = .ok (.iconst 1, 1) := by decide +kernel
theorem dX10_fewestToGo_25 : decode cX10_fewestToGo 25 = .ok (.iload_n 3, 1) := by decide +kernel
theorem dX10_fewestToGo_26 : decode cX10_fewestToGo 26 = .ok (.ishl, 1) := by decide +kernel
theorem dX10_fewestToGo_27 : decode cX10_fewestToGo 27 = .ok (.iconst (-1), 1) := by decide +kernel
theorem dX10_fewestToGo_28 : decode cX10_fewestToGo 28 = .ok (.ixor, 1) := by decide +kernel
theorem dX10_fewestToGo_29 : decode cX10_fewestToGo 29 = .ok (.iand, 1) := by decide +kernel
theorem dX10_fewestToGo_30 : decode cX10_fewestToGo 30 = .ok (.istore_n 1, 1) := by decide +kernel
theorem dX10_fewestToGo_31 : decode cX10_fewestToGo 31 = .ok (.iinc 2 1, 3) := by decide +kernel
theorem dX10_fewestToGo_34 : decode cX10_fewestToGo 34 = .ok (.iinc 3 1, 3) := by decide +kernel
theorem dX10_fewestToGo_37 : decode cX10_fewestToGo 37 = .ok (.goto (-31), 3) := by decide +kernel
theorem dX10_fewestToGo_40 : decode cX10_fewestToGo 40 = .ok (.iload_n 2, 1) := by decide +kernel
theorem dX10_fewestToGo_41 : decode cX10_fewestToGo 41 = .ok (.ireturn, 1) := by decide +kernel
theorem dX10_saw_0 : decode cX10_saw 0 = .ok (.aload_n 0, 1) := by decide +kernel
theorem dX10_saw_1 : decode cX10_saw 1 = .ok (.getfield 19, 3) := by decide +kernel
theorem dX10_saw_4 : decode cX10_saw 4 = .ok (.iload_n 1, 1) := by decide +kernel
theorem dX10_saw_5 : decode cX10_saw 5 = .ok (.iload_n 2, 1) := by decide +kernel
theorem dX10_saw_6 : decode cX10_saw 6 = .ok (.invokevirtual 173, 3) := by decide +kernel
theorem dX10_saw_9 : decode cX10_saw 9 = .ok (.ifCond .eq 13, 3) := by decide +kernel
theorem dX10_saw_12 : decode cX10_saw 12 = .ok (.iload_n 3, 1) := by decide +kernel
theorem dX10_saw_13 : decode cX10_saw 13 = .ok (.ifCond .lt 9, 3) := by decide +kernel
theorem dX10_saw_16 : decode cX10_saw 16 = .ok (.iload_n 3, 1) := by decide +kernel
theorem dX10_saw_17 : decode cX10_saw 17 = .ok (.bipush 24, 2) := by decide +kernel
theorem dX10_saw_19 : decode cX10_saw 19 = .ok (.if_icmp .lt 5, 3) := by decide +kernel
theorem dX10_saw_22 : decode cX10_saw 22 = .ok (.iconst (-1), 1) := by decide +kernel
theorem dX10_saw_23 : decode cX10_saw 23 = .ok (.ireturn, 1) := by decide +kernel
theorem dX10_saw_24 : decode cX10_saw 24 = .ok (.aload_n 0, 1) := by decide +kernel
theorem dX10_saw_25 : decode cX10_saw 25 = .ok (.getfield 26, 3) := by decide +kernel
theorem dX10_saw_28 : decode cX10_saw 28 = .ok (.getfield 306, 3) := by decide +kernel
theorem dX10_saw_31 : decode cX10_saw 31 = .ok (.invokevirtual 235, 3) := by decide +kernel
theorem dX10_saw_34 : decode cX10_saw 34 = .ok (.ifCond .eq 6, 3) := by decide +kernel
theorem dX10_saw_37 : decode cX10_saw 37 = .ok (.bipush (-3), 2) := by decide +kernel
theorem dX10_saw_39 : decode cX10_saw 39 = .ok (.ireturn, 1) := by decide +kernel
theorem dX10_saw_40 : decode cX10_saw 40 = .ok (.aload_n 0, 1) := by decide +kernel
theorem dX10_saw_41 : decode cX10_saw 41 = .ok (.getfield 26, 3) := by decide +kernel
theorem dX10_saw_44 : decode cX10_saw 44 = .ok (.getfield 306, 3) := by decide +kernel
theorem dX10_saw_47 : decode cX10_saw 47 = .ok (.iload_n 1, 1) := by decide +kernel
theorem dX10_saw_48 : decode cX10_saw 48 = .ok (.iload_n 2, 1) := by decide +kernel
theorem dX10_saw_49 : decode cX10_saw 49 = .ok (.iload_n 3, 1) := by decide +kernel
theorem dX10_saw_50 : decode cX10_saw 50 = .ok (.iload 4, 2) := by decide +kernel
theorem dX10_saw_52 : decode cX10_saw 52 = .ok (.ifCond .eq 7, 3) := by decide +kernel
theorem dX10_saw_55 : decode cX10_saw 55 = .ok (.iconst 1, 1) := by decide +kernel
theorem dX10_saw_56 : decode cX10_saw 56 = .ok (.goto 4, 3) := by decide +kernel
theorem dX10_saw_59 : decode cX10_saw 59 = .ok (.iconst 0, 1) := by decide +kernel
theorem dX10_saw_60 : decode cX10_saw 60 = .ok (.invokevirtual 239, 3) := by decide +kernel
theorem dX10_saw_63 : decode cX10_saw 63 = .ok (.aload_n 0, 1) := by decide +kernel
theorem dX10_saw_64 : decode cX10_saw 64 = .ok (.getfield 26, 3) := by decide +kernel
theorem dX10_saw_67 : decode cX10_saw 67 = .ok (.getfield 306, 3) := by decide +kernel
theorem dX10_saw_70 : decode cX10_saw 70 = .ok (.getfield 129, 3) := by decide +kernel
theorem dX10_saw_73 : decode cX10_saw 73 = .ok (.ireturn, 1) := by decide +kernel
theorem dX10_forget_0 : decode cX10_forget 0 = .ok (.aload_n 0, 1) := by decide +kernel
theorem dX10_forget_1 : decode cX10_forget 1 = .ok (.getfield 26, 3) := by decide +kernel
theorem dX10_forget_4 : decode cX10_forget 4 = .ok (.getfield 306, 3) := by decide +kernel
theorem dX10_forget_7 : decode cX10_forget 7 = .ok (.invokevirtual 268, 3) := by decide +kernel
theorem dX10_forget_10 : decode cX10_forget 10 = .ok (.ireturn, 1) := by decide +kernel
theorem dX10_histories_0 : decode cX10_histories 0 = .ok (.iload_n 1, 1) := by decide +kernel
theorem dX10_histories_1 : decode cX10_histories 1 = .ok (.ifCond .lt 9, 3) := by decide +kernel
theorem dX10_histories_4 : decode cX10_histories 4 = .ok (.iload_n 1, 1) := by decide +kernel
theorem dX10_histories_5 : decode cX10_histories 5 = .ok (.bipush 24, 2) := by decide +kernel
theorem dX10_histories_7 : decode cX10_histories 7 = .ok (.if_icmp .lt 7, 3) := by decide +kernel
theorem dX10_histories_10 : decode cX10_histories 10 = .ok (.ldc2_w 309, 3) := by decide +kernel
theorem dX10_histories_13 : decode cX10_histories 13 = .ok (.lreturn, 1) := by decide +kernel
theorem dX10_histories_14 : decode cX10_histories 14 = .ok (.lconst 1, 1) := by decide +kernel
theorem dX10_histories_15 : decode cX10_histories 15 = .ok (.lstore_n 2, 1) := by decide +kernel
theorem dX10_histories_16 : decode cX10_histories 16 = .ok (.iconst 0, 1) := by decide +kernel
theorem dX10_histories_17 : decode cX10_histories 17 = .ok (.istore 4, 2) := by decide +kernel
theorem dX10_histories_19 : decode cX10_histories 19 = .ok (.iload 4, 2) := by decide +kernel
theorem dX10_histories_21 : decode cX10_histories 21 = .ok (.aload_n 0, 1) := by decide +kernel
theorem dX10_histories_22 : decode cX10_histories 22 = .ok (.getfield 19, 3) := by decide +kernel
theorem dX10_histories_25 : decode cX10_histories 25 = .ok (.getfield 116, 3) := by decide +kernel
theorem dX10_histories_28 : decode cX10_histories 28 = .ok (.if_icmp .ge 42, 3) := by decide +kernel
theorem dX10_histories_31 : decode cX10_histories 31 = .ok (.aload_n 0, 1) := by decide +kernel
theorem dX10_histories_32 : decode cX10_histories 32 = .ok (.getfield 65, 3) := by decide +kernel
theorem dX10_histories_35 : decode cX10_histories 35 = .ok (.iload 4, 2) := by decide +kernel
theorem dX10_histories_37 : decode cX10_histories 37 = .ok (.invokevirtual 311, 3) := by decide +kernel
theorem dX10_histories_40 : decode cX10_histories 40 = .ok (.ifCond .eq 24, 3) := by decide +kernel
theorem dX10_histories_43 : decode cX10_histories 43 = .ok (.aload_n 0, 1) := by decide +kernel
theorem dX10_histories_44 : decode cX10_histories 44 = .ok (.getfield 65, 3) := by decide +kernel
theorem dX10_histories_47 : decode cX10_histories 47 = .ok (.iload 4, 2) := by decide +kernel
theorem dX10_histories_49 : decode cX10_histories 49 = .ok (.iload_n 1, 1) := by decide +kernel
theorem dX10_histories_50 : decode cX10_histories 50 = .ok (.invokevirtual 314, 3) := by decide +kernel
theorem dX10_histories_53 : decode cX10_histories 53 = .ok (.lload_n 2, 1) := by decide +kernel
theorem dX10_histories_54 : decode cX10_histories 54 = .ok (.aload_n 0, 1) := by decide +kernel
theorem dX10_histories_55 : decode cX10_histories 55 = .ok (.getfield 65, 3) := by decide +kernel
theorem dX10_histories_58 : decode cX10_histories 58 = .ok (.getfield 318, 3) := by decide +kernel
theorem dX10_histories_61 : decode cX10_histories 61 = .ok (.i2l, 1) := by decide +kernel
theorem dX10_histories_62 : decode cX10_histories 62 = .ok (.lmul, 1) := by decide +kernel
theorem dX10_histories_63 : decode cX10_histories 63 = .ok (.lstore_n 2, 1) := by decide +kernel
theorem dX10_histories_64 : decode cX10_histories 64 = .ok (.iinc 4 1, 3) := by decide +kernel
theorem dX10_histories_67 : decode cX10_histories 67 = .ok (.goto (-48), 3) := by decide +kernel
theorem dX10_histories_70 : decode cX10_histories 70 = .ok (.lload_n 2, 1) := by decide +kernel
theorem dX10_histories_71 : decode cX10_histories 71 = .ok (.lreturn, 1) := by decide +kernel
theorem dX10_began_0 : decode cX10_began 0 = .ok (.aload_n 0, 1) := by decide +kernel
theorem dX10_began_1 : decode cX10_began 1 = .ok (.getfield 19, 3) := by decide +kernel
theorem dX10_began_4 : decode cX10_began 4 = .ok (.iconst 0, 1) := by decide +kernel
theorem dX10_began_5 : decode cX10_began 5 = .ok (.iload_n 1, 1) := by decide +kernel
theorem dX10_began_6 : decode cX10_began 6 = .ok (.invokevirtual 173, 3) := by decide +kernel
theorem dX10_began_9 : decode cX10_began 9 = .ok (.ifCond .eq 22, 3) := by decide +kernel
theorem dX10_began_12 : decode cX10_began 12 = .ok (.iload_n 2, 1) := by decide +kernel
theorem dX10_began_13 : decode cX10_began 13 = .ok (.ifCond .lt 18, 3) := by decide +kernel
theorem dX10_began_16 : decode cX10_began 16 = .ok (.iload_n 2, 1) := by decide +kernel
theorem dX10_began_17 : decode cX10_began 17 = .ok (.bipush 24, 2) := by decide +kernel
theorem dX10_began_19 : decode cX10_began 19 = .ok (.if_icmp .ge 12, 3) := by decide +kernel
theorem dX10_began_22 : decode cX10_began 22 = .ok (.iload_n 3, 1) := by decide +kernel
theorem dX10_began_23 : decode cX10_began 23 = .ok (.ifCond .lt 8, 3) := by decide +kernel
theorem dX10_began_26 : decode cX10_began 26 = .ok (.iload_n 3, 1) := by decide +kernel
theorem dX10_began_27 : decode cX10_began 27 = .ok (.iconst 2, 1) := by decide +kernel
theorem dX10_began_28 : decode cX10_began 28 = .ok (.if_icmp .le 5, 3) := by decide +kernel
theorem dX10_began_31 : decode cX10_began 31 = .ok (.iconst (-1), 1) := by decide +kernel
theorem dX10_began_32 : decode cX10_began 32 = .ok (.ireturn, 1) := by decide +kernel
theorem dX10_began_33 : decode cX10_began 33 = .ok (.aload_n 0, 1) := by decide +kernel
theorem dX10_began_34 : decode cX10_began 34 = .ok (.getfield 65, 3) := by decide +kernel
theorem dX10_began_37 : decode cX10_began 37 = .ok (.iload_n 1, 1) := by decide +kernel
theorem dX10_began_38 : decode cX10_began 38 = .ok (.invokevirtual 311, 3) := by decide +kernel
theorem dX10_began_41 : decode cX10_began 41 = .ok (.ifCond .ne 6, 3) := by decide +kernel
theorem dX10_began_44 : decode cX10_began 44 = .ok (.bipush (-2), 2) := by decide +kernel
theorem dX10_began_46 : decode cX10_began 46 = .ok (.ireturn, 1) := by decide +kernel
theorem dX10_began_47 : decode cX10_began 47 = .ok (.aload_n 0, 1) := by decide +kernel
theorem dX10_began_48 : decode cX10_began 48 = .ok (.getfield 65, 3) := by decide +kernel
theorem dX10_began_51 : decode cX10_began 51 = .ok (.iload_n 1, 1) := by decide +kernel
theorem dX10_began_52 : decode cX10_began 52 = .ok (.iload_n 2, 1) := by decide +kernel
theorem dX10_began_53 : decode cX10_began 53 = .ok (.invokevirtual 314, 3) := by decide +kernel
theorem dX10_began_56 : decode cX10_began 56 = .ok (.aload_n 0, 1) := by decide +kernel
theorem dX10_began_57 : decode cX10_began 57 = .ok (.getfield 65, 3) := by decide +kernel
theorem dX10_began_60 : decode cX10_began 60 = .ok (.getfield 318, 3) := by decide +kernel
theorem dX10_began_63 : decode cX10_began 63 = .ok (.ifCond .ne 6, 3) := by decide +kernel
theorem dX10_began_66 : decode cX10_began 66 = .ok (.bipush (-4), 2) := by decide +kernel
theorem dX10_began_68 : decode cX10_began 68 = .ok (.ireturn, 1) := by decide +kernel
theorem dX10_began_69 : decode cX10_began 69 = .ok (.iload_n 3, 1) := by decide +kernel
theorem dX10_began_70 : decode cX10_began 70 = .ok (.ifCond .ne 11, 3) := by decide +kernel
theorem dX10_began_73 : decode cX10_began 73 = .ok (.aload_n 0, 1) := by decide +kernel
theorem dX10_began_74 : decode cX10_began 74 = .ok (.getfield 65, 3) := by decide +kernel
theorem dX10_began_77 : decode cX10_began 77 = .ok (.invokevirtual 321, 3) := by decide +kernel
theorem dX10_began_80 : decode cX10_began 80 = .ok (.ireturn, 1) := by decide +kernel
theorem dX10_began_81 : decode cX10_began 81 = .ok (.iload_n 3, 1) := by decide +kernel
theorem dX10_began_82 : decode cX10_began 82 = .ok (.iconst 1, 1) := by decide +kernel
theorem dX10_began_83 : decode cX10_began 83 = .ok (.if_icmp .ne 13, 3) := by decide +kernel
theorem dX10_began_86 : decode cX10_began 86 = .ok (.aload_n 0, 1) := by decide +kernel
theorem dX10_began_87 : decode cX10_began 87 = .ok (.getfield 65, 3) := by decide +kernel
theorem dX10_began_90 : decode cX10_began 90 = .ok (.getfield 324, 3) := by decide +kernel
theorem dX10_began_93 : decode cX10_began 93 = .ok (.goto 10, 3) := by decide +kernel
theorem dX10_began_96 : decode cX10_began 96 = .ok (.aload_n 0, 1) := by decide +kernel
theorem dX10_began_97 : decode cX10_began 97 = .ok (.getfield 65, 3) := by decide +kernel
theorem dX10_began_100 : decode cX10_began 100 = .ok (.getfield 327, 3) := by decide +kernel
theorem dX10_began_103 : decode cX10_began 103 = .ok (.ireturn, 1) := by decide +kernel
theorem dX10_keep_0 : decode cX10_keep 0 = .ok (.iload_n 1, 1) := by decide +kernel
theorem dX10_keep_1 : decode cX10_keep 1 = .ok (.ifCond .lt 8, 3) := by decide +kernel
theorem dX10_keep_4 : decode cX10_keep 4 = .ok (.iload_n 1, 1) := by decide +kernel
theorem dX10_keep_5 : decode cX10_keep 5 = .ok (.iconst 2, 1) := by decide +kernel
theorem dX10_keep_6 : decode cX10_keep 6 = .ok (.if_icmp .lt 5, 3) := by decide +kernel
theorem dX10_keep_9 : decode cX10_keep 9 = .ok (.iconst (-1), 1) := by decide +kernel
theorem dX10_keep_10 : decode cX10_keep 10 = .ok (.ireturn, 1) := by decide +kernel
theorem dX10_keep_11 : decode cX10_keep 11 = .ok (.aload_n 0, 1) := by decide +kernel
theorem dX10_keep_12 : decode cX10_keep 12 = .ok (.getfield 73, 3) := by decide +kernel
theorem dX10_keep_15 : decode cX10_keep 15 = .ok (.iload_n 1, 1) := by decide +kernel
theorem dX10_keep_16 : decode cX10_keep 16 = .ok (.baload, 1) := by decide +kernel
theorem dX10_keep_17 : decode cX10_keep 17 = .ok (.ifCond .eq 7, 3) := by decide +kernel
theorem dX10_keep_20 : decode cX10_keep 20 = .ok (.iconst 1, 1) := by decide +kernel
theorem dX10_keep_21 : decode cX10_keep 21 = .ok (.goto 4, 3) := by decide +kernel
theorem dX10_keep_24 : decode cX10_keep 24 = .ok (.iconst 0, 1) := by decide +kernel
theorem dX10_keep_25 : decode cX10_keep 25 = .ok (.istore_n 2, 1) := by decide +kernel
theorem dX10_keep_26 : decode cX10_keep 26 = .ok (.aload_n 0, 1) := by decide +kernel
theorem dX10_keep_27 : decode cX10_keep 27 = .ok (.getfield 69, 3) := by decide +kernel
theorem dX10_keep_30 : decode cX10_keep 30 = .ok (.iload_n 1, 1) := by decide +kernel
theorem dX10_keep_31 : decode cX10_keep 31 = .ok (.aaload, 1) := by decide +kernel
theorem dX10_keep_32 : decode cX10_keep 32 = .ok (.aload_n 0, 1) := by decide +kernel
theorem dX10_keep_33 : decode cX10_keep 33 = .ok (.getfield 26, 3) := by decide +kernel
theorem dX10_keep_36 : decode cX10_keep 36 = .ok (.invokevirtual 110, 3) := by decide +kernel
theorem dX10_keep_39 : decode cX10_keep 39 = .ok (.aload_n 0, 1) := by decide +kernel
theorem dX10_keep_40 : decode cX10_keep 40 = .ok (.getfield 73, 3) := by decide +kernel
theorem dX10_keep_43 : decode cX10_keep 43 = .ok (.iload_n 1, 1) := by decide +kernel
theorem dX10_keep_44 : decode cX10_keep 44 = .ok (.iconst 1, 1) := by decide +kernel
theorem dX10_keep_45 : decode cX10_keep 45 = .ok (.bastore, 1) := by decide +kernel
theorem dX10_keep_46 : decode cX10_keep 46 = .ok (.iload_n 2, 1) := by decide +kernel
theorem dX10_keep_47 : decode cX10_keep 47 = .ok (.ireturn, 1) := by decide +kernel
theorem dX10_back_0 : decode cX10_back 0 = .ok (.iload_n 1, 1) := by decide +kernel
theorem dX10_back_1 : decode cX10_back 1 = .ok (.ifCond .lt 8, 3) := by decide +kernel
theorem dX10_back_4 : decode cX10_back 4 = .ok (.iload_n 1, 1) := by decide +kernel
theorem dX10_back_5 : decode cX10_back 5 = .ok (.iconst 2, 1) := by decide +kernel
theorem dX10_back_6 : decode cX10_back 6 = .ok (.if_icmp .lt 5, 3) := by decide +kernel
theorem dX10_back_9 : decode cX10_back 9 = .ok (.iconst (-1), 1) := by decide +kernel
theorem dX10_back_10 : decode cX10_back 10 = .ok (.ireturn, 1) := by decide +kernel
theorem dX10_back_11 : decode cX10_back 11 = .ok (.aload_n 0, 1) := by decide +kernel
theorem dX10_back_12 : decode cX10_back 12 = .ok (.getfield 73, 3) := by decide +kernel
theorem dX10_back_15 : decode cX10_back 15 = .ok (.iload_n 1, 1) := by decide +kernel
theorem dX10_back_16 : decode cX10_back 16 = .ok (.baload, 1) := by decide +kernel
theorem dX10_back_17 : decode cX10_back 17 = .ok (.ifCond .ne 6, 3) := by decide +kernel
theorem dX10_back_20 : decode cX10_back 20 = .ok (.bipush (-2), 2) := by decide +kernel
theorem dX10_back_22 : decode cX10_back 22 = .ok (.ireturn, 1) := by decide +kernel
theorem dX10_back_23 : decode cX10_back 23 = .ok (.aload_n 0, 1) := by decide +kernel
theorem dX10_back_24 : decode cX10_back 24 = .ok (.getfield 26, 3) := by decide +kernel
theorem dX10_back_27 : decode cX10_back 27 = .ok (.aload_n 0, 1) := by decide +kernel
theorem dX10_back_28 : decode cX10_back 28 = .ok (.getfield 69, 3) := by decide +kernel
theorem dX10_back_31 : decode cX10_back 31 = .ok (.iload_n 1, 1) := by decide +kernel
theorem dX10_back_32 : decode cX10_back 32 = .ok (.aaload, 1) := by decide +kernel
theorem dX10_back_33 : decode cX10_back 33 = .ok (.invokevirtual 110, 3) := by decide +kernel
theorem dX10_back_36 : decode cX10_back 36 = .ok (.aload_n 0, 1) := by decide +kernel
theorem dX10_back_37 : decode cX10_back 37 = .ok (.getfield 26, 3) := by decide +kernel
theorem dX10_back_40 : decode cX10_back 40 = .ok (.invokevirtual 329, 3) := by decide +kernel
theorem dX10_back_43 : decode cX10_back 43 = .ok (.ireturn, 1) := by decide +kernel
theorem dX10_sheet_0 : decode cX10_sheet 0 = .ok (.iload_n 1, 1) := by decide +kernel
theorem dX10_sheet_1 : decode cX10_sheet 1 = .ok (.invokestatic 332, 3) := by decide +kernel
theorem dX10_sheet_4 : decode cX10_sheet 4 = .ok (.ifCond .eq 16, 3) := by decide +kernel
theorem dX10_sheet_7 : decode cX10_sheet 7 = .ok (.iload_n 2, 1) := by decide +kernel
theorem dX10_sheet_8 : decode cX10_sheet 8 = .ok (.invokestatic 335, 3) := by decide +kernel
theorem dX10_sheet_11 : decode cX10_sheet 11 = .ok (.ifCond .eq 9, 3) := by decide +kernel
theorem dX10_sheet_14 : decode cX10_sheet 14 = .ok (.iload_n 3, 1) := by decide +kernel
theorem dX10_sheet_15 : decode cX10_sheet 15 = .ok (.bipush 40, 2) := by decide +kernel
theorem dX10_sheet_17 : decode cX10_sheet 17 = .ok (.if_icmp .le 5, 3) := by decide +kernel
theorem dX10_sheet_20 : decode cX10_sheet 20 = .ok (.iconst (-1), 1) := by decide +kernel
theorem dX10_sheet_21 : decode cX10_sheet 21 = .ok (.ireturn, 1) := by decide +kernel
theorem dX10_sheet_22 : decode cX10_sheet 22 = .ok (.iload_n 3, 1) := by decide +kernel
theorem dX10_sheet_23 : decode cX10_sheet 23 = .ok (.ifCond .ge 6, 3) := by decide +kernel
theorem dX10_sheet_26 : decode cX10_sheet 26 = .ok (.bipush (-14), 2) := by decide +kernel
theorem dX10_sheet_28 : decode cX10_sheet 28 = .ok (.ireturn, 1) := by decide +kernel
theorem dX10_sheet_29 : decode cX10_sheet 29 = .ok (.aload_n 0, 1) := by decide +kernel
theorem dX10_sheet_30 : decode cX10_sheet 30 = .ok (.getfield 79, 3) := by decide +kernel
theorem dX10_sheet_33 : decode cX10_sheet 33 = .ok (.iload_n 1, 1) := by decide +kernel
theorem dX10_sheet_34 : decode cX10_sheet 34 = .ok (.aaload, 1) := by decide +kernel
theorem dX10_sheet_35 : decode cX10_sheet 35 = .ok (.iload_n 2, 1) := by decide +kernel
theorem dX10_sheet_36 : decode cX10_sheet 36 = .ok (.iload_n 3, 1) := by decide +kernel
theorem dX10_sheet_37 : decode cX10_sheet 37 = .ok (.invokevirtual 338, 3) := by decide +kernel
theorem dX10_sheet_40 : decode cX10_sheet 40 = .ok (.iconst 1, 1) := by decide +kernel
theorem dX10_sheet_41 : decode cX10_sheet 41 = .ok (.ireturn, 1) := by decide +kernel
theorem dX10_lay_0 : decode cX10_lay 0 = .ok (.iload_n 1, 1) := by decide +kernel
theorem dX10_lay_1 : decode cX10_lay 1 = .ok (.invokestatic 332, 3) := by decide +kernel
theorem dX10_lay_4 : decode cX10_lay 4 = .ok (.ifCond .ne 5, 3) := by decide +kernel
theorem dX10_lay_7 : decode cX10_lay 7 = .ok (.iconst (-1), 1) := by decide +kernel
theorem dX10_lay_8 : decode cX10_lay 8 = .ok (.ireturn, 1) := by decide +kernel
theorem dX10_lay_9 : decode cX10_lay 9 = .ok (.aload_n 0, 1) := by decide +kernel
theorem dX10_lay_10 : decode cX10_lay 10 = .ok (.getfield 79, 3) := by decide +kernel
theorem dX10_lay_13 : decode cX10_lay 13 = .ok (.iload_n 1, 1) := by decide +kernel
theorem dX10_lay_14 : decode cX10_lay 14 = .ok (.aaload, 1) := by decide +kernel
theorem dX10_lay_15 : decode cX10_lay 15 = .ok (.iload_n 2, 1) := by decide +kernel
theorem dX10_lay_16 : decode cX10_lay 16 = .ok (.invokevirtual 341, 3) := by decide +kernel
theorem dX10_lay_19 : decode cX10_lay 19 = .ok (.istore 4, 2) := by decide +kernel
theorem dX10_lay_21 : decode cX10_lay 21 = .ok (.iload 4, 2) := by decide +kernel
theorem dX10_lay_23 : decode cX10_lay 23 = .ok (.ifCond .eq 9, 3) := by decide +kernel
theorem dX10_lay_26 : decode cX10_lay 26 = .ok (.bipush (-10), 2) := by decide +kernel
theorem dX10_lay_28 : decode cX10_lay 28 = .ok (.iload 4, 2) := by decide +kernel
theorem dX10_lay_30 : decode cX10_lay 30 = .ok (.isub, 1) := by decide +kernel
theorem dX10_lay_31 : decode cX10_lay 31 = .ok (.ireturn, 1) := by decide +kernel
theorem dX10_lay_32 : decode cX10_lay 32 = .ok (.aload_n 0, 1) := by decide +kernel
theorem dX10_lay_33 : decode cX10_lay 33 = .ok (.getfield 79, 3) := by decide +kernel
theorem dX10_lay_36 : decode cX10_lay 36 = .ok (.iload_n 1, 1) := by decide +kernel
theorem dX10_lay_37 : decode cX10_lay 37 = .ok (.aaload, 1) := by decide +kernel
theorem dX10_lay_38 : decode cX10_lay 38 = .ok (.iload_n 2, 1) := by decide +kernel
theorem dX10_lay_39 : decode cX10_lay 39 = .ok (.iload_n 3, 1) := by decide +kernel
theorem dX10_lay_40 : decode cX10_lay 40 = .ok (.invokevirtual 344, 3) := by decide +kernel
theorem dX10_lay_43 : decode cX10_lay 43 = .ok (.iconst 1, 1) := by decide +kernel
theorem dX10_lay_44 : decode cX10_lay 44 = .ok (.ireturn, 1) := by decide +kernel
theorem dX10_read_0 : decode cX10_read 0 = .ok (.iload_n 1, 1) := by decide +kernel
theorem dX10_read_1 : decode cX10_read 1 = .ok (.invokestatic 332, 3) := by decide +kernel
theorem dX10_read_4 : decode cX10_read 4 = .ok (.ifCond .eq 22, 3) := by decide +kernel
theorem dX10_read_7 : decode cX10_read 7 = .ok (.iload_n 2, 1) := by decide +kernel
theorem dX10_read_8 : decode cX10_read 8 = .ok (.invokestatic 335, 3) := by decide +kernel
theorem dX10_read_11 : decode cX10_read 11 = .ok (.ifCond .eq 15, 3) := by decide +kernel
theorem dX10_read_14 : decode cX10_read 14 = .ok (.iload 4, 2) := by decide +kernel
theorem dX10_read_16 : decode cX10_read 16 = .ok (.ifCond .lt 10, 3) := by decide +kernel
theorem dX10_read_19 : decode cX10_read 19 = .ok (.iload 4, 2) := by decide +kernel
theorem dX10_read_21 : decode cX10_read 21 = .ok (.bipush 13, 2) := by decide +kernel
theorem dX10_read_23 : decode cX10_read 23 = .ok (.if_icmp .le 5, 3) := by decide +kernel
theorem dX10_read_26 : decode cX10_read 26 = .ok (.iconst (-1), 1) := by decide +kernel
theorem dX10_read_27 : decode cX10_read 27 = .ok (.ireturn, 1) := by decide +kernel
theorem dX10_read_28 : decode cX10_read 28 = .ok (.aload_n 0, 1) := by decide +kernel
theorem dX10_read_29 : decode cX10_read 29 = .ok (.getfield 79, 3) := by decide +kernel
theorem dX10_read_32 : decode cX10_read 32 = .ok (.iload_n 1, 1) := by decide +kernel
theorem dX10_read_33 : decode cX10_read 33 = .ok (.aaload, 1) := by decide +kernel
theorem dX10_read_34 : decode cX10_read 34 = .ok (.astore 5, 2) := by decide +kernel
theorem dX10_read_36 : decode cX10_read 36 = .ok (.aload 5, 2) := by decide +kernel
theorem dX10_read_38 : decode cX10_read 38 = .ok (.iload_n 2, 1) := by decide +kernel
theorem dX10_read_39 : decode cX10_read 39 = .ok (.iload_n 3, 1) := by decide +kernel
theorem dX10_read_40 : decode cX10_read 40 = .ok (.iload 4, 2) := by decide +kernel
theorem dX10_read_42 : decode cX10_read 42 = .ok (.invokevirtual 347, 3) := by decide +kernel
theorem dX10_read_45 : decode cX10_read 45 = .ok (.istore 6, 2) := by decide +kernel
theorem dX10_read_47 : decode cX10_read 47 = .ok (.iload 6, 2) := by decide +kernel
theorem dX10_read_49 : decode cX10_read 49 = .ok (.ifCond .ne 8, 3) := by decide +kernel
theorem dX10_read_52 : decode cX10_read 52 = .ok (.iload 4, 2) := by decide +kernel
theorem dX10_read_54 : decode cX10_read 54 = .ok (.goto 12, 3) := by decide +kernel
theorem dX10_read_57 : decode cX10_read 57 = .ok (.aload 5, 2) := by decide +kernel
theorem dX10_read_59 : decode cX10_read 59 = .ok (.iload_n 2, 1) := by decide +kernel
theorem dX10_read_60 : decode cX10_read 60 = .ok (.iload_n 3, 1) := by decide +kernel
theorem dX10_read_61 : decode cX10_read 61 = .ok (.iload 4, 2) := by decide +kernel
theorem dX10_read_63 : decode cX10_read 63 = .ok (.invokevirtual 350, 3) := by decide +kernel
theorem dX10_read_66 : decode cX10_read 66 = .ok (.istore 7, 2) := by decide +kernel
theorem dX10_read_68 : decode cX10_read 68 = .ok (.iconst 0, 1) := by decide +kernel
theorem dX10_read_69 : decode cX10_read 69 = .ok (.istore 8, 2) := by decide +kernel
theorem dX10_read_71 : decode cX10_read 71 = .ok (.iload 8, 2) := by decide +kernel
theorem dX10_read_73 : decode cX10_read 73 = .ok (.iload 7, 2) := by decide +kernel
theorem dX10_read_75 : decode cX10_read 75 = .ok (.if_icmp .ge 64, 3) := by decide +kernel
theorem dX10_read_78 : decode cX10_read 78 = .ok (.iload_n 3, 1) := by decide +kernel
theorem dX10_read_79 : decode cX10_read 79 = .ok (.iconst 3, 1) := by decide +kernel
theorem dX10_read_80 : decode cX10_read 80 = .ok (.iload 8, 2) := by decide +kernel
theorem dX10_read_82 : decode cX10_read 82 = .ok (.imul, 1) := by decide +kernel
theorem dX10_read_83 : decode cX10_read 83 = .ok (.iadd, 1) := by decide +kernel
theorem dX10_read_84 : decode cX10_read 84 = .ok (.istore 9, 2) := by decide +kernel
theorem dX10_read_86 : decode cX10_read 86 = .ok (.aload_n 0, 1) := by decide +kernel
theorem dX10_read_87 : decode cX10_read 87 = .ok (.getfield 19, 3) := by decide +kernel
theorem dX10_read_90 : decode cX10_read 90 = .ok (.aload 5, 2) := by decide +kernel
theorem dX10_read_92 : decode cX10_read 92 = .ok (.iload 9, 2) := by decide +kernel
theorem dX10_read_94 : decode cX10_read 94 = .ok (.invokevirtual 353, 3) := by decide +kernel
theorem dX10_read_97 : decode cX10_read 97 = .ok (.aload 5, 2) := by decide +kernel
theorem dX10_read_99 : decode cX10_read 99 = .ok (.iload 9, 2) := by decide +kernel
theorem dX10_read_101 : decode cX10_read 101 = .ok (.iconst 1, 1) := by decide +kernel
theorem dX10_read_102 : decode cX10_read 102 = .ok (.iadd, 1) := by decide +kernel
theorem dX10_read_103 : decode cX10_read 103 = .ok (.invokevirtual 353, 3) := by decide +kernel
theorem dX10_read_106 : decode cX10_read 106 = .ok (.invokevirtual 173, 3) := by decide +kernel
theorem dX10_read_109 : decode cX10_read 109 = .ok (.ifCond .eq 18, 3) := by decide +kernel
theorem dX10_read_112 : decode cX10_read 112 = .ok (.aload 5, 2) := by decide +kernel
theorem dX10_read_114 : decode cX10_read 114 = .ok (.iload 9, 2) := by decide +kernel
theorem dX10_read_116 : decode cX10_read 116 = .ok (.iconst 2, 1) := by decide +kernel
theorem dX10_read_117 : decode cX10_read 117 = .ok (.iadd, 1) := by decide +kernel
theorem dX10_read_118 : decode cX10_read 118 = .ok (.invokevirtual 353, 3) := by decide +kernel
theorem dX10_read_121 : decode cX10_read 121 = .ok (.invokestatic 161, 3) := by decide +kernel
theorem dX10_read_124 : decode cX10_read 124 = .ok (.ifCond .ne 9, 3) := by decide +kernel
theorem dX10_read_127 : decode cX10_read 127 = .ok (.bipush (-20), 2) := by decide +kernel
theorem dX10_read_129 : decode cX10_read 129 = .ok (.iload 8, 2) := by decide +kernel
theorem dX10_read_131 : decode cX10_read 131 = .ok (.isub, 1) := by decide +kernel
theorem dX10_read_132 : decode cX10_read 132 = .ok (.ireturn, 1) := by decide +kernel
theorem dX10_read_133 : decode cX10_read 133 = .ok (.iinc 8 1, 3) := by decide +kernel
theorem dX10_read_136 : decode cX10_read 136 = .ok (.goto (-65), 3) := by decide +kernel
theorem dX10_read_139 : decode cX10_read 139 = .ok (.iconst 0, 1) := by decide +kernel
theorem dX10_read_140 : decode cX10_read 140 = .ok (.istore 8, 2) := by decide +kernel
theorem dX10_read_142 : decode cX10_read 142 = .ok (.iload 8, 2) := by decide +kernel
theorem dX10_read_144 : decode cX10_read 144 = .ok (.iload 7, 2) := by decide +kernel
theorem dX10_read_146 : decode cX10_read 146 = .ok (.if_icmp .ge 49, 3) := by decide +kernel
theorem dX10_read_149 : decode cX10_read 149 = .ok (.iload_n 3, 1) := by decide +kernel
theorem dX10_read_150 : decode cX10_read 150 = .ok (.iconst 3, 1) := by decide +kernel
theorem dX10_read_151 : decode cX10_read 151 = .ok (.iload 8, 2) := by decide +kernel
theorem dX10_read_153 : decode cX10_read 153 = .ok (.imul, 1) := by decide +kernel
theorem dX10_read_154 : decode cX10_read 154 = .ok (.iadd, 1) := by decide +kernel
theorem dX10_read_155 : decode cX10_read 155 = .ok (.istore 9, 2) := by decide +kernel
theorem dX10_read_157 : decode cX10_read 157 = .ok (.aload_n 0, 1) := by decide +kernel
theorem dX10_read_158 : decode cX10_read 158 = .ok (.getfield 26, 3) := by decide +kernel
theorem dX10_read_161 : decode cX10_read 161 = .ok (.aload 5, 2) := by decide +kernel
theorem dX10_read_163 : decode cX10_read 163 = .ok (.iload 9, 2) := by decide +kernel
theorem dX10_read_165 : decode cX10_read 165 = .ok (.invokevirtual 353, 3) := by decide +kernel
theorem dX10_read_168 : decode cX10_read 168 = .ok (.aload 5, 2) := by decide +kernel
theorem dX10_read_170 : decode cX10_read 170 = .ok (.iload 9, 2) := by decide +kernel
theorem dX10_read_172 : decode cX10_read 172 = .ok (.iconst 1, 1) := by decide +kernel
theorem dX10_read_173 : decode cX10_read 173 = .ok (.iadd, 1) := by decide +kernel
theorem dX10_read_174 : decode cX10_read 174 = .ok (.invokevirtual 353, 3) := by decide +kernel
theorem dX10_read_177 : decode cX10_read 177 = .ok (.aload 5, 2) := by decide +kernel
theorem dX10_read_179 : decode cX10_read 179 = .ok (.iload 9, 2) := by decide +kernel
theorem dX10_read_181 : decode cX10_read 181 = .ok (.iconst 2, 1) := by decide +kernel
theorem dX10_read_182 : decode cX10_read 182 = .ok (.iadd, 1) := by decide +kernel
theorem dX10_read_183 : decode cX10_read 183 = .ok (.invokevirtual 353, 3) := by decide +kernel
theorem dX10_read_186 : decode cX10_read 186 = .ok (.invokevirtual 179, 3) := by decide +kernel
theorem dX10_read_189 : decode cX10_read 189 = .ok (.iinc 8 1, 3) := by decide +kernel
theorem dX10_read_192 : decode cX10_read 192 = .ok (.goto (-50), 3) := by decide +kernel
theorem dX10_read_195 : decode cX10_read 195 = .ok (.aload_n 0, 1) := by decide +kernel
theorem dX10_read_196 : decode cX10_read 196 = .ok (.iload 6, 2) := by decide +kernel
theorem dX10_read_198 : decode cX10_read 198 = .ok (.putfield 355, 3) := by decide +kernel
theorem dX10_read_201 : decode cX10_read 201 = .ok (.iload 7, 2) := by decide +kernel
theorem dX10_read_203 : decode cX10_read 203 = .ok (.ireturn, 1) := by decide +kernel
theorem dX10_torn_0 : decode cX10_torn 0 = .ok (.aload_n 0, 1) := by decide +kernel
theorem dX10_torn_1 : decode cX10_torn 1 = .ok (.getfield 355, 3) := by decide +kernel
theorem dX10_torn_4 : decode cX10_torn 4 = .ok (.ireturn, 1) := by decide +kernel
theorem dX10_count_0 : decode cX10_count 0 = .ok (.iload_n 1, 1) := by decide +kernel
theorem dX10_count_1 : decode cX10_count 1 = .ok (.tableswitch 146 0 6 #[43, 51, 59, 70, 81, 111, 119], 43) := by decide +kernel
theorem dX10_count_44 : decode cX10_count 44 = .ok (.aload_n 0, 1) := by decide +kernel
theorem dX10_count_45 : decode cX10_count 45 = .ok (.getfield 26, 3) := by decide +kernel
theorem dX10_count_48 : decode cX10_count 48 = .ok (.invokevirtual 329, 3) := by decide +kernel
theorem dX10_count_51 : decode cX10_count 51 = .ok (.ireturn, 1) := by decide +kernel
theorem dX10_count_52 : decode cX10_count 52 = .ok (.aload_n 0, 1) := by decide +kernel
theorem dX10_count_53 : decode cX10_count 53 = .ok (.getfield 19, 3) := by decide +kernel
theorem dX10_count_56 : decode cX10_count 56 = .ok (.invokevirtual 358, 3) := by decide +kernel
theorem dX10_count_59 : decode cX10_count 59 = .ok (.ireturn, 1) := by decide +kernel
theorem dX10_count_60 : decode cX10_count 60 = .ok (.aload_n 0, 1) := by decide +kernel
theorem dX10_count_61 : decode cX10_count 61 = .ok (.getfield 26, 3) := by decide +kernel
theorem dX10_count_64 : decode cX10_count 64 = .ok (.getfield 265, 3) := by decide +kernel
theorem dX10_count_67 : decode cX10_count 67 = .ok (.getfield 129, 3) := by decide +kernel
theorem dX10_count_70 : decode cX10_count 70 = .ok (.ireturn, 1) := by decide +kernel
theorem dX10_count_71 : decode cX10_count 71 = .ok (.aload_n 0, 1) := by decide +kernel
theorem dX10_count_72 : decode cX10_count 72 = .ok (.getfield 26, 3) := by decide +kernel
theorem dX10_count_75 : decode cX10_count 75 = .ok (.getfield 306, 3) := by decide +kernel
theorem dX10_count_78 : decode cX10_count 78 = .ok (.getfield 129, 3) := by decide +kernel
theorem dX10_count_81 : decode cX10_count 81 = .ok (.ireturn, 1) := by decide +kernel
theorem dX10_count_82 : decode cX10_count 82 = .ok (.aload_n 0, 1) := by decide +kernel
theorem dX10_count_83 : decode cX10_count 83 = .ok (.getfield 73, 3) := by decide +kernel
theorem dX10_count_86 : decode cX10_count 86 = .ok (.iconst 0, 1) := by decide +kernel
theorem dX10_count_87 : decode cX10_count 87 = .ok (.baload, 1) := by decide +kernel
theorem dX10_count_88 : decode cX10_count 88 = .ok (.ifCond .eq 7, 3) := by decide +kernel
theorem dX10_count_91 : decode cX10_count 91 = .ok (.iconst 1, 1) := by decide +kernel
theorem dX10_count_92 : decode cX10_count 92 = .ok (.goto 4, 3) := by decide +kernel
theorem dX10_count_95 : decode cX10_count 95 = .ok (.iconst 0, 1) := by decide +kernel
theorem dX10_count_96 : decode cX10_count 96 = .ok (.aload_n 0, 1) := by decide +kernel
theorem dX10_count_97 : decode cX10_count 97 = .ok (.getfield 73, 3) := by decide +kernel
theorem dX10_count_100 : decode cX10_count 100 = .ok (.iconst 1, 1) := by decide +kernel
theorem dX10_count_101 : decode cX10_count 101 = .ok (.baload, 1) := by decide +kernel
theorem dX10_count_102 : decode cX10_count 102 = .ok (.ifCond .eq 7, 3) := by decide +kernel
theorem dX10_count_105 : decode cX10_count 105 = .ok (.iconst 1, 1) := by decide +kernel
theorem dX10_count_106 : decode cX10_count 106 = .ok (.goto 4, 3) := by decide +kernel
theorem dX10_count_109 : decode cX10_count 109 = .ok (.iconst 0, 1) := by decide +kernel
theorem dX10_count_110 : decode cX10_count 110 = .ok (.iadd, 1) := by decide +kernel
theorem dX10_count_111 : decode cX10_count 111 = .ok (.ireturn, 1) := by decide +kernel
theorem dX10_count_112 : decode cX10_count 112 = .ok (.aload_n 0, 1) := by decide +kernel
theorem dX10_count_113 : decode cX10_count 113 = .ok (.getfield 10, 3) := by decide +kernel
theorem dX10_count_116 : decode cX10_count 116 = .ok (.getfield 84, 3) := by decide +kernel
theorem dX10_count_119 : decode cX10_count 119 = .ok (.ireturn, 1) := by decide +kernel
theorem dX10_count_120 : decode cX10_count 120 = .ok (.aload_n 0, 1) := by decide +kernel
theorem dX10_count_121 : decode cX10_count 121 = .ok (.getfield 79, 3) := by decide +kernel
theorem dX10_count_124 : decode cX10_count 124 = .ok (.iconst 0, 1) := by decide +kernel
theorem dX10_count_125 : decode cX10_count 125 = .ok (.aaload, 1) := by decide +kernel
theorem dX10_count_126 : decode cX10_count 126 = .ok (.getfield 361, 3) := by decide +kernel
theorem dX10_count_129 : decode cX10_count 129 = .ok (.ifCond .ge 8, 3) := by decide +kernel
theorem dX10_count_132 : decode cX10_count 132 = .ok (.bipush (-4), 2) := by decide +kernel
theorem dX10_count_134 : decode cX10_count 134 = .ok (.goto 12, 3) := by decide +kernel
theorem dX10_count_137 : decode cX10_count 137 = .ok (.aload_n 0, 1) := by decide +kernel
theorem dX10_count_138 : decode cX10_count 138 = .ok (.getfield 79, 3) := by decide +kernel
theorem dX10_count_141 : decode cX10_count 141 = .ok (.iconst 0, 1) := by decide +kernel
theorem dX10_count_142 : decode cX10_count 142 = .ok (.aaload, 1) := by decide +kernel
theorem dX10_count_143 : decode cX10_count 143 = .ok (.getfield 361, 3) := by decide +kernel
theorem dX10_count_146 : decode cX10_count 146 = .ok (.ireturn, 1) := by decide +kernel
theorem dX10_count_147 : decode cX10_count 147 = .ok (.iconst (-1), 1) := by decide +kernel
theorem dX10_count_148 : decode cX10_count 148 = .ok (.ireturn, 1) := by decide +kernel
theorem dX10_isBank_0 : decode cX10_isBank 0 = .ok (.iload_n 0, 1) := by decide +kernel
theorem dX10_isBank_1 : decode cX10_isBank 1 = .ok (.ifCond .lt 12, 3) := by decide +kernel
theorem dX10_isBank_4 : decode cX10_isBank 4 = .ok (.iload_n 0, 1) := by decide +kernel
theorem dX10_isBank_5 : decode cX10_isBank 5 = .ok (.iconst 2, 1) := by decide +kernel
theorem dX10_isBank_6 : decode cX10_isBank 6 = .ok (.if_icmp .ge 7, 3) := by decide +kernel
theorem dX10_isBank_9 : decode cX10_isBank 9 = .ok (.iconst 1, 1) := by decide +kernel
theorem dX10_isBank_10 : decode cX10_isBank 10 = .ok (.goto 4, 3) := by decide +kernel
theorem dX10_isBank_13 : decode cX10_isBank 13 = .ok (.iconst 0, 1) := by decide +kernel
theorem dX10_isBank_14 : decode cX10_isBank 14 = .ok (.ireturn, 1) := by decide +kernel
theorem dX10_isKind_0 : decode cX10_isKind 0 = .ok (.iload_n 0, 1) := by decide +kernel
theorem dX10_isKind_1 : decode cX10_isKind 1 = .ok (.ifCond .lt 13, 3) := by decide +kernel
theorem dX10_isKind_4 : decode cX10_isKind 4 = .ok (.iload_n 0, 1) := by decide +kernel
theorem dX10_isKind_5 : decode cX10_isKind 5 = .ok (.bipush 6, 2) := by decide +kernel
theorem dX10_isKind_7 : decode cX10_isKind 7 = .ok (.if_icmp .ge 7, 3) := by decide +kernel
theorem dX10_isKind_10 : decode cX10_isKind 10 = .ok (.iconst 1, 1) := by decide +kernel
theorem dX10_isKind_11 : decode cX10_isKind 11 = .ok (.goto 4, 3) := by decide +kernel
theorem dX10_isKind_14 : decode cX10_isKind 14 = .ok (.iconst 0, 1) := by decide +kernel
theorem dX10_isKind_15 : decode cX10_isKind 15 = .ok (.ireturn, 1) := by decide +kernel
theorem dX10_isBuilt_0 : decode cX10_isBuilt 0 = .ok (.iload_n 0, 1) := by decide +kernel
theorem dX10_isBuilt_1 : decode cX10_isBuilt 1 = .ok (.iconst 1, 1) := by decide +kernel
theorem dX10_isBuilt_2 : decode cX10_isBuilt 2 = .ok (.if_icmp .lt 13, 3) := by decide +kernel
theorem dX10_isBuilt_5 : decode cX10_isBuilt 5 = .ok (.iload_n 0, 1) := by decide +kernel
theorem dX10_isBuilt_6 : decode cX10_isBuilt 6 = .ok (.bipush 6, 2) := by decide +kernel
theorem dX10_isBuilt_8 : decode cX10_isBuilt 8 = .ok (.if_icmp .ge 7, 3) := by decide +kernel
theorem dX10_isBuilt_11 : decode cX10_isBuilt 11 = .ok (.iconst 1, 1) := by decide +kernel
theorem dX10_isBuilt_12 : decode cX10_isBuilt 12 = .ok (.goto 4, 3) := by decide +kernel
theorem dX10_isBuilt_15 : decode cX10_isBuilt 15 = .ok (.iconst 0, 1) := by decide +kernel
theorem dX10_isBuilt_16 : decode cX10_isBuilt 16 = .ok (.ireturn, 1) := by decide +kernel
theorem dX10_isThing_0 : decode cX10_isThing 0 = .ok (.iload_n 0, 1) := by decide +kernel
theorem dX10_isThing_1 : decode cX10_isThing 1 = .ok (.ifCond .eq 23, 3) := by decide +kernel
theorem dX10_isThing_4 : decode cX10_isThing 4 = .ok (.iload_n 0, 1) := by decide +kernel
theorem dX10_isThing_5 : decode cX10_isThing 5 = .ok (.ifCond .le 23, 3) := by decide +kernel
theorem dX10_isThing_8 : decode cX10_isThing 8 = .ok (.iload_n 0, 1) := by decide +kernel
theorem dX10_isThing_9 : decode cX10_isThing 9 = .ok (.bipush 64, 2) := by decide +kernel
theorem dX10_isThing_11 : decode cX10_isThing 11 = .ok (.if_icmp .ge 17, 3) := by decide +kernel
theorem dX10_isThing_14 : decode cX10_isThing 14 = .ok (.iload_n 0, 1) := by decide +kernel
theorem dX10_isThing_15 : decode cX10_isThing 15 = .ok (.bipush 7, 2) := by decide +kernel
theorem dX10_isThing_17 : decode cX10_isThing 17 = .ok (.iand, 1) := by decide +kernel
theorem dX10_isThing_18 : decode cX10_isThing 18 = .ok (.invokestatic 243, 3) := by decide +kernel
theorem dX10_isThing_21 : decode cX10_isThing 21 = .ok (.ifCond .eq 7, 3) := by decide +kernel
theorem dX10_isThing_24 : decode cX10_isThing 24 = .ok (.iconst 1, 1) := by decide +kernel
theorem dX10_isThing_25 : decode cX10_isThing 25 = .ok (.goto 4, 3) := by decide +kernel
theorem dX10_isThing_28 : decode cX10_isThing 28 = .ok (.iconst 0, 1) := by decide +kernel
theorem dX10_isThing_29 : decode cX10_isThing 29 = .ok (.ireturn, 1) := by decide +kernel
theorem dX10_isSheet_0 : decode cX10_isSheet 0 = .ok (.iload_n 0, 1) := by decide +kernel
theorem dX10_isSheet_1 : decode cX10_isSheet 1 = .ok (.ifCond .lt 12, 3) := by decide +kernel
theorem dX10_isSheet_4 : decode cX10_isSheet 4 = .ok (.iload_n 0, 1) := by decide +kernel
theorem dX10_isSheet_5 : decode cX10_isSheet 5 = .ok (.iconst 4, 1) := by decide +kernel
theorem dX10_isSheet_6 : decode cX10_isSheet 6 = .ok (.if_icmp .ge 7, 3) := by decide +kernel
theorem dX10_isSheet_9 : decode cX10_isSheet 9 = .ok (.iconst 1, 1) := by decide +kernel
theorem dX10_isSheet_10 : decode cX10_isSheet 10 = .ok (.goto 4, 3) := by decide +kernel
theorem dX10_isSheet_13 : decode cX10_isSheet 13 = .ok (.iconst 0, 1) := by decide +kernel
theorem dX10_isSheet_14 : decode cX10_isSheet 14 = .ok (.ireturn, 1) := by decide +kernel
theorem dX10_isLane_0 : decode cX10_isLane 0 = .ok (.iload_n 0, 1) := by decide +kernel
theorem dX10_isLane_1 : decode cX10_isLane 1 = .ok (.ifCond .lt 12, 3) := by decide +kernel
theorem dX10_isLane_4 : decode cX10_isLane 4 = .ok (.iload_n 0, 1) := by decide +kernel
theorem dX10_isLane_5 : decode cX10_isLane 5 = .ok (.iconst 3, 1) := by decide +kernel
theorem dX10_isLane_6 : decode cX10_isLane 6 = .ok (.if_icmp .ge 7, 3) := by decide +kernel
theorem dX10_isLane_9 : decode cX10_isLane 9 = .ok (.iconst 1, 1) := by decide +kernel
theorem dX10_isLane_10 : decode cX10_isLane 10 = .ok (.goto 4, 3) := by decide +kernel
theorem dX10_isLane_13 : decode cX10_isLane 13 = .ok (.iconst 0, 1) := by decide +kernel
theorem dX10_isLane_14 : decode cX10_isLane 14 = .ok (.ireturn, 1) := by decide +kernel
theorem dX10_isSlot_0 : decode cX10_isSlot 0 = .ok (.iload_n 0, 1) := by decide +kernel
theorem dX10_isSlot_1 : decode cX10_isSlot 1 = .ok (.invokestatic 201, 3) := by decide +kernel
theorem dX10_isSlot_4 : decode cX10_isSlot 4 = .ok (.ifCond .eq 17, 3) := by decide +kernel
theorem dX10_isSlot_7 : decode cX10_isSlot 7 = .ok (.iload_n 1, 1) := by decide +kernel
theorem dX10_isSlot_8 : decode cX10_isSlot 8 = .ok (.ifCond .lt 13, 3) := by decide +kernel
theorem dX10_isSlot_11 : decode cX10_isSlot 11 = .ok (.iload_n 1, 1) := by decide +kernel
theorem dX10_isSlot_12 : decode cX10_isSlot 12 = .ok (.bipush 8, 2) := by decide +kernel
theorem dX10_isSlot_14 : decode cX10_isSlot 14 = .ok (.if_icmp .ge 7, 3) := by decide +kernel
theorem dX10_isSlot_17 : decode cX10_isSlot 17 = .ok (.iconst 1, 1) := by decide +kernel
theorem dX10_isSlot_18 : decode cX10_isSlot 18 = .ok (.goto 4, 3) := by decide +kernel
theorem dX10_isSlot_21 : decode cX10_isSlot 21 = .ok (.iconst 0, 1) := by decide +kernel
theorem dX10_isSlot_22 : decode cX10_isSlot 22 = .ok (.ireturn, 1) := by decide +kernel
theorem dX10_slot_0 : decode cX10_slot 0 = .ok (.iload_n 0, 1) := by decide +kernel
theorem dX10_slot_1 : decode cX10_slot 1 = .ok (.bipush 8, 2) := by decide +kernel
theorem dX10_slot_3 : decode cX10_slot 3 = .ok (.imul, 1) := by decide +kernel
theorem dX10_slot_4 : decode cX10_slot 4 = .ok (.iload_n 1, 1) := by decide +kernel
theorem dX10_slot_5 : decode cX10_slot 5 = .ok (.iadd, 1) := by decide +kernel
theorem dX10_slot_6 : decode cX10_slot 6 = .ok (.ireturn, 1) := by decide +kernel
end
section
theorem dX11_init_0 : decode cX11_init 0 = .ok (.aload_n 0, 1) := by decide +kernel
theorem dX11_init_1 : decode cX11_init 1 = .ok (.invokespecial 1, 3) := by decide +kernel
theorem dX11_init_4 : decode cX11_init 4 = .ok (.aload_n 0, 1) := by decide +kernel
theorem dX11_init_5 : decode cX11_init 5 = .ok (.sipush 381, 3) := by decide +kernel
theorem dX11_init_8 : decode cX11_init 8 = .ok (.newarray .int, 2) := by decide +kernel
theorem dX11_init_10 : decode cX11_init 10 = .ok (.putfield 7, 3) := by decide +kernel
theorem dX11_init_13 : decode cX11_init 13 = .ok (.aload_n 0, 1) := by decide +kernel
theorem dX11_init_14 : decode cX11_init 14 = .ok (.iconst 2, 1) := by decide +kernel
theorem dX11_init_15 : decode cX11_init 15 = .ok (.newarray .boolean, 2) := by decide +kernel
theorem dX11_init_17 : decode cX11_init 17 = .ok (.putfield 13, 3) := by decide +kernel
theorem dX11_init_20 : decode cX11_init 20 = .ok (.aload_n 0, 1) := by decide +kernel
theorem dX11_init_21 : decode cX11_init 21 = .ok (.iconst 4, 1) := by decide +kernel
theorem dX11_init_22 : decode cX11_init 22 = .ok (.newarray .int, 2) := by decide +kernel
theorem dX11_init_24 : decode cX11_init 24 = .ok (.putfield 17, 3) := by decide +kernel
theorem dX11_init_27 : decode cX11_init 27 = .ok (.aload_n 0, 1) := by decide +kernel
theorem dX11_init_28 : decode cX11_init 28 = .ok (.bipush 12, 2) := by decide +kernel
theorem dX11_init_30 : decode cX11_init 30 = .ok (.newarray .int, 2) := by decide +kernel
theorem dX11_init_32 : decode cX11_init 32 = .ok (.putfield 20, 3) := by decide +kernel
theorem dX11_init_35 : decode cX11_init 35 = .ok (.aload_n 0, 1) := by decide +kernel
theorem dX11_init_36 : decode cX11_init 36 = .ok (.bipush 12, 2) := by decide +kernel
theorem dX11_init_38 : decode cX11_init 38 = .ok (.newarray .int, 2) := by decide +kernel
theorem dX11_init_40 : decode cX11_init 40 = .ok (.putfield 23, 3) := by decide +kernel
theorem dX11_init_43 : decode cX11_init 43 = .ok (.aload_n 0, 1) := by decide +kernel
theorem dX11_init_44 : decode cX11_init 44 = .ok (.iconst 2, 1) := by decide +kernel
theorem dX11_init_45 : decode cX11_init 45 = .ok (.newarray .int, 2) := by decide +kernel
theorem dX11_init_47 : decode cX11_init 47 = .ok (.putfield 26, 3) := by decide +kernel
theorem dX11_init_50 : decode cX11_init 50 = .ok (.aload_n 0, 1) := by decide +kernel
theorem dX11_init_51 : decode cX11_init 51 = .ok (.bipush 6, 2) := by decide +kernel
theorem dX11_init_53 : decode cX11_init 53 = .ok (.newarray .int, 2) := by decide +kernel
theorem dX11_init_55 : decode cX11_init 55 = .ok (.putfield 29, 3) := by decide +kernel
theorem dX11_init_58 : decode cX11_init 58 = .ok (.aload_n 0, 1) := by decide +kernel
theorem dX11_init_59 : decode cX11_init 59 = .ok (.iconst 4, 1) := by decide +kernel
theorem dX11_init_60 : decode cX11_init 60 = .ok (.newarray .int, 2) := by decide +kernel
theorem dX11_init_62 : decode cX11_init 62 = .ok (.putfield 32, 3) := by decide +kernel
theorem dX11_init_65 : decode cX11_init 65 = .ok (.aload_n 0, 1) := by decide +kernel
theorem dX11_init_66 : decode cX11_init 66 = .ok (.bipush 127, 2) := by decide +kernel
theorem dX11_init_68 : decode cX11_init 68 = .ok (.newarray .int, 2) := by decide +kernel
theorem dX11_init_70 : decode cX11_init 70 = .ok (.putfield 35, 3) := by decide +kernel
theorem dX11_init_73 : decode cX11_init 73 = .ok (.aload_n 0, 1) := by decide +kernel
theorem dX11_init_74 : decode cX11_init 74 = .ok (.iconst 4, 1) := by decide +kernel
theorem dX11_init_75 : decode cX11_init 75 = .ok (.newarray .int, 2) := by decide +kernel
theorem dX11_init_77 : decode cX11_init 77 = .ok (.putfield 38, 3) := by decide +kernel
theorem dX11_init_80 : decode cX11_init 80 = .ok (.aload_n 0, 1) := by decide +kernel
theorem dX11_init_81 : decode cX11_init 81 = .ok (.bipush 12, 2) := by decide +kernel
theorem dX11_init_83 : decode cX11_init 83 = .ok (.newarray .int, 2) := by decide +kernel
theorem dX11_init_85 : decode cX11_init 85 = .ok (.putfield 41, 3) := by decide +kernel
theorem dX11_init_88 : decode cX11_init 88 = .ok (.aload_n 0, 1) := by decide +kernel
theorem dX11_init_89 : decode cX11_init 89 = .ok (.bipush 12, 2) := by decide +kernel
theorem dX11_init_91 : decode cX11_init 91 = .ok (.newarray .int, 2) := by decide +kernel
theorem dX11_init_93 : decode cX11_init 93 = .ok (.putfield 44, 3) := by decide +kernel
theorem dX11_init_96 : decode cX11_init 96 = .ok (.aload_n 0, 1) := by decide +kernel
theorem dX11_init_97 : decode cX11_init 97 = .ok (.iconst 2, 1) := by decide +kernel
theorem dX11_init_98 : decode cX11_init 98 = .ok (.newarray .int, 2) := by decide +kernel
theorem dX11_init_100 : decode cX11_init 100 = .ok (.putfield 47, 3) := by decide +kernel
theorem dX11_init_103 : decode cX11_init 103 = .ok (.aload_n 0, 1) := by decide +kernel
theorem dX11_init_104 : decode cX11_init 104 = .ok (.bipush 6, 2) := by decide +kernel
theorem dX11_init_106 : decode cX11_init 106 = .ok (.newarray .int, 2) := by decide +kernel
theorem dX11_init_108 : decode cX11_init 108 = .ok (.putfield 50, 3) := by decide +kernel
theorem dX11_init_111 : decode cX11_init 111 = .ok (.aload_n 0, 1) := by decide +kernel
theorem dX11_init_112 : decode cX11_init 112 = .ok (.iconst 4, 1) := by decide +kernel
theorem dX11_init_113 : decode cX11_init 113 = .ok (.newarray .int, 2) := by decide +kernel
theorem dX11_init_115 : decode cX11_init 115 = .ok (.putfield 53, 3) := by decide +kernel
theorem dX11_init_118 : decode cX11_init 118 = .ok (.aload_n 0, 1) := by decide +kernel
theorem dX11_init_119 : decode cX11_init 119 = .ok (.sipush 400, 3) := by decide +kernel
theorem dX11_init_122 : decode cX11_init 122 = .ok (.newarray .int, 2) := by decide +kernel
theorem dX11_init_124 : decode cX11_init 124 = .ok (.putfield 56, 3) := by decide +kernel
theorem dX11_init_127 : decode cX11_init 127 = .ok (.aload_n 0, 1) := by decide +kernel
theorem dX11_init_128 : decode cX11_init 128 = .ok (.bipush 16, 2) := by decide +kernel
theorem dX11_init_130 : decode cX11_init 130 = .ok (.newarray .int, 2) := by decide +kernel
theorem dX11_init_132 : decode cX11_init 132 = .ok (.putfield 59, 3) := by decide +kernel
theorem dX11_init_135 : decode cX11_init 135 = .ok (.aload_n 0, 1) := by decide +kernel
theorem dX11_init_136 : decode cX11_init 136 = .ok (.bipush 8, 2) := by decide +kernel
theorem dX11_init_138 : decode cX11_init 138 = .ok (.newarray .int, 2) := by decide +kernel
theorem dX11_init_140 : decode cX11_init 140 = .ok (.putfield 62, 3) := by decide +kernel
theorem dX11_init_143 : decode cX11_init 143 = .ok (.aload_n 0, 1) := by decide +kernel
theorem dX11_init_144 : decode cX11_init 144 = .ok (.bipush 16, 2) := by decide +kernel
theorem dX11_init_146 : decode cX11_init 146 = .ok (.newarray .boolean, 2) := by decide +kernel
theorem dX11_init_148 : decode cX11_init 148 = .ok (.putfield 65, 3) := by decide +kernel
theorem dX11_init_151 : decode cX11_init 151 = .ok (.aload_n 0, 1) := by decide +kernel
theorem dX11_init_152 : decode cX11_init 152 = .ok (.bipush 8, 2) := by decide +kernel
theorem dX11_init_154 : decode cX11_init 154 = .ok (.newarray .boolean, 2) := by decide +kernel
theorem dX11_init_156 : decode cX11_init 156 = .ok (.putfield 68, 3) := by decide +kernel
theorem dX11_init_159 : decode cX11_init 159 = .ok (.aload_n 0, 1) := by decide +kernel
theorem dX11_init_160 : decode cX11_init 160 = .ok (.iconst 2, 1) := by decide +kernel
theorem dX11_init_161 : decode cX11_init 161 = .ok (.newarray .int, 2) := by decide +kernel
theorem dX11_init_163 : decode cX11_init 163 = .ok (.putfield 71, 3) := by decide +kernel
theorem dX11_init_166 : decode cX11_init 166 = .ok (.aload_n 0, 1) := by decide +kernel
theorem dX11_init_167 : decode cX11_init 167 = .ok (.bipush 12, 2) := by decide +kernel
theorem dX11_init_169 : decode cX11_init 169 = .ok (.newarray .int, 2) := by decide +kernel
theorem dX11_init_171 : decode cX11_init 171 = .ok (.putfield 74, 3) := by decide +kernel
theorem dX11_init_174 : decode cX11_init 174 = .ok (.aload_n 0, 1) := by decide +kernel
theorem dX11_init_175 : decode cX11_init 175 = .ok (.sipush 4096, 3) := by decide +kernel
theorem dX11_init_178 : decode cX11_init 178 = .ok (.newarray .int, 2) := by decide +kernel
theorem dX11_init_180 : decode cX11_init 180 = .ok (.putfield 77, 3) := by decide +kernel
theorem dX11_init_183 : decode cX11_init 183 = .ok (.aload_n 0, 1) := by decide +kernel
theorem dX11_init_184 : decode cX11_init 184 = .ok (.iconst 4, 1) := by decide +kernel
theorem dX11_init_185 : decode cX11_init 185 = .ok (.newarray .int, 2) := by decide +kernel
theorem dX11_init_187 : decode cX11_init 187 = .ok (.putfield 80, 3) := by decide +kernel
theorem dX11_init_190 : decode cX11_init 190 = .ok (.aload_n 0, 1) := by decide +kernel
theorem dX11_init_191 : decode cX11_init 191 = .ok (.iconst 4, 1) := by decide +kernel
theorem dX11_init_192 : decode cX11_init 192 = .ok (.newarray .int, 2) := by decide +kernel
theorem dX11_init_194 : decode cX11_init 194 = .ok (.putfield 83, 3) := by decide +kernel
theorem dX11_init_197 : decode cX11_init 197 = .ok (.aload_n 0, 1) := by decide +kernel
theorem dX11_init_198 : decode cX11_init 198 = .ok (.sipush 160, 3) := by decide +kernel
theorem dX11_init_201 : decode cX11_init 201 = .ok (.newarray .int, 2) := by decide +kernel
theorem dX11_init_203 : decode cX11_init 203 = .ok (.putfield 86, 3) := by decide +kernel
theorem dX11_init_206 : decode cX11_init 206 = .ok (.iconst 0, 1) := by decide +kernel
theorem dX11_init_207 : decode cX11_init 207 = .ok (.istore_n 1, 1) := by decide +kernel
theorem dX11_init_208 : decode cX11_init 208 = .ok (.iload_n 1, 1) := by decide +kernel
theorem dX11_init_209 : decode cX11_init 209 = .ok (.iconst 4, 1) := by decide +kernel
theorem dX11_init_210 : decode cX11_init 210 = .ok (.if_icmp .ge 17, 3) := by decide +kernel
theorem dX11_init_213 : decode cX11_init 213 = .ok (.aload_n 0, 1) := by decide +kernel
theorem dX11_init_214 : decode cX11_init 214 = .ok (.getfield 80, 3) := by decide +kernel
theorem dX11_init_217 : decode cX11_init 217 = .ok (.iload_n 1, 1) := by decide +kernel
theorem dX11_init_218 : decode cX11_init 218 = .ok (.bipush (-4), 2) := by decide +kernel
theorem dX11_init_220 : decode cX11_init 220 = .ok (.iastore, 1) := by decide +kernel
theorem dX11_init_221 : decode cX11_init 221 = .ok (.iinc 1 1, 3) := by decide +kernel
theorem dX11_init_224 : decode cX11_init 224 = .ok (.goto (-16), 3) := by decide +kernel
theorem dX11_init_227 : decode cX11_init 227 = .ok (.aload_n 0, 1) := by decide +kernel
theorem dX11_init_228 : decode cX11_init 228 = .ok (.invokevirtual 89, 3) := by decide +kernel
theorem dX11_init_231 : decode cX11_init 231 = .ok (.aload_n 0, 1) := by decide +kernel
theorem dX11_init_232 : decode cX11_init 232 = .ok (.invokevirtual 92, 3) := by decide +kernel
theorem dX11_init_235 : decode cX11_init 235 = .ok (.return_, 1) := by decide +kernel
theorem dX11_in_0 : decode cX11_in 0 = .ok (.lload_n 0, 1) := by decide +kernel
theorem dX11_in_1 : decode cX11_in 1 = .ok (.lload_n 2, 1) := by decide +kernel
theorem dX11_in_2 : decode cX11_in 2 = .ok (.lcmp, 1) := by decide +kernel
theorem dX11_in_3 : decode cX11_in 3 = .ok (.ifCond .lt 14, 3) := by decide +kernel
theorem dX11_in_6 : decode cX11_in 6 = .ok (.lload_n 0, 1) := by decide +kernel
theorem dX11_in_7 : decode cX11_in 7 = .ok (.lload 4, 2) := by decide +kernel
theorem dX11_in_9 : decode cX11_in 9 = .ok (.lcmp, 1) := by decide +kernel
theorem dX11_in_10 : decode cX11_in 10 = .ok (.ifCond .gt 7, 3) := by decide +kernel
theorem dX11_in_13 : decode cX11_in 13 = .ok (.iconst 1, 1) := by decide +kernel
theorem dX11_in_14 : decode cX11_in 14 = .ok (.goto 4, 3) := by decide +kernel
theorem dX11_in_17 : decode cX11_in 17 = .ok (.iconst 0, 1) := by decide +kernel
theorem dX11_in_18 : decode cX11_in 18 = .ok (.ireturn, 1) := by decide +kernel
theorem dX11_flag_0 : decode cX11_flag 0 = .ok (.iload_n 0, 1) := by decide +kernel
theorem dX11_flag_1 : decode cX11_flag 1 = .ok (.ifCond .eq 7, 3) := by decide +kernel
theorem dX11_flag_4 : decode cX11_flag 4 = .ok (.iconst 1, 1) := by decide +kernel
theorem dX11_flag_5 : decode cX11_flag 5 = .ok (.goto 4, 3) := by decide +kernel
theorem dX11_flag_8 : decode cX11_flag 8 = .ok (.iconst 0, 1) := by decide +kernel
theorem dX11_flag_9 : decode cX11_flag 9 = .ok (.ireturn, 1) := by decide +kernel
theorem dX11_firstDraft_0 : decode cX11_firstDraft 0 = .ok (.iconst 0, 1) := by decide +kernel
theorem dX11_firstDraft_1 : decode cX11_firstDraft 1 = .ok (.istore_n 1, 1) := by decide +kernel
theorem dX11_firstDraft_2 : decode cX11_firstDraft 2 = .ok (.iload_n 1, 1) := by decide +kernel
theorem dX11_firstDraft_3 : decode cX11_firstDraft 3 = .ok (.bipush 127, 2) := by decide +kernel
theorem dX11_firstDraft_5 : decode cX11_firstDraft 5 = .ok (.if_icmp .ge 16, 3) := by decide +kernel
theorem dX11_firstDraft_8 : decode cX11_firstDraft 8 = .ok (.aload_n 0, 1) := by decide +kernel
theorem dX11_firstDraft_9 : decode cX11_firstDraft 9 = .ok (.getfield 35, 3) := by decide +kernel
theorem dX11_firstDraft_12 : decode cX11_firstDraft 12 = .ok (.iload_n 1, 1) := by decide +kernel
theorem dX11_firstDraft_13 : decode cX11_firstDraft 13 = .ok (.iconst 0, 1) := by decide +kernel
theorem dX11_firstDraft_14 : decode cX11_firstDraft 14 = .ok (.iastore, 1) := by decide +kernel
theorem dX11_firstDraft_15 : decode cX11_firstDraft 15 = .ok (.iinc 1 1, 3) := by decide +kernel
theorem dX11_firstDraft_18 : decode cX11_firstDraft 18 = .ok (.goto (-16), 3) := by decide +kernel
theorem dX11_firstDraft_21 : decode cX11_firstDraft 21 = .ok (.aload_n 0, 1) := by decide +kernel
theorem dX11_firstDraft_22 : decode cX11_firstDraft 22 = .ok (.iconst 5, 1) := by decide +kernel
theorem dX11_firstDraft_23 : decode cX11_firstDraft 23 = .ok (.putfield 95, 3) := by decide +kernel
theorem dX11_firstDraft_26 : decode cX11_firstDraft 26 = .ok (.aload_n 0, 1) := by decide +kernel
theorem dX11_firstDraft_27 : decode cX11_firstDraft 27 = .ok (.iconst 3, 1) := by decide +kernel
theorem dX11_firstDraft_28 : decode cX11_firstDraft 28 = .ok (.putfield 99, 3) := by decide +kernel
theorem dX11_firstDraft_31 : decode cX11_firstDraft 31 = .ok (.aload_n 0, 1) := by decide +kernel
theorem dX11_firstDraft_32 : decode cX11_firstDraft 32 = .ok (.iconst 1, 1) := by decide +kernel
theorem dX11_firstDraft_33 : decode cX11_firstDraft 33 = .ok (.putfield 102, 3) := by decide +kernel
theorem dX11_firstDraft_36 : decode cX11_firstDraft 36 = .ok (.iconst 0, 1) := by decide +kernel
theorem dX11_firstDraft_37 : decode cX11_firstDraft 37 = .ok (.istore_n 1, 1) := by decide +kernel
theorem dX11_firstDraft_38 : decode cX11_firstDraft 38 = .ok (.iload_n 1, 1) := by decide +kernel
theorem dX11_firstDraft_39 : decode cX11_firstDraft 39 = .ok (.iconst 4, 1) := by decide +kernel
theorem dX11_firstDraft_40 : decode cX11_firstDraft 40 = .ok (.if_icmp .ge 23, 3) := by decide +kernel
theorem dX11_firstDraft_43 : decode cX11_firstDraft 43 = .ok (.aload_n 0, 1) := by decide +kernel
theorem dX11_firstDraft_44 : decode cX11_firstDraft 44 = .ok (.getfield 38, 3) := by decide +kernel
theorem dX11_firstDraft_47 : decode cX11_firstDraft 47 = .ok (.iload_n 1, 1) := by decide +kernel
theorem dX11_firstDraft_48 : decode cX11_firstDraft 48 = .ok (.iconst 1, 1) := by decide +kernel
theorem dX11_firstDraft_49 : decode cX11_firstDraft 49 = .ok (.iastore, 1) := by decide +kernel
theorem dX11_firstDraft_50 : decode cX11_firstDraft 50 = .ok (.aload_n 0, 1) := by decide +kernel
theorem dX11_firstDraft_51 : decode cX11_firstDraft 51 = .ok (.getfield 53, 3) := by decide +kernel
theorem dX11_firstDraft_54 : decode cX11_firstDraft 54 = .ok (.iload_n 1, 1) := by decide +kernel
theorem dX11_firstDraft_55 : decode cX11_firstDraft 55 = .ok (.iload_n 1, 1) := by decide +kernel
theorem dX11_firstDraft_56 : decode cX11_firstDraft 56 = .ok (.iastore, 1) := by decide +kernel
theorem dX11_firstDraft_57 : decode cX11_firstDraft 57 = .ok (.iinc 1 1, 3) := by decide +kernel
theorem dX11_firstDraft_60 : decode cX11_firstDraft 60 = .ok (.goto (-22), 3) := by decide +kernel
theorem dX11_firstDraft_63 : decode cX11_firstDraft 63 = .ok (.iconst 0, 1) := by decide +kernel
theorem dX11_firstDraft_64 : decode cX11_firstDraft 64 = .ok (.istore_n 1, 1) := by decide +kernel
theorem dX11_firstDraft_65 : decode cX11_firstDraft 65 = .ok (.iload_n 1, 1) := by decide +kernel
theorem dX11_firstDraft_66 : decode cX11_firstDraft 66 = .ok (.bipush 12, 2) := by decide +kernel
theorem dX11_firstDraft_68 : decode cX11_firstDraft 68 = .ok (.if_icmp .ge 34, 3) := by decide +kernel
theorem dX11_firstDraft_71 : decode cX11_firstDraft 71 = .ok (.aload_n 0, 1) := by decide +kernel
theorem dX11_firstDraft_72 : decode cX11_firstDraft 72 = .ok (.getfield 41, 3) := by decide +kernel
theorem dX11_firstDraft_75 : decode cX11_firstDraft 75 = .ok (.iload_n 1, 1) := by decide +kernel
theorem dX11_firstDraft_76 : decode cX11_firstDraft 76 = .ok (.iconst 5, 1) := by decide +kernel
theorem dX11_firstDraft_77 : decode cX11_firstDraft 77 = .ok (.iastore, 1) := by decide +kernel
theorem dX11_firstDraft_78 : decode cX11_firstDraft 78 = .ok (.aload_n 0, 1) := by decide +kernel
theorem dX11_firstDraft_79 : decode cX11_firstDraft 79 = .ok (.getfield 44, 3) := by decide +kernel
theorem dX11_firstDraft_82 : decode cX11_firstDraft 82 = .ok (.iload_n 1, 1) := by decide +kernel
theorem dX11_firstDraft_83 : decode cX11_firstDraft 83 = .ok (.iload_n 1, 1) := by decide +kernel
theorem dX11_firstDraft_84 : decode cX11_firstDraft 84 = .ok (.bipush 6, 2) := by decide +kernel
theorem dX11_firstDraft_86 : decode cX11_firstDraft 86 = .ok (.irem, 1) := by decide +kernel
theorem dX11_firstDraft_87 : decode cX11_firstDraft 87 = .ok (.ifCond .ne 7, 3) := by decide +kernel
theorem dX11_firstDraft_90 : decode cX11_firstDraft 90 = .ok (.iconst 0, 1) := by decide +kernel
theorem dX11_firstDraft_91 : decode cX11_firstDraft 91 = .ok (.goto 4, 3) := by decide +kernel
theorem dX11_firstDraft_94 : decode cX11_firstDraft 94 = .ok (.iconst 3, 1) := by decide +kernel
theorem dX11_firstDraft_95 : decode cX11_firstDraft 95 = .ok (.iastore, 1) := by decide +kernel
theorem dX11_firstDraft_96 : decode cX11_firstDraft 96 = .ok (.iinc 1 1, 3) := by decide +kernel
theorem dX11_firstDraft_99 : decode cX11_firstDraft 99 = .ok (.goto (-34), 3) := by decide +kernel
theorem dX11_firstDraft_102 : decode cX11_firstDraft 102 = .ok (.aload_n 0, 1) := by decide +kernel
theorem dX11_firstDraft_103 : decode cX11_firstDraft 103 = .ok (.getfield 47, 3) := by decide +kernel
theorem dX11_firstDraft_106 : decode cX11_firstDraft 106 = .ok (.iconst 0, 1) := by decide +kernel
theorem dX11_firstDraft_107 : decode cX11_firstDraft 107 = .ok (.iconst 0, 1) := by decide +kernel
theorem dX11_firstDraft_108 : decode cX11_firstDraft 108 = .ok (.iastore, 1) := by decide +kernel
theorem dX11_firstDraft_109 : decode cX11_firstDraft 109 = .ok (.aload_n 0, 1) := by decide +kernel
theorem dX11_firstDraft_110 : decode cX11_firstDraft 110 = .ok (.getfield 47, 3) := by decide +kernel
theorem dX11_firstDraft_113 : decode cX11_firstDraft 113 = .ok (.iconst 1, 1) := by decide +kernel
theorem dX11_firstDraft_114 : decode cX11_firstDraft 114 = .ok (.iconst 0, 1) := by decide +kernel
theorem dX11_firstDraft_115 : decode cX11_firstDraft 115 = .ok (.iastore, 1) := by decide +kernel
theorem dX11_firstDraft_116 : decode cX11_firstDraft 116 = .ok (.iconst 0, 1) := by decide +kernel
theorem dX11_firstDraft_117 : decode cX11_firstDraft 117 = .ok (.istore_n 1, 1) := by decide +kernel
theorem dX11_firstDraft_118 : decode cX11_firstDraft 118 = .ok (.iload_n 1, 1) := by decide +kernel
theorem dX11_firstDraft_119 : decode cX11_firstDraft 119 = .ok (.bipush 6, 2) := by decide +kernel
theorem dX11_firstDraft_121 : decode cX11_firstDraft 121 = .ok (.if_icmp .ge 16, 3) := by decide +kernel
theorem dX11_firstDraft_124 : decode cX11_firstDraft 124 = .ok (.aload_n 0, 1) := by decide +kernel
theorem dX11_firstDraft_125 : decode cX11_firstDraft 125 = .ok (.getfield 50, 3) := by decide +kernel
theorem dX11_firstDraft_128 : decode cX11_firstDraft 128 = .ok (.iload_n 1, 1) := by decide +kernel
theorem dX11_firstDraft_129 : decode cX11_firstDraft 129 = .ok (.iload_n 1, 1) := by decide +kernel
theorem dX11_firstDraft_130 : decode cX11_firstDraft 130 = .ok (.iastore, 1) := by decide +kernel
theorem dX11_firstDraft_131 : decode cX11_firstDraft 131 = .ok (.iinc 1 1, 3) := by decide +kernel
theorem dX11_firstDraft_134 : decode cX11_firstDraft 134 = .ok (.goto (-16), 3) := by decide +kernel
theorem dX11_firstDraft_137 : decode cX11_firstDraft 137 = .ok (.aload_n 0, 1) := by decide +kernel
theorem dX11_firstDraft_138 : decode cX11_firstDraft 138 = .ok (.iconst 0, 1) := by decide +kernel
theorem dX11_firstDraft_139 : decode cX11_firstDraft 139 = .ok (.putfield 105, 3) := by decide +kernel
theorem dX11_firstDraft_142 : decode cX11_firstDraft 142 = .ok (.aload_n 0, 1) := by decide +kernel
theorem dX11_firstDraft_143 : decode cX11_firstDraft 143 = .ok (.iconst 0, 1) := by decide +kernel
theorem dX11_firstDraft_144 : decode cX11_firstDraft 144 = .ok (.putfield 108, 3) := by decide +kernel
theorem dX11_firstDraft_147 : decode cX11_firstDraft 147 = .ok (.aload_n 0, 1) := by decide +kernel
theorem dX11_firstDraft_148 : decode cX11_firstDraft 148 = .ok (.iconst 0, 1) := by decide +kernel
theorem dX11_firstDraft_149 : decode cX11_firstDraft 149 = .ok (.putfield 111, 3) := by decide +kernel
theorem dX11_firstDraft_152 : decode cX11_firstDraft 152 = .ok (.aload_n 0, 1) := by decide +kernel
theorem dX11_firstDraft_153 : decode cX11_firstDraft 153 = .ok (.iconst 0, 1) := by decide +kernel
theorem dX11_firstDraft_154 : decode cX11_firstDraft 154 = .ok (.putfield 114, 3) := by decide +kernel
theorem dX11_firstDraft_157 : decode cX11_firstDraft 157 = .ok (.aload_n 0, 1) := by decide +kernel
theorem dX11_firstDraft_158 : decode cX11_firstDraft 158 = .ok (.iconst 0, 1) := by decide +kernel
theorem dX11_firstDraft_159 : decode cX11_firstDraft 159 = .ok (.putfield 117, 3) := by decide +kernel
theorem dX11_firstDraft_162 : decode cX11_firstDraft 162 = .ok (.aload_n 0, 1) := by decide +kernel
theorem dX11_firstDraft_163 : decode cX11_firstDraft 163 = .ok (.iconst 0, 1) := by decide +kernel
theorem dX11_firstDraft_164 : decode cX11_firstDraft 164 = .ok (.putfield 120, 3) := by decide +kernel
theorem dX11_firstDraft_167 : decode cX11_firstDraft 167 = .ok (.aload_n 0, 1) := by decide +kernel
theorem dX11_firstDraft_168 : decode cX11_firstDraft 168 = .ok (.iconst 0, 1) := by decide +kernel
theorem dX11_firstDraft_169 : decode cX11_firstDraft 169 = .ok (.putfield 123, 3) := by decide +kernel
theorem dX11_firstDraft_172 : decode cX11_firstDraft 172 = .ok (.aload_n 0, 1) := by decide +kernel
theorem dX11_firstDraft_173 : decode cX11_firstDraft 173 = .ok (.bipush (-4), 2) := by decide +kernel
theorem dX11_firstDraft_175 : decode cX11_firstDraft 175 = .ok (.putfield 126, 3) := by decide +kernel
theorem dX11_firstDraft_178 : decode cX11_firstDraft 178 = .ok (.return_, 1) := by decide +kernel
theorem dX11_keepDraft_0 : decode cX11_keepDraft 0 = .ok (.iconst 0, 1) := by decide +kernel
theorem dX11_keepDraft_1 : decode cX11_keepDraft 1 = .ok (.istore_n 1, 1) := by decide +kernel
theorem dX11_keepDraft_2 : decode cX11_keepDraft 2 = .ok (.iload_n 1, 1) := by decide +kernel
theorem dX11_keepDraft_3 : decode cX11_keepDraft 3 = .ok (.bipush 127, 2) := by decide +kernel
theorem dX11_keepDraft_5 : decode cX11_keepDraft 5 = .ok (.if_icmp .ge 21, 3) := by decide +kernel
theorem dX11_keepDraft_8 : decode cX11_keepDraft 8 = .ok (.aload_n 0, 1) := by decide +kernel
theorem dX11_keepDraft_9 : decode cX11_keepDraft 9 = .ok (.getfield 7, 3) := by decide +kernel
theorem dX11_keepDraft_12 : decode cX11_keepDraft 12 = .ok (.iload_n 1, 1) := by decide +kernel
theorem dX11_keepDraft_13 : decode cX11_keepDraft 13 = .ok (.aload_n 0, 1) := by decide +kernel
theorem dX11_keepDraft_14 : decode cX11_keepDraft 14 = .ok (.getfield 35, 3) := by decide +kernel
theorem dX11_keepDraft_17 : decode cX11_keepDraft 17 = .ok (.iload_n 1, 1) := by decide +kernel
theorem dX11_keepDraft_18 : decode cX11_keepDraft 18 = .ok (.iaload, 1) := by decide +kernel
theorem dX11_keepDraft_19 : decode cX11_keepDraft 19 = .ok (.iastore, 1) := by decide +kernel
theorem dX11_keepDraft_20 : decode cX11_keepDraft 20 = .ok (.iinc 1 1, 3) := by decide +kernel
theorem dX11_keepDraft_23 : decode cX11_keepDraft 23 = .ok (.goto (-21), 3) := by decide +kernel
theorem dX11_keepDraft_26 : decode cX11_keepDraft 26 = .ok (.aload_n 0, 1) := by decide +kernel
theorem dX11_keepDraft_27 : decode cX11_keepDraft 27 = .ok (.aload_n 0, 1) := by decide +kernel
theorem dX11_keepDraft_28 : decode cX11_keepDraft 28 = .ok (.getfield 95, 3) := by decide +kernel
theorem dX11_keepDraft_31 : decode cX11_keepDraft 31 = .ok (.putfield 129, 3) := by decide +kernel
theorem dX11_keepDraft_34 : decode cX11_keepDraft 34 = .ok (.aload_n 0, 1) := by decide +kernel
theorem dX11_keepDraft_35 : decode cX11_keepDraft 35 = .ok (.aload_n 0, 1) := by decide +kernel
theorem dX11_keepDraft_36 : decode cX11_keepDraft 36 = .ok (.getfield 99, 3) := by decide +kernel
theorem dX11_keepDraft_39 : decode cX11_keepDraft 39 = .ok (.putfield 132, 3) := by decide +kernel
theorem dX11_keepDraft_42 : decode cX11_keepDraft 42 = .ok (.aload_n 0, 1) := by decide +kernel
theorem dX11_keepDraft_43 : decode cX11_keepDraft 43 = .ok (.aload_n 0, 1) := by decide +kernel
theorem dX11_keepDraft_44 : decode cX11_keepDraft 44 = .ok (.getfield 102, 3) := by decide +kernel
theorem dX11_keepDraft_47 : decode cX11_keepDraft 47 = .ok (.putfield 135, 3) := by decide +kernel
theorem dX11_keepDraft_50 : decode cX11_keepDraft 50 = .ok (.iconst 0, 1) := by decide +kernel
theorem dX11_keepDraft_51 : decode cX11_keepDraft 51 = .ok (.istore_n 1, 1) := by decide +kernel
theorem dX11_keepDraft_52 : decode cX11_keepDraft 52 = .ok (.iload_n 1, 1) := by decide +kernel
theorem dX11_keepDraft_53 : decode cX11_keepDraft 53 = .ok (.iconst 4, 1) := by decide +kernel
theorem dX11_keepDraft_54 : decode cX11_keepDraft 54 = .ok (.if_icmp .ge 33, 3) := by decide +kernel
theorem dX11_keepDraft_57 : decode cX11_keepDraft 57 = .ok (.aload_n 0, 1) := by decide +kernel
theorem dX11_keepDraft_58 : decode cX11_keepDraft 58 = .ok (.getfield 17, 3) := by decide +kernel
theorem dX11_keepDraft_61 : decode cX11_keepDraft 61 = .ok (.iload_n 1, 1) := by decide +kernel
theorem dX11_keepDraft_62 : decode cX11_keepDraft 62 = .ok (.aload_n 0, 1) := by decide +kernel
theorem dX11_keepDraft_63 : decode cX11_keepDraft 63 = .ok (.getfield 38, 3) := by decide +kernel
theorem dX11_keepDraft_66 : decode cX11_keepDraft 66 = .ok (.iload_n 1, 1) := by decide +kernel
theorem dX11_keepDraft_67 : decode cX11_keepDraft 67 = .ok (.iaload, 1) := by decide +kernel
theorem dX11_keepDraft_68 : decode cX11_keepDraft 68 = .ok (.iastore, 1) := by decide +kernel
theorem dX11_keepDraft_69 : decode cX11_keepDraft 69 = .ok (.aload_n 0, 1) := by decide +kernel
theorem dX11_keepDraft_70 : decode cX11_keepDraft 70 = .ok (.getfield 32, 3) := by decide +kernel
theorem dX11_keepDraft_73 : decode cX11_keepDraft 73 = .ok (.iload_n 1, 1) := by decide +kernel
theorem dX11_keepDraft_74 : decode cX11_keepDraft 74 = .ok (.aload_n 0, 1) := by decide +kernel
theorem dX11_keepDraft_75 : decode cX11_keepDraft 75 = .ok (.getfield 53, 3) := by decide +kernel
theorem dX11_keepDraft_78 : decode cX11_keepDraft 78 = .ok (.iload_n 1, 1) := by decide +kernel
theorem dX11_keepDraft_79 : decode cX11_keepDraft 79 = .ok (.iaload, 1) := by decide +kernel
theorem dX11_keepDraft_80 : decode cX11_keepDraft 80 = .ok (.iastore, 1) := by decide +kernel
theorem dX11_keepDraft_81 : decode cX11_keepDraft 81 = .ok (.iinc 1 1, 3) := by decide +kernel
theorem dX11_keepDraft_84 : decode cX11_keepDraft 84 = .ok (.goto (-32), 3) := by decide +kernel
theorem dX11_keepDraft_87 : decode cX11_keepDraft 87 = .ok (.iconst 0, 1) := by decide +kernel
theorem dX11_keepDraft_88 : decode cX11_keepDraft 88 = .ok (.istore_n 1, 1) := by decide +kernel
theorem dX11_keepDraft_89 : decode cX11_keepDraft 89 = .ok (.iload_n 1, 1) := by decide +kernel
theorem dX11_keepDraft_90 : decode cX11_keepDraft 90 = .ok (.bipush 12, 2) := by decide +kernel
theorem dX11_keepDraft_92 : decode cX11_keepDraft 92 = .ok (.if_icmp .ge 47, 3) := by decide +kernel
theorem dX11_keepDraft_95 : decode cX11_keepDraft 95 = .ok (.aload_n 0, 1) := by decide +kernel
theorem dX11_keepDraft_96 : decode cX11_keepDraft 96 = .ok (.getfield 20, 3) := by decide +kernel
theorem dX11_keepDraft_99 : decode cX11_keepDraft 99 = .ok (.iload_n 1, 1) := by decide +kernel
theorem dX11_keepDraft_100 : decode cX11_keepDraft 100 = .ok (.iload_n 1, 1) := by decide +kernel
theorem dX11_keepDraft_101 : decode cX11_keepDraft 101 = .ok (.bipush 6, 2) := by decide +kernel
theorem dX11_keepDraft_103 : decode cX11_keepDraft 103 = .ok (.irem, 1) := by decide +kernel
theorem dX11_keepDraft_104 : decode cX11_keepDraft 104 = .ok (.ifCond .ne 10, 3) := by decide +kernel
theorem dX11_keepDraft_107 : decode cX11_keepDraft 107 = .ok (.aload_n 0, 1) := by decide +kernel
theorem dX11_keepDraft_108 : decode cX11_keepDraft 108 = .ok (.getfield 102, 3) := by decide +kernel
theorem dX11_keepDraft_111 : decode cX11_keepDraft 111 = .ok (.goto 9, 3) := by decide +kernel
theorem dX11_keepDraft_114 : decode cX11_keepDraft 114 = .ok (.aload_n 0, 1) := by decide +kernel
theorem dX11_keepDraft_115 : decode cX11_keepDraft 115 = .ok (.getfield 41, 3) := by decide +kernel
theorem dX11_keepDraft_118 : decode cX11_keepDraft 118 = .ok (.iload_n 1, 1) := by decide +kernel
theorem dX11_keepDraft_119 : decode cX11_keepDraft 119 = .ok (.iaload, 1) := by decide +kernel
theorem dX11_keepDraft_120 : decode cX11_keepDraft 120 = .ok (.iastore, 1) := by decide +kernel
theorem dX11_keepDraft_121 : decode cX11_keepDraft 121 = .ok (.aload_n 0, 1) := by decide +kernel
theorem dX11_keepDraft_122 : decode cX11_keepDraft 122 = .ok (.getfield 23, 3) := by decide +kernel
theorem dX11_keepDraft_125 : decode cX11_keepDraft 125 = .ok (.iload_n 1, 1) := by decide +kernel
theorem dX11_keepDraft_126 : decode cX11_keepDraft 126 = .ok (.aload_n 0, 1) := by decide +kernel
theorem dX11_keepDraft_127 : decode cX11_keepDraft 127 = .ok (.getfield 44, 3) := by decide +kernel
theorem dX11_keepDraft_130 : decode cX11_keepDraft 130 = .ok (.iload_n 1, 1) := by decide +kernel
theorem dX11_keepDraft_131 : decode cX11_keepDraft 131 = .ok (.iaload, 1) := by decide +kernel
theorem dX11_keepDraft_132 : decode cX11_keepDraft 132 = .ok (.iastore, 1) := by decide +kernel
theorem dX11_keepDraft_133 : decode cX11_keepDraft 133 = .ok (.iinc 1 1, 3) := by decide +kernel
theorem dX11_keepDraft_136 : decode cX11_keepDraft 136 = .ok (.goto (-47), 3) := by decide +kernel
theorem dX11_keepDraft_139 : decode cX11_keepDraft 139 = .ok (.aload_n 0, 1) := by decide +kernel
theorem dX11_keepDraft_140 : decode cX11_keepDraft 140 = .ok (.getfield 26, 3) := by decide +kernel
theorem dX11_keepDraft_143 : decode cX11_keepDraft 143 = .ok (.iconst 0, 1) := by decide +kernel
theorem dX11_keepDraft_144 : decode cX11_keepDraft 144 = .ok (.aload_n 0, 1) := by decide +kernel
theorem dX11_keepDraft_145 : decode cX11_keepDraft 145 = .ok (.getfield 47, 3) := by decide +kernel
theorem dX11_keepDraft_148 : decode cX11_keepDraft 148 = .ok (.iconst 0, 1) := by decide +kernel
theorem dX11_keepDraft_149 : decode cX11_keepDraft 149 = .ok (.iaload, 1) := by decide +kernel
theorem dX11_keepDraft_150 : decode cX11_keepDraft 150 = .ok (.iastore, 1) := by decide +kernel
theorem dX11_keepDraft_151 : decode cX11_keepDraft 151 = .ok (.aload_n 0, 1) := by decide +kernel
theorem dX11_keepDraft_152 : decode cX11_keepDraft 152 = .ok (.getfield 26, 3) := by decide +kernel
theorem dX11_keepDraft_155 : decode cX11_keepDraft 155 = .ok (.iconst 1, 1) := by decide +kernel
theorem dX11_keepDraft_156 : decode cX11_keepDraft 156 = .ok (.aload_n 0, 1) := by decide +kernel
theorem dX11_keepDraft_157 : decode cX11_keepDraft 157 = .ok (.getfield 47, 3) := by decide +kernel
theorem dX11_keepDraft_160 : decode cX11_keepDraft 160 = .ok (.iconst 1, 1) := by decide +kernel
theorem dX11_keepDraft_161 : decode cX11_keepDraft 161 = .ok (.iaload, 1) := by decide +kernel
theorem dX11_keepDraft_162 : decode cX11_keepDraft 162 = .ok (.iastore, 1) := by decide +kernel
theorem dX11_keepDraft_163 : decode cX11_keepDraft 163 = .ok (.aload_n 0, 1) := by decide +kernel
theorem dX11_keepDraft_164 : decode cX11_keepDraft 164 = .ok (.aload_n 0, 1) := by decide +kernel
theorem dX11_keepDraft_165 : decode cX11_keepDraft 165 = .ok (.getfield 105, 3) := by decide +kernel
theorem dX11_keepDraft_168 : decode cX11_keepDraft 168 = .ok (.putfield 138, 3) := by decide +kernel
theorem dX11_keepDraft_171 : decode cX11_keepDraft 171 = .ok (.iconst 0, 1) := by decide +kernel
theorem dX11_keepDraft_172 : decode cX11_keepDraft 172 = .ok (.istore_n 1, 1) := by decide +kernel
theorem dX11_keepDraft_173 : decode cX11_keepDraft 173 = .ok (.iload_n 1, 1) := by decide +kernel
theorem dX11_keepDraft_174 : decode cX11_keepDraft 174 = .ok (.bipush 6, 2) := by decide +kernel
theorem dX11_keepDraft_176 : decode cX11_keepDraft 176 = .ok (.if_icmp .ge 45, 3) := by decide +kernel
theorem dX11_keepDraft_179 : decode cX11_keepDraft 179 = .ok (.aload_n 0, 1) := by decide +kernel
theorem dX11_keepDraft_180 : decode cX11_keepDraft 180 = .ok (.getfield 29, 3) := by decide +kernel
theorem dX11_keepDraft_183 : decode cX11_keepDraft 183 = .ok (.iload_n 1, 1) := by decide +kernel
theorem dX11_keepDraft_184 : decode cX11_keepDraft 184 = .ok (.aload_n 0, 1) := by decide +kernel
theorem dX11_keepDraft_185 : decode cX11_keepDraft 185 = .ok (.getfield 50, 3) := by decide +kernel
theorem dX11_keepDraft_188 : decode cX11_keepDraft 188 = .ok (.iload_n 1, 1) := by decide +kernel
theorem dX11_keepDraft_189 : decode cX11_keepDraft 189 = .ok (.iaload, 1) := by decide +kernel
theorem dX11_keepDraft_190 : decode cX11_keepDraft 190 = .ok (.iastore, 1) := by decide +kernel
theorem dX11_keepDraft_191 : decode cX11_keepDraft 191 = .ok (.aload_n 0, 1) := by decide +kernel
theorem dX11_keepDraft_192 : decode cX11_keepDraft 192 = .ok (.dup, 1) := by decide +kernel
theorem dX11_keepDraft_193 : decode cX11_keepDraft 193 = .ok (.getfield 138, 3) := by decide +kernel
theorem dX11_keepDraft_196 : decode cX11_keepDraft 196 = .ok (.aload_n 0, 1) := by decide +kernel
theorem dX11_keepDraft_197 : decode cX11_keepDraft 197 = .ok (.getfield 105, 3) := by decide +kernel
theorem dX11_keepDraft_200 : decode cX11_keepDraft 200 = .ok (.iload_n 1, 1) := by decide +kernel
theorem dX11_keepDraft_201 : decode cX11_keepDraft 201 = .ok (.ishr, 1) := by decide +kernel
theorem dX11_keepDraft_202 : decode cX11_keepDraft 202 = .ok (.iconst 1, 1) := by decide +kernel
theorem dX11_keepDraft_203 : decode cX11_keepDraft 203 = .ok (.iand, 1) := by decide +kernel
theorem dX11_keepDraft_204 : decode cX11_keepDraft 204 = .ok (.aload_n 0, 1) := by decide +kernel
theorem dX11_keepDraft_205 : decode cX11_keepDraft 205 = .ok (.getfield 50, 3) := by decide +kernel
theorem dX11_keepDraft_208 : decode cX11_keepDraft 208 = .ok (.iload_n 1, 1) := by decide +kernel
theorem dX11_keepDraft_209 : decode cX11_keepDraft 209 = .ok (.iaload, 1) := by decide +kernel
theorem dX11_keepDraft_210 : decode cX11_keepDraft 210 = .ok (.ishl, 1) := by decide +kernel
theorem dX11_keepDraft_211 : decode cX11_keepDraft 211 = .ok (.ior, 1) := by decide +kernel
theorem dX11_keepDraft_212 : decode cX11_keepDraft 212 = .ok (.putfield 138, 3) := by decide +kernel
theorem dX11_keepDraft_215 : decode cX11_keepDraft 215 = .ok (.iinc 1 1, 3) := by decide +kernel
theorem dX11_keepDraft_218 : decode cX11_keepDraft 218 = .ok (.goto (-45), 3) := by decide +kernel
theorem dX11_keepDraft_221 : decode cX11_keepDraft 221 = .ok (.aload_n 0, 1) := by decide +kernel
theorem dX11_keepDraft_222 : decode cX11_keepDraft 222 = .ok (.getfield 13, 3) := by decide +kernel
theorem dX11_keepDraft_225 : decode cX11_keepDraft 225 = .ok (.iconst 0, 1) := by decide +kernel
theorem dX11_keepDraft_226 : decode cX11_keepDraft 226 = .ok (.iconst 0, 1) := by decide +kernel
theorem dX11_keepDraft_227 : decode cX11_keepDraft 227 = .ok (.bastore, 1) := by decide +kernel
theorem dX11_keepDraft_228 : decode cX11_keepDraft 228 = .ok (.aload_n 0, 1) := by decide +kernel
theorem dX11_keepDraft_229 : decode cX11_keepDraft 229 = .ok (.getfield 13, 3) := by decide +kernel
theorem dX11_keepDraft_232 : decode cX11_keepDraft 232 = .ok (.iconst 1, 1) := by decide +kernel
theorem dX11_keepDraft_233 : decode cX11_keepDraft 233 = .ok (.iconst 0, 1) := by decide +kernel
theorem dX11_keepDraft_234 : decode cX11_keepDraft 234 = .ok (.bastore, 1) := by decide +kernel
theorem dX11_keepDraft_235 : decode cX11_keepDraft 235 = .ok (.return_, 1) := by decide +kernel
theorem dX11_feed_0 : decode cX11_feed 0 = .ok (.aload_n 0, 1) := by decide +kernel
theorem dX11_feed_1 : decode cX11_feed 1 = .ok (.getfield 141, 3) := by decide +kernel
theorem dX11_feed_4 : decode cX11_feed 4 = .ok (.bipush 8, 2) := by decide +kernel
theorem dX11_feed_6 : decode cX11_feed 6 = .ok (.iadd, 1) := by decide +kernel
theorem dX11_feed_7 : decode cX11_feed 7 = .ok (.sipush 400, 3) := by decide +kernel
theorem dX11_feed_10 : decode cX11_feed 10 = .ok (.if_icmp .le 6, 3) := by decide +kernel
theorem dX11_feed_13 : decode cX11_feed 13 = .ok (.bipush (-3), 2) := by decide +kernel
theorem dX11_feed_15 : decode cX11_feed 15 = .ok (.ireturn, 1) := by decide +kernel
theorem dX11_feed_16 : decode cX11_feed 16 = .ok (.bipush 56, 2) := by decide +kernel
theorem dX11_feed_18 : decode cX11_feed 18 = .ok (.istore_n 3, 1) := by decide +kernel
theorem dX11_feed_19 : decode cX11_feed 19 = .ok (.iload_n 3, 1) := by decide +kernel
theorem dX11_feed_20 : decode cX11_feed 20 = .ok (.ifCond .lt 36, 3) := by decide +kernel
theorem dX11_feed_23 : decode cX11_feed 23 = .ok (.aload_n 0, 1) := by decide +kernel
theorem dX11_feed_24 : decode cX11_feed 24 = .ok (.getfield 56, 3) := by decide +kernel
theorem dX11_feed_27 : decode cX11_feed 27 = .ok (.aload_n 0, 1) := by decide +kernel
theorem dX11_feed_28 : decode cX11_feed 28 = .ok (.getfield 141, 3) := by decide +kernel
theorem dX11_feed_31 : decode cX11_feed 31 = .ok (.lload_n 1, 1) := by decide +kernel
theorem dX11_feed_32 : decode cX11_feed 32 = .ok (.iload_n 3, 1) := by decide +kernel
theorem dX11_feed_33 : decode cX11_feed 33 = .ok (.lshr, 1) := by decide +kernel
theorem dX11_feed_34 : decode cX11_feed 34 = .ok (.ldc2_w 144, 3) := by decide +kernel
theorem dX11_feed_37 : decode cX11_feed 37 = .ok (.land, 1) := by decide +kernel
theorem dX11_feed_38 : decode cX11_feed 38 = .ok (.l2i, 1) := by decide +kernel
theorem dX11_feed_39 : decode cX11_feed 39 = .ok (.iastore, 1) := by decide +kernel
theorem dX11_feed_40 : decode cX11_feed 40 = .ok (.aload_n 0, 1) := by decide +kernel
theorem dX11_feed_41 : decode cX11_feed 41 = .ok (.dup, 1) := by decide +kernel
theorem dX11_feed_42 : decode cX11_feed 42 = .ok (.getfield 141, 3) := by decide +kernel
theorem dX11_feed_45 : decode cX11_feed 45 = .ok (.iconst 1, 1) := by decide +kernel
theorem dX11_feed_46 : decode cX11_feed 46 = .ok (.iadd, 1) := by decide +kernel
theorem dX11_feed_47 : decode cX11_feed 47 = .ok (.putfield 141, 3) := by decide +kernel
theorem dX11_feed_50 : decode cX11_feed 50 = .ok (.iinc 3 (-8), 3) := by decide +kernel
theorem dX11_feed_53 : decode cX11_feed 53 = .ok (.goto (-34), 3) := by decide +kernel
theorem dX11_feed_56 : decode cX11_feed 56 = .ok (.aload_n 0, 1) := by decide +kernel
theorem dX11_feed_57 : decode cX11_feed 57 = .ok (.getfield 141, 3) := by decide +kernel
theorem dX11_feed_60 : decode cX11_feed 60 = .ok (.ireturn, 1) := by decide +kernel
theorem dX11_end_0 : decode cX11_end 0 = .ok (.iload_n 1, 1) := by decide +kernel
theorem dX11_end_1 : decode cX11_end 1 = .ok (.i2l, 1) := by decide +kernel
theorem dX11_end_2 : decode cX11_end 2 = .ok (.lconst 0, 1) := by decide +kernel
theorem dX11_end_3 : decode cX11_end 3 = .ok (.aload_n 0, 1) := by decide +kernel
theorem dX11_end_4 : decode cX11_end 4 = .ok (.getfield 141, 3) := by decide +kernel
theorem dX11_end_7 : decode cX11_end 7 = .ok (.i2l, 1) := by decide +kernel
theorem dX11_end_8 : decode cX11_end 8 = .ok (.invokestatic 146, 3) := by decide +kernel
theorem dX11_end_11 : decode cX11_end 11 = .ok (.ifCond .ne 5, 3) := by decide +kernel
theorem dX11_end_14 : decode cX11_end 14 = .ok (.iconst (-1), 1) := by decide +kernel
theorem dX11_end_15 : decode cX11_end 15 = .ok (.ireturn, 1) := by decide +kernel
theorem dX11_end_16 : decode cX11_end 16 = .ok (.aload_n 0, 1) := by decide +kernel
theorem dX11_end_17 : decode cX11_end 17 = .ok (.getfield 141, 3) := by decide +kernel
theorem dX11_end_20 : decode cX11_end 20 = .ok (.istore_n 2, 1) := by decide +kernel
theorem dX11_end_21 : decode cX11_end 21 = .ok (.aload_n 0, 1) := by decide +kernel
theorem dX11_end_22 : decode cX11_end 22 = .ok (.iload_n 1, 1) := by decide +kernel
theorem dX11_end_23 : decode cX11_end 23 = .ok (.putfield 141, 3) := by decide +kernel
theorem dX11_end_26 : decode cX11_end 26 = .ok (.iload_n 2, 1) := by decide +kernel
theorem dX11_end_27 : decode cX11_end 27 = .ok (.ireturn, 1) := by decide +kernel
theorem dX11_needs_0 : decode cX11_needs 0 = .ok (.iload_n 1, 1) := by decide +kernel
theorem dX11_needs_1 : decode cX11_needs 1 = .ok (.ifCond .ne 23, 3) := by decide +kernel
theorem dX11_needs_4 : decode cX11_needs 4 = .ok (.aload_n 0, 1) := by decide +kernel
theorem dX11_needs_5 : decode cX11_needs 5 = .ok (.getfield 150, 3) := by decide +kernel
theorem dX11_needs_8 : decode cX11_needs 8 = .ok (.ifCond .ne 16, 3) := by decide +kernel
theorem dX11_needs_11 : decode cX11_needs 11 = .ok (.aload_n 0, 1) := by decide +kernel
theorem dX11_needs_12 : decode cX11_needs 12 = .ok (.iload_n 2, 1) := by decide +kernel
theorem dX11_needs_13 : decode cX11_needs 13 = .ok (.putfield 150, 3) := by decide +kernel
theorem dX11_needs_16 : decode cX11_needs 16 = .ok (.aload_n 0, 1) := by decide +kernel
theorem dX11_needs_17 : decode cX11_needs 17 = .ok (.aload_n 0, 1) := by decide +kernel
theorem dX11_needs_18 : decode cX11_needs 18 = .ok (.getfield 153, 3) := by decide +kernel
theorem dX11_needs_21 : decode cX11_needs 21 = .ok (.putfield 156, 3) := by decide +kernel
theorem dX11_needs_24 : decode cX11_needs 24 = .ok (.return_, 1) := by decide +kernel
theorem dX11_look_0 : decode cX11_look 0 = .ok (.iload_n 1, 1) := by decide +kernel
theorem dX11_look_1 : decode cX11_look 1 = .ok (.aload_n 0, 1) := by decide +kernel
theorem dX11_look_2 : decode cX11_look 2 = .ok (.getfield 141, 3) := by decide +kernel
theorem dX11_look_5 : decode cX11_look 5 = .ok (.if_icmp .ge 12, 3) := by decide +kernel
theorem dX11_look_8 : decode cX11_look 8 = .ok (.aload_n 0, 1) := by decide +kernel
theorem dX11_look_9 : decode cX11_look 9 = .ok (.getfield 56, 3) := by decide +kernel
theorem dX11_look_12 : decode cX11_look 12 = .ok (.iload_n 1, 1) := by decide +kernel
theorem dX11_look_13 : decode cX11_look 13 = .ok (.iaload, 1) := by decide +kernel
theorem dX11_look_14 : decode cX11_look 14 = .ok (.goto 4, 3) := by decide +kernel
theorem dX11_look_17 : decode cX11_look 17 = .ok (.iconst (-1), 1) := by decide +kernel
theorem dX11_look_18 : decode cX11_look 18 = .ok (.ireturn, 1) := by decide +kernel
theorem dX11_is_0 : decode cX11_is 0 = .ok (.aload_n 0, 1) := by decide +kernel
theorem dX11_is_1 : decode cX11_is 1 = .ok (.getfield 159, 3) := by decide +kernel
theorem dX11_is_4 : decode cX11_is 4 = .ok (.aload_n 0, 1) := by decide +kernel
theorem dX11_is_5 : decode cX11_is 5 = .ok (.getfield 153, 3) := by decide +kernel
theorem dX11_is_8 : decode cX11_is 8 = .ok (.isub, 1) := by decide +kernel
theorem dX11_is_9 : decode cX11_is 9 = .ok (.iload_n 1, 1) := by decide +kernel
theorem dX11_is_10 : decode cX11_is 10 = .ok (.if_icmp .ne 63, 3) := by decide +kernel
theorem dX11_is_13 : decode cX11_is 13 = .ok (.aload_n 0, 1) := by decide +kernel
theorem dX11_is_14 : decode cX11_is 14 = .ok (.aload_n 0, 1) := by decide +kernel
theorem dX11_is_15 : decode cX11_is 15 = .ok (.getfield 153, 3) := by decide +kernel
theorem dX11_is_18 : decode cX11_is 18 = .ok (.invokevirtual 162, 3) := by decide +kernel
theorem dX11_is_21 : decode cX11_is 21 = .ok (.iload_n 2, 1) := by decide +kernel
theorem dX11_is_22 : decode cX11_is 22 = .ok (.if_icmp .ne 51, 3) := by decide +kernel
theorem dX11_is_25 : decode cX11_is 25 = .ok (.aload_n 0, 1) := by decide +kernel
theorem dX11_is_26 : decode cX11_is 26 = .ok (.aload_n 0, 1) := by decide +kernel
theorem dX11_is_27 : decode cX11_is 27 = .ok (.getfield 153, 3) := by decide +kernel
theorem dX11_is_30 : decode cX11_is 30 = .ok (.iconst 1, 1) := by decide +kernel
theorem dX11_is_31 : decode cX11_is 31 = .ok (.iadd, 1) := by decide +kernel
theorem dX11_is_32 : decode cX11_is 32 = .ok (.invokevirtual 162, 3) := by decide +kernel
theorem dX11_is_35 : decode cX11_is 35 = .ok (.iload_n 3, 1) := by decide +kernel
theorem dX11_is_36 : decode cX11_is 36 = .ok (.if_icmp .ne 37, 3) := by decide +kernel
theorem dX11_is_39 : decode cX11_is 39 = .ok (.aload_n 0, 1) := by decide +kernel
theorem dX11_is_40 : decode cX11_is 40 = .ok (.aload_n 0, 1) := by decide +kernel
theorem dX11_is_41 : decode cX11_is 41 = .ok (.getfield 153, 3) := by decide +kernel
theorem dX11_is_44 : decode cX11_is 44 = .ok (.iconst 2, 1) := by decide +kernel
theorem dX11_is_45 : decode cX11_is 45 = .ok (.iadd, 1) := by decide +kernel
theorem dX11_is_46 : decode cX11_is 46 = .ok (.invokevirtual 162, 3) := by decide +kernel
theorem dX11_is_49 : decode cX11_is 49 = .ok (.iload 4, 2) := by decide +kernel
theorem dX11_is_51 : decode cX11_is 51 = .ok (.if_icmp .ne 22, 3) := by decide +kernel
theorem dX11_is_54 : decode cX11_is 54 = .ok (.aload_n 0, 1) := by decide +kernel
theorem dX11_is_55 : decode cX11_is 55 = .ok (.aload_n 0, 1) := by decide +kernel
theorem dX11_is_56 : decode cX11_is 56 = .ok (.getfield 153, 3) := by decide +kernel
theorem dX11_is_59 : decode cX11_is 59 = .ok (.iconst 3, 1) := by decide +kernel
theorem dX11_is_60 : decode cX11_is 60 = .ok (.iadd, 1) := by decide +kernel
theorem dX11_is_61 : decode cX11_is 61 = .ok (.invokevirtual 162, 3) := by decide +kernel
theorem dX11_is_64 : decode cX11_is 64 = .ok (.iload 5, 2) := by decide +kernel
theorem dX11_is_66 : decode cX11_is 66 = .ok (.if_icmp .ne 7, 3) := by decide +kernel
theorem dX11_is_69 : decode cX11_is 69 = .ok (.iconst 1, 1) := by decide +kernel
theorem dX11_is_70 : decode cX11_is 70 = .ok (.goto 4, 3) := by decide +kernel
theorem dX11_is_73 : decode cX11_is 73 = .ok (.iconst 0, 1) := by decide +kernel
theorem dX11_is_74 : decode cX11_is 74 = .ok (.ireturn, 1) := by decide +kernel
theorem dX11_ends_0 : decode cX11_ends 0 = .ok (.aload_n 0, 1) := by decide +kernel
theorem dX11_ends_1 : decode cX11_ends 1 = .ok (.aload_n 0, 1) := by decide +kernel
theorem dX11_ends_2 : decode cX11_ends 2 = .ok (.getfield 153, 3) := by decide +kernel
theorem dX11_ends_5 : decode cX11_ends 5 = .ok (.iconst 4, 1) := by decide +kernel
theorem dX11_ends_6 : decode cX11_ends 6 = .ok (.iadd, 1) := by decide +kernel
theorem dX11_ends_7 : decode cX11_ends 7 = .ok (.invokevirtual 162, 3) := by decide +kernel
theorem dX11_ends_10 : decode cX11_ends 10 = .ok (.iload_n 1, 1) := by decide +kernel
theorem dX11_ends_11 : decode cX11_ends 11 = .ok (.if_icmp .ne 44, 3) := by decide +kernel
theorem dX11_ends_14 : decode cX11_ends 14 = .ok (.iload_n 2, 1) := by decide +kernel
theorem dX11_ends_15 : decode cX11_ends 15 = .ok (.ifCond .eq 17, 3) := by decide +kernel
theorem dX11_ends_18 : decode cX11_ends 18 = .ok (.aload_n 0, 1) := by decide +kernel
theorem dX11_ends_19 : decode cX11_ends 19 = .ok (.aload_n 0, 1) := by decide +kernel
theorem dX11_ends_20 : decode cX11_ends 20 = .ok (.getfield 153, 3) := by decide +kernel
theorem dX11_ends_23 : decode cX11_ends 23 = .ok (.iconst 5, 1) := by decide +kernel
theorem dX11_ends_24 : decode cX11_ends 24 = .ok (.iadd, 1) := by decide +kernel
theorem dX11_ends_25 : decode cX11_ends 25 = .ok (.invokevirtual 162, 3) := by decide +kernel
theorem dX11_ends_28 : decode cX11_ends 28 = .ok (.iload_n 2, 1) := by decide +kernel
theorem dX11_ends_29 : decode cX11_ends 29 = .ok (.if_icmp .ne 26, 3) := by decide +kernel
theorem dX11_ends_32 : decode cX11_ends 32 = .ok (.iload_n 3, 1) := by decide +kernel
theorem dX11_ends_33 : decode cX11_ends 33 = .ok (.ifCond .eq 18, 3) := by decide +kernel
theorem dX11_ends_36 : decode cX11_ends 36 = .ok (.aload_n 0, 1) := by decide +kernel
theorem dX11_ends_37 : decode cX11_ends 37 = .ok (.aload_n 0, 1) := by decide +kernel
theorem dX11_ends_38 : decode cX11_ends 38 = .ok (.getfield 153, 3) := by decide +kernel
theorem dX11_ends_41 : decode cX11_ends 41 = .ok (.bipush 6, 2) := by decide +kernel
theorem dX11_ends_43 : decode cX11_ends 43 = .ok (.iadd, 1) := by decide +kernel
theorem dX11_ends_44 : decode cX11_ends 44 = .ok (.invokevirtual 162, 3) := by decide +kernel
theorem dX11_ends_47 : decode cX11_ends 47 = .ok (.iload_n 3, 1) := by decide +kernel
theorem dX11_ends_48 : decode cX11_ends 48 = .ok (.if_icmp .ne 7, 3) := by decide +kernel
theorem dX11_ends_51 : decode cX11_ends 51 = .ok (.iconst 1, 1) := by decide +kernel
theorem dX11_ends_52 : decode cX11_ends 52 = .ok (.goto 4, 3) := by decide +kernel
theorem dX11_ends_55 : decode cX11_ends 55 = .ok (.iconst 0, 1) := by decide +kernel
theorem dX11_ends_56 : decode cX11_ends 56 = .ok (.ireturn, 1) := by decide +kernel
theorem dX11_ruleNow_0 : decode cX11_ruleNow 0 = .ok (.aload_n 0, 1) := by decide +kernel
theorem dX11_ruleNow_1 : decode cX11_ruleNow 1 = .ok (.iconst 4, 1) := by decide +kernel
theorem dX11_ruleNow_2 : decode cX11_ruleNow 2 = .ok (.bipush 108, 2) := by decide +kernel
theorem dX11_ruleNow_4 : decode cX11_ruleNow 4 = .ok (.bipush 111, 2) := by decide +kernel
theorem dX11_ruleNow_6 : decode cX11_ruleNow 6 = .ok (.bipush 116, 2) := by decide +kernel
theorem dX11_ruleNow_8 : decode cX11_ruleNow 8 = .ok (.bipush 115, 2) := by decide +kernel
theorem dX11_ruleNow_10 : decode cX11_ruleNow 10 = .ok (.invokevirtual 166, 3) := by decide +kernel
theorem dX11_ruleNow_13 : decode cX11_ruleNow 13 = .ok (.ifCond .eq 6, 3) := by decide +kernel
theorem dX11_ruleNow_16 : decode cX11_ruleNow 16 = .ok (.bipush 10, 2) := by decide +kernel
theorem dX11_ruleNow_18 : decode cX11_ruleNow 18 = .ok (.ireturn, 1) := by decide +kernel
theorem dX11_ruleNow_19 : decode cX11_ruleNow 19 = .ok (.aload_n 0, 1) := by decide +kernel
theorem dX11_ruleNow_20 : decode cX11_ruleNow 20 = .ok (.iconst 4, 1) := by decide +kernel
theorem dX11_ruleNow_21 : decode cX11_ruleNow 21 = .ok (.bipush 98, 2) := by decide +kernel
theorem dX11_ruleNow_23 : decode cX11_ruleNow 23 = .ok (.bipush 101, 2) := by decide +kernel
theorem dX11_ruleNow_25 : decode cX11_ruleNow 25 = .ok (.bipush 110, 2) := by decide +kernel
theorem dX11_ruleNow_27 : decode cX11_ruleNow 27 = .ok (.bipush 100, 2) := by decide +kernel
theorem dX11_ruleNow_29 : decode cX11_ruleNow 29 = .ok (.invokevirtual 166, 3) := by decide +kernel
theorem dX11_ruleNow_32 : decode cX11_ruleNow 32 = .ok (.ifCond .eq 6, 3) := by decide +kernel
theorem dX11_ruleNow_35 : decode cX11_ruleNow 35 = .ok (.bipush 11, 2) := by decide +kernel
theorem dX11_ruleNow_37 : decode cX11_ruleNow 37 = .ok (.ireturn, 1) := by decide +kernel
theorem dX11_ruleNow_38 : decode cX11_ruleNow 38 = .ok (.aload_n 0, 1) := by decide +kernel
theorem dX11_ruleNow_39 : decode cX11_ruleNow 39 = .ok (.iconst 4, 1) := by decide +kernel
theorem dX11_ruleNow_40 : decode cX11_ruleNow 40 = .ok (.bipush 112, 2) := by decide +kernel
theorem dX11_ruleNow_42 : decode cX11_ruleNow 42 = .ok (.bipush 117, 2) := by decide +kernel
theorem dX11_ruleNow_44 : decode cX11_ruleNow 44 = .ok (.bipush 108, 2) := by decide +kernel
theorem dX11_ruleNow_46 : decode cX11_ruleNow 46 = .ok (.bipush 108, 2) := by decide +kernel
theorem dX11_ruleNow_48 : decode cX11_ruleNow 48 = .ok (.invokevirtual 166, 3) := by decide +kernel
theorem dX11_ruleNow_51 : decode cX11_ruleNow 51 = .ok (.ifCond .eq 6, 3) := by decide +kernel
theorem dX11_ruleNow_54 : decode cX11_ruleNow 54 = .ok (.bipush 12, 2) := by decide +kernel
theorem dX11_ruleNow_56 : decode cX11_ruleNow 56 = .ok (.ireturn, 1) := by decide +kernel
theorem dX11_ruleNow_57 : decode cX11_ruleNow 57 = .ok (.aload_n 0, 1) := by decide +kernel
theorem dX11_ruleNow_58 : decode cX11_ruleNow 58 = .ok (.iconst 5, 1) := by decide +kernel
theorem dX11_ruleNow_59 : decode cX11_ruleNow 59 = .ok (.bipush 112, 2) := by decide +kernel
theorem dX11_ruleNow_61 : decode cX11_ruleNow 61 = .ok (.bipush 114, 2) := by decide +kernel
theorem dX11_ruleNow_63 : decode cX11_ruleNow 63 = .ok (.bipush 105, 2) := by decide +kernel
theorem dX11_ruleNow_65 : decode cX11_ruleNow 65 = .ok (.bipush 99, 2) := by decide +kernel
theorem dX11_ruleNow_67 : decode cX11_ruleNow 67 = .ok (.invokevirtual 166, 3) := by decide +kernel
theorem dX11_ruleNow_70 : decode cX11_ruleNow 70 = .ok (.ifCond .eq 17, 3) := by decide +kernel
theorem dX11_ruleNow_73 : decode cX11_ruleNow 73 = .ok (.aload_n 0, 1) := by decide +kernel
theorem dX11_ruleNow_74 : decode cX11_ruleNow 74 = .ok (.bipush 101, 2) := by decide +kernel
theorem dX11_ruleNow_76 : decode cX11_ruleNow 76 = .ok (.iconst 0, 1) := by decide +kernel
theorem dX11_ruleNow_77 : decode cX11_ruleNow 77 = .ok (.iconst 0, 1) := by decide +kernel
theorem dX11_ruleNow_78 : decode cX11_ruleNow 78 = .ok (.invokevirtual 170, 3) := by decide +kernel
theorem dX11_ruleNow_81 : decode cX11_ruleNow 81 = .ok (.ifCond .eq 6, 3) := by decide +kernel
theorem dX11_ruleNow_84 : decode cX11_ruleNow 84 = .ok (.bipush 13, 2) := by decide +kernel
theorem dX11_ruleNow_86 : decode cX11_ruleNow 86 = .ok (.ireturn, 1) := by decide +kernel
theorem dX11_ruleNow_87 : decode cX11_ruleNow 87 = .ok (.aload_n 0, 1) := by decide +kernel
theorem dX11_ruleNow_88 : decode cX11_ruleNow 88 = .ok (.iconst 4, 1) := by decide +kernel
theorem dX11_ruleNow_89 : decode cX11_ruleNow 89 = .ok (.bipush 99, 2) := by decide +kernel
theorem dX11_ruleNow_91 : decode cX11_ruleNow 91 = .ok (.bipush 111, 2) := by decide +kernel
theorem dX11_ruleNow_93 : decode cX11_ruleNow 93 = .ok (.bipush 115, 2) := by decide +kernel
theorem dX11_ruleNow_95 : decode cX11_ruleNow 95 = .ok (.bipush 116, 2) := by decide +kernel
theorem dX11_ruleNow_97 : decode cX11_ruleNow 97 = .ok (.invokevirtual 166, 3) := by decide +kernel
theorem dX11_ruleNow_100 : decode cX11_ruleNow 100 = .ok (.ifCond .eq 6, 3) := by decide +kernel
theorem dX11_ruleNow_103 : decode cX11_ruleNow 103 = .ok (.bipush 14, 2) := by decide +kernel
theorem dX11_ruleNow_105 : decode cX11_ruleNow 105 = .ok (.ireturn, 1) := by decide +kernel
theorem dX11_ruleNow_106 : decode cX11_ruleNow 106 = .ok (.aload_n 0, 1) := by decide +kernel
theorem dX11_ruleNow_107 : decode cX11_ruleNow 107 = .ok (.iconst 5, 1) := by decide +kernel
theorem dX11_ruleNow_108 : decode cX11_ruleNow 108 = .ok (.bipush 116, 2) := by decide +kernel
theorem dX11_ruleNow_110 : decode cX11_ruleNow 110 = .ok (.bipush 97, 2) := by decide +kernel
theorem dX11_ruleNow_112 : decode cX11_ruleNow 112 = .ok (.bipush 115, 2) := by decide +kernel
theorem dX11_ruleNow_114 : decode cX11_ruleNow 114 = .ok (.bipush 116, 2) := by decide +kernel
theorem dX11_ruleNow_116 : decode cX11_ruleNow 116 = .ok (.invokevirtual 166, 3) := by decide +kernel
theorem dX11_ruleNow_119 : decode cX11_ruleNow 119 = .ok (.ifCond .eq 19, 3) := by decide +kernel
theorem dX11_ruleNow_122 : decode cX11_ruleNow 122 = .ok (.aload_n 0, 1) := by decide +kernel
theorem dX11_ruleNow_123 : decode cX11_ruleNow 123 = .ok (.bipush 101, 2) := by decide +kernel
theorem dX11_ruleNow_125 : decode cX11_ruleNow 125 = .ok (.iconst 0, 1) := by decide +kernel
theorem dX11_ruleNow_126 : decode cX11_ruleNow 126 = .ok (.iconst 0, 1) := by decide +kernel
theorem dX11_ruleNow_127 : decode cX11_ruleNow 127 = .ok (.invokevirtual 170, 3) := by decide +kernel
theorem dX11_ruleNow_130 : decode cX11_ruleNow 130 = .ok (.ifCond .eq 8, 3) := by decide +kernel
theorem dX11_ruleNow_133 : decode cX11_ruleNow 133 = .ok (.bipush 15, 2) := by decide +kernel
theorem dX11_ruleNow_135 : decode cX11_ruleNow 135 = .ok (.goto 5, 3) := by decide +kernel
theorem dX11_ruleNow_138 : decode cX11_ruleNow 138 = .ok (.bipush (-4), 2) := by decide +kernel
theorem dX11_ruleNow_140 : decode cX11_ruleNow 140 = .ok (.ireturn, 1) := by decide +kernel
theorem dX11_lineNow_0 : decode cX11_lineNow 0 = .ok (.aload_n 0, 1) := by decide +kernel
theorem dX11_lineNow_1 : decode cX11_lineNow 1 = .ok (.iconst 4, 1) := by decide +kernel
theorem dX11_lineNow_2 : decode cX11_lineNow 2 = .ok (.bipush 108, 2) := by decide +kernel
theorem dX11_lineNow_4 : decode cX11_lineNow 4 = .ok (.bipush 97, 2) := by decide +kernel
theorem dX11_lineNow_6 : decode cX11_lineNow 6 = .ok (.bipush 99, 2) := by decide +kernel
theorem dX11_lineNow_8 : decode cX11_lineNow 8 = .ok (.bipush 107, 2) := by decide +kernel
theorem dX11_lineNow_10 : decode cX11_lineNow 10 = .ok (.invokevirtual 166, 3) := by decide +kernel
theorem dX11_lineNow_13 : decode cX11_lineNow 13 = .ok (.ifCond .eq 6, 3) := by decide +kernel
theorem dX11_lineNow_16 : decode cX11_lineNow 16 = .ok (.bipush 16, 2) := by decide +kernel
theorem dX11_lineNow_18 : decode cX11_lineNow 18 = .ok (.ireturn, 1) := by decide +kernel
theorem dX11_lineNow_19 : decode cX11_lineNow 19 = .ok (.aload_n 0, 1) := by decide +kernel
theorem dX11_lineNow_20 : decode cX11_lineNow 20 = .ok (.iconst 4, 1) := by decide +kernel
theorem dX11_lineNow_21 : decode cX11_lineNow 21 = .ok (.bipush 116, 2) := by decide +kernel
theorem dX11_lineNow_23 : decode cX11_lineNow 23 = .ok (.bipush 119, 2) := by decide +kernel
theorem dX11_lineNow_25 : decode cX11_lineNow 25 = .ok (.bipush 105, 2) := by decide +kernel
theorem dX11_lineNow_27 : decode cX11_lineNow 27 = .ok (.bipush 110, 2) := by decide +kernel
theorem dX11_lineNow_29 : decode cX11_lineNow 29 = .ok (.invokevirtual 166, 3) := by decide +kernel
theorem dX11_lineNow_32 : decode cX11_lineNow 32 = .ok (.ifCond .eq 6, 3) := by decide +kernel
theorem dX11_lineNow_35 : decode cX11_lineNow 35 = .ok (.bipush 17, 2) := by decide +kernel
theorem dX11_lineNow_37 : decode cX11_lineNow 37 = .ok (.ireturn, 1) := by decide +kernel
theorem dX11_lineNow_38 : decode cX11_lineNow 38 = .ok (.aload_n 0, 1) := by decide +kernel
theorem dX11_lineNow_39 : decode cX11_lineNow 39 = .ok (.iconst 5, 1) := by decide +kernel
theorem dX11_lineNow_40 : decode cX11_lineNow 40 = .ok (.bipush 112, 2) := by decide +kernel
theorem dX11_lineNow_42 : decode cX11_lineNow 42 = .ok (.bipush 97, 2) := by decide +kernel
theorem dX11_lineNow_44 : decode cX11_lineNow 44 = .ok (.bipush 105, 2) := by decide +kernel
theorem dX11_lineNow_46 : decode cX11_lineNow 46 = .ok (.bipush 110, 2) := by decide +kernel
theorem dX11_lineNow_48 : decode cX11_lineNow 48 = .ok (.invokevirtual 166, 3) := by decide +kernel
theorem dX11_lineNow_51 : decode cX11_lineNow 51 = .ok (.ifCond .eq 17, 3) := by decide +kernel
theorem dX11_lineNow_54 : decode cX11_lineNow 54 = .ok (.aload_n 0, 1) := by decide +kernel
theorem dX11_lineNow_55 : decode cX11_lineNow 55 = .ok (.bipush 116, 2) := by decide +kernel
theorem dX11_lineNow_57 : decode cX11_lineNow 57 = .ok (.iconst 0, 1) := by decide +kernel
theorem dX11_lineNow_58 : decode cX11_lineNow 58 = .ok (.iconst 0, 1) := by decide +kernel
theorem dX11_lineNow_59 : decode cX11_lineNow 59 = .ok (.invokevirtual 170, 3) := by decide +kernel
theorem dX11_lineNow_62 : decode cX11_lineNow 62 = .ok (.ifCond .eq 6, 3) := by decide +kernel
theorem dX11_lineNow_65 : decode cX11_lineNow 65 = .ok (.bipush 18, 2) := by decide +kernel
theorem dX11_lineNow_67 : decode cX11_lineNow 67 = .ok (.ireturn, 1) := by decide +kernel
theorem dX11_lineNow_68 : decode cX11_lineNow 68 = .ok (.aload_n 0, 1) := by decide +kernel
theorem dX11_lineNow_69 : decode cX11_lineNow 69 = .ok (.iconst 5, 1) := by decide +kernel
theorem dX11_lineNow_70 : decode cX11_lineNow 70 = .ok (.bipush 114, 2) := by decide +kernel
theorem dX11_lineNow_72 : decode cX11_lineNow 72 = .ok (.bipush 105, 2) := by decide +kernel
theorem dX11_lineNow_74 : decode cX11_lineNow 74 = .ok (.bipush 103, 2) := by decide +kernel
theorem dX11_lineNow_76 : decode cX11_lineNow 76 = .ok (.bipush 104, 2) := by decide +kernel
theorem dX11_lineNow_78 : decode cX11_lineNow 78 = .ok (.invokevirtual 166, 3) := by decide +kernel
theorem dX11_lineNow_81 : decode cX11_lineNow 81 = .ok (.ifCond .eq 17, 3) := by decide +kernel
theorem dX11_lineNow_84 : decode cX11_lineNow 84 = .ok (.aload_n 0, 1) := by decide +kernel
theorem dX11_lineNow_85 : decode cX11_lineNow 85 = .ok (.bipush 116, 2) := by decide +kernel
theorem dX11_lineNow_87 : decode cX11_lineNow 87 = .ok (.iconst 0, 1) := by decide +kernel
theorem dX11_lineNow_88 : decode cX11_lineNow 88 = .ok (.iconst 0, 1) := by decide +kernel
theorem dX11_lineNow_89 : decode cX11_lineNow 89 = .ok (.invokevirtual 170, 3) := by decide +kernel
theorem dX11_lineNow_92 : decode cX11_lineNow 92 = .ok (.ifCond .eq 6, 3) := by decide +kernel
theorem dX11_lineNow_95 : decode cX11_lineNow 95 = .ok (.bipush 19, 2) := by decide +kernel
theorem dX11_lineNow_97 : decode cX11_lineNow 97 = .ok (.ireturn, 1) := by decide +kernel
theorem dX11_lineNow_98 : decode cX11_lineNow 98 = .ok (.aload_n 0, 1) := by decide +kernel
theorem dX11_lineNow_99 : decode cX11_lineNow 99 = .ok (.iconst 5, 1) := by decide +kernel
theorem dX11_lineNow_100 : decode cX11_lineNow 100 = .ok (.bipush 116, 2) := by decide +kernel
theorem dX11_lineNow_102 : decode cX11_lineNow 102 = .ok (.bipush 104, 2) := by decide +kernel
theorem dX11_lineNow_104 : decode cX11_lineNow 104 = .ok (.bipush 105, 2) := by decide +kernel
theorem dX11_lineNow_106 : decode cX11_lineNow 106 = .ok (.bipush 110, 2) := by decide +kernel
theorem dX11_lineNow_108 : decode cX11_lineNow 108 = .ok (.invokevirtual 166, 3) := by decide +kernel
theorem dX11_lineNow_111 : decode cX11_lineNow 111 = .ok (.ifCond .eq 17, 3) := by decide +kernel
theorem dX11_lineNow_114 : decode cX11_lineNow 114 = .ok (.aload_n 0, 1) := by decide +kernel
theorem dX11_lineNow_115 : decode cX11_lineNow 115 = .ok (.bipush 103, 2) := by decide +kernel
theorem dX11_lineNow_117 : decode cX11_lineNow 117 = .ok (.iconst 0, 1) := by decide +kernel
theorem dX11_lineNow_118 : decode cX11_lineNow 118 = .ok (.iconst 0, 1) := by decide +kernel
theorem dX11_lineNow_119 : decode cX11_lineNow 119 = .ok (.invokevirtual 170, 3) := by decide +kernel
theorem dX11_lineNow_122 : decode cX11_lineNow 122 = .ok (.ifCond .eq 6, 3) := by decide +kernel
theorem dX11_lineNow_125 : decode cX11_lineNow 125 = .ok (.bipush 20, 2) := by decide +kernel
theorem dX11_lineNow_127 : decode cX11_lineNow 127 = .ok (.ireturn, 1) := by decide +kernel
theorem dX11_lineNow_128 : decode cX11_lineNow 128 = .ok (.aload_n 0, 1) := by decide +kernel
theorem dX11_lineNow_129 : decode cX11_lineNow 129 = .ok (.iconst 4, 1) := by decide +kernel
theorem dX11_lineNow_130 : decode cX11_lineNow 130 = .ok (.bipush 119, 2) := by decide +kernel
theorem dX11_lineNow_132 : decode cX11_lineNow 132 = .ok (.bipush 111, 2) := by decide +kernel
theorem dX11_lineNow_134 : decode cX11_lineNow 134 = .ok (.bipush 114, 2) := by decide +kernel
theorem dX11_lineNow_136 : decode cX11_lineNow 136 = .ok (.bipush 107, 2) := by decide +kernel
theorem dX11_lineNow_138 : decode cX11_lineNow 138 = .ok (.invokevirtual 166, 3) := by decide +kernel
theorem dX11_lineNow_141 : decode cX11_lineNow 141 = .ok (.ifCond .eq 8, 3) := by decide +kernel
theorem dX11_lineNow_144 : decode cX11_lineNow 144 = .ok (.bipush 21, 2) := by decide +kernel
theorem dX11_lineNow_146 : decode cX11_lineNow 146 = .ok (.goto 7, 3) := by decide +kernel
theorem dX11_lineNow_149 : decode cX11_lineNow 149 = .ok (.aload_n 0, 1) := by decide +kernel
theorem dX11_lineNow_150 : decode cX11_lineNow 150 = .ok (.invokevirtual 174, 3) := by decide +kernel
theorem dX11_lineNow_153 : decode cX11_lineNow 153 = .ok (.ireturn, 1) := by decide +kernel
theorem dX11_kindNow_0 : decode cX11_kindNow 0 = .ok (.aload_n 0, 1) := by decide +kernel
theorem dX11_kindNow_1 : decode cX11_kindNow 1 = .ok (.iconst 5, 1) := by decide +kernel
theorem dX11_kindNow_2 : decode cX11_kindNow 2 = .ok (.bipush 104, 2) := by decide +kernel
theorem dX11_kindNow_4 : decode cX11_kindNow 4 = .ok (.bipush 111, 2) := by decide +kernel
theorem dX11_kindNow_6 : decode cX11_kindNow 6 = .ok (.bipush 117, 2) := by decide +kernel
theorem dX11_kindNow_8 : decode cX11_kindNow 8 = .ok (.bipush 115, 2) := by decide +kernel
theorem dX11_kindNow_10 : decode cX11_kindNow 10 = .ok (.invokevirtual 166, 3) := by decide +kernel
theorem dX11_kindNow_13 : decode cX11_kindNow 13 = .ok (.ifCond .eq 16, 3) := by decide +kernel
theorem dX11_kindNow_16 : decode cX11_kindNow 16 = .ok (.aload_n 0, 1) := by decide +kernel
theorem dX11_kindNow_17 : decode cX11_kindNow 17 = .ok (.bipush 101, 2) := by decide +kernel
theorem dX11_kindNow_19 : decode cX11_kindNow 19 = .ok (.iconst 0, 1) := by decide +kernel
theorem dX11_kindNow_20 : decode cX11_kindNow 20 = .ok (.iconst 0, 1) := by decide +kernel
theorem dX11_kindNow_21 : decode cX11_kindNow 21 = .ok (.invokevirtual 170, 3) := by decide +kernel
theorem dX11_kindNow_24 : decode cX11_kindNow 24 = .ok (.ifCond .eq 5, 3) := by decide +kernel
theorem dX11_kindNow_27 : decode cX11_kindNow 27 = .ok (.iconst 1, 1) := by decide +kernel
theorem dX11_kindNow_28 : decode cX11_kindNow 28 = .ok (.ireturn, 1) := by decide +kernel
theorem dX11_kindNow_29 : decode cX11_kindNow 29 = .ok (.aload_n 0, 1) := by decide +kernel
theorem dX11_kindNow_30 : decode cX11_kindNow 30 = .ok (.bipush 6, 2) := by decide +kernel
theorem dX11_kindNow_32 : decode cX11_kindNow 32 = .ok (.bipush 103, 2) := by decide +kernel
theorem dX11_kindNow_34 : decode cX11_kindNow 34 = .ok (.bipush 97, 2) := by decide +kernel
theorem dX11_kindNow_36 : decode cX11_kindNow 36 = .ok (.bipush 114, 2) := by decide +kernel
theorem dX11_kindNow_38 : decode cX11_kindNow 38 = .ok (.bipush 100, 2) := by decide +kernel
theorem dX11_kindNow_40 : decode cX11_kindNow 40 = .ok (.invokevirtual 166, 3) := by decide +kernel
theorem dX11_kindNow_43 : decode cX11_kindNow 43 = .ok (.ifCond .eq 17, 3) := by decide +kernel
theorem dX11_kindNow_46 : decode cX11_kindNow 46 = .ok (.aload_n 0, 1) := by decide +kernel
theorem dX11_kindNow_47 : decode cX11_kindNow 47 = .ok (.bipush 101, 2) := by decide +kernel
theorem dX11_kindNow_49 : decode cX11_kindNow 49 = .ok (.bipush 110, 2) := by decide +kernel
theorem dX11_kindNow_51 : decode cX11_kindNow 51 = .ok (.iconst 0, 1) := by decide +kernel
theorem dX11_kindNow_52 : decode cX11_kindNow 52 = .ok (.invokevirtual 170, 3) := by decide +kernel
theorem dX11_kindNow_55 : decode cX11_kindNow 55 = .ok (.ifCond .eq 5, 3) := by decide +kernel
theorem dX11_kindNow_58 : decode cX11_kindNow 58 = .ok (.iconst 2, 1) := by decide +kernel
theorem dX11_kindNow_59 : decode cX11_kindNow 59 = .ok (.ireturn, 1) := by decide +kernel
theorem dX11_kindNow_60 : decode cX11_kindNow 60 = .ok (.aload_n 0, 1) := by decide +kernel
theorem dX11_kindNow_61 : decode cX11_kindNow 61 = .ok (.iconst 4, 1) := by decide +kernel
theorem dX11_kindNow_62 : decode cX11_kindNow 62 = .ok (.bipush 115, 2) := by decide +kernel
theorem dX11_kindNow_64 : decode cX11_kindNow 64 = .ok (.bipush 104, 2) := by decide +kernel
theorem dX11_kindNow_66 : decode cX11_kindNow 66 = .ok (.bipush 111, 2) := by decide +kernel
theorem dX11_kindNow_68 : decode cX11_kindNow 68 = .ok (.bipush 112, 2) := by decide +kernel
theorem dX11_kindNow_70 : decode cX11_kindNow 70 = .ok (.invokevirtual 166, 3) := by decide +kernel
theorem dX11_kindNow_73 : decode cX11_kindNow 73 = .ok (.ifCond .eq 5, 3) := by decide +kernel
theorem dX11_kindNow_76 : decode cX11_kindNow 76 = .ok (.iconst 3, 1) := by decide +kernel
theorem dX11_kindNow_77 : decode cX11_kindNow 77 = .ok (.ireturn, 1) := by decide +kernel
theorem dX11_kindNow_78 : decode cX11_kindNow 78 = .ok (.aload_n 0, 1) := by decide +kernel
theorem dX11_kindNow_79 : decode cX11_kindNow 79 = .ok (.iconst 5, 1) := by decide +kernel
theorem dX11_kindNow_80 : decode cX11_kindNow 80 = .ok (.bipush 116, 2) := by decide +kernel
theorem dX11_kindNow_82 : decode cX11_kindNow 82 = .ok (.bipush 111, 2) := by decide +kernel
theorem dX11_kindNow_84 : decode cX11_kindNow 84 = .ok (.bipush 119, 2) := by decide +kernel
theorem dX11_kindNow_86 : decode cX11_kindNow 86 = .ok (.bipush 101, 2) := by decide +kernel
theorem dX11_kindNow_88 : decode cX11_kindNow 88 = .ok (.invokevirtual 166, 3) := by decide +kernel
theorem dX11_kindNow_91 : decode cX11_kindNow 91 = .ok (.ifCond .eq 16, 3) := by decide +kernel
theorem dX11_kindNow_94 : decode cX11_kindNow 94 = .ok (.aload_n 0, 1) := by decide +kernel
theorem dX11_kindNow_95 : decode cX11_kindNow 95 = .ok (.bipush 114, 2) := by decide +kernel
theorem dX11_kindNow_97 : decode cX11_kindNow 97 = .ok (.iconst 0, 1) := by decide +kernel
theorem dX11_kindNow_98 : decode cX11_kindNow 98 = .ok (.iconst 0, 1) := by decide +kernel
theorem dX11_kindNow_99 : decode cX11_kindNow 99 = .ok (.invokevirtual 170, 3) := by decide +kernel
theorem dX11_kindNow_102 : decode cX11_kindNow 102 = .ok (.ifCond .eq 5, 3) := by decide +kernel
theorem dX11_kindNow_105 : decode cX11_kindNow 105 = .ok (.iconst 4, 1) := by decide +kernel
theorem dX11_kindNow_106 : decode cX11_kindNow 106 = .ok (.ireturn, 1) := by decide +kernel
theorem dX11_kindNow_107 : decode cX11_kindNow 107 = .ok (.aload_n 0, 1) := by decide +kernel
theorem dX11_kindNow_108 : decode cX11_kindNow 108 = .ok (.bipush 6, 2) := by decide +kernel
theorem dX11_kindNow_110 : decode cX11_kindNow 110 = .ok (.bipush 115, 2) := by decide +kernel
theorem dX11_kindNow_112 : decode cX11_kindNow 112 = .ok (.bipush 104, 2) := by decide +kernel
theorem dX11_kindNow_114 : decode cX11_kindNow 114 = .ok (.bipush 114, 2) := by decide +kernel
theorem dX11_kindNow_116 : decode cX11_kindNow 116 = .ok (.bipush 105, 2) := by decide +kernel
theorem dX11_kindNow_118 : decode cX11_kindNow 118 = .ok (.invokevirtual 166, 3) := by decide +kernel
theorem dX11_kindNow_121 : decode cX11_kindNow 121 = .ok (.ifCond .eq 19, 3) := by decide +kernel
theorem dX11_kindNow_124 : decode cX11_kindNow 124 = .ok (.aload_n 0, 1) := by decide +kernel
theorem dX11_kindNow_125 : decode cX11_kindNow 125 = .ok (.bipush 110, 2) := by decide +kernel
theorem dX11_kindNow_127 : decode cX11_kindNow 127 = .ok (.bipush 101, 2) := by decide +kernel
theorem dX11_kindNow_129 : decode cX11_kindNow 129 = .ok (.iconst 0, 1) := by decide +kernel
theorem dX11_kindNow_130 : decode cX11_kindNow 130 = .ok (.invokevirtual 170, 3) := by decide +kernel
theorem dX11_kindNow_133 : decode cX11_kindNow 133 = .ok (.ifCond .eq 7, 3) := by decide +kernel
theorem dX11_kindNow_136 : decode cX11_kindNow 136 = .ok (.iconst 5, 1) := by decide +kernel
theorem dX11_kindNow_137 : decode cX11_kindNow 137 = .ok (.goto 5, 3) := by decide +kernel
theorem dX11_kindNow_140 : decode cX11_kindNow 140 = .ok (.bipush (-4), 2) := by decide +kernel
theorem dX11_kindNow_142 : decode cX11_kindNow 142 = .ok (.ireturn, 1) := by decide +kernel
theorem dX11_isNothing_0 : decode cX11_isNothing 0 = .ok (.aload_n 0, 1) := by decide +kernel
theorem dX11_isNothing_1 : decode cX11_isNothing 1 = .ok (.bipush 7, 2) := by decide +kernel
theorem dX11_isNothing_3 : decode cX11_isNothing 3 = .ok (.bipush 110, 2) := by decide +kernel
theorem dX11_isNothing_5 : decode cX11_isNothing 5 = .ok (.bipush 111, 2) := by decide +kernel
theorem dX11_isNothing_7 : decode cX11_isNothing 7 = .ok (.bipush 116, 2) := by decide +kernel
theorem dX11_isNothing_9 : decode cX11_isNothing 9 = .ok (.bipush 104, 2) := by decide +kernel
theorem dX11_isNothing_11 : decode cX11_isNothing 11 = .ok (.invokevirtual 166, 3) := by decide +kernel
theorem dX11_isNothing_14 : decode cX11_isNothing 14 = .ok (.ifCond .eq 20, 3) := by decide +kernel
theorem dX11_isNothing_17 : decode cX11_isNothing 17 = .ok (.aload_n 0, 1) := by decide +kernel
theorem dX11_isNothing_18 : decode cX11_isNothing 18 = .ok (.bipush 105, 2) := by decide +kernel
theorem dX11_isNothing_20 : decode cX11_isNothing 20 = .ok (.bipush 110, 2) := by decide +kernel
theorem dX11_isNothing_22 : decode cX11_isNothing 22 = .ok (.bipush 103, 2) := by decide +kernel
theorem dX11_isNothing_24 : decode cX11_isNothing 24 = .ok (.invokevirtual 170, 3) := by decide +kernel
theorem dX11_isNothing_27 : decode cX11_isNothing 27 = .ok (.ifCond .eq 7, 3) := by decide +kernel
theorem dX11_isNothing_30 : decode cX11_isNothing 30 = .ok (.iconst 1, 1) := by decide +kernel
theorem dX11_isNothing_31 : decode cX11_isNothing 31 = .ok (.goto 4, 3) := by decide +kernel
theorem dX11_isNothing_34 : decode cX11_isNothing 34 = .ok (.iconst 0, 1) := by decide +kernel
theorem dX11_isNothing_35 : decode cX11_isNothing 35 = .ok (.ireturn, 1) := by decide +kernel
theorem dX11_sideNow_0 : decode cX11_sideNow 0 = .ok (.aload_n 0, 1) := by decide +kernel
theorem dX11_sideNow_1 : decode cX11_sideNow 1 = .ok (.iconst 4, 1) := by decide +kernel
theorem dX11_sideNow_2 : decode cX11_sideNow 2 = .ok (.bipush 108, 2) := by decide +kernel
theorem dX11_sideNow_4 : decode cX11_sideNow 4 = .ok (.bipush 101, 2) := by decide +kernel
theorem dX11_sideNow_6 : decode cX11_sideNow 6 = .ok (.bipush 102, 2) := by decide +kernel
theorem dX11_sideNow_8 : decode cX11_sideNow 8 = .ok (.bipush 116, 2) := by decide +kernel
theorem dX11_sideNow_10 : decode cX11_sideNow 10 = .ok (.invokevirtual 166, 3) := by decide +kernel
theorem dX11_sideNow_13 : decode cX11_sideNow 13 = .ok (.ifCond .eq 7, 3) := by decide +kernel
theorem dX11_sideNow_16 : decode cX11_sideNow 16 = .ok (.iconst 0, 1) := by decide +kernel
theorem dX11_sideNow_17 : decode cX11_sideNow 17 = .ok (.goto 36, 3) := by decide +kernel
theorem dX11_sideNow_20 : decode cX11_sideNow 20 = .ok (.aload_n 0, 1) := by decide +kernel
theorem dX11_sideNow_21 : decode cX11_sideNow 21 = .ok (.iconst 5, 1) := by decide +kernel
theorem dX11_sideNow_22 : decode cX11_sideNow 22 = .ok (.bipush 114, 2) := by decide +kernel
theorem dX11_sideNow_24 : decode cX11_sideNow 24 = .ok (.bipush 105, 2) := by decide +kernel
theorem dX11_sideNow_26 : decode cX11_sideNow 26 = .ok (.bipush 103, 2) := by decide +kernel
theorem dX11_sideNow_28 : decode cX11_sideNow 28 = .ok (.bipush 104, 2) := by decide +kernel
theorem dX11_sideNow_30 : decode cX11_sideNow 30 = .ok (.invokevirtual 166, 3) := by decide +kernel
theorem dX11_sideNow_33 : decode cX11_sideNow 33 = .ok (.ifCond .eq 18, 3) := by decide +kernel
theorem dX11_sideNow_36 : decode cX11_sideNow 36 = .ok (.aload_n 0, 1) := by decide +kernel
theorem dX11_sideNow_37 : decode cX11_sideNow 37 = .ok (.bipush 116, 2) := by decide +kernel
theorem dX11_sideNow_39 : decode cX11_sideNow 39 = .ok (.iconst 0, 1) := by decide +kernel
theorem dX11_sideNow_40 : decode cX11_sideNow 40 = .ok (.iconst 0, 1) := by decide +kernel
theorem dX11_sideNow_41 : decode cX11_sideNow 41 = .ok (.invokevirtual 170, 3) := by decide +kernel
theorem dX11_sideNow_44 : decode cX11_sideNow 44 = .ok (.ifCond .eq 7, 3) := by decide +kernel
theorem dX11_sideNow_47 : decode cX11_sideNow 47 = .ok (.iconst 1, 1) := by decide +kernel
theorem dX11_sideNow_48 : decode cX11_sideNow 48 = .ok (.goto 5, 3) := by decide +kernel
theorem dX11_sideNow_51 : decode cX11_sideNow 51 = .ok (.bipush (-4), 2) := by decide +kernel
theorem dX11_sideNow_53 : decode cX11_sideNow 53 = .ok (.ireturn, 1) := by decide +kernel
theorem dX11_next_0 : decode cX11_next 0 = .ok (.aload_n 0, 1) := by decide +kernel
theorem dX11_next_1 : decode cX11_next 1 = .ok (.getfield 150, 3) := by decide +kernel
theorem dX11_next_4 : decode cX11_next 4 = .ok (.ifCond .le 4, 3) := by decide +kernel
theorem dX11_next_7 : decode cX11_next 7 = .ok (.return_, 1) := by decide +kernel
theorem dX11_next_8 : decode cX11_next 8 = .ok (.aload_n 0, 1) := by decide +kernel
theorem dX11_next_9 : decode cX11_next 9 = .ok (.aload_n 0, 1) := by decide +kernel
theorem dX11_next_10 : decode cX11_next 10 = .ok (.getfield 159, 3) := by decide +kernel
theorem dX11_next_13 : decode cX11_next 13 = .ok (.invokevirtual 162, 3) := by decide +kernel
theorem dX11_next_16 : decode cX11_next 16 = .ok (.bipush 32, 2) := by decide +kernel
theorem dX11_next_18 : decode cX11_next 18 = .ok (.if_icmp .ne 16, 3) := by decide +kernel
theorem dX11_next_21 : decode cX11_next 21 = .ok (.aload_n 0, 1) := by decide +kernel
theorem dX11_next_22 : decode cX11_next 22 = .ok (.dup, 1) := by decide +kernel
theorem dX11_next_23 : decode cX11_next 23 = .ok (.getfield 159, 3) := by decide +kernel
theorem dX11_next_26 : decode cX11_next 26 = .ok (.iconst 1, 1) := by decide +kernel
theorem dX11_next_27 : decode cX11_next 27 = .ok (.iadd, 1) := by decide +kernel
theorem dX11_next_28 : decode cX11_next 28 = .ok (.putfield 159, 3) := by decide +kernel
theorem dX11_next_31 : decode cX11_next 31 = .ok (.goto (-23), 3) := by decide +kernel
theorem dX11_next_34 : decode cX11_next 34 = .ok (.aload_n 0, 1) := by decide +kernel
theorem dX11_next_35 : decode cX11_next 35 = .ok (.aload_n 0, 1) := by decide +kernel
theorem dX11_next_36 : decode cX11_next 36 = .ok (.getfield 159, 3) := by decide +kernel
theorem dX11_next_39 : decode cX11_next 39 = .ok (.putfield 153, 3) := by decide +kernel
theorem dX11_next_42 : decode cX11_next 42 = .ok (.aload_n 0, 1) := by decide +kernel
theorem dX11_next_43 : decode cX11_next 43 = .ok (.aload_n 0, 1) := by decide +kernel
theorem dX11_next_44 : decode cX11_next 44 = .ok (.getfield 159, 3) := by decide +kernel
theorem dX11_next_47 : decode cX11_next 47 = .ok (.invokevirtual 162, 3) := by decide +kernel
theorem dX11_next_50 : decode cX11_next 50 = .ok (.istore_n 1, 1) := by decide +kernel
theorem dX11_next_51 : decode cX11_next 51 = .ok (.iload_n 1, 1) := by decide +kernel
theorem dX11_next_52 : decode cX11_next 52 = .ok (.ifCond .ge 11, 3) := by decide +kernel
theorem dX11_next_55 : decode cX11_next 55 = .ok (.aload_n 0, 1) := by decide +kernel
theorem dX11_next_56 : decode cX11_next 56 = .ok (.iconst 0, 1) := by decide +kernel
theorem dX11_next_57 : decode cX11_next 57 = .ok (.putfield 178, 3) := by decide +kernel
theorem dX11_next_60 : decode cX11_next 60 = .ok (.goto 214, 3) := by decide +kernel
theorem dX11_next_63 : decode cX11_next 63 = .ok (.iload_n 1, 1) := by decide +kernel
theorem dX11_next_64 : decode cX11_next 64 = .ok (.i2l, 1) := by decide +kernel
theorem dX11_next_65 : decode cX11_next 65 = .ok (.ldc2_w 181, 3) := by decide +kernel
theorem dX11_next_68 : decode cX11_next 68 = .ok (.ldc2_w 183, 3) := by decide +kernel
theorem dX11_next_71 : decode cX11_next 71 = .ok (.invokestatic 146, 3) := by decide +kernel
theorem dX11_next_74 : decode cX11_next 74 = .ok (.ifCond .eq 42, 3) := by decide +kernel
theorem dX11_next_77 : decode cX11_next 77 = .ok (.aload_n 0, 1) := by decide +kernel
theorem dX11_next_78 : decode cX11_next 78 = .ok (.iconst 1, 1) := by decide +kernel
theorem dX11_next_79 : decode cX11_next 79 = .ok (.putfield 178, 3) := by decide +kernel
theorem dX11_next_82 : decode cX11_next 82 = .ok (.aload_n 0, 1) := by decide +kernel
theorem dX11_next_83 : decode cX11_next 83 = .ok (.aload_n 0, 1) := by decide +kernel
theorem dX11_next_84 : decode cX11_next 84 = .ok (.getfield 159, 3) := by decide +kernel
theorem dX11_next_87 : decode cX11_next 87 = .ok (.invokevirtual 162, 3) := by decide +kernel
theorem dX11_next_90 : decode cX11_next 90 = .ok (.i2l, 1) := by decide +kernel
theorem dX11_next_91 : decode cX11_next 91 = .ok (.ldc2_w 181, 3) := by decide +kernel
theorem dX11_next_94 : decode cX11_next 94 = .ok (.ldc2_w 183, 3) := by decide +kernel
theorem dX11_next_97 : decode cX11_next 97 = .ok (.invokestatic 146, 3) := by decide +kernel
theorem dX11_next_100 : decode cX11_next 100 = .ok (.ifCond .eq 174, 3) := by decide +kernel
theorem dX11_next_103 : decode cX11_next 103 = .ok (.aload_n 0, 1) := by decide +kernel
theorem dX11_next_104 : decode cX11_next 104 = .ok (.dup, 1) := by decide +kernel
theorem dX11_next_105 : decode cX11_next 105 = .ok (.getfield 159, 3) := by decide +kernel
theorem dX11_next_108 : decode cX11_next 108 = .ok (.iconst 1, 1) := by decide +kernel
theorem dX11_next_109 : decode cX11_next 109 = .ok (.iadd, 1) := by decide +kernel
theorem dX11_next_110 : decode cX11_next 110 = .ok (.putfield 159, 3) := by decide +kernel
theorem dX11_next_113 : decode cX11_next 113 = .ok (.goto (-31), 3) := by decide +kernel
theorem dX11_next_116 : decode cX11_next 116 = .ok (.iload_n 1, 1) := by decide +kernel
theorem dX11_next_117 : decode cX11_next 117 = .ok (.i2l, 1) := by decide +kernel
theorem dX11_next_118 : decode cX11_next 118 = .ok (.ldc2_w 185, 3) := by decide +kernel
theorem dX11_next_121 : decode cX11_next 121 = .ok (.ldc2_w 187, 3) := by decide +kernel
theorem dX11_next_124 : decode cX11_next 124 = .ok (.invokestatic 146, 3) := by decide +kernel
theorem dX11_next_127 : decode cX11_next 127 = .ok (.ifCond .eq 116, 3) := by decide +kernel
theorem dX11_next_130 : decode cX11_next 130 = .ok (.aload_n 0, 1) := by decide +kernel
theorem dX11_next_131 : decode cX11_next 131 = .ok (.iconst 2, 1) := by decide +kernel
theorem dX11_next_132 : decode cX11_next 132 = .ok (.putfield 178, 3) := by decide +kernel
theorem dX11_next_135 : decode cX11_next 135 = .ok (.aload_n 0, 1) := by decide +kernel
theorem dX11_next_136 : decode cX11_next 136 = .ok (.iconst 0, 1) := by decide +kernel
theorem dX11_next_137 : decode cX11_next 137 = .ok (.putfield 189, 3) := by decide +kernel
theorem dX11_next_140 : decode cX11_next 140 = .ok (.aload_n 0, 1) := by decide +kernel
theorem dX11_next_141 : decode cX11_next 141 = .ok (.aload_n 0, 1) := by decide +kernel
theorem dX11_next_142 : decode cX11_next 142 = .ok (.getfield 159, 3) := by decide +kernel
theorem dX11_next_145 : decode cX11_next 145 = .ok (.invokevirtual 162, 3) := by decide +kernel
theorem dX11_next_148 : decode cX11_next 148 = .ok (.i2l, 1) := by decide +kernel
theorem dX11_next_149 : decode cX11_next 149 = .ok (.ldc2_w 185, 3) := by decide +kernel
theorem dX11_next_152 : decode cX11_next 152 = .ok (.ldc2_w 187, 3) := by decide +kernel
theorem dX11_next_155 : decode cX11_next 155 = .ok (.invokestatic 146, 3) := by decide +kernel
theorem dX11_next_158 : decode cX11_next 158 = .ok (.ifCond .eq 59, 3) := by decide +kernel
theorem dX11_next_161 : decode cX11_next 161 = .ok (.aload_n 0, 1) := by decide +kernel
theorem dX11_next_162 : decode cX11_next 162 = .ok (.aload_n 0, 1) := by decide +kernel
theorem dX11_next_163 : decode cX11_next 163 = .ok (.getfield 159, 3) := by decide +kernel
theorem dX11_next_166 : decode cX11_next 166 = .ok (.aload_n 0, 1) := by decide +kernel
theorem dX11_next_167 : decode cX11_next 167 = .ok (.getfield 153, 3) := by decide +kernel
theorem dX11_next_170 : decode cX11_next 170 = .ok (.isub, 1) := by decide +kernel
theorem dX11_next_171 : decode cX11_next 171 = .ok (.iconst 2, 1) := by decide +kernel
theorem dX11_next_172 : decode cX11_next 172 = .ok (.if_icmp .ge 25, 3) := by decide +kernel
theorem dX11_next_175 : decode cX11_next 175 = .ok (.bipush 10, 2) := by decide +kernel
theorem dX11_next_177 : decode cX11_next 177 = .ok (.aload_n 0, 1) := by decide +kernel
theorem dX11_next_178 : decode cX11_next 178 = .ok (.getfield 189, 3) := by decide +kernel
theorem dX11_next_181 : decode cX11_next 181 = .ok (.imul, 1) := by decide +kernel
theorem dX11_next_182 : decode cX11_next 182 = .ok (.aload_n 0, 1) := by decide +kernel
theorem dX11_next_183 : decode cX11_next 183 = .ok (.aload_n 0, 1) := by decide +kernel
theorem dX11_next_184 : decode cX11_next 184 = .ok (.getfield 159, 3) := by decide +kernel
theorem dX11_next_187 : decode cX11_next 187 = .ok (.invokevirtual 162, 3) := by decide +kernel
theorem dX11_next_190 : decode cX11_next 190 = .ok (.iadd, 1) := by decide +kernel
theorem dX11_next_191 : decode cX11_next 191 = .ok (.bipush 48, 2) := by decide +kernel
theorem dX11_next_193 : decode cX11_next 193 = .ok (.isub, 1) := by decide +kernel
theorem dX11_next_194 : decode cX11_next 194 = .ok (.goto 7, 3) := by decide +kernel
theorem dX11_next_197 : decode cX11_next 197 = .ok (.aload_n 0, 1) := by decide +kernel
theorem dX11_next_198 : decode cX11_next 198 = .ok (.getfield 189, 3) := by decide +kernel
theorem dX11_next_201 : decode cX11_next 201 = .ok (.putfield 189, 3) := by decide +kernel
theorem dX11_next_204 : decode cX11_next 204 = .ok (.aload_n 0, 1) := by decide +kernel
theorem dX11_next_205 : decode cX11_next 205 = .ok (.dup, 1) := by decide +kernel
theorem dX11_next_206 : decode cX11_next 206 = .ok (.getfield 159, 3) := by decide +kernel
theorem dX11_next_209 : decode cX11_next 209 = .ok (.iconst 1, 1) := by decide +kernel
theorem dX11_next_210 : decode cX11_next 210 = .ok (.iadd, 1) := by decide +kernel
theorem dX11_next_211 : decode cX11_next 211 = .ok (.putfield 159, 3) := by decide +kernel
theorem dX11_next_214 : decode cX11_next 214 = .ok (.goto (-74), 3) := by decide +kernel
theorem dX11_next_217 : decode cX11_next 217 = .ok (.aload_n 0, 1) := by decide +kernel
theorem dX11_next_218 : decode cX11_next 218 = .ok (.aload_n 0, 1) := by decide +kernel
theorem dX11_next_219 : decode cX11_next 219 = .ok (.getfield 159, 3) := by decide +kernel
theorem dX11_next_222 : decode cX11_next 222 = .ok (.aload_n 0, 1) := by decide +kernel
theorem dX11_next_223 : decode cX11_next 223 = .ok (.getfield 153, 3) := by decide +kernel
theorem dX11_next_226 : decode cX11_next 226 = .ok (.isub, 1) := by decide +kernel
theorem dX11_next_227 : decode cX11_next 227 = .ok (.iconst 2, 1) := by decide +kernel
theorem dX11_next_228 : decode cX11_next 228 = .ok (.if_icmp .gt 7, 3) := by decide +kernel
theorem dX11_next_231 : decode cX11_next 231 = .ok (.iconst 1, 1) := by decide +kernel
theorem dX11_next_232 : decode cX11_next 232 = .ok (.goto 4, 3) := by decide +kernel
theorem dX11_next_235 : decode cX11_next 235 = .ok (.iconst 0, 1) := by decide +kernel
theorem dX11_next_236 : decode cX11_next 236 = .ok (.iconst 1, 1) := by decide +kernel
theorem dX11_next_237 : decode cX11_next 237 = .ok (.invokevirtual 192, 3) := by decide +kernel
theorem dX11_next_240 : decode cX11_next 240 = .ok (.goto 34, 3) := by decide +kernel
theorem dX11_next_243 : decode cX11_next 243 = .ok (.aload_n 0, 1) := by decide +kernel
theorem dX11_next_244 : decode cX11_next 244 = .ok (.iconst 3, 1) := by decide +kernel
theorem dX11_next_245 : decode cX11_next 245 = .ok (.putfield 178, 3) := by decide +kernel
theorem dX11_next_248 : decode cX11_next 248 = .ok (.aload_n 0, 1) := by decide +kernel
theorem dX11_next_249 : decode cX11_next 249 = .ok (.iload_n 1, 1) := by decide +kernel
theorem dX11_next_250 : decode cX11_next 250 = .ok (.bipush 59, 2) := by decide +kernel
theorem dX11_next_252 : decode cX11_next 252 = .ok (.if_icmp .ne 7, 3) := by decide +kernel
theorem dX11_next_255 : decode cX11_next 255 = .ok (.iconst 1, 1) := by decide +kernel
theorem dX11_next_256 : decode cX11_next 256 = .ok (.goto 4, 3) := by decide +kernel
theorem dX11_next_259 : decode cX11_next 259 = .ok (.iconst 0, 1) := by decide +kernel
theorem dX11_next_260 : decode cX11_next 260 = .ok (.iconst 1, 1) := by decide +kernel
theorem dX11_next_261 : decode cX11_next 261 = .ok (.invokevirtual 192, 3) := by decide +kernel
theorem dX11_next_264 : decode cX11_next 264 = .ok (.aload_n 0, 1) := by decide +kernel
theorem dX11_next_265 : decode cX11_next 265 = .ok (.dup, 1) := by decide +kernel
theorem dX11_next_266 : decode cX11_next 266 = .ok (.getfield 159, 3) := by decide +kernel
theorem dX11_next_269 : decode cX11_next 269 = .ok (.iconst 1, 1) := by decide +kernel
theorem dX11_next_270 : decode cX11_next 270 = .ok (.iadd, 1) := by decide +kernel
theorem dX11_next_271 : decode cX11_next 271 = .ok (.putfield 159, 3) := by decide +kernel
theorem dX11_next_274 : decode cX11_next 274 = .ok (.return_, 1) := by decide +kernel
theorem dX11_looked_0 : decode cX11_looked 0 = .ok (.aload_n 0, 1) := by decide +kernel
theorem dX11_looked_1 : decode cX11_looked 1 = .ok (.getfield 150, 3) := by decide +kernel
theorem dX11_looked_4 : decode cX11_looked 4 = .ok (.ifCond .ne 21, 3) := by decide +kernel
theorem dX11_looked_7 : decode cX11_looked 7 = .ok (.aload_n 0, 1) := by decide +kernel
theorem dX11_looked_8 : decode cX11_looked 8 = .ok (.aload_n 0, 1) := by decide +kernel
theorem dX11_looked_9 : decode cX11_looked 9 = .ok (.getfield 178, 3) := by decide +kernel
theorem dX11_looked_12 : decode cX11_looked 12 = .ok (.iconst 2, 1) := by decide +kernel
theorem dX11_looked_13 : decode cX11_looked 13 = .ok (.if_icmp .ne 7, 3) := by decide +kernel
theorem dX11_looked_16 : decode cX11_looked 16 = .ok (.iconst 1, 1) := by decide +kernel
theorem dX11_looked_17 : decode cX11_looked 17 = .ok (.goto 4, 3) := by decide +kernel
theorem dX11_looked_20 : decode cX11_looked 20 = .ok (.iconst 0, 1) := by decide +kernel
theorem dX11_looked_21 : decode cX11_looked 21 = .ok (.iconst 2, 1) := by decide +kernel
theorem dX11_looked_22 : decode cX11_looked 22 = .ok (.invokevirtual 192, 3) := by decide +kernel
theorem dX11_looked_25 : decode cX11_looked 25 = .ok (.aload_n 0, 1) := by decide +kernel
theorem dX11_looked_26 : decode cX11_looked 26 = .ok (.getfield 150, 3) := by decide +kernel
theorem dX11_looked_29 : decode cX11_looked 29 = .ok (.ifCond .ne 20, 3) := by decide +kernel
theorem dX11_looked_32 : decode cX11_looked 32 = .ok (.aload_n 0, 1) := by decide +kernel
theorem dX11_looked_33 : decode cX11_looked 33 = .ok (.aload_n 0, 1) := by decide +kernel
theorem dX11_looked_34 : decode cX11_looked 34 = .ok (.getfield 189, 3) := by decide +kernel
theorem dX11_looked_37 : decode cX11_looked 37 = .ok (.i2l, 1) := by decide +kernel
theorem dX11_looked_38 : decode cX11_looked 38 = .ok (.iload_n 1, 1) := by decide +kernel
theorem dX11_looked_39 : decode cX11_looked 39 = .ok (.i2l, 1) := by decide +kernel
theorem dX11_looked_40 : decode cX11_looked 40 = .ok (.iload_n 2, 1) := by decide +kernel
theorem dX11_looked_41 : decode cX11_looked 41 = .ok (.i2l, 1) := by decide +kernel
theorem dX11_looked_42 : decode cX11_looked 42 = .ok (.invokestatic 146, 3) := by decide +kernel
theorem dX11_looked_45 : decode cX11_looked 45 = .ok (.iconst 3, 1) := by decide +kernel
theorem dX11_looked_46 : decode cX11_looked 46 = .ok (.invokevirtual 192, 3) := by decide +kernel
theorem dX11_looked_49 : decode cX11_looked 49 = .ok (.aload_n 0, 1) := by decide +kernel
theorem dX11_looked_50 : decode cX11_looked 50 = .ok (.getfield 150, 3) := by decide +kernel
theorem dX11_looked_53 : decode cX11_looked 53 = .ok (.ifCond .ne 10, 3) := by decide +kernel
theorem dX11_looked_56 : decode cX11_looked 56 = .ok (.aload_n 0, 1) := by decide +kernel
theorem dX11_looked_57 : decode cX11_looked 57 = .ok (.getfield 189, 3) := by decide +kernel
theorem dX11_looked_60 : decode cX11_looked 60 = .ok (.goto 4, 3) := by decide +kernel
theorem dX11_looked_63 : decode cX11_looked 63 = .ok (.iconst 0, 1) := by decide +kernel
theorem dX11_looked_64 : decode cX11_looked 64 = .ok (.ireturn, 1) := by decide +kernel
theorem dX11_readNumber_0 : decode cX11_readNumber 0 = .ok (.aload_n 0, 1) := by decide +kernel
theorem dX11_readNumber_1 : decode cX11_readNumber 1 = .ok (.iload_n 1, 1) := by decide +kernel
theorem dX11_readNumber_2 : decode cX11_readNumber 2 = .ok (.iload_n 2, 1) := by decide +kernel
theorem dX11_readNumber_3 : decode cX11_readNumber 3 = .ok (.invokevirtual 196, 3) := by decide +kernel
theorem dX11_readNumber_6 : decode cX11_readNumber 6 = .ok (.istore_n 3, 1) := by decide +kernel
theorem dX11_readNumber_7 : decode cX11_readNumber 7 = .ok (.aload_n 0, 1) := by decide +kernel
theorem dX11_readNumber_8 : decode cX11_readNumber 8 = .ok (.invokevirtual 200, 3) := by decide +kernel
theorem dX11_readNumber_11 : decode cX11_readNumber 11 = .ok (.iload_n 3, 1) := by decide +kernel
theorem dX11_readNumber_12 : decode cX11_readNumber 12 = .ok (.ireturn, 1) := by decide +kernel
theorem dX11_readLot_0 : decode cX11_readLot 0 = .ok (.aload_n 0, 1) := by decide +kernel
theorem dX11_readLot_1 : decode cX11_readLot 1 = .ok (.iconst 0, 1) := by decide +kernel
theorem dX11_readLot_2 : decode cX11_readLot 2 = .ok (.bipush 7, 2) := by decide +kernel
theorem dX11_readLot_4 : decode cX11_readLot 4 = .ok (.invokevirtual 203, 3) := by decide +kernel
theorem dX11_readLot_7 : decode cX11_readLot 7 = .ok (.istore_n 1, 1) := by decide +kernel
theorem dX11_readLot_8 : decode cX11_readLot 8 = .ok (.aload_n 0, 1) := by decide +kernel
theorem dX11_readLot_9 : decode cX11_readLot 9 = .ok (.iload_n 1, 1) := by decide +kernel
theorem dX11_readLot_10 : decode cX11_readLot 10 = .ok (.aload_n 0, 1) := by decide +kernel
theorem dX11_readLot_11 : decode cX11_readLot 11 = .ok (.getfield 126, 3) := by decide +kernel
theorem dX11_readLot_14 : decode cX11_readLot 14 = .ok (.if_icmp .le 7, 3) := by decide +kernel
theorem dX11_readLot_17 : decode cX11_readLot 17 = .ok (.iload_n 1, 1) := by decide +kernel
theorem dX11_readLot_18 : decode cX11_readLot 18 = .ok (.goto 7, 3) := by decide +kernel
theorem dX11_readLot_21 : decode cX11_readLot 21 = .ok (.aload_n 0, 1) := by decide +kernel
theorem dX11_readLot_22 : decode cX11_readLot 22 = .ok (.getfield 126, 3) := by decide +kernel
theorem dX11_readLot_25 : decode cX11_readLot 25 = .ok (.putfield 126, 3) := by decide +kernel
theorem dX11_readLot_28 : decode cX11_readLot 28 = .ok (.iload_n 1, 1) := by decide +kernel
theorem dX11_readLot_29 : decode cX11_readLot 29 = .ok (.ireturn, 1) := by decide +kernel
theorem dX11_readKind_0 : decode cX11_readKind 0 = .ok (.aload_n 0, 1) := by decide +kernel
theorem dX11_readKind_1 : decode cX11_readKind 1 = .ok (.getfield 150, 3) := by decide +kernel
theorem dX11_readKind_4 : decode cX11_readKind 4 = .ok (.ifCond .ne 18, 3) := by decide +kernel
theorem dX11_readKind_7 : decode cX11_readKind 7 = .ok (.aload_n 0, 1) := by decide +kernel
theorem dX11_readKind_8 : decode cX11_readKind 8 = .ok (.getfield 178, 3) := by decide +kernel
theorem dX11_readKind_11 : decode cX11_readKind 11 = .ok (.iconst 1, 1) := by decide +kernel
theorem dX11_readKind_12 : decode cX11_readKind 12 = .ok (.if_icmp .ne 10, 3) := by decide +kernel
theorem dX11_readKind_15 : decode cX11_readKind 15 = .ok (.aload_n 0, 1) := by decide +kernel
theorem dX11_readKind_16 : decode cX11_readKind 16 = .ok (.invokevirtual 206, 3) := by decide +kernel
theorem dX11_readKind_19 : decode cX11_readKind 19 = .ok (.goto 5, 3) := by decide +kernel
theorem dX11_readKind_22 : decode cX11_readKind 22 = .ok (.bipush (-4), 2) := by decide +kernel
theorem dX11_readKind_24 : decode cX11_readKind 24 = .ok (.istore_n 2, 1) := by decide +kernel
theorem dX11_readKind_25 : decode cX11_readKind 25 = .ok (.aload_n 0, 1) := by decide +kernel
theorem dX11_readKind_26 : decode cX11_readKind 26 = .ok (.iload_n 2, 1) := by decide +kernel
theorem dX11_readKind_27 : decode cX11_readKind 27 = .ok (.bipush (-4), 2) := by decide +kernel
theorem dX11_readKind_29 : decode cX11_readKind 29 = .ok (.if_icmp .eq 7, 3) := by decide +kernel
theorem dX11_readKind_32 : decode cX11_readKind 32 = .ok (.iconst 1, 1) := by decide +kernel
theorem dX11_readKind_33 : decode cX11_readKind 33 = .ok (.goto 4, 3) := by decide +kernel
theorem dX11_readKind_36 : decode cX11_readKind 36 = .ok (.iconst 0, 1) := by decide +kernel
theorem dX11_readKind_37 : decode cX11_readKind 37 = .ok (.iconst 2, 1) := by decide +kernel
theorem dX11_readKind_38 : decode cX11_readKind 38 = .ok (.invokevirtual 192, 3) := by decide +kernel
theorem dX11_readKind_41 : decode cX11_readKind 41 = .ok (.aload_n 0, 1) := by decide +kernel
theorem dX11_readKind_42 : decode cX11_readKind 42 = .ok (.iload_n 2, 1) := by decide +kernel
theorem dX11_readKind_43 : decode cX11_readKind 43 = .ok (.bipush (-4), 2) := by decide +kernel
theorem dX11_readKind_45 : decode cX11_readKind 45 = .ok (.if_icmp .eq 11, 3) := by decide +kernel
theorem dX11_readKind_48 : decode cX11_readKind 48 = .ok (.iload_n 1, 1) := by decide +kernel
theorem dX11_readKind_49 : decode cX11_readKind 49 = .ok (.iload_n 2, 1) := by decide +kernel
theorem dX11_readKind_50 : decode cX11_readKind 50 = .ok (.ishr, 1) := by decide +kernel
theorem dX11_readKind_51 : decode cX11_readKind 51 = .ok (.iconst 1, 1) := by decide +kernel
theorem dX11_readKind_52 : decode cX11_readKind 52 = .ok (.iand, 1) := by decide +kernel
theorem dX11_readKind_53 : decode cX11_readKind 53 = .ok (.ifCond .ne 7, 3) := by decide +kernel
theorem dX11_readKind_56 : decode cX11_readKind 56 = .ok (.iconst 1, 1) := by decide +kernel
theorem dX11_readKind_57 : decode cX11_readKind 57 = .ok (.goto 4, 3) := by decide +kernel
theorem dX11_readKind_60 : decode cX11_readKind 60 = .ok (.iconst 0, 1) := by decide +kernel
theorem dX11_readKind_61 : decode cX11_readKind 61 = .ok (.iconst 4, 1) := by decide +kernel
theorem dX11_readKind_62 : decode cX11_readKind 62 = .ok (.invokevirtual 192, 3) := by decide +kernel
theorem dX11_readKind_65 : decode cX11_readKind 65 = .ok (.aload_n 0, 1) := by decide +kernel
theorem dX11_readKind_66 : decode cX11_readKind 66 = .ok (.invokevirtual 200, 3) := by decide +kernel
theorem dX11_readKind_69 : decode cX11_readKind 69 = .ok (.iload_n 2, 1) := by decide +kernel
theorem dX11_readKind_70 : decode cX11_readKind 70 = .ok (.bipush (-4), 2) := by decide +kernel
theorem dX11_readKind_72 : decode cX11_readKind 72 = .ok (.if_icmp .ne 7, 3) := by decide +kernel
theorem dX11_readKind_75 : decode cX11_readKind 75 = .ok (.iconst 0, 1) := by decide +kernel
theorem dX11_readKind_76 : decode cX11_readKind 76 = .ok (.goto 4, 3) := by decide +kernel
theorem dX11_readKind_79 : decode cX11_readKind 79 = .ok (.iload_n 2, 1) := by decide +kernel
theorem dX11_readKind_80 : decode cX11_readKind 80 = .ok (.ireturn, 1) := by decide +kernel
theorem dX11_readColour_0 : decode cX11_readColour 0 = .ok (.aload_n 0, 1) := by decide +kernel
theorem dX11_readColour_1 : decode cX11_readColour 1 = .ok (.iconst 0, 1) := by decide +kernel
theorem dX11_readColour_2 : decode cX11_readColour 2 = .ok (.iconst 3, 1) := by decide +kernel
theorem dX11_readColour_3 : decode cX11_readColour 3 = .ok (.invokevirtual 196, 3) := by decide +kernel
theorem dX11_readColour_6 : decode cX11_readColour 6 = .ok (.istore_n 2, 1) := by decide +kernel
theorem dX11_readColour_7 : decode cX11_readColour 7 = .ok (.aload_n 0, 1) := by decide +kernel
theorem dX11_readColour_8 : decode cX11_readColour 8 = .ok (.getfield 150, 3) := by decide +kernel
theorem dX11_readColour_11 : decode cX11_readColour 11 = .ok (.ifCond .ne 21, 3) := by decide +kernel
theorem dX11_readColour_14 : decode cX11_readColour 14 = .ok (.aload_n 0, 1) := by decide +kernel
theorem dX11_readColour_15 : decode cX11_readColour 15 = .ok (.iload_n 1, 1) := by decide +kernel
theorem dX11_readColour_16 : decode cX11_readColour 16 = .ok (.iload_n 2, 1) := by decide +kernel
theorem dX11_readColour_17 : decode cX11_readColour 17 = .ok (.ishr, 1) := by decide +kernel
theorem dX11_readColour_18 : decode cX11_readColour 18 = .ok (.iconst 1, 1) := by decide +kernel
theorem dX11_readColour_19 : decode cX11_readColour 19 = .ok (.iand, 1) := by decide +kernel
theorem dX11_readColour_20 : decode cX11_readColour 20 = .ok (.ifCond .ne 7, 3) := by decide +kernel
theorem dX11_readColour_23 : decode cX11_readColour 23 = .ok (.iconst 1, 1) := by decide +kernel
theorem dX11_readColour_24 : decode cX11_readColour 24 = .ok (.goto 4, 3) := by decide +kernel
theorem dX11_readColour_27 : decode cX11_readColour 27 = .ok (.iconst 0, 1) := by decide +kernel
theorem dX11_readColour_28 : decode cX11_readColour 28 = .ok (.iconst 4, 1) := by decide +kernel
theorem dX11_readColour_29 : decode cX11_readColour 29 = .ok (.invokevirtual 192, 3) := by decide +kernel
theorem dX11_readColour_32 : decode cX11_readColour 32 = .ok (.aload_n 0, 1) := by decide +kernel
theorem dX11_readColour_33 : decode cX11_readColour 33 = .ok (.invokevirtual 200, 3) := by decide +kernel
theorem dX11_readColour_36 : decode cX11_readColour 36 = .ok (.iload_n 2, 1) := by decide +kernel
theorem dX11_readColour_37 : decode cX11_readColour 37 = .ok (.ireturn, 1) := by decide +kernel
theorem dX11_readWhat_0 : decode cX11_readWhat 0 = .ok (.aload_n 0, 1) := by decide +kernel
theorem dX11_readWhat_1 : decode cX11_readWhat 1 = .ok (.getfield 150, 3) := by decide +kernel
theorem dX11_readWhat_4 : decode cX11_readWhat 4 = .ok (.ifCond .ne 24, 3) := by decide +kernel
theorem dX11_readWhat_7 : decode cX11_readWhat 7 = .ok (.aload_n 0, 1) := by decide +kernel
theorem dX11_readWhat_8 : decode cX11_readWhat 8 = .ok (.getfield 178, 3) := by decide +kernel
theorem dX11_readWhat_11 : decode cX11_readWhat 11 = .ok (.iconst 1, 1) := by decide +kernel
theorem dX11_readWhat_12 : decode cX11_readWhat 12 = .ok (.if_icmp .ne 16, 3) := by decide +kernel
theorem dX11_readWhat_15 : decode cX11_readWhat 15 = .ok (.aload_n 0, 1) := by decide +kernel
theorem dX11_readWhat_16 : decode cX11_readWhat 16 = .ok (.invokevirtual 209, 3) := by decide +kernel
theorem dX11_readWhat_19 : decode cX11_readWhat 19 = .ok (.ifCond .eq 9, 3) := by decide +kernel
theorem dX11_readWhat_22 : decode cX11_readWhat 22 = .ok (.aload_n 0, 1) := by decide +kernel
theorem dX11_readWhat_23 : decode cX11_readWhat 23 = .ok (.invokevirtual 200, 3) := by decide +kernel
theorem dX11_readWhat_26 : decode cX11_readWhat 26 = .ok (.iconst 0, 1) := by decide +kernel
theorem dX11_readWhat_27 : decode cX11_readWhat 27 = .ok (.ireturn, 1) := by decide +kernel
theorem dX11_readWhat_28 : decode cX11_readWhat 28 = .ok (.aload_n 0, 1) := by decide +kernel
theorem dX11_readWhat_29 : decode cX11_readWhat 29 = .ok (.iconst 0, 1) := by decide +kernel
theorem dX11_readWhat_30 : decode cX11_readWhat 30 = .ok (.invokevirtual 213, 3) := by decide +kernel
theorem dX11_readWhat_33 : decode cX11_readWhat 33 = .ok (.istore_n 1, 1) := by decide +kernel
theorem dX11_readWhat_34 : decode cX11_readWhat 34 = .ok (.aload_n 0, 1) := by decide +kernel
theorem dX11_readWhat_35 : decode cX11_readWhat 35 = .ok (.iconst 0, 1) := by decide +kernel
theorem dX11_readWhat_36 : decode cX11_readWhat 36 = .ok (.iconst 3, 1) := by decide +kernel
theorem dX11_readWhat_37 : decode cX11_readWhat 37 = .ok (.invokevirtual 203, 3) := by decide +kernel
theorem dX11_readWhat_40 : decode cX11_readWhat 40 = .ok (.istore_n 2, 1) := by decide +kernel
theorem dX11_readWhat_41 : decode cX11_readWhat 41 = .ok (.aload_n 0, 1) := by decide +kernel
theorem dX11_readWhat_42 : decode cX11_readWhat 42 = .ok (.getfield 150, 3) := by decide +kernel
theorem dX11_readWhat_45 : decode cX11_readWhat 45 = .ok (.ifCond .ne 18, 3) := by decide +kernel
theorem dX11_readWhat_48 : decode cX11_readWhat 48 = .ok (.aload_n 0, 1) := by decide +kernel
theorem dX11_readWhat_49 : decode cX11_readWhat 49 = .ok (.getfield 178, 3) := by decide +kernel
theorem dX11_readWhat_52 : decode cX11_readWhat 52 = .ok (.iconst 1, 1) := by decide +kernel
theorem dX11_readWhat_53 : decode cX11_readWhat 53 = .ok (.if_icmp .ne 10, 3) := by decide +kernel
theorem dX11_readWhat_56 : decode cX11_readWhat 56 = .ok (.aload_n 0, 1) := by decide +kernel
theorem dX11_readWhat_57 : decode cX11_readWhat 57 = .ok (.invokevirtual 216, 3) := by decide +kernel
theorem dX11_readWhat_60 : decode cX11_readWhat 60 = .ok (.goto 5, 3) := by decide +kernel
theorem dX11_readWhat_63 : decode cX11_readWhat 63 = .ok (.bipush (-4), 2) := by decide +kernel
theorem dX11_readWhat_65 : decode cX11_readWhat 65 = .ok (.istore_n 3, 1) := by decide +kernel
theorem dX11_readWhat_66 : decode cX11_readWhat 66 = .ok (.aload_n 0, 1) := by decide +kernel
theorem dX11_readWhat_67 : decode cX11_readWhat 67 = .ok (.iload_n 3, 1) := by decide +kernel
theorem dX11_readWhat_68 : decode cX11_readWhat 68 = .ok (.bipush (-4), 2) := by decide +kernel
theorem dX11_readWhat_70 : decode cX11_readWhat 70 = .ok (.if_icmp .eq 7, 3) := by decide +kernel
theorem dX11_readWhat_73 : decode cX11_readWhat 73 = .ok (.iconst 1, 1) := by decide +kernel
theorem dX11_readWhat_74 : decode cX11_readWhat 74 = .ok (.goto 4, 3) := by decide +kernel
theorem dX11_readWhat_77 : decode cX11_readWhat 77 = .ok (.iconst 0, 1) := by decide +kernel
theorem dX11_readWhat_78 : decode cX11_readWhat 78 = .ok (.iconst 2, 1) := by decide +kernel
theorem dX11_readWhat_79 : decode cX11_readWhat 79 = .ok (.invokevirtual 192, 3) := by decide +kernel
theorem dX11_readWhat_82 : decode cX11_readWhat 82 = .ok (.aload_n 0, 1) := by decide +kernel
theorem dX11_readWhat_83 : decode cX11_readWhat 83 = .ok (.invokevirtual 200, 3) := by decide +kernel
theorem dX11_readWhat_86 : decode cX11_readWhat 86 = .ok (.aload_n 0, 1) := by decide +kernel
theorem dX11_readWhat_87 : decode cX11_readWhat 87 = .ok (.getfield 150, 3) := by decide +kernel
theorem dX11_readWhat_90 : decode cX11_readWhat 90 = .ok (.ifCond .le 7, 3) := by decide +kernel
theorem dX11_readWhat_93 : decode cX11_readWhat 93 = .ok (.iconst 0, 1) := by decide +kernel
theorem dX11_readWhat_94 : decode cX11_readWhat 94 = .ok (.goto 14, 3) := by decide +kernel
theorem dX11_readWhat_97 : decode cX11_readWhat 97 = .ok (.iload_n 1, 1) := by decide +kernel
theorem dX11_readWhat_98 : decode cX11_readWhat 98 = .ok (.bipush 8, 2) := by decide +kernel
theorem dX11_readWhat_100 : decode cX11_readWhat 100 = .ok (.iload_n 2, 1) := by decide +kernel
theorem dX11_readWhat_101 : decode cX11_readWhat 101 = .ok (.imul, 1) := by decide +kernel
theorem dX11_readWhat_102 : decode cX11_readWhat 102 = .ok (.iadd, 1) := by decide +kernel
theorem dX11_readWhat_103 : decode cX11_readWhat 103 = .ok (.bipush 32, 2) := by decide +kernel
theorem dX11_readWhat_105 : decode cX11_readWhat 105 = .ok (.iload_n 3, 1) := by decide +kernel
theorem dX11_readWhat_106 : decode cX11_readWhat 106 = .ok (.imul, 1) := by decide +kernel
theorem dX11_readWhat_107 : decode cX11_readWhat 107 = .ok (.iadd, 1) := by decide +kernel
theorem dX11_readWhat_108 : decode cX11_readWhat 108 = .ok (.ireturn, 1) := by decide +kernel
theorem dX11_readCosts_0 : decode cX11_readCosts 0 = .ok (.aload_n 0, 1) := by decide +kernel
theorem dX11_readCosts_1 : decode cX11_readCosts 1 = .ok (.iconst 0, 1) := by decide +kernel
theorem dX11_readCosts_2 : decode cX11_readCosts 2 = .ok (.iconst 1, 1) := by decide +kernel
theorem dX11_readCosts_3 : decode cX11_readCosts 3 = .ok (.invokevirtual 196, 3) := by decide +kernel
theorem dX11_readCosts_6 : decode cX11_readCosts 6 = .ok (.istore_n 2, 1) := by decide +kernel
theorem dX11_readCosts_7 : decode cX11_readCosts 7 = .ok (.aload_n 0, 1) := by decide +kernel
theorem dX11_readCosts_8 : decode cX11_readCosts 8 = .ok (.getfield 150, 3) := by decide +kernel
theorem dX11_readCosts_11 : decode cX11_readCosts 11 = .ok (.ifCond .ne 35, 3) := by decide +kernel
theorem dX11_readCosts_14 : decode cX11_readCosts 14 = .ok (.aload_n 0, 1) := by decide +kernel
theorem dX11_readCosts_15 : decode cX11_readCosts 15 = .ok (.iload_n 1, 1) := by decide +kernel
theorem dX11_readCosts_16 : decode cX11_readCosts 16 = .ok (.ifCond .eq 10, 3) := by decide +kernel
theorem dX11_readCosts_19 : decode cX11_readCosts 19 = .ok (.aload_n 0, 1) := by decide +kernel
theorem dX11_readCosts_20 : decode cX11_readCosts 20 = .ok (.getfield 114, 3) := by decide +kernel
theorem dX11_readCosts_23 : decode cX11_readCosts 23 = .ok (.goto 7, 3) := by decide +kernel
theorem dX11_readCosts_26 : decode cX11_readCosts 26 = .ok (.aload_n 0, 1) := by decide +kernel
theorem dX11_readCosts_27 : decode cX11_readCosts 27 = .ok (.getfield 117, 3) := by decide +kernel
theorem dX11_readCosts_30 : decode cX11_readCosts 30 = .ok (.iload_n 2, 1) := by decide +kernel
theorem dX11_readCosts_31 : decode cX11_readCosts 31 = .ok (.ishr, 1) := by decide +kernel
theorem dX11_readCosts_32 : decode cX11_readCosts 32 = .ok (.iconst 1, 1) := by decide +kernel
theorem dX11_readCosts_33 : decode cX11_readCosts 33 = .ok (.iand, 1) := by decide +kernel
theorem dX11_readCosts_34 : decode cX11_readCosts 34 = .ok (.ifCond .ne 7, 3) := by decide +kernel
theorem dX11_readCosts_37 : decode cX11_readCosts 37 = .ok (.iconst 1, 1) := by decide +kernel
theorem dX11_readCosts_38 : decode cX11_readCosts 38 = .ok (.goto 4, 3) := by decide +kernel
theorem dX11_readCosts_41 : decode cX11_readCosts 41 = .ok (.iconst 0, 1) := by decide +kernel
theorem dX11_readCosts_42 : decode cX11_readCosts 42 = .ok (.iconst 4, 1) := by decide +kernel
theorem dX11_readCosts_43 : decode cX11_readCosts 43 = .ok (.invokevirtual 192, 3) := by decide +kernel
theorem dX11_readCosts_46 : decode cX11_readCosts 46 = .ok (.aload_n 0, 1) := by decide +kernel
theorem dX11_readCosts_47 : decode cX11_readCosts 47 = .ok (.dup, 1) := by decide +kernel
theorem dX11_readCosts_48 : decode cX11_readCosts 48 = .ok (.getfield 114, 3) := by decide +kernel
theorem dX11_readCosts_51 : decode cX11_readCosts 51 = .ok (.iload_n 1, 1) := by decide +kernel
theorem dX11_readCosts_52 : decode cX11_readCosts 52 = .ok (.ifCond .eq 9, 3) := by decide +kernel
theorem dX11_readCosts_55 : decode cX11_readCosts 55 = .ok (.iconst 1, 1) := by decide +kernel
theorem dX11_readCosts_56 : decode cX11_readCosts 56 = .ok (.iload_n 2, 1) := by decide +kernel
theorem dX11_readCosts_57 : decode cX11_readCosts 57 = .ok (.ishl, 1) := by decide +kernel
theorem dX11_readCosts_58 : decode cX11_readCosts 58 = .ok (.goto 4, 3) := by decide +kernel
theorem dX11_readCosts_61 : decode cX11_readCosts 61 = .ok (.iconst 0, 1) := by decide +kernel
theorem dX11_readCosts_62 : decode cX11_readCosts 62 = .ok (.ior, 1) := by decide +kernel
theorem dX11_readCosts_63 : decode cX11_readCosts 63 = .ok (.putfield 114, 3) := by decide +kernel
theorem dX11_readCosts_66 : decode cX11_readCosts 66 = .ok (.aload_n 0, 1) := by decide +kernel
theorem dX11_readCosts_67 : decode cX11_readCosts 67 = .ok (.dup, 1) := by decide +kernel
theorem dX11_readCosts_68 : decode cX11_readCosts 68 = .ok (.getfield 117, 3) := by decide +kernel
theorem dX11_readCosts_71 : decode cX11_readCosts 71 = .ok (.iload_n 1, 1) := by decide +kernel
theorem dX11_readCosts_72 : decode cX11_readCosts 72 = .ok (.ifCond .eq 7, 3) := by decide +kernel
theorem dX11_readCosts_75 : decode cX11_readCosts 75 = .ok (.iconst 0, 1) := by decide +kernel
theorem dX11_readCosts_76 : decode cX11_readCosts 76 = .ok (.goto 6, 3) := by decide +kernel
theorem dX11_readCosts_79 : decode cX11_readCosts 79 = .ok (.iconst 1, 1) := by decide +kernel
theorem dX11_readCosts_80 : decode cX11_readCosts 80 = .ok (.iload_n 2, 1) := by decide +kernel
theorem dX11_readCosts_81 : decode cX11_readCosts 81 = .ok (.ishl, 1) := by decide +kernel
theorem dX11_readCosts_82 : decode cX11_readCosts 82 = .ok (.ior, 1) := by decide +kernel
theorem dX11_readCosts_83 : decode cX11_readCosts 83 = .ok (.putfield 117, 3) := by decide +kernel
theorem dX11_readCosts_86 : decode cX11_readCosts 86 = .ok (.aload_n 0, 1) := by decide +kernel
end
section
theorem dX11_readCosts_87 : decode cX11_readCosts 87 = .ok (.invokevirtual 200, 3) := by decide +kernel
theorem dX11_readCosts_90 : decode cX11_readCosts 90 = .ok (.iconst 1, 1) := by decide +kernel
theorem dX11_readCosts_91 : decode cX11_readCosts 91 = .ok (.istore_n 3, 1) := by decide +kernel
theorem dX11_readCosts_92 : decode cX11_readCosts 92 = .ok (.iload_n 3, 1) := by decide +kernel
theorem dX11_readCosts_93 : decode cX11_readCosts 93 = .ok (.bipush 6, 2) := by decide +kernel
theorem dX11_readCosts_95 : decode cX11_readCosts 95 = .ok (.if_icmp .ge 51, 3) := by decide +kernel
theorem dX11_readCosts_98 : decode cX11_readCosts 98 = .ok (.aload_n 0, 1) := by decide +kernel
theorem dX11_readCosts_99 : decode cX11_readCosts 99 = .ok (.iconst 0, 1) := by decide +kernel
theorem dX11_readCosts_100 : decode cX11_readCosts 100 = .ok (.bipush 20, 2) := by decide +kernel
theorem dX11_readCosts_102 : decode cX11_readCosts 102 = .ok (.invokevirtual 203, 3) := by decide +kernel
theorem dX11_readCosts_105 : decode cX11_readCosts 105 = .ok (.istore 4, 2) := by decide +kernel
theorem dX11_readCosts_107 : decode cX11_readCosts 107 = .ok (.iload_n 1, 1) := by decide +kernel
theorem dX11_readCosts_108 : decode cX11_readCosts 108 = .ok (.ifCond .eq 19, 3) := by decide +kernel
theorem dX11_readCosts_111 : decode cX11_readCosts 111 = .ok (.aload_n 0, 1) := by decide +kernel
theorem dX11_readCosts_112 : decode cX11_readCosts 112 = .ok (.getfield 41, 3) := by decide +kernel
theorem dX11_readCosts_115 : decode cX11_readCosts 115 = .ok (.bipush 6, 2) := by decide +kernel
theorem dX11_readCosts_117 : decode cX11_readCosts 117 = .ok (.iload_n 2, 1) := by decide +kernel
theorem dX11_readCosts_118 : decode cX11_readCosts 118 = .ok (.imul, 1) := by decide +kernel
theorem dX11_readCosts_119 : decode cX11_readCosts 119 = .ok (.iload_n 3, 1) := by decide +kernel
theorem dX11_readCosts_120 : decode cX11_readCosts 120 = .ok (.iadd, 1) := by decide +kernel
theorem dX11_readCosts_121 : decode cX11_readCosts 121 = .ok (.iload 4, 2) := by decide +kernel
theorem dX11_readCosts_123 : decode cX11_readCosts 123 = .ok (.iastore, 1) := by decide +kernel
theorem dX11_readCosts_124 : decode cX11_readCosts 124 = .ok (.goto 16, 3) := by decide +kernel
theorem dX11_readCosts_127 : decode cX11_readCosts 127 = .ok (.aload_n 0, 1) := by decide +kernel
theorem dX11_readCosts_128 : decode cX11_readCosts 128 = .ok (.getfield 44, 3) := by decide +kernel
theorem dX11_readCosts_131 : decode cX11_readCosts 131 = .ok (.bipush 6, 2) := by decide +kernel
theorem dX11_readCosts_133 : decode cX11_readCosts 133 = .ok (.iload_n 2, 1) := by decide +kernel
theorem dX11_readCosts_134 : decode cX11_readCosts 134 = .ok (.imul, 1) := by decide +kernel
theorem dX11_readCosts_135 : decode cX11_readCosts 135 = .ok (.iload_n 3, 1) := by decide +kernel
theorem dX11_readCosts_136 : decode cX11_readCosts 136 = .ok (.iadd, 1) := by decide +kernel
theorem dX11_readCosts_137 : decode cX11_readCosts 137 = .ok (.iload 4, 2) := by decide +kernel
theorem dX11_readCosts_139 : decode cX11_readCosts 139 = .ok (.iastore, 1) := by decide +kernel
theorem dX11_readCosts_140 : decode cX11_readCosts 140 = .ok (.iinc 3 1, 3) := by decide +kernel
theorem dX11_readCosts_143 : decode cX11_readCosts 143 = .ok (.goto (-51), 3) := by decide +kernel
theorem dX11_readCosts_146 : decode cX11_readCosts 146 = .ok (.return_, 1) := by decide +kernel
theorem dX11_readThing_0 : decode cX11_readThing 0 = .ok (.aload_n 0, 1) := by decide +kernel
theorem dX11_readThing_1 : decode cX11_readThing 1 = .ok (.iconst 0, 1) := by decide +kernel
theorem dX11_readThing_2 : decode cX11_readThing 2 = .ok (.iconst 1, 1) := by decide +kernel
theorem dX11_readThing_3 : decode cX11_readThing 3 = .ok (.invokevirtual 203, 3) := by decide +kernel
theorem dX11_readThing_6 : decode cX11_readThing 6 = .ok (.istore_n 1, 1) := by decide +kernel
theorem dX11_readThing_7 : decode cX11_readThing 7 = .ok (.aload_n 0, 1) := by decide +kernel
theorem dX11_readThing_8 : decode cX11_readThing 8 = .ok (.iconst 0, 1) := by decide +kernel
theorem dX11_readThing_9 : decode cX11_readThing 9 = .ok (.bipush 7, 2) := by decide +kernel
theorem dX11_readThing_11 : decode cX11_readThing 11 = .ok (.invokevirtual 196, 3) := by decide +kernel
theorem dX11_readThing_14 : decode cX11_readThing 14 = .ok (.istore_n 2, 1) := by decide +kernel
theorem dX11_readThing_15 : decode cX11_readThing 15 = .ok (.aload_n 0, 1) := by decide +kernel
theorem dX11_readThing_16 : decode cX11_readThing 16 = .ok (.getfield 150, 3) := by decide +kernel
theorem dX11_readThing_19 : decode cX11_readThing 19 = .ok (.ifCond .ne 29, 3) := by decide +kernel
theorem dX11_readThing_22 : decode cX11_readThing 22 = .ok (.aload_n 0, 1) := by decide +kernel
theorem dX11_readThing_23 : decode cX11_readThing 23 = .ok (.aload_n 0, 1) := by decide +kernel
theorem dX11_readThing_24 : decode cX11_readThing 24 = .ok (.getfield 111, 3) := by decide +kernel
theorem dX11_readThing_27 : decode cX11_readThing 27 = .ok (.bipush 8, 2) := by decide +kernel
theorem dX11_readThing_29 : decode cX11_readThing 29 = .ok (.iload_n 1, 1) := by decide +kernel
theorem dX11_readThing_30 : decode cX11_readThing 30 = .ok (.imul, 1) := by decide +kernel
theorem dX11_readThing_31 : decode cX11_readThing 31 = .ok (.iload_n 2, 1) := by decide +kernel
theorem dX11_readThing_32 : decode cX11_readThing 32 = .ok (.iadd, 1) := by decide +kernel
theorem dX11_readThing_33 : decode cX11_readThing 33 = .ok (.ishr, 1) := by decide +kernel
theorem dX11_readThing_34 : decode cX11_readThing 34 = .ok (.iconst 1, 1) := by decide +kernel
theorem dX11_readThing_35 : decode cX11_readThing 35 = .ok (.iand, 1) := by decide +kernel
theorem dX11_readThing_36 : decode cX11_readThing 36 = .ok (.ifCond .ne 7, 3) := by decide +kernel
theorem dX11_readThing_39 : decode cX11_readThing 39 = .ok (.iconst 1, 1) := by decide +kernel
theorem dX11_readThing_40 : decode cX11_readThing 40 = .ok (.goto 4, 3) := by decide +kernel
theorem dX11_readThing_43 : decode cX11_readThing 43 = .ok (.iconst 0, 1) := by decide +kernel
theorem dX11_readThing_44 : decode cX11_readThing 44 = .ok (.iconst 4, 1) := by decide +kernel
theorem dX11_readThing_45 : decode cX11_readThing 45 = .ok (.invokevirtual 192, 3) := by decide +kernel
theorem dX11_readThing_48 : decode cX11_readThing 48 = .ok (.aload_n 0, 1) := by decide +kernel
theorem dX11_readThing_49 : decode cX11_readThing 49 = .ok (.dup, 1) := by decide +kernel
theorem dX11_readThing_50 : decode cX11_readThing 50 = .ok (.getfield 111, 3) := by decide +kernel
theorem dX11_readThing_53 : decode cX11_readThing 53 = .ok (.iconst 1, 1) := by decide +kernel
theorem dX11_readThing_54 : decode cX11_readThing 54 = .ok (.bipush 8, 2) := by decide +kernel
theorem dX11_readThing_56 : decode cX11_readThing 56 = .ok (.iload_n 1, 1) := by decide +kernel
theorem dX11_readThing_57 : decode cX11_readThing 57 = .ok (.imul, 1) := by decide +kernel
theorem dX11_readThing_58 : decode cX11_readThing 58 = .ok (.iload_n 2, 1) := by decide +kernel
theorem dX11_readThing_59 : decode cX11_readThing 59 = .ok (.iadd, 1) := by decide +kernel
theorem dX11_readThing_60 : decode cX11_readThing 60 = .ok (.ishl, 1) := by decide +kernel
theorem dX11_readThing_61 : decode cX11_readThing 61 = .ok (.ior, 1) := by decide +kernel
theorem dX11_readThing_62 : decode cX11_readThing 62 = .ok (.putfield 111, 3) := by decide +kernel
theorem dX11_readThing_65 : decode cX11_readThing 65 = .ok (.aload_n 0, 1) := by decide +kernel
theorem dX11_readThing_66 : decode cX11_readThing 66 = .ok (.invokevirtual 219, 3) := by decide +kernel
theorem dX11_readThing_69 : decode cX11_readThing 69 = .ok (.istore_n 2, 1) := by decide +kernel
theorem dX11_readThing_70 : decode cX11_readThing 70 = .ok (.aload_n 0, 1) := by decide +kernel
theorem dX11_readThing_71 : decode cX11_readThing 71 = .ok (.getfield 35, 3) := by decide +kernel
theorem dX11_readThing_74 : decode cX11_readThing 74 = .ok (.bipush 8, 2) := by decide +kernel
theorem dX11_readThing_76 : decode cX11_readThing 76 = .ok (.iload_n 1, 1) := by decide +kernel
theorem dX11_readThing_77 : decode cX11_readThing 77 = .ok (.imul, 1) := by decide +kernel
theorem dX11_readThing_78 : decode cX11_readThing 78 = .ok (.iload_n 2, 1) := by decide +kernel
theorem dX11_readThing_79 : decode cX11_readThing 79 = .ok (.iadd, 1) := by decide +kernel
theorem dX11_readThing_80 : decode cX11_readThing 80 = .ok (.aload_n 0, 1) := by decide +kernel
theorem dX11_readThing_81 : decode cX11_readThing 81 = .ok (.invokevirtual 222, 3) := by decide +kernel
theorem dX11_readThing_84 : decode cX11_readThing 84 = .ok (.iastore, 1) := by decide +kernel
theorem dX11_readThing_85 : decode cX11_readThing 85 = .ok (.return_, 1) := by decide +kernel
theorem dX11_readWork_0 : decode cX11_readWork 0 = .ok (.aload_n 0, 1) := by decide +kernel
theorem dX11_readWork_1 : decode cX11_readWork 1 = .ok (.getfield 35, 3) := by decide +kernel
theorem dX11_readWork_4 : decode cX11_readWork 4 = .ok (.bipush 16, 2) := by decide +kernel
theorem dX11_readWork_6 : decode cX11_readWork 6 = .ok (.iaload, 1) := by decide +kernel
theorem dX11_readWork_7 : decode cX11_readWork 7 = .ok (.istore_n 1, 1) := by decide +kernel
theorem dX11_readWork_8 : decode cX11_readWork 8 = .ok (.bipush 17, 2) := by decide +kernel
theorem dX11_readWork_10 : decode cX11_readWork 10 = .ok (.iconst 4, 1) := by decide +kernel
theorem dX11_readWork_11 : decode cX11_readWork 11 = .ok (.iload_n 1, 1) := by decide +kernel
theorem dX11_readWork_12 : decode cX11_readWork 12 = .ok (.imul, 1) := by decide +kernel
theorem dX11_readWork_13 : decode cX11_readWork 13 = .ok (.iadd, 1) := by decide +kernel
theorem dX11_readWork_14 : decode cX11_readWork 14 = .ok (.istore_n 2, 1) := by decide +kernel
theorem dX11_readWork_15 : decode cX11_readWork 15 = .ok (.aload_n 0, 1) := by decide +kernel
theorem dX11_readWork_16 : decode cX11_readWork 16 = .ok (.getfield 35, 3) := by decide +kernel
theorem dX11_readWork_19 : decode cX11_readWork 19 = .ok (.iload_n 2, 1) := by decide +kernel
theorem dX11_readWork_20 : decode cX11_readWork 20 = .ok (.aload_n 0, 1) := by decide +kernel
theorem dX11_readWork_21 : decode cX11_readWork 21 = .ok (.iload_n 1, 1) := by decide +kernel
theorem dX11_readWork_22 : decode cX11_readWork 22 = .ok (.ifCond .ne 7, 3) := by decide +kernel
theorem dX11_readWork_25 : decode cX11_readWork 25 = .ok (.iconst 0, 1) := by decide +kernel
theorem dX11_readWork_26 : decode cX11_readWork 26 = .ok (.goto 11, 3) := by decide +kernel
theorem dX11_readWork_29 : decode cX11_readWork 29 = .ok (.aload_n 0, 1) := by decide +kernel
theorem dX11_readWork_30 : decode cX11_readWork 30 = .ok (.getfield 35, 3) := by decide +kernel
theorem dX11_readWork_33 : decode cX11_readWork 33 = .ok (.iload_n 2, 1) := by decide +kernel
theorem dX11_readWork_34 : decode cX11_readWork 34 = .ok (.iconst 4, 1) := by decide +kernel
theorem dX11_readWork_35 : decode cX11_readWork 35 = .ok (.isub, 1) := by decide +kernel
theorem dX11_readWork_36 : decode cX11_readWork 36 = .ok (.iaload, 1) := by decide +kernel
theorem dX11_readWork_37 : decode cX11_readWork 37 = .ok (.bipush 23, 2) := by decide +kernel
theorem dX11_readWork_39 : decode cX11_readWork 39 = .ok (.invokevirtual 203, 3) := by decide +kernel
theorem dX11_readWork_42 : decode cX11_readWork 42 = .ok (.iastore, 1) := by decide +kernel
theorem dX11_readWork_43 : decode cX11_readWork 43 = .ok (.aload_n 0, 1) := by decide +kernel
theorem dX11_readWork_44 : decode cX11_readWork 44 = .ok (.getfield 35, 3) := by decide +kernel
theorem dX11_readWork_47 : decode cX11_readWork 47 = .ok (.iload_n 2, 1) := by decide +kernel
theorem dX11_readWork_48 : decode cX11_readWork 48 = .ok (.iconst 1, 1) := by decide +kernel
theorem dX11_readWork_49 : decode cX11_readWork 49 = .ok (.iadd, 1) := by decide +kernel
theorem dX11_readWork_50 : decode cX11_readWork 50 = .ok (.aload_n 0, 1) := by decide +kernel
theorem dX11_readWork_51 : decode cX11_readWork 51 = .ok (.iconst 0, 1) := by decide +kernel
theorem dX11_readWork_52 : decode cX11_readWork 52 = .ok (.iconst 1, 1) := by decide +kernel
theorem dX11_readWork_53 : decode cX11_readWork 53 = .ok (.invokevirtual 203, 3) := by decide +kernel
theorem dX11_readWork_56 : decode cX11_readWork 56 = .ok (.iastore, 1) := by decide +kernel
theorem dX11_readWork_57 : decode cX11_readWork 57 = .ok (.aload_n 0, 1) := by decide +kernel
theorem dX11_readWork_58 : decode cX11_readWork 58 = .ok (.getfield 35, 3) := by decide +kernel
theorem dX11_readWork_61 : decode cX11_readWork 61 = .ok (.iload_n 2, 1) := by decide +kernel
theorem dX11_readWork_62 : decode cX11_readWork 62 = .ok (.iconst 2, 1) := by decide +kernel
theorem dX11_readWork_63 : decode cX11_readWork 63 = .ok (.iadd, 1) := by decide +kernel
theorem dX11_readWork_64 : decode cX11_readWork 64 = .ok (.aload_n 0, 1) := by decide +kernel
theorem dX11_readWork_65 : decode cX11_readWork 65 = .ok (.invokevirtual 219, 3) := by decide +kernel
theorem dX11_readWork_68 : decode cX11_readWork 68 = .ok (.iastore, 1) := by decide +kernel
theorem dX11_readWork_69 : decode cX11_readWork 69 = .ok (.aload_n 0, 1) := by decide +kernel
theorem dX11_readWork_70 : decode cX11_readWork 70 = .ok (.getfield 35, 3) := by decide +kernel
theorem dX11_readWork_73 : decode cX11_readWork 73 = .ok (.iload_n 2, 1) := by decide +kernel
theorem dX11_readWork_74 : decode cX11_readWork 74 = .ok (.iconst 3, 1) := by decide +kernel
theorem dX11_readWork_75 : decode cX11_readWork 75 = .ok (.iadd, 1) := by decide +kernel
theorem dX11_readWork_76 : decode cX11_readWork 76 = .ok (.aload_n 0, 1) := by decide +kernel
theorem dX11_readWork_77 : decode cX11_readWork 77 = .ok (.invokevirtual 222, 3) := by decide +kernel
theorem dX11_readWork_80 : decode cX11_readWork 80 = .ok (.iastore, 1) := by decide +kernel
theorem dX11_readWork_81 : decode cX11_readWork 81 = .ok (.aload_n 0, 1) := by decide +kernel
theorem dX11_readWork_82 : decode cX11_readWork 82 = .ok (.getfield 35, 3) := by decide +kernel
theorem dX11_readWork_85 : decode cX11_readWork 85 = .ok (.bipush 16, 2) := by decide +kernel
theorem dX11_readWork_87 : decode cX11_readWork 87 = .ok (.iload_n 1, 1) := by decide +kernel
theorem dX11_readWork_88 : decode cX11_readWork 88 = .ok (.iconst 1, 1) := by decide +kernel
theorem dX11_readWork_89 : decode cX11_readWork 89 = .ok (.iadd, 1) := by decide +kernel
theorem dX11_readWork_90 : decode cX11_readWork 90 = .ok (.iastore, 1) := by decide +kernel
theorem dX11_readWork_91 : decode cX11_readWork 91 = .ok (.return_, 1) := by decide +kernel
theorem dX11_readLaw_0 : decode cX11_readLaw 0 = .ok (.iload_n 1, 1) := by decide +kernel
theorem dX11_readLaw_1 : decode cX11_readLaw 1 = .ok (.bipush 17, 2) := by decide +kernel
theorem dX11_readLaw_3 : decode cX11_readLaw 3 = .ok (.if_icmp .ne 90, 3) := by decide +kernel
theorem dX11_readLaw_6 : decode cX11_readLaw 6 = .ok (.aload_n 0, 1) := by decide +kernel
theorem dX11_readLaw_7 : decode cX11_readLaw 7 = .ok (.aload_n 0, 1) := by decide +kernel
theorem dX11_readLaw_8 : decode cX11_readLaw 8 = .ok (.getfield 120, 3) := by decide +kernel
theorem dX11_readLaw_11 : decode cX11_readLaw 11 = .ok (.invokevirtual 213, 3) := by decide +kernel
theorem dX11_readLaw_14 : decode cX11_readLaw 14 = .ok (.istore_n 2, 1) := by decide +kernel
theorem dX11_readLaw_15 : decode cX11_readLaw 15 = .ok (.aload_n 0, 1) := by decide +kernel
theorem dX11_readLaw_16 : decode cX11_readLaw 16 = .ok (.aload_n 0, 1) := by decide +kernel
theorem dX11_readLaw_17 : decode cX11_readLaw 17 = .ok (.getfield 120, 3) := by decide +kernel
theorem dX11_readLaw_20 : decode cX11_readLaw 20 = .ok (.iconst 1, 1) := by decide +kernel
theorem dX11_readLaw_21 : decode cX11_readLaw 21 = .ok (.iload_n 2, 1) := by decide +kernel
theorem dX11_readLaw_22 : decode cX11_readLaw 22 = .ok (.ishl, 1) := by decide +kernel
theorem dX11_readLaw_23 : decode cX11_readLaw 23 = .ok (.ior, 1) := by decide +kernel
theorem dX11_readLaw_24 : decode cX11_readLaw 24 = .ok (.invokevirtual 213, 3) := by decide +kernel
theorem dX11_readLaw_27 : decode cX11_readLaw 27 = .ok (.istore_n 3, 1) := by decide +kernel
theorem dX11_readLaw_28 : decode cX11_readLaw 28 = .ok (.aload_n 0, 1) := by decide +kernel
theorem dX11_readLaw_29 : decode cX11_readLaw 29 = .ok (.getfield 50, 3) := by decide +kernel
theorem dX11_readLaw_32 : decode cX11_readLaw 32 = .ok (.iload_n 2, 1) := by decide +kernel
theorem dX11_readLaw_33 : decode cX11_readLaw 33 = .ok (.aload_n 0, 1) := by decide +kernel
theorem dX11_readLaw_34 : decode cX11_readLaw 34 = .ok (.getfield 150, 3) := by decide +kernel
theorem dX11_readLaw_37 : decode cX11_readLaw 37 = .ok (.ifCond .ne 7, 3) := by decide +kernel
theorem dX11_readLaw_40 : decode cX11_readLaw 40 = .ok (.iload_n 3, 1) := by decide +kernel
theorem dX11_readLaw_41 : decode cX11_readLaw 41 = .ok (.goto 9, 3) := by decide +kernel
theorem dX11_readLaw_44 : decode cX11_readLaw 44 = .ok (.aload_n 0, 1) := by decide +kernel
theorem dX11_readLaw_45 : decode cX11_readLaw 45 = .ok (.getfield 50, 3) := by decide +kernel
theorem dX11_readLaw_48 : decode cX11_readLaw 48 = .ok (.iload_n 2, 1) := by decide +kernel
theorem dX11_readLaw_49 : decode cX11_readLaw 49 = .ok (.iaload, 1) := by decide +kernel
theorem dX11_readLaw_50 : decode cX11_readLaw 50 = .ok (.iastore, 1) := by decide +kernel
theorem dX11_readLaw_51 : decode cX11_readLaw 51 = .ok (.aload_n 0, 1) := by decide +kernel
theorem dX11_readLaw_52 : decode cX11_readLaw 52 = .ok (.getfield 50, 3) := by decide +kernel
theorem dX11_readLaw_55 : decode cX11_readLaw 55 = .ok (.iload_n 3, 1) := by decide +kernel
theorem dX11_readLaw_56 : decode cX11_readLaw 56 = .ok (.aload_n 0, 1) := by decide +kernel
theorem dX11_readLaw_57 : decode cX11_readLaw 57 = .ok (.getfield 150, 3) := by decide +kernel
theorem dX11_readLaw_60 : decode cX11_readLaw 60 = .ok (.ifCond .ne 7, 3) := by decide +kernel
theorem dX11_readLaw_63 : decode cX11_readLaw 63 = .ok (.iload_n 2, 1) := by decide +kernel
theorem dX11_readLaw_64 : decode cX11_readLaw 64 = .ok (.goto 9, 3) := by decide +kernel
theorem dX11_readLaw_67 : decode cX11_readLaw 67 = .ok (.aload_n 0, 1) := by decide +kernel
theorem dX11_readLaw_68 : decode cX11_readLaw 68 = .ok (.getfield 50, 3) := by decide +kernel
theorem dX11_readLaw_71 : decode cX11_readLaw 71 = .ok (.iload_n 3, 1) := by decide +kernel
theorem dX11_readLaw_72 : decode cX11_readLaw 72 = .ok (.iaload, 1) := by decide +kernel
theorem dX11_readLaw_73 : decode cX11_readLaw 73 = .ok (.iastore, 1) := by decide +kernel
theorem dX11_readLaw_74 : decode cX11_readLaw 74 = .ok (.aload_n 0, 1) := by decide +kernel
theorem dX11_readLaw_75 : decode cX11_readLaw 75 = .ok (.dup, 1) := by decide +kernel
theorem dX11_readLaw_76 : decode cX11_readLaw 76 = .ok (.getfield 120, 3) := by decide +kernel
theorem dX11_readLaw_79 : decode cX11_readLaw 79 = .ok (.iconst 1, 1) := by decide +kernel
theorem dX11_readLaw_80 : decode cX11_readLaw 80 = .ok (.iload_n 2, 1) := by decide +kernel
theorem dX11_readLaw_81 : decode cX11_readLaw 81 = .ok (.ishl, 1) := by decide +kernel
theorem dX11_readLaw_82 : decode cX11_readLaw 82 = .ok (.iconst 1, 1) := by decide +kernel
theorem dX11_readLaw_83 : decode cX11_readLaw 83 = .ok (.iload_n 3, 1) := by decide +kernel
theorem dX11_readLaw_84 : decode cX11_readLaw 84 = .ok (.ishl, 1) := by decide +kernel
theorem dX11_readLaw_85 : decode cX11_readLaw 85 = .ok (.ior, 1) := by decide +kernel
theorem dX11_readLaw_86 : decode cX11_readLaw 86 = .ok (.ior, 1) := by decide +kernel
theorem dX11_readLaw_87 : decode cX11_readLaw 87 = .ok (.putfield 120, 3) := by decide +kernel
theorem dX11_readLaw_90 : decode cX11_readLaw 90 = .ok (.goto 144, 3) := by decide +kernel
theorem dX11_readLaw_93 : decode cX11_readLaw 93 = .ok (.iload_n 1, 1) := by decide +kernel
theorem dX11_readLaw_94 : decode cX11_readLaw 94 = .ok (.bipush 18, 2) := by decide +kernel
theorem dX11_readLaw_96 : decode cX11_readLaw 96 = .ok (.if_icmp .ne 90, 3) := by decide +kernel
theorem dX11_readLaw_99 : decode cX11_readLaw 99 = .ok (.aload_n 0, 1) := by decide +kernel
theorem dX11_readLaw_100 : decode cX11_readLaw 100 = .ok (.aload_n 0, 1) := by decide +kernel
theorem dX11_readLaw_101 : decode cX11_readLaw 101 = .ok (.getfield 123, 3) := by decide +kernel
theorem dX11_readLaw_104 : decode cX11_readLaw 104 = .ok (.invokevirtual 225, 3) := by decide +kernel
theorem dX11_readLaw_107 : decode cX11_readLaw 107 = .ok (.istore_n 2, 1) := by decide +kernel
theorem dX11_readLaw_108 : decode cX11_readLaw 108 = .ok (.aload_n 0, 1) := by decide +kernel
theorem dX11_readLaw_109 : decode cX11_readLaw 109 = .ok (.aload_n 0, 1) := by decide +kernel
theorem dX11_readLaw_110 : decode cX11_readLaw 110 = .ok (.getfield 123, 3) := by decide +kernel
theorem dX11_readLaw_113 : decode cX11_readLaw 113 = .ok (.iconst 1, 1) := by decide +kernel
theorem dX11_readLaw_114 : decode cX11_readLaw 114 = .ok (.iload_n 2, 1) := by decide +kernel
theorem dX11_readLaw_115 : decode cX11_readLaw 115 = .ok (.ishl, 1) := by decide +kernel
theorem dX11_readLaw_116 : decode cX11_readLaw 116 = .ok (.ior, 1) := by decide +kernel
theorem dX11_readLaw_117 : decode cX11_readLaw 117 = .ok (.invokevirtual 225, 3) := by decide +kernel
theorem dX11_readLaw_120 : decode cX11_readLaw 120 = .ok (.istore_n 3, 1) := by decide +kernel
theorem dX11_readLaw_121 : decode cX11_readLaw 121 = .ok (.aload_n 0, 1) := by decide +kernel
theorem dX11_readLaw_122 : decode cX11_readLaw 122 = .ok (.getfield 53, 3) := by decide +kernel
theorem dX11_readLaw_125 : decode cX11_readLaw 125 = .ok (.iload_n 2, 1) := by decide +kernel
theorem dX11_readLaw_126 : decode cX11_readLaw 126 = .ok (.aload_n 0, 1) := by decide +kernel
theorem dX11_readLaw_127 : decode cX11_readLaw 127 = .ok (.getfield 150, 3) := by decide +kernel
theorem dX11_readLaw_130 : decode cX11_readLaw 130 = .ok (.ifCond .ne 7, 3) := by decide +kernel
theorem dX11_readLaw_133 : decode cX11_readLaw 133 = .ok (.iload_n 3, 1) := by decide +kernel
theorem dX11_readLaw_134 : decode cX11_readLaw 134 = .ok (.goto 9, 3) := by decide +kernel
theorem dX11_readLaw_137 : decode cX11_readLaw 137 = .ok (.aload_n 0, 1) := by decide +kernel
theorem dX11_readLaw_138 : decode cX11_readLaw 138 = .ok (.getfield 53, 3) := by decide +kernel
theorem dX11_readLaw_141 : decode cX11_readLaw 141 = .ok (.iload_n 2, 1) := by decide +kernel
theorem dX11_readLaw_142 : decode cX11_readLaw 142 = .ok (.iaload, 1) := by decide +kernel
theorem dX11_readLaw_143 : decode cX11_readLaw 143 = .ok (.iastore, 1) := by decide +kernel
theorem dX11_readLaw_144 : decode cX11_readLaw 144 = .ok (.aload_n 0, 1) := by decide +kernel
theorem dX11_readLaw_145 : decode cX11_readLaw 145 = .ok (.getfield 53, 3) := by decide +kernel
theorem dX11_readLaw_148 : decode cX11_readLaw 148 = .ok (.iload_n 3, 1) := by decide +kernel
theorem dX11_readLaw_149 : decode cX11_readLaw 149 = .ok (.aload_n 0, 1) := by decide +kernel
theorem dX11_readLaw_150 : decode cX11_readLaw 150 = .ok (.getfield 150, 3) := by decide +kernel
theorem dX11_readLaw_153 : decode cX11_readLaw 153 = .ok (.ifCond .ne 7, 3) := by decide +kernel
theorem dX11_readLaw_156 : decode cX11_readLaw 156 = .ok (.iload_n 2, 1) := by decide +kernel
theorem dX11_readLaw_157 : decode cX11_readLaw 157 = .ok (.goto 9, 3) := by decide +kernel
theorem dX11_readLaw_160 : decode cX11_readLaw 160 = .ok (.aload_n 0, 1) := by decide +kernel
theorem dX11_readLaw_161 : decode cX11_readLaw 161 = .ok (.getfield 53, 3) := by decide +kernel
theorem dX11_readLaw_164 : decode cX11_readLaw 164 = .ok (.iload_n 3, 1) := by decide +kernel
theorem dX11_readLaw_165 : decode cX11_readLaw 165 = .ok (.iaload, 1) := by decide +kernel
theorem dX11_readLaw_166 : decode cX11_readLaw 166 = .ok (.iastore, 1) := by decide +kernel
theorem dX11_readLaw_167 : decode cX11_readLaw 167 = .ok (.aload_n 0, 1) := by decide +kernel
theorem dX11_readLaw_168 : decode cX11_readLaw 168 = .ok (.dup, 1) := by decide +kernel
theorem dX11_readLaw_169 : decode cX11_readLaw 169 = .ok (.getfield 123, 3) := by decide +kernel
theorem dX11_readLaw_172 : decode cX11_readLaw 172 = .ok (.iconst 1, 1) := by decide +kernel
theorem dX11_readLaw_173 : decode cX11_readLaw 173 = .ok (.iload_n 2, 1) := by decide +kernel
theorem dX11_readLaw_174 : decode cX11_readLaw 174 = .ok (.ishl, 1) := by decide +kernel
theorem dX11_readLaw_175 : decode cX11_readLaw 175 = .ok (.iconst 1, 1) := by decide +kernel
theorem dX11_readLaw_176 : decode cX11_readLaw 176 = .ok (.iload_n 3, 1) := by decide +kernel
theorem dX11_readLaw_177 : decode cX11_readLaw 177 = .ok (.ishl, 1) := by decide +kernel
theorem dX11_readLaw_178 : decode cX11_readLaw 178 = .ok (.ior, 1) := by decide +kernel
theorem dX11_readLaw_179 : decode cX11_readLaw 179 = .ok (.ior, 1) := by decide +kernel
theorem dX11_readLaw_180 : decode cX11_readLaw 180 = .ok (.putfield 123, 3) := by decide +kernel
theorem dX11_readLaw_183 : decode cX11_readLaw 183 = .ok (.goto 51, 3) := by decide +kernel
theorem dX11_readLaw_186 : decode cX11_readLaw 186 = .ok (.iload_n 1, 1) := by decide +kernel
theorem dX11_readLaw_187 : decode cX11_readLaw 187 = .ok (.bipush 19, 2) := by decide +kernel
theorem dX11_readLaw_189 : decode cX11_readLaw 189 = .ok (.if_icmp .ne 22, 3) := by decide +kernel
theorem dX11_readLaw_192 : decode cX11_readLaw 192 = .ok (.aload_n 0, 1) := by decide +kernel
theorem dX11_readLaw_193 : decode cX11_readLaw 193 = .ok (.dup, 1) := by decide +kernel
theorem dX11_readLaw_194 : decode cX11_readLaw 194 = .ok (.getfield 105, 3) := by decide +kernel
theorem dX11_readLaw_197 : decode cX11_readLaw 197 = .ok (.iconst 1, 1) := by decide +kernel
theorem dX11_readLaw_198 : decode cX11_readLaw 198 = .ok (.aload_n 0, 1) := by decide +kernel
theorem dX11_readLaw_199 : decode cX11_readLaw 199 = .ok (.iconst 0, 1) := by decide +kernel
theorem dX11_readLaw_200 : decode cX11_readLaw 200 = .ok (.invokevirtual 213, 3) := by decide +kernel
theorem dX11_readLaw_203 : decode cX11_readLaw 203 = .ok (.ishl, 1) := by decide +kernel
theorem dX11_readLaw_204 : decode cX11_readLaw 204 = .ok (.ior, 1) := by decide +kernel
theorem dX11_readLaw_205 : decode cX11_readLaw 205 = .ok (.putfield 105, 3) := by decide +kernel
theorem dX11_readLaw_208 : decode cX11_readLaw 208 = .ok (.goto 26, 3) := by decide +kernel
theorem dX11_readLaw_211 : decode cX11_readLaw 211 = .ok (.aload_n 0, 1) := by decide +kernel
theorem dX11_readLaw_212 : decode cX11_readLaw 212 = .ok (.iconst 0, 1) := by decide +kernel
theorem dX11_readLaw_213 : decode cX11_readLaw 213 = .ok (.iconst 1, 1) := by decide +kernel
theorem dX11_readLaw_214 : decode cX11_readLaw 214 = .ok (.invokevirtual 203, 3) := by decide +kernel
theorem dX11_readLaw_217 : decode cX11_readLaw 217 = .ok (.istore_n 2, 1) := by decide +kernel
theorem dX11_readLaw_218 : decode cX11_readLaw 218 = .ok (.aload_n 0, 1) := by decide +kernel
theorem dX11_readLaw_219 : decode cX11_readLaw 219 = .ok (.getfield 47, 3) := by decide +kernel
theorem dX11_readLaw_222 : decode cX11_readLaw 222 = .ok (.iload_n 2, 1) := by decide +kernel
theorem dX11_readLaw_223 : decode cX11_readLaw 223 = .ok (.dup2, 1) := by decide +kernel
theorem dX11_readLaw_224 : decode cX11_readLaw 224 = .ok (.iaload, 1) := by decide +kernel
theorem dX11_readLaw_225 : decode cX11_readLaw 225 = .ok (.iconst 1, 1) := by decide +kernel
theorem dX11_readLaw_226 : decode cX11_readLaw 226 = .ok (.aload_n 0, 1) := by decide +kernel
theorem dX11_readLaw_227 : decode cX11_readLaw 227 = .ok (.iconst 0, 1) := by decide +kernel
theorem dX11_readLaw_228 : decode cX11_readLaw 228 = .ok (.invokevirtual 213, 3) := by decide +kernel
theorem dX11_readLaw_231 : decode cX11_readLaw 231 = .ok (.ishl, 1) := by decide +kernel
theorem dX11_readLaw_232 : decode cX11_readLaw 232 = .ok (.ior, 1) := by decide +kernel
theorem dX11_readLaw_233 : decode cX11_readLaw 233 = .ok (.iastore, 1) := by decide +kernel
theorem dX11_readLaw_234 : decode cX11_readLaw 234 = .ok (.return_, 1) := by decide +kernel
theorem dX11_readLineOf_0 : decode cX11_readLineOf 0 = .ok (.iload_n 1, 1) := by decide +kernel
theorem dX11_readLineOf_1 : decode cX11_readLineOf 1 = .ok (.tableswitch 166 10 21 #[63, 77, 91, 105, 134, 134, 166, 166, 166, 166, 152, 159], 63) := by decide +kernel
theorem dX11_readLineOf_64 : decode cX11_readLineOf 64 = .ok (.aload_n 0, 1) := by decide +kernel
theorem dX11_readLineOf_65 : decode cX11_readLineOf 65 = .ok (.aload_n 0, 1) := by decide +kernel
theorem dX11_readLineOf_66 : decode cX11_readLineOf 66 = .ok (.iconst 1, 1) := by decide +kernel
theorem dX11_readLineOf_67 : decode cX11_readLineOf 67 = .ok (.bipush 8, 2) := by decide +kernel
theorem dX11_readLineOf_69 : decode cX11_readLineOf 69 = .ok (.invokevirtual 203, 3) := by decide +kernel
theorem dX11_readLineOf_72 : decode cX11_readLineOf 72 = .ok (.putfield 95, 3) := by decide +kernel
theorem dX11_readLineOf_75 : decode cX11_readLineOf 75 = .ok (.goto 97, 3) := by decide +kernel
theorem dX11_readLineOf_78 : decode cX11_readLineOf 78 = .ok (.aload_n 0, 1) := by decide +kernel
theorem dX11_readLineOf_79 : decode cX11_readLineOf 79 = .ok (.aload_n 0, 1) := by decide +kernel
theorem dX11_readLineOf_80 : decode cX11_readLineOf 80 = .ok (.iconst 0, 1) := by decide +kernel
theorem dX11_readLineOf_81 : decode cX11_readLineOf 81 = .ok (.bipush 6, 2) := by decide +kernel
theorem dX11_readLineOf_83 : decode cX11_readLineOf 83 = .ok (.invokevirtual 203, 3) := by decide +kernel
theorem dX11_readLineOf_86 : decode cX11_readLineOf 86 = .ok (.putfield 99, 3) := by decide +kernel
theorem dX11_readLineOf_89 : decode cX11_readLineOf 89 = .ok (.goto 83, 3) := by decide +kernel
theorem dX11_readLineOf_92 : decode cX11_readLineOf 92 = .ok (.aload_n 0, 1) := by decide +kernel
theorem dX11_readLineOf_93 : decode cX11_readLineOf 93 = .ok (.aload_n 0, 1) := by decide +kernel
theorem dX11_readLineOf_94 : decode cX11_readLineOf 94 = .ok (.iconst 0, 1) := by decide +kernel
theorem dX11_readLineOf_95 : decode cX11_readLineOf 95 = .ok (.bipush 20, 2) := by decide +kernel
theorem dX11_readLineOf_97 : decode cX11_readLineOf 97 = .ok (.invokevirtual 203, 3) := by decide +kernel
theorem dX11_readLineOf_100 : decode cX11_readLineOf 100 = .ok (.putfield 102, 3) := by decide +kernel
theorem dX11_readLineOf_103 : decode cX11_readLineOf 103 = .ok (.goto 69, 3) := by decide +kernel
theorem dX11_readLineOf_106 : decode cX11_readLineOf 106 = .ok (.iconst 0, 1) := by decide +kernel
theorem dX11_readLineOf_107 : decode cX11_readLineOf 107 = .ok (.istore_n 2, 1) := by decide +kernel
theorem dX11_readLineOf_108 : decode cX11_readLineOf 108 = .ok (.iload_n 2, 1) := by decide +kernel
theorem dX11_readLineOf_109 : decode cX11_readLineOf 109 = .ok (.iconst 4, 1) := by decide +kernel
theorem dX11_readLineOf_110 : decode cX11_readLineOf 110 = .ok (.if_icmp .ge 22, 3) := by decide +kernel
theorem dX11_readLineOf_113 : decode cX11_readLineOf 113 = .ok (.aload_n 0, 1) := by decide +kernel
theorem dX11_readLineOf_114 : decode cX11_readLineOf 114 = .ok (.getfield 38, 3) := by decide +kernel
theorem dX11_readLineOf_117 : decode cX11_readLineOf 117 = .ok (.iload_n 2, 1) := by decide +kernel
theorem dX11_readLineOf_118 : decode cX11_readLineOf 118 = .ok (.aload_n 0, 1) := by decide +kernel
theorem dX11_readLineOf_119 : decode cX11_readLineOf 119 = .ok (.iconst 1, 1) := by decide +kernel
theorem dX11_readLineOf_120 : decode cX11_readLineOf 120 = .ok (.bipush 9, 2) := by decide +kernel
theorem dX11_readLineOf_122 : decode cX11_readLineOf 122 = .ok (.invokevirtual 203, 3) := by decide +kernel
theorem dX11_readLineOf_125 : decode cX11_readLineOf 125 = .ok (.iastore, 1) := by decide +kernel
theorem dX11_readLineOf_126 : decode cX11_readLineOf 126 = .ok (.iinc 2 1, 3) := by decide +kernel
theorem dX11_readLineOf_129 : decode cX11_readLineOf 129 = .ok (.goto (-21), 3) := by decide +kernel
theorem dX11_readLineOf_132 : decode cX11_readLineOf 132 = .ok (.goto 40, 3) := by decide +kernel
theorem dX11_readLineOf_135 : decode cX11_readLineOf 135 = .ok (.aload_n 0, 1) := by decide +kernel
theorem dX11_readLineOf_136 : decode cX11_readLineOf 136 = .ok (.iload_n 1, 1) := by decide +kernel
theorem dX11_readLineOf_137 : decode cX11_readLineOf 137 = .ok (.bipush 14, 2) := by decide +kernel
theorem dX11_readLineOf_139 : decode cX11_readLineOf 139 = .ok (.if_icmp .ne 7, 3) := by decide +kernel
theorem dX11_readLineOf_142 : decode cX11_readLineOf 142 = .ok (.iconst 1, 1) := by decide +kernel
theorem dX11_readLineOf_143 : decode cX11_readLineOf 143 = .ok (.goto 4, 3) := by decide +kernel
theorem dX11_readLineOf_146 : decode cX11_readLineOf 146 = .ok (.iconst 0, 1) := by decide +kernel
theorem dX11_readLineOf_147 : decode cX11_readLineOf 147 = .ok (.invokevirtual 228, 3) := by decide +kernel
theorem dX11_readLineOf_150 : decode cX11_readLineOf 150 = .ok (.goto 22, 3) := by decide +kernel
theorem dX11_readLineOf_153 : decode cX11_readLineOf 153 = .ok (.aload_n 0, 1) := by decide +kernel
theorem dX11_readLineOf_154 : decode cX11_readLineOf 154 = .ok (.invokevirtual 232, 3) := by decide +kernel
theorem dX11_readLineOf_157 : decode cX11_readLineOf 157 = .ok (.goto 15, 3) := by decide +kernel
theorem dX11_readLineOf_160 : decode cX11_readLineOf 160 = .ok (.aload_n 0, 1) := by decide +kernel
theorem dX11_readLineOf_161 : decode cX11_readLineOf 161 = .ok (.invokevirtual 235, 3) := by decide +kernel
theorem dX11_readLineOf_164 : decode cX11_readLineOf 164 = .ok (.goto 8, 3) := by decide +kernel
theorem dX11_readLineOf_167 : decode cX11_readLineOf 167 = .ok (.aload_n 0, 1) := by decide +kernel
theorem dX11_readLineOf_168 : decode cX11_readLineOf 168 = .ok (.iload_n 1, 1) := by decide +kernel
theorem dX11_readLineOf_169 : decode cX11_readLineOf 169 = .ok (.invokevirtual 238, 3) := by decide +kernel
theorem dX11_readLineOf_172 : decode cX11_readLineOf 172 = .ok (.return_, 1) := by decide +kernel
theorem dX11_readLine_0 : decode cX11_readLine 0 = .ok (.aload_n 0, 1) := by decide +kernel
theorem dX11_readLine_1 : decode cX11_readLine 1 = .ok (.getfield 178, 3) := by decide +kernel
theorem dX11_readLine_4 : decode cX11_readLine 4 = .ok (.iconst 1, 1) := by decide +kernel
theorem dX11_readLine_5 : decode cX11_readLine 5 = .ok (.if_icmp .ne 10, 3) := by decide +kernel
theorem dX11_readLine_8 : decode cX11_readLine 8 = .ok (.aload_n 0, 1) := by decide +kernel
theorem dX11_readLine_9 : decode cX11_readLine 9 = .ok (.invokevirtual 242, 3) := by decide +kernel
theorem dX11_readLine_12 : decode cX11_readLine 12 = .ok (.goto 5, 3) := by decide +kernel
theorem dX11_readLine_15 : decode cX11_readLine 15 = .ok (.bipush (-4), 2) := by decide +kernel
theorem dX11_readLine_17 : decode cX11_readLine 17 = .ok (.istore_n 1, 1) := by decide +kernel
theorem dX11_readLine_18 : decode cX11_readLine 18 = .ok (.aload_n 0, 1) := by decide +kernel
theorem dX11_readLine_19 : decode cX11_readLine 19 = .ok (.iload_n 1, 1) := by decide +kernel
theorem dX11_readLine_20 : decode cX11_readLine 20 = .ok (.bipush (-4), 2) := by decide +kernel
theorem dX11_readLine_22 : decode cX11_readLine 22 = .ok (.if_icmp .eq 7, 3) := by decide +kernel
theorem dX11_readLine_25 : decode cX11_readLine 25 = .ok (.iconst 1, 1) := by decide +kernel
theorem dX11_readLine_26 : decode cX11_readLine 26 = .ok (.goto 4, 3) := by decide +kernel
theorem dX11_readLine_29 : decode cX11_readLine 29 = .ok (.iconst 0, 1) := by decide +kernel
theorem dX11_readLine_30 : decode cX11_readLine 30 = .ok (.iconst 2, 1) := by decide +kernel
theorem dX11_readLine_31 : decode cX11_readLine 31 = .ok (.invokevirtual 192, 3) := by decide +kernel
theorem dX11_readLine_34 : decode cX11_readLine 34 = .ok (.aload_n 0, 1) := by decide +kernel
theorem dX11_readLine_35 : decode cX11_readLine 35 = .ok (.iload_n 1, 1) := by decide +kernel
theorem dX11_readLine_36 : decode cX11_readLine 36 = .ok (.bipush 21, 2) := by decide +kernel
theorem dX11_readLine_38 : decode cX11_readLine 38 = .ok (.if_icmp .ne 15, 3) := by decide +kernel
theorem dX11_readLine_41 : decode cX11_readLine 41 = .ok (.aload_n 0, 1) := by decide +kernel
theorem dX11_readLine_42 : decode cX11_readLine 42 = .ok (.getfield 35, 3) := by decide +kernel
theorem dX11_readLine_45 : decode cX11_readLine 45 = .ok (.bipush 16, 2) := by decide +kernel
theorem dX11_readLine_47 : decode cX11_readLine 47 = .ok (.iaload, 1) := by decide +kernel
theorem dX11_readLine_48 : decode cX11_readLine 48 = .ok (.bipush 12, 2) := by decide +kernel
theorem dX11_readLine_50 : decode cX11_readLine 50 = .ok (.if_icmp .ge 7, 3) := by decide +kernel
theorem dX11_readLine_53 : decode cX11_readLine 53 = .ok (.iconst 1, 1) := by decide +kernel
theorem dX11_readLine_54 : decode cX11_readLine 54 = .ok (.goto 4, 3) := by decide +kernel
theorem dX11_readLine_57 : decode cX11_readLine 57 = .ok (.iconst 0, 1) := by decide +kernel
theorem dX11_readLine_58 : decode cX11_readLine 58 = .ok (.iconst 5, 1) := by decide +kernel
theorem dX11_readLine_59 : decode cX11_readLine 59 = .ok (.invokevirtual 192, 3) := by decide +kernel
theorem dX11_readLine_62 : decode cX11_readLine 62 = .ok (.aload_n 0, 1) := by decide +kernel
theorem dX11_readLine_63 : decode cX11_readLine 63 = .ok (.getfield 150, 3) := by decide +kernel
theorem dX11_readLine_66 : decode cX11_readLine 66 = .ok (.ifCond .ne 42, 3) := by decide +kernel
theorem dX11_readLine_69 : decode cX11_readLine 69 = .ok (.iload_n 1, 1) := by decide +kernel
theorem dX11_readLine_70 : decode cX11_readLine 70 = .ok (.bipush 13, 2) := by decide +kernel
theorem dX11_readLine_72 : decode cX11_readLine 72 = .ok (.if_icmp .gt 36, 3) := by decide +kernel
theorem dX11_readLine_75 : decode cX11_readLine 75 = .ok (.aload_n 0, 1) := by decide +kernel
theorem dX11_readLine_76 : decode cX11_readLine 76 = .ok (.aload_n 0, 1) := by decide +kernel
theorem dX11_readLine_77 : decode cX11_readLine 77 = .ok (.getfield 108, 3) := by decide +kernel
theorem dX11_readLine_80 : decode cX11_readLine 80 = .ok (.iload_n 1, 1) := by decide +kernel
theorem dX11_readLine_81 : decode cX11_readLine 81 = .ok (.ishr, 1) := by decide +kernel
theorem dX11_readLine_82 : decode cX11_readLine 82 = .ok (.iconst 1, 1) := by decide +kernel
theorem dX11_readLine_83 : decode cX11_readLine 83 = .ok (.iand, 1) := by decide +kernel
theorem dX11_readLine_84 : decode cX11_readLine 84 = .ok (.ifCond .ne 7, 3) := by decide +kernel
theorem dX11_readLine_87 : decode cX11_readLine 87 = .ok (.iconst 1, 1) := by decide +kernel
theorem dX11_readLine_88 : decode cX11_readLine 88 = .ok (.goto 4, 3) := by decide +kernel
theorem dX11_readLine_91 : decode cX11_readLine 91 = .ok (.iconst 0, 1) := by decide +kernel
theorem dX11_readLine_92 : decode cX11_readLine 92 = .ok (.iconst 4, 1) := by decide +kernel
theorem dX11_readLine_93 : decode cX11_readLine 93 = .ok (.invokevirtual 192, 3) := by decide +kernel
theorem dX11_readLine_96 : decode cX11_readLine 96 = .ok (.aload_n 0, 1) := by decide +kernel
theorem dX11_readLine_97 : decode cX11_readLine 97 = .ok (.dup, 1) := by decide +kernel
theorem dX11_readLine_98 : decode cX11_readLine 98 = .ok (.getfield 108, 3) := by decide +kernel
theorem dX11_readLine_101 : decode cX11_readLine 101 = .ok (.iconst 1, 1) := by decide +kernel
theorem dX11_readLine_102 : decode cX11_readLine 102 = .ok (.iload_n 1, 1) := by decide +kernel
theorem dX11_readLine_103 : decode cX11_readLine 103 = .ok (.ishl, 1) := by decide +kernel
theorem dX11_readLine_104 : decode cX11_readLine 104 = .ok (.ior, 1) := by decide +kernel
theorem dX11_readLine_105 : decode cX11_readLine 105 = .ok (.putfield 108, 3) := by decide +kernel
theorem dX11_readLine_108 : decode cX11_readLine 108 = .ok (.aload_n 0, 1) := by decide +kernel
theorem dX11_readLine_109 : decode cX11_readLine 109 = .ok (.invokevirtual 200, 3) := by decide +kernel
theorem dX11_readLine_112 : decode cX11_readLine 112 = .ok (.aload_n 0, 1) := by decide +kernel
theorem dX11_readLine_113 : decode cX11_readLine 113 = .ok (.getfield 150, 3) := by decide +kernel
theorem dX11_readLine_116 : decode cX11_readLine 116 = .ok (.ifCond .le 4, 3) := by decide +kernel
theorem dX11_readLine_119 : decode cX11_readLine 119 = .ok (.return_, 1) := by decide +kernel
theorem dX11_readLine_120 : decode cX11_readLine 120 = .ok (.aload_n 0, 1) := by decide +kernel
theorem dX11_readLine_121 : decode cX11_readLine 121 = .ok (.iload_n 1, 1) := by decide +kernel
theorem dX11_readLine_122 : decode cX11_readLine 122 = .ok (.invokevirtual 245, 3) := by decide +kernel
theorem dX11_readLine_125 : decode cX11_readLine 125 = .ok (.aload_n 0, 1) := by decide +kernel
theorem dX11_readLine_126 : decode cX11_readLine 126 = .ok (.getfield 150, 3) := by decide +kernel
theorem dX11_readLine_129 : decode cX11_readLine 129 = .ok (.ifCond .ne 21, 3) := by decide +kernel
theorem dX11_readLine_132 : decode cX11_readLine 132 = .ok (.aload_n 0, 1) := by decide +kernel
theorem dX11_readLine_133 : decode cX11_readLine 133 = .ok (.aload_n 0, 1) := by decide +kernel
theorem dX11_readLine_134 : decode cX11_readLine 134 = .ok (.getfield 178, 3) := by decide +kernel
theorem dX11_readLine_137 : decode cX11_readLine 137 = .ok (.iconst 3, 1) := by decide +kernel
theorem dX11_readLine_138 : decode cX11_readLine 138 = .ok (.if_icmp .ne 7, 3) := by decide +kernel
theorem dX11_readLine_141 : decode cX11_readLine 141 = .ok (.iconst 1, 1) := by decide +kernel
theorem dX11_readLine_142 : decode cX11_readLine 142 = .ok (.goto 4, 3) := by decide +kernel
theorem dX11_readLine_145 : decode cX11_readLine 145 = .ok (.iconst 0, 1) := by decide +kernel
theorem dX11_readLine_146 : decode cX11_readLine 146 = .ok (.iconst 2, 1) := by decide +kernel
theorem dX11_readLine_147 : decode cX11_readLine 147 = .ok (.invokevirtual 192, 3) := by decide +kernel
theorem dX11_readLine_150 : decode cX11_readLine 150 = .ok (.aload_n 0, 1) := by decide +kernel
theorem dX11_readLine_151 : decode cX11_readLine 151 = .ok (.invokevirtual 200, 3) := by decide +kernel
theorem dX11_readLine_154 : decode cX11_readLine 154 = .ok (.return_, 1) := by decide +kernel
theorem dX11_text_0 : decode cX11_text 0 = .ok (.iconst 0, 1) := by decide +kernel
theorem dX11_text_1 : decode cX11_text 1 = .ok (.istore_n 1, 1) := by decide +kernel
theorem dX11_text_2 : decode cX11_text 2 = .ok (.aload_n 0, 1) := by decide +kernel
theorem dX11_text_3 : decode cX11_text 3 = .ok (.iconst 0, 1) := by decide +kernel
theorem dX11_text_4 : decode cX11_text 4 = .ok (.putfield 150, 3) := by decide +kernel
theorem dX11_text_7 : decode cX11_text 7 = .ok (.aload_n 0, 1) := by decide +kernel
theorem dX11_text_8 : decode cX11_text 8 = .ok (.iconst 0, 1) := by decide +kernel
theorem dX11_text_9 : decode cX11_text 9 = .ok (.putfield 159, 3) := by decide +kernel
theorem dX11_text_12 : decode cX11_text 12 = .ok (.aload_n 0, 1) := by decide +kernel
theorem dX11_text_13 : decode cX11_text 13 = .ok (.invokevirtual 89, 3) := by decide +kernel
theorem dX11_text_16 : decode cX11_text 16 = .ok (.aload_n 0, 1) := by decide +kernel
theorem dX11_text_17 : decode cX11_text 17 = .ok (.invokevirtual 200, 3) := by decide +kernel
theorem dX11_text_20 : decode cX11_text 20 = .ok (.aload_n 0, 1) := by decide +kernel
theorem dX11_text_21 : decode cX11_text 21 = .ok (.getfield 150, 3) := by decide +kernel
theorem dX11_text_24 : decode cX11_text 24 = .ok (.ifCond .ne 20, 3) := by decide +kernel
theorem dX11_text_27 : decode cX11_text 27 = .ok (.aload_n 0, 1) := by decide +kernel
theorem dX11_text_28 : decode cX11_text 28 = .ok (.getfield 178, 3) := by decide +kernel
theorem dX11_text_31 : decode cX11_text 31 = .ok (.ifCond .eq 13, 3) := by decide +kernel
theorem dX11_text_34 : decode cX11_text 34 = .ok (.aload_n 0, 1) := by decide +kernel
theorem dX11_text_35 : decode cX11_text 35 = .ok (.invokevirtual 248, 3) := by decide +kernel
theorem dX11_text_38 : decode cX11_text 38 = .ok (.iinc 1 1, 3) := by decide +kernel
theorem dX11_text_41 : decode cX11_text 41 = .ok (.goto (-21), 3) := by decide +kernel
theorem dX11_text_44 : decode cX11_text 44 = .ok (.aload_n 0, 1) := by decide +kernel
theorem dX11_text_45 : decode cX11_text 45 = .ok (.getfield 150, 3) := by decide +kernel
theorem dX11_text_48 : decode cX11_text 48 = .ok (.ifCond .ne 25, 3) := by decide +kernel
theorem dX11_text_51 : decode cX11_text 51 = .ok (.aload_n 0, 1) := by decide +kernel
theorem dX11_text_52 : decode cX11_text 52 = .ok (.aload_n 0, 1) := by decide +kernel
theorem dX11_text_53 : decode cX11_text 53 = .ok (.getfield 126, 3) := by decide +kernel
theorem dX11_text_56 : decode cX11_text 56 = .ok (.aload_n 0, 1) := by decide +kernel
theorem dX11_text_57 : decode cX11_text 57 = .ok (.getfield 95, 3) := by decide +kernel
theorem dX11_text_60 : decode cX11_text 60 = .ok (.if_icmp .ge 7, 3) := by decide +kernel
theorem dX11_text_63 : decode cX11_text 63 = .ok (.iconst 1, 1) := by decide +kernel
theorem dX11_text_64 : decode cX11_text 64 = .ok (.goto 4, 3) := by decide +kernel
theorem dX11_text_67 : decode cX11_text 67 = .ok (.iconst 0, 1) := by decide +kernel
theorem dX11_text_68 : decode cX11_text 68 = .ok (.bipush 6, 2) := by decide +kernel
theorem dX11_text_70 : decode cX11_text 70 = .ok (.invokevirtual 192, 3) := by decide +kernel
theorem dX11_text_73 : decode cX11_text 73 = .ok (.aload_n 0, 1) := by decide +kernel
theorem dX11_text_74 : decode cX11_text 74 = .ok (.iconst 0, 1) := by decide +kernel
theorem dX11_text_75 : decode cX11_text 75 = .ok (.putfield 141, 3) := by decide +kernel
theorem dX11_text_78 : decode cX11_text 78 = .ok (.aload_n 0, 1) := by decide +kernel
theorem dX11_text_79 : decode cX11_text 79 = .ok (.getfield 150, 3) := by decide +kernel
theorem dX11_text_82 : decode cX11_text 82 = .ok (.ifCond .le 11, 3) := by decide +kernel
theorem dX11_text_85 : decode cX11_text 85 = .ok (.bipush (-10), 2) := by decide +kernel
theorem dX11_text_87 : decode cX11_text 87 = .ok (.aload_n 0, 1) := by decide +kernel
theorem dX11_text_88 : decode cX11_text 88 = .ok (.getfield 156, 3) := by decide +kernel
theorem dX11_text_91 : decode cX11_text 91 = .ok (.isub, 1) := by decide +kernel
theorem dX11_text_92 : decode cX11_text 92 = .ok (.ireturn, 1) := by decide +kernel
theorem dX11_text_93 : decode cX11_text 93 = .ok (.aload_n 0, 1) := by decide +kernel
theorem dX11_text_94 : decode cX11_text 94 = .ok (.invokevirtual 92, 3) := by decide +kernel
theorem dX11_text_97 : decode cX11_text 97 = .ok (.iload_n 1, 1) := by decide +kernel
theorem dX11_text_98 : decode cX11_text 98 = .ok (.ireturn, 1) := by decide +kernel
theorem dX11_fault_0 : decode cX11_fault 0 = .ok (.aload_n 0, 1) := by decide +kernel
theorem dX11_fault_1 : decode cX11_fault 1 = .ok (.getfield 150, 3) := by decide +kernel
theorem dX11_fault_4 : decode cX11_fault 4 = .ok (.ireturn, 1) := by decide +kernel
theorem dX11_rule_0 : decode cX11_rule 0 = .ok (.iload_n 1, 1) := by decide +kernel
theorem dX11_rule_1 : decode cX11_rule 1 = .ok (.tableswitch 54 0 3 #[31, 36, 41, 46], 31) := by decide +kernel
theorem dX11_rule_32 : decode cX11_rule 32 = .ok (.aload_n 0, 1) := by decide +kernel
theorem dX11_rule_33 : decode cX11_rule 33 = .ok (.getfield 129, 3) := by decide +kernel
theorem dX11_rule_36 : decode cX11_rule 36 = .ok (.ireturn, 1) := by decide +kernel
theorem dX11_rule_37 : decode cX11_rule 37 = .ok (.aload_n 0, 1) := by decide +kernel
theorem dX11_rule_38 : decode cX11_rule 38 = .ok (.getfield 132, 3) := by decide +kernel
theorem dX11_rule_41 : decode cX11_rule 41 = .ok (.ireturn, 1) := by decide +kernel
theorem dX11_rule_42 : decode cX11_rule 42 = .ok (.aload_n 0, 1) := by decide +kernel
theorem dX11_rule_43 : decode cX11_rule 43 = .ok (.getfield 135, 3) := by decide +kernel
theorem dX11_rule_46 : decode cX11_rule 46 = .ok (.ireturn, 1) := by decide +kernel
theorem dX11_rule_47 : decode cX11_rule 47 = .ok (.aload_n 0, 1) := by decide +kernel
theorem dX11_rule_48 : decode cX11_rule 48 = .ok (.getfield 7, 3) := by decide +kernel
theorem dX11_rule_51 : decode cX11_rule 51 = .ok (.bipush 16, 2) := by decide +kernel
theorem dX11_rule_53 : decode cX11_rule 53 = .ok (.iaload, 1) := by decide +kernel
theorem dX11_rule_54 : decode cX11_rule 54 = .ok (.ireturn, 1) := by decide +kernel
theorem dX11_rule_55 : decode cX11_rule 55 = .ok (.iload_n 1, 1) := by decide +kernel
theorem dX11_rule_56 : decode cX11_rule 56 = .ok (.i2l, 1) := by decide +kernel
theorem dX11_rule_57 : decode cX11_rule 57 = .ok (.ldc2_w 251, 3) := by decide +kernel
theorem dX11_rule_60 : decode cX11_rule 60 = .ok (.ldc2_w 253, 3) := by decide +kernel
theorem dX11_rule_63 : decode cX11_rule 63 = .ok (.invokestatic 146, 3) := by decide +kernel
theorem dX11_rule_66 : decode cX11_rule 66 = .ok (.ifCond .eq 15, 3) := by decide +kernel
theorem dX11_rule_69 : decode cX11_rule 69 = .ok (.aload_n 0, 1) := by decide +kernel
theorem dX11_rule_70 : decode cX11_rule 70 = .ok (.getfield 17, 3) := by decide +kernel
theorem dX11_rule_73 : decode cX11_rule 73 = .ok (.iload_n 1, 1) := by decide +kernel
theorem dX11_rule_74 : decode cX11_rule 74 = .ok (.bipush 10, 2) := by decide +kernel
theorem dX11_rule_76 : decode cX11_rule 76 = .ok (.isub, 1) := by decide +kernel
theorem dX11_rule_77 : decode cX11_rule 77 = .ok (.iaload, 1) := by decide +kernel
theorem dX11_rule_78 : decode cX11_rule 78 = .ok (.goto 4, 3) := by decide +kernel
theorem dX11_rule_81 : decode cX11_rule 81 = .ok (.iconst (-1), 1) := by decide +kernel
theorem dX11_rule_82 : decode cX11_rule 82 = .ok (.ireturn, 1) := by decide +kernel
theorem dX11_isKind_0 : decode cX11_isKind 0 = .ok (.iload_n 0, 1) := by decide +kernel
theorem dX11_isKind_1 : decode cX11_isKind 1 = .ok (.i2l, 1) := by decide +kernel
theorem dX11_isKind_2 : decode cX11_isKind 2 = .ok (.lconst 0, 1) := by decide +kernel
theorem dX11_isKind_3 : decode cX11_isKind 3 = .ok (.ldc2_w 255, 3) := by decide +kernel
theorem dX11_isKind_6 : decode cX11_isKind 6 = .ok (.invokestatic 146, 3) := by decide +kernel
theorem dX11_isKind_9 : decode cX11_isKind 9 = .ok (.ireturn, 1) := by decide +kernel
theorem dX11_doesLack_0 : decode cX11_doesLack 0 = .ok (.aload_n 0, 1) := by decide +kernel
theorem dX11_doesLack_1 : decode cX11_doesLack 1 = .ok (.getfield 26, 3) := by decide +kernel
theorem dX11_doesLack_4 : decode cX11_doesLack 4 = .ok (.iload_n 1, 1) := by decide +kernel
theorem dX11_doesLack_5 : decode cX11_doesLack 5 = .ok (.iaload, 1) := by decide +kernel
theorem dX11_doesLack_6 : decode cX11_doesLack 6 = .ok (.iload_n 2, 1) := by decide +kernel
theorem dX11_doesLack_7 : decode cX11_doesLack 7 = .ok (.ishr, 1) := by decide +kernel
theorem dX11_doesLack_8 : decode cX11_doesLack 8 = .ok (.iconst 1, 1) := by decide +kernel
theorem dX11_doesLack_9 : decode cX11_doesLack 9 = .ok (.iand, 1) := by decide +kernel
theorem dX11_doesLack_10 : decode cX11_doesLack 10 = .ok (.iconst 1, 1) := by decide +kernel
theorem dX11_doesLack_11 : decode cX11_doesLack 11 = .ok (.if_icmp .ne 7, 3) := by decide +kernel
theorem dX11_doesLack_14 : decode cX11_doesLack 14 = .ok (.iconst 1, 1) := by decide +kernel
theorem dX11_doesLack_15 : decode cX11_doesLack 15 = .ok (.goto 4, 3) := by decide +kernel
theorem dX11_doesLack_18 : decode cX11_doesLack 18 = .ok (.iconst 0, 1) := by decide +kernel
theorem dX11_doesLack_19 : decode cX11_doesLack 19 = .ok (.ireturn, 1) := by decide +kernel
theorem dX11_kind_0 : decode cX11_kind 0 = .ok (.iload_n 1, 1) := by decide +kernel
theorem dX11_kind_1 : decode cX11_kind 1 = .ok (.invokestatic 257, 3) := by decide +kernel
theorem dX11_kind_4 : decode cX11_kind 4 = .ok (.ifCond .ne 5, 3) := by decide +kernel
theorem dX11_kind_7 : decode cX11_kind 7 = .ok (.iconst (-1), 1) := by decide +kernel
theorem dX11_kind_8 : decode cX11_kind 8 = .ok (.ireturn, 1) := by decide +kernel
theorem dX11_kind_9 : decode cX11_kind 9 = .ok (.iload_n 2, 1) := by decide +kernel
theorem dX11_kind_10 : decode cX11_kind 10 = .ok (.lookupswitch 133 #[(0, 74), (1, 81), (10, 90), (11, 90), (20, 105), (21, 105), (30, 120), (31, 120)], 74) := by decide +kernel
theorem dX11_kind_84 : decode cX11_kind 84 = .ok (.aload_n 0, 1) := by decide +kernel
theorem dX11_kind_85 : decode cX11_kind 85 = .ok (.getfield 29, 3) := by decide +kernel
theorem dX11_kind_88 : decode cX11_kind 88 = .ok (.iload_n 1, 1) := by decide +kernel
theorem dX11_kind_89 : decode cX11_kind 89 = .ok (.iaload, 1) := by decide +kernel
theorem dX11_kind_90 : decode cX11_kind 90 = .ok (.ireturn, 1) := by decide +kernel
theorem dX11_kind_91 : decode cX11_kind 91 = .ok (.aload_n 0, 1) := by decide +kernel
theorem dX11_kind_92 : decode cX11_kind 92 = .ok (.getfield 138, 3) := by decide +kernel
theorem dX11_kind_95 : decode cX11_kind 95 = .ok (.iload_n 1, 1) := by decide +kernel
theorem dX11_kind_96 : decode cX11_kind 96 = .ok (.ishr, 1) := by decide +kernel
theorem dX11_kind_97 : decode cX11_kind 97 = .ok (.iconst 1, 1) := by decide +kernel
theorem dX11_kind_98 : decode cX11_kind 98 = .ok (.iand, 1) := by decide +kernel
theorem dX11_kind_99 : decode cX11_kind 99 = .ok (.ireturn, 1) := by decide +kernel
theorem dX11_kind_100 : decode cX11_kind 100 = .ok (.aload_n 0, 1) := by decide +kernel
theorem dX11_kind_101 : decode cX11_kind 101 = .ok (.getfield 20, 3) := by decide +kernel
theorem dX11_kind_104 : decode cX11_kind 104 = .ok (.bipush 6, 2) := by decide +kernel
theorem dX11_kind_106 : decode cX11_kind 106 = .ok (.iload_n 2, 1) := by decide +kernel
theorem dX11_kind_107 : decode cX11_kind 107 = .ok (.bipush 10, 2) := by decide +kernel
theorem dX11_kind_109 : decode cX11_kind 109 = .ok (.isub, 1) := by decide +kernel
theorem dX11_kind_110 : decode cX11_kind 110 = .ok (.imul, 1) := by decide +kernel
theorem dX11_kind_111 : decode cX11_kind 111 = .ok (.iload_n 1, 1) := by decide +kernel
theorem dX11_kind_112 : decode cX11_kind 112 = .ok (.iadd, 1) := by decide +kernel
theorem dX11_kind_113 : decode cX11_kind 113 = .ok (.iaload, 1) := by decide +kernel
theorem dX11_kind_114 : decode cX11_kind 114 = .ok (.ireturn, 1) := by decide +kernel
theorem dX11_kind_115 : decode cX11_kind 115 = .ok (.aload_n 0, 1) := by decide +kernel
theorem dX11_kind_116 : decode cX11_kind 116 = .ok (.getfield 23, 3) := by decide +kernel
theorem dX11_kind_119 : decode cX11_kind 119 = .ok (.bipush 6, 2) := by decide +kernel
theorem dX11_kind_121 : decode cX11_kind 121 = .ok (.iload_n 2, 1) := by decide +kernel
theorem dX11_kind_122 : decode cX11_kind 122 = .ok (.bipush 20, 2) := by decide +kernel
theorem dX11_kind_124 : decode cX11_kind 124 = .ok (.isub, 1) := by decide +kernel
theorem dX11_kind_125 : decode cX11_kind 125 = .ok (.imul, 1) := by decide +kernel
theorem dX11_kind_126 : decode cX11_kind 126 = .ok (.iload_n 1, 1) := by decide +kernel
theorem dX11_kind_127 : decode cX11_kind 127 = .ok (.iadd, 1) := by decide +kernel
theorem dX11_kind_128 : decode cX11_kind 128 = .ok (.iaload, 1) := by decide +kernel
theorem dX11_kind_129 : decode cX11_kind 129 = .ok (.ireturn, 1) := by decide +kernel
theorem dX11_kind_130 : decode cX11_kind 130 = .ok (.aload_n 0, 1) := by decide +kernel
theorem dX11_kind_131 : decode cX11_kind 131 = .ok (.iload_n 2, 1) := by decide +kernel
theorem dX11_kind_132 : decode cX11_kind 132 = .ok (.bipush 30, 2) := by decide +kernel
theorem dX11_kind_134 : decode cX11_kind 134 = .ok (.isub, 1) := by decide +kernel
theorem dX11_kind_135 : decode cX11_kind 135 = .ok (.iload_n 1, 1) := by decide +kernel
theorem dX11_kind_136 : decode cX11_kind 136 = .ok (.invokevirtual 261, 3) := by decide +kernel
theorem dX11_kind_139 : decode cX11_kind 139 = .ok (.invokestatic 265, 3) := by decide +kernel
theorem dX11_kind_142 : decode cX11_kind 142 = .ok (.ireturn, 1) := by decide +kernel
theorem dX11_kind_143 : decode cX11_kind 143 = .ok (.iconst (-1), 1) := by decide +kernel
theorem dX11_kind_144 : decode cX11_kind 144 = .ok (.ireturn, 1) := by decide +kernel
theorem dX11_colour_0 : decode cX11_colour 0 = .ok (.iload_n 1, 1) := by decide +kernel
theorem dX11_colour_1 : decode cX11_colour 1 = .ok (.i2l, 1) := by decide +kernel
theorem dX11_colour_2 : decode cX11_colour 2 = .ok (.lconst 0, 1) := by decide +kernel
theorem dX11_colour_3 : decode cX11_colour 3 = .ok (.ldc2_w 269, 3) := by decide +kernel
theorem dX11_colour_6 : decode cX11_colour 6 = .ok (.invokestatic 146, 3) := by decide +kernel
theorem dX11_colour_9 : decode cX11_colour 9 = .ok (.ifCond .eq 12, 3) := by decide +kernel
theorem dX11_colour_12 : decode cX11_colour 12 = .ok (.aload_n 0, 1) := by decide +kernel
theorem dX11_colour_13 : decode cX11_colour 13 = .ok (.getfield 32, 3) := by decide +kernel
theorem dX11_colour_16 : decode cX11_colour 16 = .ok (.iload_n 1, 1) := by decide +kernel
theorem dX11_colour_17 : decode cX11_colour 17 = .ok (.iaload, 1) := by decide +kernel
theorem dX11_colour_18 : decode cX11_colour 18 = .ok (.goto 4, 3) := by decide +kernel
theorem dX11_colour_21 : decode cX11_colour 21 = .ok (.iconst (-1), 1) := by decide +kernel
theorem dX11_colour_22 : decode cX11_colour 22 = .ok (.ireturn, 1) := by decide +kernel
theorem dX11_isThing_0 : decode cX11_isThing 0 = .ok (.iload_n 0, 1) := by decide +kernel
theorem dX11_isThing_1 : decode cX11_isThing 1 = .ok (.ifCond .eq 30, 3) := by decide +kernel
theorem dX11_isThing_4 : decode cX11_isThing 4 = .ok (.iload_n 0, 1) := by decide +kernel
theorem dX11_isThing_5 : decode cX11_isThing 5 = .ok (.i2l, 1) := by decide +kernel
theorem dX11_isThing_6 : decode cX11_isThing 6 = .ok (.lconst 0, 1) := by decide +kernel
theorem dX11_isThing_7 : decode cX11_isThing 7 = .ok (.ldc2_w 271, 3) := by decide +kernel
theorem dX11_isThing_10 : decode cX11_isThing 10 = .ok (.invokestatic 146, 3) := by decide +kernel
theorem dX11_isThing_13 : decode cX11_isThing 13 = .ok (.ifCond .eq 22, 3) := by decide +kernel
theorem dX11_isThing_16 : decode cX11_isThing 16 = .ok (.iload_n 0, 1) := by decide +kernel
theorem dX11_isThing_17 : decode cX11_isThing 17 = .ok (.bipush 8, 2) := by decide +kernel
theorem dX11_isThing_19 : decode cX11_isThing 19 = .ok (.irem, 1) := by decide +kernel
theorem dX11_isThing_20 : decode cX11_isThing 20 = .ok (.i2l, 1) := by decide +kernel
theorem dX11_isThing_21 : decode cX11_isThing 21 = .ok (.lconst 1, 1) := by decide +kernel
theorem dX11_isThing_22 : decode cX11_isThing 22 = .ok (.ldc2_w 255, 3) := by decide +kernel
theorem dX11_isThing_25 : decode cX11_isThing 25 = .ok (.invokestatic 146, 3) := by decide +kernel
theorem dX11_isThing_28 : decode cX11_isThing 28 = .ok (.ifCond .eq 7, 3) := by decide +kernel
theorem dX11_isThing_31 : decode cX11_isThing 31 = .ok (.iconst 1, 1) := by decide +kernel
theorem dX11_isThing_32 : decode cX11_isThing 32 = .ok (.goto 4, 3) := by decide +kernel
theorem dX11_isThing_35 : decode cX11_isThing 35 = .ok (.iconst 0, 1) := by decide +kernel
theorem dX11_isThing_36 : decode cX11_isThing 36 = .ok (.ireturn, 1) := by decide +kernel
theorem dX11_mirrorOf_0 : decode cX11_mirrorOf 0 = .ok (.iload_n 1, 1) := by decide +kernel
theorem dX11_mirrorOf_1 : decode cX11_mirrorOf 1 = .ok (.bipush 8, 2) := by decide +kernel
theorem dX11_mirrorOf_3 : decode cX11_mirrorOf 3 = .ok (.irem, 1) := by decide +kernel
theorem dX11_mirrorOf_4 : decode cX11_mirrorOf 4 = .ok (.istore_n 2, 1) := by decide +kernel
theorem dX11_mirrorOf_5 : decode cX11_mirrorOf 5 = .ok (.iload_n 1, 1) := by decide +kernel
theorem dX11_mirrorOf_6 : decode cX11_mirrorOf 6 = .ok (.bipush 32, 2) := by decide +kernel
theorem dX11_mirrorOf_8 : decode cX11_mirrorOf 8 = .ok (.idiv, 1) := by decide +kernel
theorem dX11_mirrorOf_9 : decode cX11_mirrorOf 9 = .ok (.istore_n 3, 1) := by decide +kernel
theorem dX11_mirrorOf_10 : decode cX11_mirrorOf 10 = .ok (.aload_n 0, 1) := by decide +kernel
theorem dX11_mirrorOf_11 : decode cX11_mirrorOf 11 = .ok (.getfield 138, 3) := by decide +kernel
theorem dX11_mirrorOf_14 : decode cX11_mirrorOf 14 = .ok (.iload_n 2, 1) := by decide +kernel
theorem dX11_mirrorOf_15 : decode cX11_mirrorOf 15 = .ok (.ishr, 1) := by decide +kernel
theorem dX11_mirrorOf_16 : decode cX11_mirrorOf 16 = .ok (.iconst 1, 1) := by decide +kernel
theorem dX11_mirrorOf_17 : decode cX11_mirrorOf 17 = .ok (.iand, 1) := by decide +kernel
theorem dX11_mirrorOf_18 : decode cX11_mirrorOf 18 = .ok (.iconst 1, 1) := by decide +kernel
theorem dX11_mirrorOf_19 : decode cX11_mirrorOf 19 = .ok (.if_icmp .ne 7, 3) := by decide +kernel
theorem dX11_mirrorOf_22 : decode cX11_mirrorOf 22 = .ok (.iload_n 3, 1) := by decide +kernel
theorem dX11_mirrorOf_23 : decode cX11_mirrorOf 23 = .ok (.goto 6, 3) := by decide +kernel
theorem dX11_mirrorOf_26 : decode cX11_mirrorOf 26 = .ok (.iconst 1, 1) := by decide +kernel
theorem dX11_mirrorOf_27 : decode cX11_mirrorOf 27 = .ok (.iload_n 3, 1) := by decide +kernel
theorem dX11_mirrorOf_28 : decode cX11_mirrorOf 28 = .ok (.isub, 1) := by decide +kernel
theorem dX11_mirrorOf_29 : decode cX11_mirrorOf 29 = .ok (.istore 4, 2) := by decide +kernel
theorem dX11_mirrorOf_31 : decode cX11_mirrorOf 31 = .ok (.iload_n 1, 1) := by decide +kernel
theorem dX11_mirrorOf_32 : decode cX11_mirrorOf 32 = .ok (.ifCond .ne 7, 3) := by decide +kernel
theorem dX11_mirrorOf_35 : decode cX11_mirrorOf 35 = .ok (.iconst 0, 1) := by decide +kernel
theorem dX11_mirrorOf_36 : decode cX11_mirrorOf 36 = .ok (.goto 30, 3) := by decide +kernel
theorem dX11_mirrorOf_39 : decode cX11_mirrorOf 39 = .ok (.aload_n 0, 1) := by decide +kernel
theorem dX11_mirrorOf_40 : decode cX11_mirrorOf 40 = .ok (.getfield 29, 3) := by decide +kernel
theorem dX11_mirrorOf_43 : decode cX11_mirrorOf 43 = .ok (.iload_n 2, 1) := by decide +kernel
theorem dX11_mirrorOf_44 : decode cX11_mirrorOf 44 = .ok (.iaload, 1) := by decide +kernel
theorem dX11_mirrorOf_45 : decode cX11_mirrorOf 45 = .ok (.bipush 8, 2) := by decide +kernel
theorem dX11_mirrorOf_47 : decode cX11_mirrorOf 47 = .ok (.aload_n 0, 1) := by decide +kernel
theorem dX11_mirrorOf_48 : decode cX11_mirrorOf 48 = .ok (.getfield 32, 3) := by decide +kernel
theorem dX11_mirrorOf_51 : decode cX11_mirrorOf 51 = .ok (.iload_n 1, 1) := by decide +kernel
theorem dX11_mirrorOf_52 : decode cX11_mirrorOf 52 = .ok (.bipush 8, 2) := by decide +kernel
theorem dX11_mirrorOf_54 : decode cX11_mirrorOf 54 = .ok (.idiv, 1) := by decide +kernel
theorem dX11_mirrorOf_55 : decode cX11_mirrorOf 55 = .ok (.iconst 4, 1) := by decide +kernel
theorem dX11_mirrorOf_56 : decode cX11_mirrorOf 56 = .ok (.irem, 1) := by decide +kernel
theorem dX11_mirrorOf_57 : decode cX11_mirrorOf 57 = .ok (.iaload, 1) := by decide +kernel
theorem dX11_mirrorOf_58 : decode cX11_mirrorOf 58 = .ok (.imul, 1) := by decide +kernel
theorem dX11_mirrorOf_59 : decode cX11_mirrorOf 59 = .ok (.iadd, 1) := by decide +kernel
theorem dX11_mirrorOf_60 : decode cX11_mirrorOf 60 = .ok (.bipush 32, 2) := by decide +kernel
theorem dX11_mirrorOf_62 : decode cX11_mirrorOf 62 = .ok (.iload 4, 2) := by decide +kernel
theorem dX11_mirrorOf_64 : decode cX11_mirrorOf 64 = .ok (.imul, 1) := by decide +kernel
theorem dX11_mirrorOf_65 : decode cX11_mirrorOf 65 = .ok (.iadd, 1) := by decide +kernel
theorem dX11_mirrorOf_66 : decode cX11_mirrorOf 66 = .ok (.ireturn, 1) := by decide +kernel
theorem dX11_mirror_0 : decode cX11_mirror 0 = .ok (.iload_n 1, 1) := by decide +kernel
theorem dX11_mirror_1 : decode cX11_mirror 1 = .ok (.invokestatic 273, 3) := by decide +kernel
theorem dX11_mirror_4 : decode cX11_mirror 4 = .ok (.ifCond .eq 11, 3) := by decide +kernel
theorem dX11_mirror_7 : decode cX11_mirror 7 = .ok (.aload_n 0, 1) := by decide +kernel
theorem dX11_mirror_8 : decode cX11_mirror 8 = .ok (.iload_n 1, 1) := by decide +kernel
theorem dX11_mirror_9 : decode cX11_mirror 9 = .ok (.invokevirtual 276, 3) := by decide +kernel
theorem dX11_mirror_12 : decode cX11_mirror 12 = .ok (.goto 4, 3) := by decide +kernel
theorem dX11_mirror_15 : decode cX11_mirror 15 = .ok (.iconst (-1), 1) := by decide +kernel
theorem dX11_mirror_16 : decode cX11_mirror 16 = .ok (.ireturn, 1) := by decide +kernel
theorem dX11_work_0 : decode cX11_work 0 = .ok (.iload_n 1, 1) := by decide +kernel
theorem dX11_work_1 : decode cX11_work 1 = .ok (.i2l, 1) := by decide +kernel
theorem dX11_work_2 : decode cX11_work 2 = .ok (.lconst 0, 1) := by decide +kernel
theorem dX11_work_3 : decode cX11_work 3 = .ok (.aload_n 0, 1) := by decide +kernel
theorem dX11_work_4 : decode cX11_work 4 = .ok (.getfield 7, 3) := by decide +kernel
theorem dX11_work_7 : decode cX11_work 7 = .ok (.bipush 16, 2) := by decide +kernel
theorem dX11_work_9 : decode cX11_work 9 = .ok (.iaload, 1) := by decide +kernel
theorem dX11_work_10 : decode cX11_work 10 = .ok (.iconst 1, 1) := by decide +kernel
theorem dX11_work_11 : decode cX11_work 11 = .ok (.isub, 1) := by decide +kernel
theorem dX11_work_12 : decode cX11_work 12 = .ok (.i2l, 1) := by decide +kernel
theorem dX11_work_13 : decode cX11_work 13 = .ok (.invokestatic 146, 3) := by decide +kernel
theorem dX11_work_16 : decode cX11_work 16 = .ok (.ifCond .eq 31, 3) := by decide +kernel
theorem dX11_work_19 : decode cX11_work 19 = .ok (.iload_n 2, 1) := by decide +kernel
theorem dX11_work_20 : decode cX11_work 20 = .ok (.i2l, 1) := by decide +kernel
theorem dX11_work_21 : decode cX11_work 21 = .ok (.lconst 0, 1) := by decide +kernel
theorem dX11_work_22 : decode cX11_work 22 = .ok (.ldc2_w 269, 3) := by decide +kernel
theorem dX11_work_25 : decode cX11_work 25 = .ok (.invokestatic 146, 3) := by decide +kernel
theorem dX11_work_28 : decode cX11_work 28 = .ok (.ifCond .eq 19, 3) := by decide +kernel
theorem dX11_work_31 : decode cX11_work 31 = .ok (.aload_n 0, 1) := by decide +kernel
theorem dX11_work_32 : decode cX11_work 32 = .ok (.getfield 7, 3) := by decide +kernel
theorem dX11_work_35 : decode cX11_work 35 = .ok (.bipush 17, 2) := by decide +kernel
theorem dX11_work_37 : decode cX11_work 37 = .ok (.iconst 4, 1) := by decide +kernel
theorem dX11_work_38 : decode cX11_work 38 = .ok (.iload_n 1, 1) := by decide +kernel
theorem dX11_work_39 : decode cX11_work 39 = .ok (.imul, 1) := by decide +kernel
theorem dX11_work_40 : decode cX11_work 40 = .ok (.iadd, 1) := by decide +kernel
theorem dX11_work_41 : decode cX11_work 41 = .ok (.iload_n 2, 1) := by decide +kernel
theorem dX11_work_42 : decode cX11_work 42 = .ok (.iadd, 1) := by decide +kernel
theorem dX11_work_43 : decode cX11_work 43 = .ok (.iaload, 1) := by decide +kernel
theorem dX11_work_44 : decode cX11_work 44 = .ok (.goto 4, 3) := by decide +kernel
theorem dX11_work_47 : decode cX11_work 47 = .ok (.iconst (-1), 1) := by decide +kernel
theorem dX11_work_48 : decode cX11_work 48 = .ok (.ireturn, 1) := by decide +kernel
theorem dX11_isBank_0 : decode cX11_isBank 0 = .ok (.iload_n 0, 1) := by decide +kernel
theorem dX11_isBank_1 : decode cX11_isBank 1 = .ok (.i2l, 1) := by decide +kernel
theorem dX11_isBank_2 : decode cX11_isBank 2 = .ok (.lconst 0, 1) := by decide +kernel
theorem dX11_isBank_3 : decode cX11_isBank 3 = .ok (.lconst 1, 1) := by decide +kernel
theorem dX11_isBank_4 : decode cX11_isBank 4 = .ok (.invokestatic 146, 3) := by decide +kernel
theorem dX11_isBank_7 : decode cX11_isBank 7 = .ok (.ireturn, 1) := by decide +kernel
theorem dX11_isLot_0 : decode cX11_isLot 0 = .ok (.iload_n 1, 1) := by decide +kernel
theorem dX11_isLot_1 : decode cX11_isLot 1 = .ok (.invokestatic 279, 3) := by decide +kernel
theorem dX11_isLot_4 : decode cX11_isLot 4 = .ok (.ifCond .eq 23, 3) := by decide +kernel
theorem dX11_isLot_7 : decode cX11_isLot 7 = .ok (.iload_n 2, 1) := by decide +kernel
theorem dX11_isLot_8 : decode cX11_isLot 8 = .ok (.i2l, 1) := by decide +kernel
theorem dX11_isLot_9 : decode cX11_isLot 9 = .ok (.lconst 0, 1) := by decide +kernel
theorem dX11_isLot_10 : decode cX11_isLot 10 = .ok (.aload_n 0, 1) := by decide +kernel
theorem dX11_isLot_11 : decode cX11_isLot 11 = .ok (.getfield 129, 3) := by decide +kernel
theorem dX11_isLot_14 : decode cX11_isLot 14 = .ok (.iconst 1, 1) := by decide +kernel
theorem dX11_isLot_15 : decode cX11_isLot 15 = .ok (.isub, 1) := by decide +kernel
theorem dX11_isLot_16 : decode cX11_isLot 16 = .ok (.i2l, 1) := by decide +kernel
theorem dX11_isLot_17 : decode cX11_isLot 17 = .ok (.invokestatic 146, 3) := by decide +kernel
theorem dX11_isLot_20 : decode cX11_isLot 20 = .ok (.ifCond .eq 7, 3) := by decide +kernel
theorem dX11_isLot_23 : decode cX11_isLot 23 = .ok (.iconst 1, 1) := by decide +kernel
theorem dX11_isLot_24 : decode cX11_isLot 24 = .ok (.goto 4, 3) := by decide +kernel
theorem dX11_isLot_27 : decode cX11_isLot 27 = .ok (.iconst 0, 1) := by decide +kernel
theorem dX11_isLot_28 : decode cX11_isLot 28 = .ok (.ireturn, 1) := by decide +kernel
theorem dX11_thing_0 : decode cX11_thing 0 = .ok (.aload_n 0, 1) := by decide +kernel
theorem dX11_thing_1 : decode cX11_thing 1 = .ok (.iload_n 1, 1) := by decide +kernel
theorem dX11_thing_2 : decode cX11_thing 2 = .ok (.iload_n 2, 1) := by decide +kernel
theorem dX11_thing_3 : decode cX11_thing 3 = .ok (.invokevirtual 282, 3) := by decide +kernel
theorem dX11_thing_6 : decode cX11_thing 6 = .ok (.ifCond .eq 17, 3) := by decide +kernel
theorem dX11_thing_9 : decode cX11_thing 9 = .ok (.aload_n 0, 1) := by decide +kernel
theorem dX11_thing_10 : decode cX11_thing 10 = .ok (.getfield 7, 3) := by decide +kernel
theorem dX11_thing_13 : decode cX11_thing 13 = .ok (.bipush 8, 2) := by decide +kernel
theorem dX11_thing_15 : decode cX11_thing 15 = .ok (.iload_n 1, 1) := by decide +kernel
theorem dX11_thing_16 : decode cX11_thing 16 = .ok (.imul, 1) := by decide +kernel
theorem dX11_thing_17 : decode cX11_thing 17 = .ok (.iload_n 2, 1) := by decide +kernel
theorem dX11_thing_18 : decode cX11_thing 18 = .ok (.iadd, 1) := by decide +kernel
theorem dX11_thing_19 : decode cX11_thing 19 = .ok (.iaload, 1) := by decide +kernel
theorem dX11_thing_20 : decode cX11_thing 20 = .ok (.goto 4, 3) := by decide +kernel
theorem dX11_thing_23 : decode cX11_thing 23 = .ok (.iconst (-1), 1) := by decide +kernel
theorem dX11_thing_24 : decode cX11_thing 24 = .ok (.ireturn, 1) := by decide +kernel
theorem dX11_put_0 : decode cX11_put 0 = .ok (.aload_n 0, 1) := by decide +kernel
theorem dX11_put_1 : decode cX11_put 1 = .ok (.iload_n 1, 1) := by decide +kernel
theorem dX11_put_2 : decode cX11_put 2 = .ok (.iload_n 2, 1) := by decide +kernel
theorem dX11_put_3 : decode cX11_put 3 = .ok (.invokevirtual 282, 3) := by decide +kernel
theorem dX11_put_6 : decode cX11_put 6 = .ok (.ifCond .eq 10, 3) := by decide +kernel
theorem dX11_put_9 : decode cX11_put 9 = .ok (.iload_n 3, 1) := by decide +kernel
theorem dX11_put_10 : decode cX11_put 10 = .ok (.invokestatic 273, 3) := by decide +kernel
theorem dX11_put_13 : decode cX11_put 13 = .ok (.ifCond .ne 5, 3) := by decide +kernel
theorem dX11_put_16 : decode cX11_put 16 = .ok (.iconst (-1), 1) := by decide +kernel
theorem dX11_put_17 : decode cX11_put 17 = .ok (.ireturn, 1) := by decide +kernel
theorem dX11_put_18 : decode cX11_put 18 = .ok (.aload_n 0, 1) := by decide +kernel
theorem dX11_put_19 : decode cX11_put 19 = .ok (.getfield 7, 3) := by decide +kernel
theorem dX11_put_22 : decode cX11_put 22 = .ok (.bipush 8, 2) := by decide +kernel
theorem dX11_put_24 : decode cX11_put 24 = .ok (.iload_n 1, 1) := by decide +kernel
theorem dX11_put_25 : decode cX11_put 25 = .ok (.imul, 1) := by decide +kernel
theorem dX11_put_26 : decode cX11_put 26 = .ok (.iload_n 2, 1) := by decide +kernel
theorem dX11_put_27 : decode cX11_put 27 = .ok (.iadd, 1) := by decide +kernel
theorem dX11_put_28 : decode cX11_put 28 = .ok (.iaload, 1) := by decide +kernel
theorem dX11_put_29 : decode cX11_put 29 = .ok (.istore 4, 2) := by decide +kernel
theorem dX11_put_31 : decode cX11_put 31 = .ok (.aload_n 0, 1) := by decide +kernel
theorem dX11_put_32 : decode cX11_put 32 = .ok (.getfield 7, 3) := by decide +kernel
theorem dX11_put_35 : decode cX11_put 35 = .ok (.bipush 8, 2) := by decide +kernel
theorem dX11_put_37 : decode cX11_put 37 = .ok (.iload_n 1, 1) := by decide +kernel
theorem dX11_put_38 : decode cX11_put 38 = .ok (.imul, 1) := by decide +kernel
theorem dX11_put_39 : decode cX11_put 39 = .ok (.iload_n 2, 1) := by decide +kernel
theorem dX11_put_40 : decode cX11_put 40 = .ok (.iadd, 1) := by decide +kernel
theorem dX11_put_41 : decode cX11_put 41 = .ok (.iload_n 3, 1) := by decide +kernel
theorem dX11_put_42 : decode cX11_put 42 = .ok (.iastore, 1) := by decide +kernel
theorem dX11_put_43 : decode cX11_put 43 = .ok (.iload 4, 2) := by decide +kernel
theorem dX11_put_45 : decode cX11_put 45 = .ok (.ireturn, 1) := by decide +kernel
theorem dX11_matchBy_0 : decode cX11_matchBy 0 = .ok (.iload_n 2, 1) := by decide +kernel
theorem dX11_matchBy_1 : decode cX11_matchBy 1 = .ok (.ifCond .ne 11, 3) := by decide +kernel
theorem dX11_matchBy_4 : decode cX11_matchBy 4 = .ok (.iload_n 3, 1) := by decide +kernel
theorem dX11_matchBy_5 : decode cX11_matchBy 5 = .ok (.iload_n 1, 1) := by decide +kernel
theorem dX11_matchBy_6 : decode cX11_matchBy 6 = .ok (.iadd, 1) := by decide +kernel
theorem dX11_matchBy_7 : decode cX11_matchBy 7 = .ok (.iconst 3, 1) := by decide +kernel
theorem dX11_matchBy_8 : decode cX11_matchBy 8 = .ok (.isub, 1) := by decide +kernel
theorem dX11_matchBy_9 : decode cX11_matchBy 9 = .ok (.goto 8, 3) := by decide +kernel
theorem dX11_matchBy_12 : decode cX11_matchBy 12 = .ok (.iload_n 3, 1) := by decide +kernel
theorem dX11_matchBy_13 : decode cX11_matchBy 13 = .ok (.iload_n 1, 1) := by decide +kernel
theorem dX11_matchBy_14 : decode cX11_matchBy 14 = .ok (.isub, 1) := by decide +kernel
theorem dX11_matchBy_15 : decode cX11_matchBy 15 = .ok (.iconst 3, 1) := by decide +kernel
theorem dX11_matchBy_16 : decode cX11_matchBy 16 = .ok (.iadd, 1) := by decide +kernel
theorem dX11_matchBy_17 : decode cX11_matchBy 17 = .ok (.istore 4, 2) := by decide +kernel
theorem dX11_matchBy_19 : decode cX11_matchBy 19 = .ok (.iload 4, 2) := by decide +kernel
theorem dX11_matchBy_21 : decode cX11_matchBy 21 = .ok (.i2l, 1) := by decide +kernel
theorem dX11_matchBy_22 : decode cX11_matchBy 22 = .ok (.lconst 0, 1) := by decide +kernel
theorem dX11_matchBy_23 : decode cX11_matchBy 23 = .ok (.aload_n 0, 1) := by decide +kernel
theorem dX11_matchBy_24 : decode cX11_matchBy 24 = .ok (.getfield 129, 3) := by decide +kernel
theorem dX11_matchBy_27 : decode cX11_matchBy 27 = .ok (.iconst 1, 1) := by decide +kernel
theorem dX11_matchBy_28 : decode cX11_matchBy 28 = .ok (.isub, 1) := by decide +kernel
theorem dX11_matchBy_29 : decode cX11_matchBy 29 = .ok (.i2l, 1) := by decide +kernel
theorem dX11_matchBy_30 : decode cX11_matchBy 30 = .ok (.invokestatic 146, 3) := by decide +kernel
theorem dX11_matchBy_33 : decode cX11_matchBy 33 = .ok (.ifCond .eq 8, 3) := by decide +kernel
theorem dX11_matchBy_36 : decode cX11_matchBy 36 = .ok (.iload 4, 2) := by decide +kernel
theorem dX11_matchBy_38 : decode cX11_matchBy 38 = .ok (.goto 5, 3) := by decide +kernel
theorem dX11_matchBy_41 : decode cX11_matchBy 41 = .ok (.bipush (-4), 2) := by decide +kernel
theorem dX11_matchBy_43 : decode cX11_matchBy 43 = .ok (.ireturn, 1) := by decide +kernel
theorem dX11_matchOf_0 : decode cX11_matchOf 0 = .ok (.aload_n 0, 1) := by decide +kernel
theorem dX11_matchOf_1 : decode cX11_matchOf 1 = .ok (.aload_n 0, 1) := by decide +kernel
theorem dX11_matchOf_2 : decode cX11_matchOf 2 = .ok (.getfield 132, 3) := by decide +kernel
theorem dX11_matchOf_5 : decode cX11_matchOf 5 = .ok (.iload_n 1, 1) := by decide +kernel
theorem dX11_matchOf_6 : decode cX11_matchOf 6 = .ok (.iload_n 2, 1) := by decide +kernel
theorem dX11_matchOf_7 : decode cX11_matchOf 7 = .ok (.invokevirtual 285, 3) := by decide +kernel
theorem dX11_matchOf_10 : decode cX11_matchOf 10 = .ok (.ireturn, 1) := by decide +kernel
theorem dX11_match_0 : decode cX11_match 0 = .ok (.aload_n 0, 1) := by decide +kernel
theorem dX11_match_1 : decode cX11_match 1 = .ok (.iload_n 1, 1) := by decide +kernel
theorem dX11_match_2 : decode cX11_match 2 = .ok (.iload_n 2, 1) := by decide +kernel
theorem dX11_match_3 : decode cX11_match 3 = .ok (.invokevirtual 282, 3) := by decide +kernel
theorem dX11_match_6 : decode cX11_match 6 = .ok (.ifCond .eq 12, 3) := by decide +kernel
theorem dX11_match_9 : decode cX11_match 9 = .ok (.aload_n 0, 1) := by decide +kernel
theorem dX11_match_10 : decode cX11_match 10 = .ok (.iload_n 1, 1) := by decide +kernel
theorem dX11_match_11 : decode cX11_match 11 = .ok (.iload_n 2, 1) := by decide +kernel
theorem dX11_match_12 : decode cX11_match 12 = .ok (.invokevirtual 289, 3) := by decide +kernel
theorem dX11_match_15 : decode cX11_match 15 = .ok (.goto 4, 3) := by decide +kernel
theorem dX11_match_18 : decode cX11_match 18 = .ok (.iconst (-1), 1) := by decide +kernel
theorem dX11_match_19 : decode cX11_match 19 = .ok (.ireturn, 1) := by decide +kernel
theorem dX11_asNow_0 : decode cX11_asNow 0 = .ok (.iconst 0, 1) := by decide +kernel
theorem dX11_asNow_1 : decode cX11_asNow 1 = .ok (.istore_n 1, 1) := by decide +kernel
theorem dX11_asNow_2 : decode cX11_asNow 2 = .ok (.iload_n 1, 1) := by decide +kernel
theorem dX11_asNow_3 : decode cX11_asNow 3 = .ok (.bipush 16, 2) := by decide +kernel
theorem dX11_asNow_5 : decode cX11_asNow 5 = .ok (.if_icmp .ge 21, 3) := by decide +kernel
theorem dX11_asNow_8 : decode cX11_asNow 8 = .ok (.aload_n 0, 1) := by decide +kernel
theorem dX11_asNow_9 : decode cX11_asNow 9 = .ok (.getfield 59, 3) := by decide +kernel
theorem dX11_asNow_12 : decode cX11_asNow 12 = .ok (.iload_n 1, 1) := by decide +kernel
theorem dX11_asNow_13 : decode cX11_asNow 13 = .ok (.aload_n 0, 1) := by decide +kernel
theorem dX11_asNow_14 : decode cX11_asNow 14 = .ok (.getfield 7, 3) := by decide +kernel
theorem dX11_asNow_17 : decode cX11_asNow 17 = .ok (.iload_n 1, 1) := by decide +kernel
theorem dX11_asNow_18 : decode cX11_asNow 18 = .ok (.iaload, 1) := by decide +kernel
theorem dX11_asNow_19 : decode cX11_asNow 19 = .ok (.iastore, 1) := by decide +kernel
theorem dX11_asNow_20 : decode cX11_asNow 20 = .ok (.iinc 1 1, 3) := by decide +kernel
theorem dX11_asNow_23 : decode cX11_asNow 23 = .ok (.goto (-21), 3) := by decide +kernel
theorem dX11_asNow_26 : decode cX11_asNow 26 = .ok (.return_, 1) := by decide +kernel
theorem dX11_isEven_0 : decode cX11_isEven 0 = .ok (.aload_n 0, 1) := by decide +kernel
theorem dX11_isEven_1 : decode cX11_isEven 1 = .ok (.iconst 0, 1) := by decide +kernel
theorem dX11_isEven_2 : decode cX11_isEven 2 = .ok (.iload_n 1, 1) := by decide +kernel
theorem dX11_isEven_3 : decode cX11_isEven 3 = .ok (.invokevirtual 289, 3) := by decide +kernel
theorem dX11_isEven_6 : decode cX11_isEven 6 = .ok (.istore_n 2, 1) := by decide +kernel
theorem dX11_isEven_7 : decode cX11_isEven 7 = .ok (.iload_n 2, 1) := by decide +kernel
theorem dX11_isEven_8 : decode cX11_isEven 8 = .ok (.bipush (-4), 2) := by decide +kernel
theorem dX11_isEven_10 : decode cX11_isEven 10 = .ok (.if_icmp .eq 25, 3) := by decide +kernel
theorem dX11_isEven_13 : decode cX11_isEven 13 = .ok (.aload_n 0, 1) := by decide +kernel
theorem dX11_isEven_14 : decode cX11_isEven 14 = .ok (.getfield 59, 3) := by decide +kernel
theorem dX11_isEven_17 : decode cX11_isEven 17 = .ok (.bipush 8, 2) := by decide +kernel
theorem dX11_isEven_19 : decode cX11_isEven 19 = .ok (.iload_n 2, 1) := by decide +kernel
theorem dX11_isEven_20 : decode cX11_isEven 20 = .ok (.iadd, 1) := by decide +kernel
theorem dX11_isEven_21 : decode cX11_isEven 21 = .ok (.iaload, 1) := by decide +kernel
theorem dX11_isEven_22 : decode cX11_isEven 22 = .ok (.aload_n 0, 1) := by decide +kernel
theorem dX11_isEven_23 : decode cX11_isEven 23 = .ok (.aload_n 0, 1) := by decide +kernel
theorem dX11_isEven_24 : decode cX11_isEven 24 = .ok (.getfield 59, 3) := by decide +kernel
theorem dX11_isEven_27 : decode cX11_isEven 27 = .ok (.iload_n 1, 1) := by decide +kernel
theorem dX11_isEven_28 : decode cX11_isEven 28 = .ok (.iaload, 1) := by decide +kernel
theorem dX11_isEven_29 : decode cX11_isEven 29 = .ok (.invokevirtual 276, 3) := by decide +kernel
theorem dX11_isEven_32 : decode cX11_isEven 32 = .ok (.if_icmp .ne 7, 3) := by decide +kernel
theorem dX11_isEven_35 : decode cX11_isEven 35 = .ok (.iconst 1, 1) := by decide +kernel
theorem dX11_isEven_36 : decode cX11_isEven 36 = .ok (.goto 4, 3) := by decide +kernel
theorem dX11_isEven_39 : decode cX11_isEven 39 = .ok (.iconst 0, 1) := by decide +kernel
theorem dX11_isEven_40 : decode cX11_isEven 40 = .ok (.ireturn, 1) := by decide +kernel
theorem dX11_oddLots_0 : decode cX11_oddLots 0 = .ok (.iconst 0, 1) := by decide +kernel
theorem dX11_oddLots_1 : decode cX11_oddLots 1 = .ok (.istore_n 1, 1) := by decide +kernel
theorem dX11_oddLots_2 : decode cX11_oddLots 2 = .ok (.iconst 0, 1) := by decide +kernel
theorem dX11_oddLots_3 : decode cX11_oddLots 3 = .ok (.istore_n 2, 1) := by decide +kernel
theorem dX11_oddLots_4 : decode cX11_oddLots 4 = .ok (.iload_n 2, 1) := by decide +kernel
theorem dX11_oddLots_5 : decode cX11_oddLots 5 = .ok (.aload_n 0, 1) := by decide +kernel
theorem dX11_oddLots_6 : decode cX11_oddLots 6 = .ok (.getfield 129, 3) := by decide +kernel
theorem dX11_oddLots_9 : decode cX11_oddLots 9 = .ok (.if_icmp .ge 30, 3) := by decide +kernel
theorem dX11_oddLots_12 : decode cX11_oddLots 12 = .ok (.iload_n 1, 1) := by decide +kernel
theorem dX11_oddLots_13 : decode cX11_oddLots 13 = .ok (.aload_n 0, 1) := by decide +kernel
theorem dX11_oddLots_14 : decode cX11_oddLots 14 = .ok (.iload_n 2, 1) := by decide +kernel
theorem dX11_oddLots_15 : decode cX11_oddLots 15 = .ok (.invokevirtual 292, 3) := by decide +kernel
theorem dX11_oddLots_18 : decode cX11_oddLots 18 = .ok (.ifCond .ne 7, 3) := by decide +kernel
theorem dX11_oddLots_21 : decode cX11_oddLots 21 = .ok (.iconst 1, 1) := by decide +kernel
theorem dX11_oddLots_22 : decode cX11_oddLots 22 = .ok (.goto 4, 3) := by decide +kernel
theorem dX11_oddLots_25 : decode cX11_oddLots 25 = .ok (.iconst 0, 1) := by decide +kernel
theorem dX11_oddLots_26 : decode cX11_oddLots 26 = .ok (.invokestatic 265, 3) := by decide +kernel
theorem dX11_oddLots_29 : decode cX11_oddLots 29 = .ok (.iload_n 2, 1) := by decide +kernel
theorem dX11_oddLots_30 : decode cX11_oddLots 30 = .ok (.ishl, 1) := by decide +kernel
theorem dX11_oddLots_31 : decode cX11_oddLots 31 = .ok (.ior, 1) := by decide +kernel
theorem dX11_oddLots_32 : decode cX11_oddLots 32 = .ok (.istore_n 1, 1) := by decide +kernel
theorem dX11_oddLots_33 : decode cX11_oddLots 33 = .ok (.iinc 2 1, 3) := by decide +kernel
theorem dX11_oddLots_36 : decode cX11_oddLots 36 = .ok (.goto (-32), 3) := by decide +kernel
theorem dX11_oddLots_39 : decode cX11_oddLots 39 = .ok (.iload_n 1, 1) := by decide +kernel
theorem dX11_oddLots_40 : decode cX11_oddLots 40 = .ok (.ireturn, 1) := by decide +kernel
theorem dX11_odd_0 : decode cX11_odd 0 = .ok (.aload_n 0, 1) := by decide +kernel
theorem dX11_odd_1 : decode cX11_odd 1 = .ok (.invokevirtual 295, 3) := by decide +kernel
theorem dX11_odd_4 : decode cX11_odd 4 = .ok (.aload_n 0, 1) := by decide +kernel
theorem dX11_odd_5 : decode cX11_odd 5 = .ok (.invokevirtual 298, 3) := by decide +kernel
theorem dX11_odd_8 : decode cX11_odd 8 = .ok (.ireturn, 1) := by decide +kernel
theorem dX11_third_0 : decode cX11_third 0 = .ok (.aload_n 0, 1) := by decide +kernel
theorem dX11_third_1 : decode cX11_third 1 = .ok (.iconst 0, 1) := by decide +kernel
theorem dX11_third_2 : decode cX11_third 2 = .ok (.iload_n 1, 1) := by decide +kernel
theorem dX11_third_3 : decode cX11_third 3 = .ok (.invokevirtual 282, 3) := by decide +kernel
theorem dX11_third_6 : decode cX11_third 6 = .ok (.ifCond .ne 5, 3) := by decide +kernel
theorem dX11_third_9 : decode cX11_third 9 = .ok (.iconst (-1), 1) := by decide +kernel
theorem dX11_third_10 : decode cX11_third 10 = .ok (.ireturn, 1) := by decide +kernel
theorem dX11_third_11 : decode cX11_third 11 = .ok (.aload_n 0, 1) := by decide +kernel
theorem dX11_third_12 : decode cX11_third 12 = .ok (.iconst 0, 1) := by decide +kernel
theorem dX11_third_13 : decode cX11_third 13 = .ok (.iload_n 1, 1) := by decide +kernel
theorem dX11_third_14 : decode cX11_third 14 = .ok (.invokevirtual 289, 3) := by decide +kernel
theorem dX11_third_17 : decode cX11_third 17 = .ok (.istore_n 2, 1) := by decide +kernel
theorem dX11_third_18 : decode cX11_third 18 = .ok (.iload_n 2, 1) := by decide +kernel
theorem dX11_third_19 : decode cX11_third 19 = .ok (.bipush (-4), 2) := by decide +kernel
theorem dX11_third_21 : decode cX11_third 21 = .ok (.if_icmp .ne 8, 3) := by decide +kernel
theorem dX11_third_24 : decode cX11_third 24 = .ok (.bipush (-4), 2) := by decide +kernel
theorem dX11_third_26 : decode cX11_third 26 = .ok (.goto 16, 3) := by decide +kernel
theorem dX11_third_29 : decode cX11_third 29 = .ok (.aload_n 0, 1) := by decide +kernel
theorem dX11_third_30 : decode cX11_third 30 = .ok (.aload_n 0, 1) := by decide +kernel
theorem dX11_third_31 : decode cX11_third 31 = .ok (.getfield 7, 3) := by decide +kernel
theorem dX11_third_34 : decode cX11_third 34 = .ok (.bipush 8, 2) := by decide +kernel
theorem dX11_third_36 : decode cX11_third 36 = .ok (.iload_n 2, 1) := by decide +kernel
theorem dX11_third_37 : decode cX11_third 37 = .ok (.iadd, 1) := by decide +kernel
theorem dX11_third_38 : decode cX11_third 38 = .ok (.iaload, 1) := by decide +kernel
theorem dX11_third_39 : decode cX11_third 39 = .ok (.invokevirtual 276, 3) := by decide +kernel
theorem dX11_third_42 : decode cX11_third 42 = .ok (.ireturn, 1) := by decide +kernel
theorem dX11_startRun_0 : decode cX11_startRun 0 = .ok (.aload_n 0, 1) := by decide +kernel
theorem dX11_startRun_1 : decode cX11_startRun 1 = .ok (.invokevirtual 295, 3) := by decide +kernel
theorem dX11_startRun_4 : decode cX11_startRun 4 = .ok (.iconst 0, 1) := by decide +kernel
theorem dX11_startRun_5 : decode cX11_startRun 5 = .ok (.istore_n 1, 1) := by decide +kernel
theorem dX11_startRun_6 : decode cX11_startRun 6 = .ok (.iload_n 1, 1) := by decide +kernel
theorem dX11_startRun_7 : decode cX11_startRun 7 = .ok (.bipush 8, 2) := by decide +kernel
theorem dX11_startRun_9 : decode cX11_startRun 9 = .ok (.if_icmp .ge 24, 3) := by decide +kernel
theorem dX11_startRun_12 : decode cX11_startRun 12 = .ok (.aload_n 0, 1) := by decide +kernel
theorem dX11_startRun_13 : decode cX11_startRun 13 = .ok (.getfield 62, 3) := by decide +kernel
theorem dX11_startRun_16 : decode cX11_startRun 16 = .ok (.iload_n 1, 1) := by decide +kernel
theorem dX11_startRun_17 : decode cX11_startRun 17 = .ok (.bipush (-4), 2) := by decide +kernel
theorem dX11_startRun_19 : decode cX11_startRun 19 = .ok (.iastore, 1) := by decide +kernel
theorem dX11_startRun_20 : decode cX11_startRun 20 = .ok (.aload_n 0, 1) := by decide +kernel
theorem dX11_startRun_21 : decode cX11_startRun 21 = .ok (.getfield 68, 3) := by decide +kernel
theorem dX11_startRun_24 : decode cX11_startRun 24 = .ok (.iload_n 1, 1) := by decide +kernel
theorem dX11_startRun_25 : decode cX11_startRun 25 = .ok (.iconst 0, 1) := by decide +kernel
theorem dX11_startRun_26 : decode cX11_startRun 26 = .ok (.bastore, 1) := by decide +kernel
theorem dX11_startRun_27 : decode cX11_startRun 27 = .ok (.iinc 1 1, 3) := by decide +kernel
theorem dX11_startRun_30 : decode cX11_startRun 30 = .ok (.goto (-24), 3) := by decide +kernel
theorem dX11_startRun_33 : decode cX11_startRun 33 = .ok (.aload_n 0, 1) := by decide +kernel
theorem dX11_startRun_34 : decode cX11_startRun 34 = .ok (.getfield 71, 3) := by decide +kernel
theorem dX11_startRun_37 : decode cX11_startRun 37 = .ok (.iconst 0, 1) := by decide +kernel
theorem dX11_startRun_38 : decode cX11_startRun 38 = .ok (.iconst 0, 1) := by decide +kernel
theorem dX11_startRun_39 : decode cX11_startRun 39 = .ok (.iastore, 1) := by decide +kernel
theorem dX11_startRun_40 : decode cX11_startRun 40 = .ok (.aload_n 0, 1) := by decide +kernel
theorem dX11_startRun_41 : decode cX11_startRun 41 = .ok (.getfield 71, 3) := by decide +kernel
theorem dX11_startRun_44 : decode cX11_startRun 44 = .ok (.iconst 1, 1) := by decide +kernel
theorem dX11_startRun_45 : decode cX11_startRun 45 = .ok (.iconst 0, 1) := by decide +kernel
theorem dX11_startRun_46 : decode cX11_startRun 46 = .ok (.iastore, 1) := by decide +kernel
theorem dX11_startRun_47 : decode cX11_startRun 47 = .ok (.return_, 1) := by decide +kernel
theorem dX11_works_0 : decode cX11_works 0 = .ok (.aload_n 0, 1) := by decide +kernel
theorem dX11_works_1 : decode cX11_works 1 = .ok (.getfield 7, 3) := by decide +kernel
theorem dX11_works_4 : decode cX11_works 4 = .ok (.bipush 17, 2) := by decide +kernel
theorem dX11_works_6 : decode cX11_works 6 = .ok (.iconst 4, 1) := by decide +kernel
theorem dX11_works_7 : decode cX11_works 7 = .ok (.iload_n 1, 1) := by decide +kernel
theorem dX11_works_8 : decode cX11_works 8 = .ok (.imul, 1) := by decide +kernel
theorem dX11_works_9 : decode cX11_works 9 = .ok (.iadd, 1) := by decide +kernel
theorem dX11_works_10 : decode cX11_works 10 = .ok (.iconst 1, 1) := by decide +kernel
theorem dX11_works_11 : decode cX11_works 11 = .ok (.iadd, 1) := by decide +kernel
theorem dX11_works_12 : decode cX11_works 12 = .ok (.iaload, 1) := by decide +kernel
theorem dX11_works_13 : decode cX11_works 13 = .ok (.istore_n 2, 1) := by decide +kernel
theorem dX11_works_14 : decode cX11_works 14 = .ok (.aload_n 0, 1) := by decide +kernel
theorem dX11_works_15 : decode cX11_works 15 = .ok (.getfield 7, 3) := by decide +kernel
theorem dX11_works_18 : decode cX11_works 18 = .ok (.bipush 17, 2) := by decide +kernel
theorem dX11_works_20 : decode cX11_works 20 = .ok (.iconst 4, 1) := by decide +kernel
theorem dX11_works_21 : decode cX11_works 21 = .ok (.iload_n 1, 1) := by decide +kernel
theorem dX11_works_22 : decode cX11_works 22 = .ok (.imul, 1) := by decide +kernel
theorem dX11_works_23 : decode cX11_works 23 = .ok (.iadd, 1) := by decide +kernel
theorem dX11_works_24 : decode cX11_works 24 = .ok (.iconst 2, 1) := by decide +kernel
theorem dX11_works_25 : decode cX11_works 25 = .ok (.iadd, 1) := by decide +kernel
theorem dX11_works_26 : decode cX11_works 26 = .ok (.iaload, 1) := by decide +kernel
theorem dX11_works_27 : decode cX11_works 27 = .ok (.istore_n 3, 1) := by decide +kernel
theorem dX11_works_28 : decode cX11_works 28 = .ok (.aload_n 0, 1) := by decide +kernel
theorem dX11_works_29 : decode cX11_works 29 = .ok (.getfield 7, 3) := by decide +kernel
theorem dX11_works_32 : decode cX11_works 32 = .ok (.bipush 17, 2) := by decide +kernel
theorem dX11_works_34 : decode cX11_works 34 = .ok (.iconst 4, 1) := by decide +kernel
theorem dX11_works_35 : decode cX11_works 35 = .ok (.iload_n 1, 1) := by decide +kernel
theorem dX11_works_36 : decode cX11_works 36 = .ok (.imul, 1) := by decide +kernel
theorem dX11_works_37 : decode cX11_works 37 = .ok (.iadd, 1) := by decide +kernel
theorem dX11_works_38 : decode cX11_works 38 = .ok (.iconst 3, 1) := by decide +kernel
theorem dX11_works_39 : decode cX11_works 39 = .ok (.iadd, 1) := by decide +kernel
theorem dX11_works_40 : decode cX11_works 40 = .ok (.iaload, 1) := by decide +kernel
theorem dX11_works_41 : decode cX11_works 41 = .ok (.istore 4, 2) := by decide +kernel
theorem dX11_works_43 : decode cX11_works 43 = .ok (.aload_n 0, 1) := by decide +kernel
theorem dX11_works_44 : decode cX11_works 44 = .ok (.iload_n 2, 1) := by decide +kernel
theorem dX11_works_45 : decode cX11_works 45 = .ok (.iload_n 3, 1) := by decide +kernel
theorem dX11_works_46 : decode cX11_works 46 = .ok (.invokevirtual 289, 3) := by decide +kernel
theorem dX11_works_49 : decode cX11_works 49 = .ok (.istore 5, 2) := by decide +kernel
theorem dX11_works_51 : decode cX11_works 51 = .ok (.bipush 8, 2) := by decide +kernel
theorem dX11_works_53 : decode cX11_works 53 = .ok (.iconst 1, 1) := by decide +kernel
theorem dX11_works_54 : decode cX11_works 54 = .ok (.iload_n 2, 1) := by decide +kernel
theorem dX11_works_55 : decode cX11_works 55 = .ok (.isub, 1) := by decide +kernel
theorem dX11_works_56 : decode cX11_works 56 = .ok (.imul, 1) := by decide +kernel
theorem dX11_works_57 : decode cX11_works 57 = .ok (.iload 5, 2) := by decide +kernel
theorem dX11_works_59 : decode cX11_works 59 = .ok (.iadd, 1) := by decide +kernel
theorem dX11_works_60 : decode cX11_works 60 = .ok (.istore 6, 2) := by decide +kernel
theorem dX11_works_62 : decode cX11_works 62 = .ok (.aload_n 0, 1) := by decide +kernel
theorem dX11_works_63 : decode cX11_works 63 = .ok (.iload_n 2, 1) := by decide +kernel
theorem dX11_works_64 : decode cX11_works 64 = .ok (.iload 4, 2) := by decide +kernel
theorem dX11_works_66 : decode cX11_works 66 = .ok (.bipush 8, 2) := by decide +kernel
theorem dX11_works_68 : decode cX11_works 68 = .ok (.irem, 1) := by decide +kernel
theorem dX11_works_69 : decode cX11_works 69 = .ok (.invokevirtual 261, 3) := by decide +kernel
theorem dX11_works_72 : decode cX11_works 72 = .ok (.ifCond .ne 30, 3) := by decide +kernel
theorem dX11_works_75 : decode cX11_works 75 = .ok (.iload 5, 2) := by decide +kernel
theorem dX11_works_77 : decode cX11_works 77 = .ok (.bipush (-4), 2) := by decide +kernel
theorem dX11_works_79 : decode cX11_works 79 = .ok (.if_icmp .eq 33, 3) := by decide +kernel
theorem dX11_works_82 : decode cX11_works 82 = .ok (.aload_n 0, 1) := by decide +kernel
theorem dX11_works_83 : decode cX11_works 83 = .ok (.iconst 1, 1) := by decide +kernel
theorem dX11_works_84 : decode cX11_works 84 = .ok (.iload_n 2, 1) := by decide +kernel
theorem dX11_works_85 : decode cX11_works 85 = .ok (.isub, 1) := by decide +kernel
theorem dX11_works_86 : decode cX11_works 86 = .ok (.aload_n 0, 1) := by decide +kernel
theorem dX11_works_87 : decode cX11_works 87 = .ok (.getfield 29, 3) := by decide +kernel
theorem dX11_works_90 : decode cX11_works 90 = .ok (.iload 4, 2) := by decide +kernel
theorem dX11_works_92 : decode cX11_works 92 = .ok (.bipush 8, 2) := by decide +kernel
theorem dX11_works_94 : decode cX11_works 94 = .ok (.irem, 1) := by decide +kernel
theorem dX11_works_95 : decode cX11_works 95 = .ok (.iaload, 1) := by decide +kernel
theorem dX11_works_96 : decode cX11_works 96 = .ok (.invokevirtual 261, 3) := by decide +kernel
theorem dX11_works_99 : decode cX11_works 99 = .ok (.ifCond .eq 13, 3) := by decide +kernel
theorem dX11_works_102 : decode cX11_works 102 = .ok (.aload_n 0, 1) := by decide +kernel
theorem dX11_works_103 : decode cX11_works 103 = .ok (.getfield 74, 3) := by decide +kernel
theorem dX11_works_106 : decode cX11_works 106 = .ok (.iload_n 1, 1) := by decide +kernel
theorem dX11_works_107 : decode cX11_works 107 = .ok (.iconst 2, 1) := by decide +kernel
theorem dX11_works_108 : decode cX11_works 108 = .ok (.iastore, 1) := by decide +kernel
theorem dX11_works_109 : decode cX11_works 109 = .ok (.goto 125, 3) := by decide +kernel
theorem dX11_works_112 : decode cX11_works 112 = .ok (.iload 5, 2) := by decide +kernel
theorem dX11_works_114 : decode cX11_works 114 = .ok (.bipush (-4), 2) := by decide +kernel
theorem dX11_works_116 : decode cX11_works 116 = .ok (.if_icmp .eq 39, 3) := by decide +kernel
theorem dX11_works_119 : decode cX11_works 119 = .ok (.aload_n 0, 1) := by decide +kernel
theorem dX11_works_120 : decode cX11_works 120 = .ok (.getfield 65, 3) := by decide +kernel
theorem dX11_works_123 : decode cX11_works 123 = .ok (.iload 6, 2) := by decide +kernel
theorem dX11_works_125 : decode cX11_works 125 = .ok (.baload, 1) := by decide +kernel
theorem dX11_works_126 : decode cX11_works 126 = .ok (.ifCond .eq 29, 3) := by decide +kernel
theorem dX11_works_129 : decode cX11_works 129 = .ok (.aload_n 0, 1) := by decide +kernel
theorem dX11_works_130 : decode cX11_works 130 = .ok (.getfield 59, 3) := by decide +kernel
theorem dX11_works_133 : decode cX11_works 133 = .ok (.iload 6, 2) := by decide +kernel
theorem dX11_works_135 : decode cX11_works 135 = .ok (.iaload, 1) := by decide +kernel
theorem dX11_works_136 : decode cX11_works 136 = .ok (.aload_n 0, 1) := by decide +kernel
theorem dX11_works_137 : decode cX11_works 137 = .ok (.iload 4, 2) := by decide +kernel
theorem dX11_works_139 : decode cX11_works 139 = .ok (.invokevirtual 276, 3) := by decide +kernel
theorem dX11_works_142 : decode cX11_works 142 = .ok (.if_icmp .eq 13, 3) := by decide +kernel
theorem dX11_works_145 : decode cX11_works 145 = .ok (.aload_n 0, 1) := by decide +kernel
theorem dX11_works_146 : decode cX11_works 146 = .ok (.getfield 74, 3) := by decide +kernel
theorem dX11_works_149 : decode cX11_works 149 = .ok (.iload_n 1, 1) := by decide +kernel
theorem dX11_works_150 : decode cX11_works 150 = .ok (.iconst 1, 1) := by decide +kernel
theorem dX11_works_151 : decode cX11_works 151 = .ok (.iastore, 1) := by decide +kernel
theorem dX11_works_152 : decode cX11_works 152 = .ok (.goto 82, 3) := by decide +kernel
theorem dX11_works_155 : decode cX11_works 155 = .ok (.aload_n 0, 1) := by decide +kernel
theorem dX11_works_156 : decode cX11_works 156 = .ok (.getfield 74, 3) := by decide +kernel
theorem dX11_works_159 : decode cX11_works 159 = .ok (.iload_n 1, 1) := by decide +kernel
theorem dX11_works_160 : decode cX11_works 160 = .ok (.iconst 0, 1) := by decide +kernel
theorem dX11_works_161 : decode cX11_works 161 = .ok (.iastore, 1) := by decide +kernel
theorem dX11_works_162 : decode cX11_works 162 = .ok (.aload_n 0, 1) := by decide +kernel
theorem dX11_works_163 : decode cX11_works 163 = .ok (.getfield 71, 3) := by decide +kernel
theorem dX11_works_166 : decode cX11_works 166 = .ok (.iload_n 2, 1) := by decide +kernel
theorem dX11_works_167 : decode cX11_works 167 = .ok (.dup2, 1) := by decide +kernel
theorem dX11_works_168 : decode cX11_works 168 = .ok (.iaload, 1) := by decide +kernel
theorem dX11_works_169 : decode cX11_works 169 = .ok (.aload_n 0, 1) := by decide +kernel
theorem dX11_works_170 : decode cX11_works 170 = .ok (.getfield 20, 3) := by decide +kernel
theorem dX11_works_173 : decode cX11_works 173 = .ok (.bipush 6, 2) := by decide +kernel
theorem dX11_works_175 : decode cX11_works 175 = .ok (.iload_n 2, 1) := by decide +kernel
theorem dX11_works_176 : decode cX11_works 176 = .ok (.imul, 1) := by decide +kernel
theorem dX11_works_177 : decode cX11_works 177 = .ok (.iload 4, 2) := by decide +kernel
theorem dX11_works_179 : decode cX11_works 179 = .ok (.bipush 8, 2) := by decide +kernel
theorem dX11_works_181 : decode cX11_works 181 = .ok (.irem, 1) := by decide +kernel
theorem dX11_works_182 : decode cX11_works 182 = .ok (.iadd, 1) := by decide +kernel
theorem dX11_works_183 : decode cX11_works 183 = .ok (.iaload, 1) := by decide +kernel
theorem dX11_works_184 : decode cX11_works 184 = .ok (.iadd, 1) := by decide +kernel
theorem dX11_works_185 : decode cX11_works 185 = .ok (.iastore, 1) := by decide +kernel
theorem dX11_works_186 : decode cX11_works 186 = .ok (.aload_n 0, 1) := by decide +kernel
theorem dX11_works_187 : decode cX11_works 187 = .ok (.getfield 59, 3) := by decide +kernel
theorem dX11_works_190 : decode cX11_works 190 = .ok (.bipush 8, 2) := by decide +kernel
theorem dX11_works_192 : decode cX11_works 192 = .ok (.iload_n 2, 1) := by decide +kernel
theorem dX11_works_193 : decode cX11_works 193 = .ok (.imul, 1) := by decide +kernel
theorem dX11_works_194 : decode cX11_works 194 = .ok (.iload_n 3, 1) := by decide +kernel
theorem dX11_works_195 : decode cX11_works 195 = .ok (.iadd, 1) := by decide +kernel
theorem dX11_works_196 : decode cX11_works 196 = .ok (.iload 4, 2) := by decide +kernel
theorem dX11_works_198 : decode cX11_works 198 = .ok (.iastore, 1) := by decide +kernel
theorem dX11_works_199 : decode cX11_works 199 = .ok (.aload_n 0, 1) := by decide +kernel
theorem dX11_works_200 : decode cX11_works 200 = .ok (.getfield 65, 3) := by decide +kernel
theorem dX11_works_203 : decode cX11_works 203 = .ok (.bipush 8, 2) := by decide +kernel
theorem dX11_works_205 : decode cX11_works 205 = .ok (.iload_n 2, 1) := by decide +kernel
theorem dX11_works_206 : decode cX11_works 206 = .ok (.imul, 1) := by decide +kernel
theorem dX11_works_207 : decode cX11_works 207 = .ok (.iload_n 3, 1) := by decide +kernel
theorem dX11_works_208 : decode cX11_works 208 = .ok (.iadd, 1) := by decide +kernel
theorem dX11_works_209 : decode cX11_works 209 = .ok (.iconst 1, 1) := by decide +kernel
theorem dX11_works_210 : decode cX11_works 210 = .ok (.bastore, 1) := by decide +kernel
theorem dX11_works_211 : decode cX11_works 211 = .ok (.iload 5, 2) := by decide +kernel
theorem dX11_works_213 : decode cX11_works 213 = .ok (.bipush (-4), 2) := by decide +kernel
theorem dX11_works_215 : decode cX11_works 215 = .ok (.if_icmp .eq 19, 3) := by decide +kernel
theorem dX11_works_218 : decode cX11_works 218 = .ok (.aload_n 0, 1) := by decide +kernel
theorem dX11_works_219 : decode cX11_works 219 = .ok (.getfield 62, 3) := by decide +kernel
theorem dX11_works_222 : decode cX11_works 222 = .ok (.iload_n 2, 1) := by decide +kernel
theorem dX11_works_223 : decode cX11_works 223 = .ok (.ifCond .ne 7, 3) := by decide +kernel
theorem dX11_works_226 : decode cX11_works 226 = .ok (.iload_n 3, 1) := by decide +kernel
theorem dX11_works_227 : decode cX11_works 227 = .ok (.goto 5, 3) := by decide +kernel
theorem dX11_works_230 : decode cX11_works 230 = .ok (.iload 5, 2) := by decide +kernel
theorem dX11_works_232 : decode cX11_works 232 = .ok (.iload_n 2, 1) := by decide +kernel
theorem dX11_works_233 : decode cX11_works 233 = .ok (.iastore, 1) := by decide +kernel
theorem dX11_works_234 : decode cX11_works 234 = .ok (.return_, 1) := by decide +kernel
theorem dX11_goMonth_0 : decode cX11_goMonth 0 = .ok (.iconst 0, 1) := by decide +kernel
theorem dX11_goMonth_1 : decode cX11_goMonth 1 = .ok (.istore_n 2, 1) := by decide +kernel
theorem dX11_goMonth_2 : decode cX11_goMonth 2 = .ok (.iload_n 2, 1) := by decide +kernel
theorem dX11_goMonth_3 : decode cX11_goMonth 3 = .ok (.bipush 16, 2) := by decide +kernel
theorem dX11_goMonth_5 : decode cX11_goMonth 5 = .ok (.if_icmp .ge 16, 3) := by decide +kernel
theorem dX11_goMonth_8 : decode cX11_goMonth 8 = .ok (.aload_n 0, 1) := by decide +kernel
theorem dX11_goMonth_9 : decode cX11_goMonth 9 = .ok (.getfield 65, 3) := by decide +kernel
theorem dX11_goMonth_12 : decode cX11_goMonth 12 = .ok (.iload_n 2, 1) := by decide +kernel
theorem dX11_goMonth_13 : decode cX11_goMonth 13 = .ok (.iconst 0, 1) := by decide +kernel
theorem dX11_goMonth_14 : decode cX11_goMonth 14 = .ok (.bastore, 1) := by decide +kernel
theorem dX11_goMonth_15 : decode cX11_goMonth 15 = .ok (.iinc 2 1, 3) := by decide +kernel
theorem dX11_goMonth_18 : decode cX11_goMonth 18 = .ok (.goto (-16), 3) := by decide +kernel
theorem dX11_goMonth_21 : decode cX11_goMonth 21 = .ok (.iconst 0, 1) := by decide +kernel
theorem dX11_goMonth_22 : decode cX11_goMonth 22 = .ok (.istore_n 2, 1) := by decide +kernel
theorem dX11_goMonth_23 : decode cX11_goMonth 23 = .ok (.iload_n 2, 1) := by decide +kernel
theorem dX11_goMonth_24 : decode cX11_goMonth 24 = .ok (.aload_n 0, 1) := by decide +kernel
theorem dX11_goMonth_25 : decode cX11_goMonth 25 = .ok (.getfield 7, 3) := by decide +kernel
theorem dX11_goMonth_28 : decode cX11_goMonth 28 = .ok (.bipush 16, 2) := by decide +kernel
theorem dX11_goMonth_30 : decode cX11_goMonth 30 = .ok (.iaload, 1) := by decide +kernel
theorem dX11_goMonth_31 : decode cX11_goMonth 31 = .ok (.if_icmp .ge 29, 3) := by decide +kernel
theorem dX11_goMonth_34 : decode cX11_goMonth 34 = .ok (.aload_n 0, 1) := by decide +kernel
theorem dX11_goMonth_35 : decode cX11_goMonth 35 = .ok (.getfield 7, 3) := by decide +kernel
theorem dX11_goMonth_38 : decode cX11_goMonth 38 = .ok (.bipush 17, 2) := by decide +kernel
theorem dX11_goMonth_40 : decode cX11_goMonth 40 = .ok (.iconst 4, 1) := by decide +kernel
theorem dX11_goMonth_41 : decode cX11_goMonth 41 = .ok (.iload_n 2, 1) := by decide +kernel
theorem dX11_goMonth_42 : decode cX11_goMonth 42 = .ok (.imul, 1) := by decide +kernel
theorem dX11_goMonth_43 : decode cX11_goMonth 43 = .ok (.iadd, 1) := by decide +kernel
theorem dX11_goMonth_44 : decode cX11_goMonth 44 = .ok (.iaload, 1) := by decide +kernel
theorem dX11_goMonth_45 : decode cX11_goMonth 45 = .ok (.iload_n 1, 1) := by decide +kernel
theorem dX11_goMonth_46 : decode cX11_goMonth 46 = .ok (.if_icmp .ne 8, 3) := by decide +kernel
theorem dX11_goMonth_49 : decode cX11_goMonth 49 = .ok (.aload_n 0, 1) := by decide +kernel
theorem dX11_goMonth_50 : decode cX11_goMonth 50 = .ok (.iload_n 2, 1) := by decide +kernel
theorem dX11_goMonth_51 : decode cX11_goMonth 51 = .ok (.invokevirtual 301, 3) := by decide +kernel
theorem dX11_goMonth_54 : decode cX11_goMonth 54 = .ok (.iinc 2 1, 3) := by decide +kernel
theorem dX11_goMonth_57 : decode cX11_goMonth 57 = .ok (.goto (-34), 3) := by decide +kernel
theorem dX11_goMonth_60 : decode cX11_goMonth 60 = .ok (.iconst 0, 1) := by decide +kernel
theorem dX11_goMonth_61 : decode cX11_goMonth 61 = .ok (.istore_n 2, 1) := by decide +kernel
theorem dX11_goMonth_62 : decode cX11_goMonth 62 = .ok (.iload_n 2, 1) := by decide +kernel
theorem dX11_goMonth_63 : decode cX11_goMonth 63 = .ok (.aload_n 0, 1) := by decide +kernel
theorem dX11_goMonth_64 : decode cX11_goMonth 64 = .ok (.getfield 129, 3) := by decide +kernel
theorem dX11_goMonth_67 : decode cX11_goMonth 67 = .ok (.if_icmp .ge 186, 3) := by decide +kernel
theorem dX11_goMonth_70 : decode cX11_goMonth 70 = .ok (.aload_n 0, 1) := by decide +kernel
theorem dX11_goMonth_71 : decode cX11_goMonth 71 = .ok (.iconst 0, 1) := by decide +kernel
theorem dX11_goMonth_72 : decode cX11_goMonth 72 = .ok (.iload_n 2, 1) := by decide +kernel
theorem dX11_goMonth_73 : decode cX11_goMonth 73 = .ok (.invokevirtual 289, 3) := by decide +kernel
theorem dX11_goMonth_76 : decode cX11_goMonth 76 = .ok (.istore_n 3, 1) := by decide +kernel
theorem dX11_goMonth_77 : decode cX11_goMonth 77 = .ok (.iload_n 3, 1) := by decide +kernel
theorem dX11_goMonth_78 : decode cX11_goMonth 78 = .ok (.bipush (-4), 2) := by decide +kernel
theorem dX11_goMonth_80 : decode cX11_goMonth 80 = .ok (.if_icmp .eq 28, 3) := by decide +kernel
theorem dX11_goMonth_83 : decode cX11_goMonth 83 = .ok (.aload_n 0, 1) := by decide +kernel
theorem dX11_goMonth_84 : decode cX11_goMonth 84 = .ok (.getfield 65, 3) := by decide +kernel
theorem dX11_goMonth_87 : decode cX11_goMonth 87 = .ok (.iload_n 2, 1) := by decide +kernel
theorem dX11_goMonth_88 : decode cX11_goMonth 88 = .ok (.baload, 1) := by decide +kernel
theorem dX11_goMonth_89 : decode cX11_goMonth 89 = .ok (.ifCond .ne 15, 3) := by decide +kernel
theorem dX11_goMonth_92 : decode cX11_goMonth 92 = .ok (.aload_n 0, 1) := by decide +kernel
theorem dX11_goMonth_93 : decode cX11_goMonth 93 = .ok (.getfield 65, 3) := by decide +kernel
theorem dX11_goMonth_96 : decode cX11_goMonth 96 = .ok (.bipush 8, 2) := by decide +kernel
theorem dX11_goMonth_98 : decode cX11_goMonth 98 = .ok (.iload_n 3, 1) := by decide +kernel
theorem dX11_goMonth_99 : decode cX11_goMonth 99 = .ok (.iadd, 1) := by decide +kernel
theorem dX11_goMonth_100 : decode cX11_goMonth 100 = .ok (.baload, 1) := by decide +kernel
theorem dX11_goMonth_101 : decode cX11_goMonth 101 = .ok (.ifCond .eq 7, 3) := by decide +kernel
theorem dX11_goMonth_104 : decode cX11_goMonth 104 = .ok (.iconst 1, 1) := by decide +kernel
theorem dX11_goMonth_105 : decode cX11_goMonth 105 = .ok (.goto 4, 3) := by decide +kernel
theorem dX11_goMonth_108 : decode cX11_goMonth 108 = .ok (.iconst 0, 1) := by decide +kernel
theorem dX11_goMonth_109 : decode cX11_goMonth 109 = .ok (.istore 4, 2) := by decide +kernel
theorem dX11_goMonth_111 : decode cX11_goMonth 111 = .ok (.aload_n 0, 1) := by decide +kernel
theorem dX11_goMonth_112 : decode cX11_goMonth 112 = .ok (.iload_n 2, 1) := by decide +kernel
theorem dX11_goMonth_113 : decode cX11_goMonth 113 = .ok (.invokevirtual 292, 3) := by decide +kernel
theorem dX11_goMonth_116 : decode cX11_goMonth 116 = .ok (.ifCond .ne 106, 3) := by decide +kernel
theorem dX11_goMonth_119 : decode cX11_goMonth 119 = .ok (.iload 4, 2) := by decide +kernel
theorem dX11_goMonth_121 : decode cX11_goMonth 121 = .ok (.ifCond .ne 101, 3) := by decide +kernel
theorem dX11_goMonth_124 : decode cX11_goMonth 124 = .ok (.aload_n 0, 1) := by decide +kernel
theorem dX11_goMonth_125 : decode cX11_goMonth 125 = .ok (.getfield 68, 3) := by decide +kernel
theorem dX11_goMonth_128 : decode cX11_goMonth 128 = .ok (.iload_n 2, 1) := by decide +kernel
theorem dX11_goMonth_129 : decode cX11_goMonth 129 = .ok (.baload, 1) := by decide +kernel
theorem dX11_goMonth_130 : decode cX11_goMonth 130 = .ok (.ifCond .eq 92, 3) := by decide +kernel
theorem dX11_goMonth_133 : decode cX11_goMonth 133 = .ok (.iconst 1, 1) := by decide +kernel
theorem dX11_goMonth_134 : decode cX11_goMonth 134 = .ok (.aload_n 0, 1) := by decide +kernel
theorem dX11_goMonth_135 : decode cX11_goMonth 135 = .ok (.getfield 62, 3) := by decide +kernel
theorem dX11_goMonth_138 : decode cX11_goMonth 138 = .ok (.iload_n 2, 1) := by decide +kernel
theorem dX11_goMonth_139 : decode cX11_goMonth 139 = .ok (.iaload, 1) := by decide +kernel
theorem dX11_goMonth_140 : decode cX11_goMonth 140 = .ok (.isub, 1) := by decide +kernel
theorem dX11_goMonth_141 : decode cX11_goMonth 141 = .ok (.istore 5, 2) := by decide +kernel
theorem dX11_goMonth_143 : decode cX11_goMonth 143 = .ok (.iload 5, 2) := by decide +kernel
theorem dX11_goMonth_145 : decode cX11_goMonth 145 = .ok (.ifCond .ne 7, 3) := by decide +kernel
theorem dX11_goMonth_148 : decode cX11_goMonth 148 = .ok (.iload_n 2, 1) := by decide +kernel
theorem dX11_goMonth_149 : decode cX11_goMonth 149 = .ok (.goto 7, 3) := by decide +kernel
theorem dX11_goMonth_152 : decode cX11_goMonth 152 = .ok (.bipush 8, 2) := by decide +kernel
theorem dX11_goMonth_154 : decode cX11_goMonth 154 = .ok (.iload_n 3, 1) := by decide +kernel
theorem dX11_goMonth_155 : decode cX11_goMonth 155 = .ok (.iadd, 1) := by decide +kernel
theorem dX11_goMonth_156 : decode cX11_goMonth 156 = .ok (.istore 6, 2) := by decide +kernel
theorem dX11_goMonth_158 : decode cX11_goMonth 158 = .ok (.iload 5, 2) := by decide +kernel
theorem dX11_goMonth_160 : decode cX11_goMonth 160 = .ok (.ifCond .ne 10, 3) := by decide +kernel
end
section
theorem dX11_goMonth_163 : decode cX11_goMonth 163 = .ok (.bipush 8, 2) := by decide +kernel
theorem dX11_goMonth_165 : decode cX11_goMonth 165 = .ok (.iload_n 3, 1) := by decide +kernel
theorem dX11_goMonth_166 : decode cX11_goMonth 166 = .ok (.iadd, 1) := by decide +kernel
theorem dX11_goMonth_167 : decode cX11_goMonth 167 = .ok (.goto 4, 3) := by decide +kernel
theorem dX11_goMonth_170 : decode cX11_goMonth 170 = .ok (.iload_n 2, 1) := by decide +kernel
theorem dX11_goMonth_171 : decode cX11_goMonth 171 = .ok (.istore 7, 2) := by decide +kernel
theorem dX11_goMonth_173 : decode cX11_goMonth 173 = .ok (.aload_n 0, 1) := by decide +kernel
theorem dX11_goMonth_174 : decode cX11_goMonth 174 = .ok (.getfield 59, 3) := by decide +kernel
theorem dX11_goMonth_177 : decode cX11_goMonth 177 = .ok (.iload 6, 2) := by decide +kernel
theorem dX11_goMonth_179 : decode cX11_goMonth 179 = .ok (.aload_n 0, 1) := by decide +kernel
theorem dX11_goMonth_180 : decode cX11_goMonth 180 = .ok (.aload_n 0, 1) := by decide +kernel
theorem dX11_goMonth_181 : decode cX11_goMonth 181 = .ok (.getfield 59, 3) := by decide +kernel
theorem dX11_goMonth_184 : decode cX11_goMonth 184 = .ok (.iload 7, 2) := by decide +kernel
theorem dX11_goMonth_186 : decode cX11_goMonth 186 = .ok (.iaload, 1) := by decide +kernel
theorem dX11_goMonth_187 : decode cX11_goMonth 187 = .ok (.invokevirtual 276, 3) := by decide +kernel
theorem dX11_goMonth_190 : decode cX11_goMonth 190 = .ok (.iastore, 1) := by decide +kernel
theorem dX11_goMonth_191 : decode cX11_goMonth 191 = .ok (.aload_n 0, 1) := by decide +kernel
theorem dX11_goMonth_192 : decode cX11_goMonth 192 = .ok (.getfield 71, 3) := by decide +kernel
theorem dX11_goMonth_195 : decode cX11_goMonth 195 = .ok (.iload 5, 2) := by decide +kernel
theorem dX11_goMonth_197 : decode cX11_goMonth 197 = .ok (.dup2, 1) := by decide +kernel
theorem dX11_goMonth_198 : decode cX11_goMonth 198 = .ok (.iaload, 1) := by decide +kernel
theorem dX11_goMonth_199 : decode cX11_goMonth 199 = .ok (.aload_n 0, 1) := by decide +kernel
theorem dX11_goMonth_200 : decode cX11_goMonth 200 = .ok (.getfield 20, 3) := by decide +kernel
theorem dX11_goMonth_203 : decode cX11_goMonth 203 = .ok (.bipush 6, 2) := by decide +kernel
theorem dX11_goMonth_205 : decode cX11_goMonth 205 = .ok (.iload 5, 2) := by decide +kernel
theorem dX11_goMonth_207 : decode cX11_goMonth 207 = .ok (.imul, 1) := by decide +kernel
theorem dX11_goMonth_208 : decode cX11_goMonth 208 = .ok (.aload_n 0, 1) := by decide +kernel
theorem dX11_goMonth_209 : decode cX11_goMonth 209 = .ok (.getfield 59, 3) := by decide +kernel
theorem dX11_goMonth_212 : decode cX11_goMonth 212 = .ok (.iload 6, 2) := by decide +kernel
theorem dX11_goMonth_214 : decode cX11_goMonth 214 = .ok (.iaload, 1) := by decide +kernel
theorem dX11_goMonth_215 : decode cX11_goMonth 215 = .ok (.bipush 8, 2) := by decide +kernel
theorem dX11_goMonth_217 : decode cX11_goMonth 217 = .ok (.irem, 1) := by decide +kernel
theorem dX11_goMonth_218 : decode cX11_goMonth 218 = .ok (.iadd, 1) := by decide +kernel
theorem dX11_goMonth_219 : decode cX11_goMonth 219 = .ok (.iaload, 1) := by decide +kernel
theorem dX11_goMonth_220 : decode cX11_goMonth 220 = .ok (.iadd, 1) := by decide +kernel
theorem dX11_goMonth_221 : decode cX11_goMonth 221 = .ok (.iastore, 1) := by decide +kernel
theorem dX11_goMonth_222 : decode cX11_goMonth 222 = .ok (.aload_n 0, 1) := by decide +kernel
theorem dX11_goMonth_223 : decode cX11_goMonth 223 = .ok (.getfield 68, 3) := by decide +kernel
theorem dX11_goMonth_226 : decode cX11_goMonth 226 = .ok (.iload_n 2, 1) := by decide +kernel
theorem dX11_goMonth_227 : decode cX11_goMonth 227 = .ok (.aload_n 0, 1) := by decide +kernel
theorem dX11_goMonth_228 : decode cX11_goMonth 228 = .ok (.getfield 68, 3) := by decide +kernel
theorem dX11_goMonth_231 : decode cX11_goMonth 231 = .ok (.iload_n 2, 1) := by decide +kernel
theorem dX11_goMonth_232 : decode cX11_goMonth 232 = .ok (.baload, 1) := by decide +kernel
theorem dX11_goMonth_233 : decode cX11_goMonth 233 = .ok (.ifCond .ne 8, 3) := by decide +kernel
theorem dX11_goMonth_236 : decode cX11_goMonth 236 = .ok (.iload 4, 2) := by decide +kernel
theorem dX11_goMonth_238 : decode cX11_goMonth 238 = .ok (.ifCond .eq 7, 3) := by decide +kernel
theorem dX11_goMonth_241 : decode cX11_goMonth 241 = .ok (.iconst 1, 1) := by decide +kernel
theorem dX11_goMonth_242 : decode cX11_goMonth 242 = .ok (.goto 4, 3) := by decide +kernel
theorem dX11_goMonth_245 : decode cX11_goMonth 245 = .ok (.iconst 0, 1) := by decide +kernel
theorem dX11_goMonth_246 : decode cX11_goMonth 246 = .ok (.bastore, 1) := by decide +kernel
theorem dX11_goMonth_247 : decode cX11_goMonth 247 = .ok (.iinc 2 1, 3) := by decide +kernel
theorem dX11_goMonth_250 : decode cX11_goMonth 250 = .ok (.goto (-188), 3) := by decide +kernel
theorem dX11_goMonth_253 : decode cX11_goMonth 253 = .ok (.return_, 1) := by decide +kernel
theorem dX11_goRun_0 : decode cX11_goRun 0 = .ok (.aload_n 0, 1) := by decide +kernel
theorem dX11_goRun_1 : decode cX11_goRun 1 = .ok (.invokevirtual 304, 3) := by decide +kernel
theorem dX11_goRun_4 : decode cX11_goRun 4 = .ok (.iconst 0, 1) := by decide +kernel
theorem dX11_goRun_5 : decode cX11_goRun 5 = .ok (.istore_n 2, 1) := by decide +kernel
theorem dX11_goRun_6 : decode cX11_goRun 6 = .ok (.iload_n 2, 1) := by decide +kernel
theorem dX11_goRun_7 : decode cX11_goRun 7 = .ok (.iload_n 1, 1) := by decide +kernel
theorem dX11_goRun_8 : decode cX11_goRun 8 = .ok (.if_icmp .ge 14, 3) := by decide +kernel
theorem dX11_goRun_11 : decode cX11_goRun 11 = .ok (.aload_n 0, 1) := by decide +kernel
theorem dX11_goRun_12 : decode cX11_goRun 12 = .ok (.iload_n 2, 1) := by decide +kernel
theorem dX11_goRun_13 : decode cX11_goRun 13 = .ok (.invokevirtual 307, 3) := by decide +kernel
theorem dX11_goRun_16 : decode cX11_goRun 16 = .ok (.iinc 2 1, 3) := by decide +kernel
theorem dX11_goRun_19 : decode cX11_goRun 19 = .ok (.goto (-13), 3) := by decide +kernel
theorem dX11_goRun_22 : decode cX11_goRun 22 = .ok (.return_, 1) := by decide +kernel
theorem dX11_isMany_0 : decode cX11_isMany 0 = .ok (.iload_n 0, 1) := by decide +kernel
theorem dX11_isMany_1 : decode cX11_isMany 1 = .ok (.i2l, 1) := by decide +kernel
theorem dX11_isMany_2 : decode cX11_isMany 2 = .ok (.lconst 0, 1) := by decide +kernel
theorem dX11_isMany_3 : decode cX11_isMany 3 = .ok (.ldc2_w 310, 3) := by decide +kernel
theorem dX11_isMany_6 : decode cX11_isMany 6 = .ok (.invokestatic 146, 3) := by decide +kernel
theorem dX11_isMany_9 : decode cX11_isMany 9 = .ok (.ireturn, 1) := by decide +kernel
theorem dX11_after_0 : decode cX11_after 0 = .ok (.iload_n 1, 1) := by decide +kernel
theorem dX11_after_1 : decode cX11_after 1 = .ok (.invokestatic 312, 3) := by decide +kernel
theorem dX11_after_4 : decode cX11_after 4 = .ok (.ifCond .eq 12, 3) := by decide +kernel
theorem dX11_after_7 : decode cX11_after 7 = .ok (.aload_n 0, 1) := by decide +kernel
theorem dX11_after_8 : decode cX11_after 8 = .ok (.iload_n 2, 1) := by decide +kernel
theorem dX11_after_9 : decode cX11_after 9 = .ok (.iload_n 3, 1) := by decide +kernel
theorem dX11_after_10 : decode cX11_after 10 = .ok (.invokevirtual 282, 3) := by decide +kernel
theorem dX11_after_13 : decode cX11_after 13 = .ok (.ifCond .ne 5, 3) := by decide +kernel
theorem dX11_after_16 : decode cX11_after 16 = .ok (.iconst (-1), 1) := by decide +kernel
theorem dX11_after_17 : decode cX11_after 17 = .ok (.ireturn, 1) := by decide +kernel
theorem dX11_after_18 : decode cX11_after 18 = .ok (.aload_n 0, 1) := by decide +kernel
theorem dX11_after_19 : decode cX11_after 19 = .ok (.iload_n 1, 1) := by decide +kernel
theorem dX11_after_20 : decode cX11_after 20 = .ok (.invokevirtual 315, 3) := by decide +kernel
theorem dX11_after_23 : decode cX11_after 23 = .ok (.aload_n 0, 1) := by decide +kernel
theorem dX11_after_24 : decode cX11_after 24 = .ok (.getfield 59, 3) := by decide +kernel
theorem dX11_after_27 : decode cX11_after 27 = .ok (.bipush 8, 2) := by decide +kernel
theorem dX11_after_29 : decode cX11_after 29 = .ok (.iload_n 2, 1) := by decide +kernel
theorem dX11_after_30 : decode cX11_after 30 = .ok (.imul, 1) := by decide +kernel
theorem dX11_after_31 : decode cX11_after 31 = .ok (.iload_n 3, 1) := by decide +kernel
theorem dX11_after_32 : decode cX11_after 32 = .ok (.iadd, 1) := by decide +kernel
theorem dX11_after_33 : decode cX11_after 33 = .ok (.iaload, 1) := by decide +kernel
theorem dX11_after_34 : decode cX11_after 34 = .ok (.ireturn, 1) := by decide +kernel
theorem dX11_paid_0 : decode cX11_paid 0 = .ok (.iload_n 1, 1) := by decide +kernel
theorem dX11_paid_1 : decode cX11_paid 1 = .ok (.invokestatic 312, 3) := by decide +kernel
theorem dX11_paid_4 : decode cX11_paid 4 = .ok (.ifCond .eq 10, 3) := by decide +kernel
theorem dX11_paid_7 : decode cX11_paid 7 = .ok (.iload_n 2, 1) := by decide +kernel
theorem dX11_paid_8 : decode cX11_paid 8 = .ok (.invokestatic 279, 3) := by decide +kernel
theorem dX11_paid_11 : decode cX11_paid 11 = .ok (.ifCond .ne 5, 3) := by decide +kernel
theorem dX11_paid_14 : decode cX11_paid 14 = .ok (.iconst (-1), 1) := by decide +kernel
theorem dX11_paid_15 : decode cX11_paid 15 = .ok (.ireturn, 1) := by decide +kernel
theorem dX11_paid_16 : decode cX11_paid 16 = .ok (.aload_n 0, 1) := by decide +kernel
theorem dX11_paid_17 : decode cX11_paid 17 = .ok (.iload_n 1, 1) := by decide +kernel
theorem dX11_paid_18 : decode cX11_paid 18 = .ok (.invokevirtual 315, 3) := by decide +kernel
theorem dX11_paid_21 : decode cX11_paid 21 = .ok (.aload_n 0, 1) := by decide +kernel
theorem dX11_paid_22 : decode cX11_paid 22 = .ok (.getfield 71, 3) := by decide +kernel
theorem dX11_paid_25 : decode cX11_paid 25 = .ok (.iload_n 2, 1) := by decide +kernel
theorem dX11_paid_26 : decode cX11_paid 26 = .ok (.iaload, 1) := by decide +kernel
theorem dX11_paid_27 : decode cX11_paid 27 = .ok (.ireturn, 1) := by decide +kernel
theorem dX11_owes_0 : decode cX11_owes 0 = .ok (.iload_n 1, 1) := by decide +kernel
theorem dX11_owes_1 : decode cX11_owes 1 = .ok (.invokestatic 312, 3) := by decide +kernel
theorem dX11_owes_4 : decode cX11_owes 4 = .ok (.ifCond .eq 10, 3) := by decide +kernel
theorem dX11_owes_7 : decode cX11_owes 7 = .ok (.iload_n 2, 1) := by decide +kernel
theorem dX11_owes_8 : decode cX11_owes 8 = .ok (.invokestatic 279, 3) := by decide +kernel
theorem dX11_owes_11 : decode cX11_owes 11 = .ok (.ifCond .ne 5, 3) := by decide +kernel
theorem dX11_owes_14 : decode cX11_owes 14 = .ok (.iconst (-1), 1) := by decide +kernel
theorem dX11_owes_15 : decode cX11_owes 15 = .ok (.ireturn, 1) := by decide +kernel
theorem dX11_owes_16 : decode cX11_owes 16 = .ok (.aload_n 0, 1) := by decide +kernel
theorem dX11_owes_17 : decode cX11_owes 17 = .ok (.iload_n 1, 1) := by decide +kernel
theorem dX11_owes_18 : decode cX11_owes 18 = .ok (.invokevirtual 315, 3) := by decide +kernel
theorem dX11_owes_21 : decode cX11_owes 21 = .ok (.iconst 0, 1) := by decide +kernel
theorem dX11_owes_22 : decode cX11_owes 22 = .ok (.istore_n 3, 1) := by decide +kernel
theorem dX11_owes_23 : decode cX11_owes 23 = .ok (.iconst 0, 1) := by decide +kernel
theorem dX11_owes_24 : decode cX11_owes 24 = .ok (.istore 4, 2) := by decide +kernel
theorem dX11_owes_26 : decode cX11_owes 26 = .ok (.iload 4, 2) := by decide +kernel
theorem dX11_owes_28 : decode cX11_owes 28 = .ok (.aload_n 0, 1) := by decide +kernel
theorem dX11_owes_29 : decode cX11_owes 29 = .ok (.getfield 129, 3) := by decide +kernel
theorem dX11_owes_32 : decode cX11_owes 32 = .ok (.if_icmp .ge 52, 3) := by decide +kernel
theorem dX11_owes_35 : decode cX11_owes 35 = .ok (.aload_n 0, 1) := by decide +kernel
theorem dX11_owes_36 : decode cX11_owes 36 = .ok (.iload 4, 2) := by decide +kernel
theorem dX11_owes_38 : decode cX11_owes 38 = .ok (.invokevirtual 292, 3) := by decide +kernel
theorem dX11_owes_41 : decode cX11_owes 41 = .ok (.ifCond .ne 37, 3) := by decide +kernel
theorem dX11_owes_44 : decode cX11_owes 44 = .ok (.aload_n 0, 1) := by decide +kernel
theorem dX11_owes_45 : decode cX11_owes 45 = .ok (.getfield 62, 3) := by decide +kernel
theorem dX11_owes_48 : decode cX11_owes 48 = .ok (.iload 4, 2) := by decide +kernel
theorem dX11_owes_50 : decode cX11_owes 50 = .ok (.iaload, 1) := by decide +kernel
theorem dX11_owes_51 : decode cX11_owes 51 = .ok (.iconst 1, 1) := by decide +kernel
theorem dX11_owes_52 : decode cX11_owes 52 = .ok (.iload_n 2, 1) := by decide +kernel
theorem dX11_owes_53 : decode cX11_owes 53 = .ok (.isub, 1) := by decide +kernel
theorem dX11_owes_54 : decode cX11_owes 54 = .ok (.if_icmp .ne 24, 3) := by decide +kernel
theorem dX11_owes_57 : decode cX11_owes 57 = .ok (.iload_n 3, 1) := by decide +kernel
theorem dX11_owes_58 : decode cX11_owes 58 = .ok (.iconst 1, 1) := by decide +kernel
theorem dX11_owes_59 : decode cX11_owes 59 = .ok (.iload_n 2, 1) := by decide +kernel
theorem dX11_owes_60 : decode cX11_owes 60 = .ok (.ifCond .ne 8, 3) := by decide +kernel
theorem dX11_owes_63 : decode cX11_owes 63 = .ok (.iload 4, 2) := by decide +kernel
theorem dX11_owes_65 : decode cX11_owes 65 = .ok (.goto 10, 3) := by decide +kernel
theorem dX11_owes_68 : decode cX11_owes 68 = .ok (.aload_n 0, 1) := by decide +kernel
theorem dX11_owes_69 : decode cX11_owes 69 = .ok (.iconst 0, 1) := by decide +kernel
theorem dX11_owes_70 : decode cX11_owes 70 = .ok (.iload 4, 2) := by decide +kernel
theorem dX11_owes_72 : decode cX11_owes 72 = .ok (.invokevirtual 289, 3) := by decide +kernel
theorem dX11_owes_75 : decode cX11_owes 75 = .ok (.ishl, 1) := by decide +kernel
theorem dX11_owes_76 : decode cX11_owes 76 = .ok (.ior, 1) := by decide +kernel
theorem dX11_owes_77 : decode cX11_owes 77 = .ok (.istore_n 3, 1) := by decide +kernel
theorem dX11_owes_78 : decode cX11_owes 78 = .ok (.iinc 4 1, 3) := by decide +kernel
theorem dX11_owes_81 : decode cX11_owes 81 = .ok (.goto (-55), 3) := by decide +kernel
theorem dX11_owes_84 : decode cX11_owes 84 = .ok (.iload_n 3, 1) := by decide +kernel
theorem dX11_owes_85 : decode cX11_owes 85 = .ok (.ireturn, 1) := by decide +kernel
theorem dX11_fate_0 : decode cX11_fate 0 = .ok (.iload_n 1, 1) := by decide +kernel
theorem dX11_fate_1 : decode cX11_fate 1 = .ok (.i2l, 1) := by decide +kernel
theorem dX11_fate_2 : decode cX11_fate 2 = .ok (.lconst 0, 1) := by decide +kernel
theorem dX11_fate_3 : decode cX11_fate 3 = .ok (.aload_n 0, 1) := by decide +kernel
theorem dX11_fate_4 : decode cX11_fate 4 = .ok (.getfield 7, 3) := by decide +kernel
theorem dX11_fate_7 : decode cX11_fate 7 = .ok (.bipush 16, 2) := by decide +kernel
theorem dX11_fate_9 : decode cX11_fate 9 = .ok (.iaload, 1) := by decide +kernel
theorem dX11_fate_10 : decode cX11_fate 10 = .ok (.iconst 1, 1) := by decide +kernel
theorem dX11_fate_11 : decode cX11_fate 11 = .ok (.isub, 1) := by decide +kernel
theorem dX11_fate_12 : decode cX11_fate 12 = .ok (.i2l, 1) := by decide +kernel
theorem dX11_fate_13 : decode cX11_fate 13 = .ok (.invokestatic 146, 3) := by decide +kernel
theorem dX11_fate_16 : decode cX11_fate 16 = .ok (.ifCond .ne 5, 3) := by decide +kernel
theorem dX11_fate_19 : decode cX11_fate 19 = .ok (.iconst (-1), 1) := by decide +kernel
theorem dX11_fate_20 : decode cX11_fate 20 = .ok (.ireturn, 1) := by decide +kernel
theorem dX11_fate_21 : decode cX11_fate 21 = .ok (.aload_n 0, 1) := by decide +kernel
theorem dX11_fate_22 : decode cX11_fate 22 = .ok (.bipush 24, 2) := by decide +kernel
theorem dX11_fate_24 : decode cX11_fate 24 = .ok (.invokevirtual 315, 3) := by decide +kernel
theorem dX11_fate_27 : decode cX11_fate 27 = .ok (.aload_n 0, 1) := by decide +kernel
theorem dX11_fate_28 : decode cX11_fate 28 = .ok (.getfield 74, 3) := by decide +kernel
theorem dX11_fate_31 : decode cX11_fate 31 = .ok (.iload_n 1, 1) := by decide +kernel
theorem dX11_fate_32 : decode cX11_fate 32 = .ok (.iaload, 1) := by decide +kernel
theorem dX11_fate_33 : decode cX11_fate 33 = .ok (.ireturn, 1) := by decide +kernel
theorem dX11_uneven_0 : decode cX11_uneven 0 = .ok (.iload_n 1, 1) := by decide +kernel
theorem dX11_uneven_1 : decode cX11_uneven 1 = .ok (.i2l, 1) := by decide +kernel
theorem dX11_uneven_2 : decode cX11_uneven 2 = .ok (.lconst 0, 1) := by decide +kernel
theorem dX11_uneven_3 : decode cX11_uneven 3 = .ok (.lconst 1, 1) := by decide +kernel
theorem dX11_uneven_4 : decode cX11_uneven 4 = .ok (.invokestatic 146, 3) := by decide +kernel
theorem dX11_uneven_7 : decode cX11_uneven 7 = .ok (.ifCond .ne 5, 3) := by decide +kernel
theorem dX11_uneven_10 : decode cX11_uneven 10 = .ok (.iconst (-1), 1) := by decide +kernel
theorem dX11_uneven_11 : decode cX11_uneven 11 = .ok (.ireturn, 1) := by decide +kernel
theorem dX11_uneven_12 : decode cX11_uneven 12 = .ok (.aload_n 0, 1) := by decide +kernel
theorem dX11_uneven_13 : decode cX11_uneven 13 = .ok (.invokevirtual 304, 3) := by decide +kernel
theorem dX11_uneven_16 : decode cX11_uneven 16 = .ok (.iconst 0, 1) := by decide +kernel
theorem dX11_uneven_17 : decode cX11_uneven 17 = .ok (.istore_n 2, 1) := by decide +kernel
theorem dX11_uneven_18 : decode cX11_uneven 18 = .ok (.iload_n 2, 1) := by decide +kernel
theorem dX11_uneven_19 : decode cX11_uneven 19 = .ok (.bipush 24, 2) := by decide +kernel
theorem dX11_uneven_21 : decode cX11_uneven 21 = .ok (.if_icmp .ge 52, 3) := by decide +kernel
theorem dX11_uneven_24 : decode cX11_uneven 24 = .ok (.aload_n 0, 1) := by decide +kernel
theorem dX11_uneven_25 : decode cX11_uneven 25 = .ok (.iload_n 2, 1) := by decide +kernel
theorem dX11_uneven_26 : decode cX11_uneven 26 = .ok (.invokevirtual 307, 3) := by decide +kernel
theorem dX11_uneven_29 : decode cX11_uneven 29 = .ok (.aload_n 0, 1) := by decide +kernel
theorem dX11_uneven_30 : decode cX11_uneven 30 = .ok (.invokevirtual 298, 3) := by decide +kernel
theorem dX11_uneven_33 : decode cX11_uneven 33 = .ok (.istore_n 3, 1) := by decide +kernel
theorem dX11_uneven_34 : decode cX11_uneven 34 = .ok (.iload_n 3, 1) := by decide +kernel
theorem dX11_uneven_35 : decode cX11_uneven 35 = .ok (.ifCond .eq 32, 3) := by decide +kernel
theorem dX11_uneven_38 : decode cX11_uneven 38 = .ok (.iconst 0, 1) := by decide +kernel
theorem dX11_uneven_39 : decode cX11_uneven 39 = .ok (.istore 4, 2) := by decide +kernel
theorem dX11_uneven_41 : decode cX11_uneven 41 = .ok (.iload_n 3, 1) := by decide +kernel
theorem dX11_uneven_42 : decode cX11_uneven 42 = .ok (.iload 4, 2) := by decide +kernel
theorem dX11_uneven_44 : decode cX11_uneven 44 = .ok (.ishr, 1) := by decide +kernel
theorem dX11_uneven_45 : decode cX11_uneven 45 = .ok (.iconst 1, 1) := by decide +kernel
theorem dX11_uneven_46 : decode cX11_uneven 46 = .ok (.iand, 1) := by decide +kernel
theorem dX11_uneven_47 : decode cX11_uneven 47 = .ok (.ifCond .ne 9, 3) := by decide +kernel
theorem dX11_uneven_50 : decode cX11_uneven 50 = .ok (.iinc 4 1, 3) := by decide +kernel
theorem dX11_uneven_53 : decode cX11_uneven 53 = .ok (.goto (-12), 3) := by decide +kernel
theorem dX11_uneven_56 : decode cX11_uneven 56 = .ok (.iload_n 1, 1) := by decide +kernel
theorem dX11_uneven_57 : decode cX11_uneven 57 = .ok (.ifCond .ne 7, 3) := by decide +kernel
theorem dX11_uneven_60 : decode cX11_uneven 60 = .ok (.iload_n 2, 1) := by decide +kernel
theorem dX11_uneven_61 : decode cX11_uneven 61 = .ok (.goto 5, 3) := by decide +kernel
theorem dX11_uneven_64 : decode cX11_uneven 64 = .ok (.iload 4, 2) := by decide +kernel
theorem dX11_uneven_66 : decode cX11_uneven 66 = .ok (.ireturn, 1) := by decide +kernel
theorem dX11_uneven_67 : decode cX11_uneven 67 = .ok (.iinc 2 1, 3) := by decide +kernel
theorem dX11_uneven_70 : decode cX11_uneven 70 = .ok (.goto (-52), 3) := by decide +kernel
theorem dX11_uneven_73 : decode cX11_uneven 73 = .ok (.bipush (-4), 2) := by decide +kernel
theorem dX11_uneven_75 : decode cX11_uneven 75 = .ok (.ireturn, 1) := by decide +kernel
theorem dX11_go_0 : decode cX11_go 0 = .ok (.aload_n 0, 1) := by decide +kernel
theorem dX11_go_1 : decode cX11_go 1 = .ok (.bipush 24, 2) := by decide +kernel
theorem dX11_go_3 : decode cX11_go 3 = .ok (.invokevirtual 315, 3) := by decide +kernel
theorem dX11_go_6 : decode cX11_go 6 = .ok (.iconst 0, 1) := by decide +kernel
theorem dX11_go_7 : decode cX11_go 7 = .ok (.istore_n 1, 1) := by decide +kernel
theorem dX11_go_8 : decode cX11_go 8 = .ok (.iconst 0, 1) := by decide +kernel
theorem dX11_go_9 : decode cX11_go 9 = .ok (.istore_n 2, 1) := by decide +kernel
theorem dX11_go_10 : decode cX11_go 10 = .ok (.iload_n 2, 1) := by decide +kernel
theorem dX11_go_11 : decode cX11_go 11 = .ok (.aload_n 0, 1) := by decide +kernel
theorem dX11_go_12 : decode cX11_go 12 = .ok (.getfield 7, 3) := by decide +kernel
theorem dX11_go_15 : decode cX11_go 15 = .ok (.bipush 16, 2) := by decide +kernel
theorem dX11_go_17 : decode cX11_go 17 = .ok (.iaload, 1) := by decide +kernel
theorem dX11_go_18 : decode cX11_go 18 = .ok (.if_icmp .ge 29, 3) := by decide +kernel
theorem dX11_go_21 : decode cX11_go 21 = .ok (.iload_n 1, 1) := by decide +kernel
theorem dX11_go_22 : decode cX11_go 22 = .ok (.aload_n 0, 1) := by decide +kernel
theorem dX11_go_23 : decode cX11_go 23 = .ok (.getfield 74, 3) := by decide +kernel
theorem dX11_go_26 : decode cX11_go 26 = .ok (.iload_n 2, 1) := by decide +kernel
theorem dX11_go_27 : decode cX11_go 27 = .ok (.iaload, 1) := by decide +kernel
theorem dX11_go_28 : decode cX11_go 28 = .ok (.ifCond .ne 7, 3) := by decide +kernel
theorem dX11_go_31 : decode cX11_go 31 = .ok (.iconst 1, 1) := by decide +kernel
theorem dX11_go_32 : decode cX11_go 32 = .ok (.goto 4, 3) := by decide +kernel
theorem dX11_go_35 : decode cX11_go 35 = .ok (.iconst 0, 1) := by decide +kernel
theorem dX11_go_36 : decode cX11_go 36 = .ok (.invokestatic 265, 3) := by decide +kernel
theorem dX11_go_39 : decode cX11_go 39 = .ok (.iadd, 1) := by decide +kernel
theorem dX11_go_40 : decode cX11_go 40 = .ok (.istore_n 1, 1) := by decide +kernel
theorem dX11_go_41 : decode cX11_go 41 = .ok (.iinc 2 1, 3) := by decide +kernel
theorem dX11_go_44 : decode cX11_go 44 = .ok (.goto (-34), 3) := by decide +kernel
theorem dX11_go_47 : decode cX11_go 47 = .ok (.iconst 0, 1) := by decide +kernel
theorem dX11_go_48 : decode cX11_go 48 = .ok (.istore_n 2, 1) := by decide +kernel
theorem dX11_go_49 : decode cX11_go 49 = .ok (.iload_n 2, 1) := by decide +kernel
theorem dX11_go_50 : decode cX11_go 50 = .ok (.bipush 16, 2) := by decide +kernel
theorem dX11_go_52 : decode cX11_go 52 = .ok (.if_icmp .ge 21, 3) := by decide +kernel
theorem dX11_go_55 : decode cX11_go 55 = .ok (.aload_n 0, 1) := by decide +kernel
theorem dX11_go_56 : decode cX11_go 56 = .ok (.getfield 7, 3) := by decide +kernel
theorem dX11_go_59 : decode cX11_go 59 = .ok (.iload_n 2, 1) := by decide +kernel
theorem dX11_go_60 : decode cX11_go 60 = .ok (.aload_n 0, 1) := by decide +kernel
theorem dX11_go_61 : decode cX11_go 61 = .ok (.getfield 59, 3) := by decide +kernel
theorem dX11_go_64 : decode cX11_go 64 = .ok (.iload_n 2, 1) := by decide +kernel
theorem dX11_go_65 : decode cX11_go 65 = .ok (.iaload, 1) := by decide +kernel
theorem dX11_go_66 : decode cX11_go 66 = .ok (.iastore, 1) := by decide +kernel
theorem dX11_go_67 : decode cX11_go 67 = .ok (.iinc 2 1, 3) := by decide +kernel
theorem dX11_go_70 : decode cX11_go 70 = .ok (.goto (-21), 3) := by decide +kernel
theorem dX11_go_73 : decode cX11_go 73 = .ok (.aload_n 0, 1) := by decide +kernel
theorem dX11_go_74 : decode cX11_go 74 = .ok (.getfield 7, 3) := by decide +kernel
theorem dX11_go_77 : decode cX11_go 77 = .ok (.bipush 16, 2) := by decide +kernel
theorem dX11_go_79 : decode cX11_go 79 = .ok (.iconst 0, 1) := by decide +kernel
theorem dX11_go_80 : decode cX11_go 80 = .ok (.iastore, 1) := by decide +kernel
theorem dX11_go_81 : decode cX11_go 81 = .ok (.iload_n 1, 1) := by decide +kernel
theorem dX11_go_82 : decode cX11_go 82 = .ok (.ireturn, 1) := by decide +kernel
theorem dX11_plot_0 : decode cX11_plot 0 = .ok (.aload_n 0, 1) := by decide +kernel
theorem dX11_plot_1 : decode cX11_plot 1 = .ok (.getfield 7, 3) := by decide +kernel
theorem dX11_plot_4 : decode cX11_plot 4 = .ok (.bipush 16, 2) := by decide +kernel
theorem dX11_plot_6 : decode cX11_plot 6 = .ok (.iaload, 1) := by decide +kernel
theorem dX11_plot_7 : decode cX11_plot 7 = .ok (.istore 5, 2) := by decide +kernel
theorem dX11_plot_9 : decode cX11_plot 9 = .ok (.bipush 17, 2) := by decide +kernel
theorem dX11_plot_11 : decode cX11_plot 11 = .ok (.iconst 4, 1) := by decide +kernel
theorem dX11_plot_12 : decode cX11_plot 12 = .ok (.iload 5, 2) := by decide +kernel
theorem dX11_plot_14 : decode cX11_plot 14 = .ok (.imul, 1) := by decide +kernel
theorem dX11_plot_15 : decode cX11_plot 15 = .ok (.iadd, 1) := by decide +kernel
theorem dX11_plot_16 : decode cX11_plot 16 = .ok (.istore 6, 2) := by decide +kernel
theorem dX11_plot_18 : decode cX11_plot 18 = .ok (.iload_n 1, 1) := by decide +kernel
theorem dX11_plot_19 : decode cX11_plot 19 = .ok (.i2l, 1) := by decide +kernel
theorem dX11_plot_20 : decode cX11_plot 20 = .ok (.iload 5, 2) := by decide +kernel
theorem dX11_plot_22 : decode cX11_plot 22 = .ok (.ifCond .ne 7, 3) := by decide +kernel
theorem dX11_plot_25 : decode cX11_plot 25 = .ok (.lconst 0, 1) := by decide +kernel
theorem dX11_plot_26 : decode cX11_plot 26 = .ok (.goto 13, 3) := by decide +kernel
theorem dX11_plot_29 : decode cX11_plot 29 = .ok (.aload_n 0, 1) := by decide +kernel
theorem dX11_plot_30 : decode cX11_plot 30 = .ok (.getfield 7, 3) := by decide +kernel
theorem dX11_plot_33 : decode cX11_plot 33 = .ok (.iload 6, 2) := by decide +kernel
theorem dX11_plot_35 : decode cX11_plot 35 = .ok (.iconst 4, 1) := by decide +kernel
theorem dX11_plot_36 : decode cX11_plot 36 = .ok (.isub, 1) := by decide +kernel
theorem dX11_plot_37 : decode cX11_plot 37 = .ok (.iaload, 1) := by decide +kernel
theorem dX11_plot_38 : decode cX11_plot 38 = .ok (.i2l, 1) := by decide +kernel
theorem dX11_plot_39 : decode cX11_plot 39 = .ok (.ldc2_w 318, 3) := by decide +kernel
theorem dX11_plot_42 : decode cX11_plot 42 = .ok (.invokestatic 146, 3) := by decide +kernel
theorem dX11_plot_45 : decode cX11_plot 45 = .ok (.ifCond .eq 20, 3) := by decide +kernel
theorem dX11_plot_48 : decode cX11_plot 48 = .ok (.aload_n 0, 1) := by decide +kernel
theorem dX11_plot_49 : decode cX11_plot 49 = .ok (.iload_n 2, 1) := by decide +kernel
theorem dX11_plot_50 : decode cX11_plot 50 = .ok (.iload_n 3, 1) := by decide +kernel
theorem dX11_plot_51 : decode cX11_plot 51 = .ok (.invokevirtual 282, 3) := by decide +kernel
theorem dX11_plot_54 : decode cX11_plot 54 = .ok (.ifCond .eq 11, 3) := by decide +kernel
theorem dX11_plot_57 : decode cX11_plot 57 = .ok (.iload 4, 2) := by decide +kernel
theorem dX11_plot_59 : decode cX11_plot 59 = .ok (.invokestatic 273, 3) := by decide +kernel
theorem dX11_plot_62 : decode cX11_plot 62 = .ok (.ifCond .ne 5, 3) := by decide +kernel
theorem dX11_plot_65 : decode cX11_plot 65 = .ok (.iconst (-1), 1) := by decide +kernel
theorem dX11_plot_66 : decode cX11_plot 66 = .ok (.ireturn, 1) := by decide +kernel
theorem dX11_plot_67 : decode cX11_plot 67 = .ok (.iload 5, 2) := by decide +kernel
theorem dX11_plot_69 : decode cX11_plot 69 = .ok (.bipush 12, 2) := by decide +kernel
theorem dX11_plot_71 : decode cX11_plot 71 = .ok (.if_icmp .ne 6, 3) := by decide +kernel
theorem dX11_plot_74 : decode cX11_plot 74 = .ok (.bipush (-3), 2) := by decide +kernel
theorem dX11_plot_76 : decode cX11_plot 76 = .ok (.ireturn, 1) := by decide +kernel
theorem dX11_plot_77 : decode cX11_plot 77 = .ok (.aload_n 0, 1) := by decide +kernel
theorem dX11_plot_78 : decode cX11_plot 78 = .ok (.getfield 7, 3) := by decide +kernel
theorem dX11_plot_81 : decode cX11_plot 81 = .ok (.iload 6, 2) := by decide +kernel
theorem dX11_plot_83 : decode cX11_plot 83 = .ok (.iload_n 1, 1) := by decide +kernel
theorem dX11_plot_84 : decode cX11_plot 84 = .ok (.iastore, 1) := by decide +kernel
theorem dX11_plot_85 : decode cX11_plot 85 = .ok (.aload_n 0, 1) := by decide +kernel
theorem dX11_plot_86 : decode cX11_plot 86 = .ok (.getfield 7, 3) := by decide +kernel
theorem dX11_plot_89 : decode cX11_plot 89 = .ok (.iload 6, 2) := by decide +kernel
theorem dX11_plot_91 : decode cX11_plot 91 = .ok (.iconst 1, 1) := by decide +kernel
theorem dX11_plot_92 : decode cX11_plot 92 = .ok (.iadd, 1) := by decide +kernel
theorem dX11_plot_93 : decode cX11_plot 93 = .ok (.iload_n 2, 1) := by decide +kernel
theorem dX11_plot_94 : decode cX11_plot 94 = .ok (.iastore, 1) := by decide +kernel
theorem dX11_plot_95 : decode cX11_plot 95 = .ok (.aload_n 0, 1) := by decide +kernel
theorem dX11_plot_96 : decode cX11_plot 96 = .ok (.getfield 7, 3) := by decide +kernel
theorem dX11_plot_99 : decode cX11_plot 99 = .ok (.iload 6, 2) := by decide +kernel
theorem dX11_plot_101 : decode cX11_plot 101 = .ok (.iconst 2, 1) := by decide +kernel
theorem dX11_plot_102 : decode cX11_plot 102 = .ok (.iadd, 1) := by decide +kernel
theorem dX11_plot_103 : decode cX11_plot 103 = .ok (.iload_n 3, 1) := by decide +kernel
theorem dX11_plot_104 : decode cX11_plot 104 = .ok (.iastore, 1) := by decide +kernel
theorem dX11_plot_105 : decode cX11_plot 105 = .ok (.aload_n 0, 1) := by decide +kernel
theorem dX11_plot_106 : decode cX11_plot 106 = .ok (.getfield 7, 3) := by decide +kernel
theorem dX11_plot_109 : decode cX11_plot 109 = .ok (.iload 6, 2) := by decide +kernel
theorem dX11_plot_111 : decode cX11_plot 111 = .ok (.iconst 3, 1) := by decide +kernel
theorem dX11_plot_112 : decode cX11_plot 112 = .ok (.iadd, 1) := by decide +kernel
theorem dX11_plot_113 : decode cX11_plot 113 = .ok (.iload 4, 2) := by decide +kernel
theorem dX11_plot_115 : decode cX11_plot 115 = .ok (.iastore, 1) := by decide +kernel
theorem dX11_plot_116 : decode cX11_plot 116 = .ok (.aload_n 0, 1) := by decide +kernel
theorem dX11_plot_117 : decode cX11_plot 117 = .ok (.getfield 7, 3) := by decide +kernel
theorem dX11_plot_120 : decode cX11_plot 120 = .ok (.bipush 16, 2) := by decide +kernel
theorem dX11_plot_122 : decode cX11_plot 122 = .ok (.iload 5, 2) := by decide +kernel
theorem dX11_plot_124 : decode cX11_plot 124 = .ok (.iconst 1, 1) := by decide +kernel
theorem dX11_plot_125 : decode cX11_plot 125 = .ok (.iadd, 1) := by decide +kernel
theorem dX11_plot_126 : decode cX11_plot 126 = .ok (.iastore, 1) := by decide +kernel
theorem dX11_plot_127 : decode cX11_plot 127 = .ok (.iload 5, 2) := by decide +kernel
theorem dX11_plot_129 : decode cX11_plot 129 = .ok (.iconst 1, 1) := by decide +kernel
theorem dX11_plot_130 : decode cX11_plot 130 = .ok (.iadd, 1) := by decide +kernel
theorem dX11_plot_131 : decode cX11_plot 131 = .ok (.ireturn, 1) := by decide +kernel
theorem dX11_kindThere_0 : decode cX11_kindThere 0 = .ok (.aload_n 0, 1) := by decide +kernel
theorem dX11_kindThere_1 : decode cX11_kindThere 1 = .ok (.getfield 7, 3) := by decide +kernel
theorem dX11_kindThere_4 : decode cX11_kindThere 4 = .ok (.bipush 8, 2) := by decide +kernel
theorem dX11_kindThere_6 : decode cX11_kindThere 6 = .ok (.iload_n 1, 1) := by decide +kernel
theorem dX11_kindThere_7 : decode cX11_kindThere 7 = .ok (.imul, 1) := by decide +kernel
theorem dX11_kindThere_8 : decode cX11_kindThere 8 = .ok (.iload_n 2, 1) := by decide +kernel
theorem dX11_kindThere_9 : decode cX11_kindThere 9 = .ok (.iadd, 1) := by decide +kernel
theorem dX11_kindThere_10 : decode cX11_kindThere 10 = .ok (.iaload, 1) := by decide +kernel
theorem dX11_kindThere_11 : decode cX11_kindThere 11 = .ok (.bipush 8, 2) := by decide +kernel
theorem dX11_kindThere_13 : decode cX11_kindThere 13 = .ok (.irem, 1) := by decide +kernel
theorem dX11_kindThere_14 : decode cX11_kindThere 14 = .ok (.ireturn, 1) := by decide +kernel
theorem dX11_gainOf_0 : decode cX11_gainOf 0 = .ok (.aload_n 0, 1) := by decide +kernel
theorem dX11_gainOf_1 : decode cX11_gainOf 1 = .ok (.getfield 23, 3) := by decide +kernel
theorem dX11_gainOf_4 : decode cX11_gainOf 4 = .ok (.bipush 6, 2) := by decide +kernel
theorem dX11_gainOf_6 : decode cX11_gainOf 6 = .ok (.iload_n 1, 1) := by decide +kernel
theorem dX11_gainOf_7 : decode cX11_gainOf 7 = .ok (.imul, 1) := by decide +kernel
theorem dX11_gainOf_8 : decode cX11_gainOf 8 = .ok (.iload_n 3, 1) := by decide +kernel
theorem dX11_gainOf_9 : decode cX11_gainOf 9 = .ok (.iadd, 1) := by decide +kernel
theorem dX11_gainOf_10 : decode cX11_gainOf 10 = .ok (.iaload, 1) := by decide +kernel
theorem dX11_gainOf_11 : decode cX11_gainOf 11 = .ok (.aload_n 0, 1) := by decide +kernel
theorem dX11_gainOf_12 : decode cX11_gainOf 12 = .ok (.getfield 20, 3) := by decide +kernel
theorem dX11_gainOf_15 : decode cX11_gainOf 15 = .ok (.bipush 6, 2) := by decide +kernel
theorem dX11_gainOf_17 : decode cX11_gainOf 17 = .ok (.iload_n 1, 1) := by decide +kernel
theorem dX11_gainOf_18 : decode cX11_gainOf 18 = .ok (.imul, 1) := by decide +kernel
theorem dX11_gainOf_19 : decode cX11_gainOf 19 = .ok (.iload_n 3, 1) := by decide +kernel
theorem dX11_gainOf_20 : decode cX11_gainOf 20 = .ok (.iadd, 1) := by decide +kernel
theorem dX11_gainOf_21 : decode cX11_gainOf 21 = .ok (.iaload, 1) := by decide +kernel
theorem dX11_gainOf_22 : decode cX11_gainOf 22 = .ok (.isub, 1) := by decide +kernel
theorem dX11_gainOf_23 : decode cX11_gainOf 23 = .ok (.aload_n 0, 1) := by decide +kernel
theorem dX11_gainOf_24 : decode cX11_gainOf 24 = .ok (.getfield 23, 3) := by decide +kernel
theorem dX11_gainOf_27 : decode cX11_gainOf 27 = .ok (.bipush 6, 2) := by decide +kernel
theorem dX11_gainOf_29 : decode cX11_gainOf 29 = .ok (.iload_n 1, 1) := by decide +kernel
theorem dX11_gainOf_30 : decode cX11_gainOf 30 = .ok (.imul, 1) := by decide +kernel
theorem dX11_gainOf_31 : decode cX11_gainOf 31 = .ok (.aload_n 0, 1) := by decide +kernel
theorem dX11_gainOf_32 : decode cX11_gainOf 32 = .ok (.iload_n 1, 1) := by decide +kernel
theorem dX11_gainOf_33 : decode cX11_gainOf 33 = .ok (.iload_n 2, 1) := by decide +kernel
theorem dX11_gainOf_34 : decode cX11_gainOf 34 = .ok (.invokevirtual 320, 3) := by decide +kernel
theorem dX11_gainOf_37 : decode cX11_gainOf 37 = .ok (.iadd, 1) := by decide +kernel
theorem dX11_gainOf_38 : decode cX11_gainOf 38 = .ok (.iaload, 1) := by decide +kernel
theorem dX11_gainOf_39 : decode cX11_gainOf 39 = .ok (.isub, 1) := by decide +kernel
theorem dX11_gainOf_40 : decode cX11_gainOf 40 = .ok (.ireturn, 1) := by decide +kernel
theorem dX11_gain_0 : decode cX11_gain 0 = .ok (.aload_n 0, 1) := by decide +kernel
theorem dX11_gain_1 : decode cX11_gain 1 = .ok (.iload_n 1, 1) := by decide +kernel
theorem dX11_gain_2 : decode cX11_gain 2 = .ok (.iload_n 2, 1) := by decide +kernel
theorem dX11_gain_3 : decode cX11_gain 3 = .ok (.invokevirtual 282, 3) := by decide +kernel
theorem dX11_gain_6 : decode cX11_gain 6 = .ok (.ifCond .eq 29, 3) := by decide +kernel
theorem dX11_gain_9 : decode cX11_gain 9 = .ok (.iload_n 3, 1) := by decide +kernel
theorem dX11_gain_10 : decode cX11_gain 10 = .ok (.i2l, 1) := by decide +kernel
theorem dX11_gain_11 : decode cX11_gain 11 = .ok (.lconst 1, 1) := by decide +kernel
theorem dX11_gain_12 : decode cX11_gain 12 = .ok (.ldc2_w 255, 3) := by decide +kernel
theorem dX11_gain_15 : decode cX11_gain 15 = .ok (.invokestatic 146, 3) := by decide +kernel
theorem dX11_gain_18 : decode cX11_gain 18 = .ok (.ifCond .eq 17, 3) := by decide +kernel
theorem dX11_gain_21 : decode cX11_gain 21 = .ok (.aload_n 0, 1) := by decide +kernel
theorem dX11_gain_22 : decode cX11_gain 22 = .ok (.iload_n 1, 1) := by decide +kernel
theorem dX11_gain_23 : decode cX11_gain 23 = .ok (.iload_n 2, 1) := by decide +kernel
theorem dX11_gain_24 : decode cX11_gain 24 = .ok (.iload_n 3, 1) := by decide +kernel
theorem dX11_gain_25 : decode cX11_gain 25 = .ok (.invokevirtual 323, 3) := by decide +kernel
theorem dX11_gain_28 : decode cX11_gain 28 = .ok (.sipush 1000, 3) := by decide +kernel
theorem dX11_gain_31 : decode cX11_gain 31 = .ok (.iadd, 1) := by decide +kernel
theorem dX11_gain_32 : decode cX11_gain 32 = .ok (.goto 4, 3) := by decide +kernel
theorem dX11_gain_35 : decode cX11_gain 35 = .ok (.iconst (-1), 1) := by decide +kernel
theorem dX11_gain_36 : decode cX11_gain 36 = .ok (.ireturn, 1) := by decide +kernel
theorem dX11_mayBe_0 : decode cX11_mayBe 0 = .ok (.aload_n 0, 1) := by decide +kernel
theorem dX11_mayBe_1 : decode cX11_mayBe 1 = .ok (.iload_n 1, 1) := by decide +kernel
theorem dX11_mayBe_2 : decode cX11_mayBe 2 = .ok (.iload_n 3, 1) := by decide +kernel
theorem dX11_mayBe_3 : decode cX11_mayBe 3 = .ok (.invokevirtual 261, 3) := by decide +kernel
theorem dX11_mayBe_6 : decode cX11_mayBe 6 = .ok (.ifCond .ne 34, 3) := by decide +kernel
theorem dX11_mayBe_9 : decode cX11_mayBe 9 = .ok (.aload_n 0, 1) := by decide +kernel
theorem dX11_mayBe_10 : decode cX11_mayBe 10 = .ok (.iload_n 1, 1) := by decide +kernel
theorem dX11_mayBe_11 : decode cX11_mayBe 11 = .ok (.iload_n 2, 1) := by decide +kernel
theorem dX11_mayBe_12 : decode cX11_mayBe 12 = .ok (.invokevirtual 289, 3) := by decide +kernel
theorem dX11_mayBe_15 : decode cX11_mayBe 15 = .ok (.bipush (-4), 2) := by decide +kernel
theorem dX11_mayBe_17 : decode cX11_mayBe 17 = .ok (.if_icmp .eq 19, 3) := by decide +kernel
theorem dX11_mayBe_20 : decode cX11_mayBe 20 = .ok (.aload_n 0, 1) := by decide +kernel
theorem dX11_mayBe_21 : decode cX11_mayBe 21 = .ok (.iconst 1, 1) := by decide +kernel
theorem dX11_mayBe_22 : decode cX11_mayBe 22 = .ok (.iload_n 1, 1) := by decide +kernel
theorem dX11_mayBe_23 : decode cX11_mayBe 23 = .ok (.isub, 1) := by decide +kernel
theorem dX11_mayBe_24 : decode cX11_mayBe 24 = .ok (.aload_n 0, 1) := by decide +kernel
theorem dX11_mayBe_25 : decode cX11_mayBe 25 = .ok (.getfield 29, 3) := by decide +kernel
theorem dX11_mayBe_28 : decode cX11_mayBe 28 = .ok (.iload_n 3, 1) := by decide +kernel
theorem dX11_mayBe_29 : decode cX11_mayBe 29 = .ok (.iaload, 1) := by decide +kernel
theorem dX11_mayBe_30 : decode cX11_mayBe 30 = .ok (.invokevirtual 261, 3) := by decide +kernel
theorem dX11_mayBe_33 : decode cX11_mayBe 33 = .ok (.ifCond .ne 7, 3) := by decide +kernel
theorem dX11_mayBe_36 : decode cX11_mayBe 36 = .ok (.iconst 1, 1) := by decide +kernel
theorem dX11_mayBe_37 : decode cX11_mayBe 37 = .ok (.goto 4, 3) := by decide +kernel
theorem dX11_mayBe_40 : decode cX11_mayBe 40 = .ok (.iconst 0, 1) := by decide +kernel
theorem dX11_mayBe_41 : decode cX11_mayBe 41 = .ok (.ireturn, 1) := by decide +kernel
theorem dX11_beginOf_0 : decode cX11_beginOf 0 = .ok (.bipush (-4), 2) := by decide +kernel
theorem dX11_beginOf_2 : decode cX11_beginOf 2 = .ok (.istore_n 3, 1) := by decide +kernel
theorem dX11_beginOf_3 : decode cX11_beginOf 3 = .ok (.iconst 0, 1) := by decide +kernel
theorem dX11_beginOf_4 : decode cX11_beginOf 4 = .ok (.istore 4, 2) := by decide +kernel
theorem dX11_beginOf_6 : decode cX11_beginOf 6 = .ok (.iconst 1, 1) := by decide +kernel
theorem dX11_beginOf_7 : decode cX11_beginOf 7 = .ok (.istore 5, 2) := by decide +kernel
theorem dX11_beginOf_9 : decode cX11_beginOf 9 = .ok (.iload 5, 2) := by decide +kernel
theorem dX11_beginOf_11 : decode cX11_beginOf 11 = .ok (.bipush 6, 2) := by decide +kernel
theorem dX11_beginOf_13 : decode cX11_beginOf 13 = .ok (.if_icmp .ge 72, 3) := by decide +kernel
theorem dX11_beginOf_16 : decode cX11_beginOf 16 = .ok (.aload_n 0, 1) := by decide +kernel
theorem dX11_beginOf_17 : decode cX11_beginOf 17 = .ok (.iload_n 1, 1) := by decide +kernel
theorem dX11_beginOf_18 : decode cX11_beginOf 18 = .ok (.iload_n 2, 1) := by decide +kernel
theorem dX11_beginOf_19 : decode cX11_beginOf 19 = .ok (.iload 5, 2) := by decide +kernel
theorem dX11_beginOf_21 : decode cX11_beginOf 21 = .ok (.invokevirtual 326, 3) := by decide +kernel
theorem dX11_beginOf_24 : decode cX11_beginOf 24 = .ok (.ifCond .eq 20, 3) := by decide +kernel
theorem dX11_beginOf_27 : decode cX11_beginOf 27 = .ok (.aload_n 0, 1) := by decide +kernel
theorem dX11_beginOf_28 : decode cX11_beginOf 28 = .ok (.iload_n 1, 1) := by decide +kernel
theorem dX11_beginOf_29 : decode cX11_beginOf 29 = .ok (.iload_n 2, 1) := by decide +kernel
theorem dX11_beginOf_30 : decode cX11_beginOf 30 = .ok (.iload 5, 2) := by decide +kernel
theorem dX11_beginOf_32 : decode cX11_beginOf 32 = .ok (.invokevirtual 323, 3) := by decide +kernel
theorem dX11_beginOf_35 : decode cX11_beginOf 35 = .ok (.iload 4, 2) := by decide +kernel
theorem dX11_beginOf_37 : decode cX11_beginOf 37 = .ok (.if_icmp .le 7, 3) := by decide +kernel
theorem dX11_beginOf_40 : decode cX11_beginOf 40 = .ok (.iconst 1, 1) := by decide +kernel
theorem dX11_beginOf_41 : decode cX11_beginOf 41 = .ok (.goto 4, 3) := by decide +kernel
theorem dX11_beginOf_44 : decode cX11_beginOf 44 = .ok (.iconst 0, 1) := by decide +kernel
theorem dX11_beginOf_45 : decode cX11_beginOf 45 = .ok (.istore 6, 2) := by decide +kernel
theorem dX11_beginOf_47 : decode cX11_beginOf 47 = .ok (.iload 6, 2) := by decide +kernel
theorem dX11_beginOf_49 : decode cX11_beginOf 49 = .ok (.ifCond .eq 8, 3) := by decide +kernel
theorem dX11_beginOf_52 : decode cX11_beginOf 52 = .ok (.iload 5, 2) := by decide +kernel
theorem dX11_beginOf_54 : decode cX11_beginOf 54 = .ok (.goto 4, 3) := by decide +kernel
theorem dX11_beginOf_57 : decode cX11_beginOf 57 = .ok (.iload_n 3, 1) := by decide +kernel
theorem dX11_beginOf_58 : decode cX11_beginOf 58 = .ok (.istore_n 3, 1) := by decide +kernel
theorem dX11_beginOf_59 : decode cX11_beginOf 59 = .ok (.iload 6, 2) := by decide +kernel
theorem dX11_beginOf_61 : decode cX11_beginOf 61 = .ok (.ifCond .eq 14, 3) := by decide +kernel
theorem dX11_beginOf_64 : decode cX11_beginOf 64 = .ok (.aload_n 0, 1) := by decide +kernel
theorem dX11_beginOf_65 : decode cX11_beginOf 65 = .ok (.iload_n 1, 1) := by decide +kernel
theorem dX11_beginOf_66 : decode cX11_beginOf 66 = .ok (.iload_n 2, 1) := by decide +kernel
theorem dX11_beginOf_67 : decode cX11_beginOf 67 = .ok (.iload 5, 2) := by decide +kernel
theorem dX11_beginOf_69 : decode cX11_beginOf 69 = .ok (.invokevirtual 323, 3) := by decide +kernel
theorem dX11_beginOf_72 : decode cX11_beginOf 72 = .ok (.goto 5, 3) := by decide +kernel
theorem dX11_beginOf_75 : decode cX11_beginOf 75 = .ok (.iload 4, 2) := by decide +kernel
theorem dX11_beginOf_77 : decode cX11_beginOf 77 = .ok (.istore 4, 2) := by decide +kernel
theorem dX11_beginOf_79 : decode cX11_beginOf 79 = .ok (.iinc 5 1, 3) := by decide +kernel
theorem dX11_beginOf_82 : decode cX11_beginOf 82 = .ok (.goto (-73), 3) := by decide +kernel
theorem dX11_beginOf_85 : decode cX11_beginOf 85 = .ok (.iload_n 3, 1) := by decide +kernel
theorem dX11_beginOf_86 : decode cX11_beginOf 86 = .ok (.ireturn, 1) := by decide +kernel
theorem dX11_begin_0 : decode cX11_begin 0 = .ok (.aload_n 0, 1) := by decide +kernel
theorem dX11_begin_1 : decode cX11_begin 1 = .ok (.iload_n 1, 1) := by decide +kernel
theorem dX11_begin_2 : decode cX11_begin 2 = .ok (.iload_n 2, 1) := by decide +kernel
theorem dX11_begin_3 : decode cX11_begin 3 = .ok (.invokevirtual 282, 3) := by decide +kernel
theorem dX11_begin_6 : decode cX11_begin 6 = .ok (.ifCond .eq 13, 3) := by decide +kernel
theorem dX11_begin_9 : decode cX11_begin 9 = .ok (.iload_n 3, 1) := by decide +kernel
theorem dX11_begin_10 : decode cX11_begin 10 = .ok (.i2l, 1) := by decide +kernel
theorem dX11_begin_11 : decode cX11_begin 11 = .ok (.lconst 0, 1) := by decide +kernel
theorem dX11_begin_12 : decode cX11_begin 12 = .ok (.lconst 1, 1) := by decide +kernel
theorem dX11_begin_13 : decode cX11_begin 13 = .ok (.invokestatic 146, 3) := by decide +kernel
theorem dX11_begin_16 : decode cX11_begin 16 = .ok (.ifCond .ne 5, 3) := by decide +kernel
theorem dX11_begin_19 : decode cX11_begin 19 = .ok (.iconst (-1), 1) := by decide +kernel
theorem dX11_begin_20 : decode cX11_begin 20 = .ok (.ireturn, 1) := by decide +kernel
theorem dX11_begin_21 : decode cX11_begin 21 = .ok (.aload_n 0, 1) := by decide +kernel
theorem dX11_begin_22 : decode cX11_begin 22 = .ok (.iload_n 1, 1) := by decide +kernel
theorem dX11_begin_23 : decode cX11_begin 23 = .ok (.iload_n 2, 1) := by decide +kernel
theorem dX11_begin_24 : decode cX11_begin 24 = .ok (.invokevirtual 329, 3) := by decide +kernel
theorem dX11_begin_27 : decode cX11_begin 27 = .ok (.istore 4, 2) := by decide +kernel
theorem dX11_begin_29 : decode cX11_begin 29 = .ok (.iload 4, 2) := by decide +kernel
theorem dX11_begin_31 : decode cX11_begin 31 = .ok (.bipush (-4), 2) := by decide +kernel
theorem dX11_begin_33 : decode cX11_begin 33 = .ok (.if_icmp .ne 8, 3) := by decide +kernel
theorem dX11_begin_36 : decode cX11_begin 36 = .ok (.bipush (-4), 2) := by decide +kernel
theorem dX11_begin_38 : decode cX11_begin 38 = .ok (.goto 20, 3) := by decide +kernel
theorem dX11_begin_41 : decode cX11_begin 41 = .ok (.iload_n 3, 1) := by decide +kernel
theorem dX11_begin_42 : decode cX11_begin 42 = .ok (.ifCond .ne 8, 3) := by decide +kernel
theorem dX11_begin_45 : decode cX11_begin 45 = .ok (.iload 4, 2) := by decide +kernel
theorem dX11_begin_47 : decode cX11_begin 47 = .ok (.goto 11, 3) := by decide +kernel
theorem dX11_begin_50 : decode cX11_begin 50 = .ok (.aload_n 0, 1) := by decide +kernel
theorem dX11_begin_51 : decode cX11_begin 51 = .ok (.iload_n 1, 1) := by decide +kernel
theorem dX11_begin_52 : decode cX11_begin 52 = .ok (.iload_n 2, 1) := by decide +kernel
theorem dX11_begin_53 : decode cX11_begin 53 = .ok (.iload 4, 2) := by decide +kernel
theorem dX11_begin_55 : decode cX11_begin 55 = .ok (.invokevirtual 323, 3) := by decide +kernel
theorem dX11_begin_58 : decode cX11_begin 58 = .ok (.ireturn, 1) := by decide +kernel
theorem dX11_waits_0 : decode cX11_waits 0 = .ok (.aload_n 0, 1) := by decide +kernel
theorem dX11_waits_1 : decode cX11_waits 1 = .ok (.iload_n 1, 1) := by decide +kernel
theorem dX11_waits_2 : decode cX11_waits 2 = .ok (.iload_n 2, 1) := by decide +kernel
theorem dX11_waits_3 : decode cX11_waits 3 = .ok (.invokevirtual 282, 3) := by decide +kernel
theorem dX11_waits_6 : decode cX11_waits 6 = .ok (.ifCond .ne 5, 3) := by decide +kernel
theorem dX11_waits_9 : decode cX11_waits 9 = .ok (.iconst (-1), 1) := by decide +kernel
theorem dX11_waits_10 : decode cX11_waits 10 = .ok (.ireturn, 1) := by decide +kernel
theorem dX11_waits_11 : decode cX11_waits 11 = .ok (.aload_n 0, 1) := by decide +kernel
theorem dX11_waits_12 : decode cX11_waits 12 = .ok (.iload_n 1, 1) := by decide +kernel
theorem dX11_waits_13 : decode cX11_waits 13 = .ok (.iload_n 2, 1) := by decide +kernel
theorem dX11_waits_14 : decode cX11_waits 14 = .ok (.invokevirtual 289, 3) := by decide +kernel
theorem dX11_waits_17 : decode cX11_waits 17 = .ok (.istore_n 3, 1) := by decide +kernel
theorem dX11_waits_18 : decode cX11_waits 18 = .ok (.iload_n 3, 1) := by decide +kernel
theorem dX11_waits_19 : decode cX11_waits 19 = .ok (.bipush (-4), 2) := by decide +kernel
theorem dX11_waits_21 : decode cX11_waits 21 = .ok (.if_icmp .ne 6, 3) := by decide +kernel
theorem dX11_waits_24 : decode cX11_waits 24 = .ok (.bipush (-2), 2) := by decide +kernel
theorem dX11_waits_26 : decode cX11_waits 26 = .ok (.ireturn, 1) := by decide +kernel
theorem dX11_waits_27 : decode cX11_waits 27 = .ok (.aload_n 0, 1) := by decide +kernel
theorem dX11_waits_28 : decode cX11_waits 28 = .ok (.iconst 1, 1) := by decide +kernel
theorem dX11_waits_29 : decode cX11_waits 29 = .ok (.iload_n 1, 1) := by decide +kernel
theorem dX11_waits_30 : decode cX11_waits 30 = .ok (.isub, 1) := by decide +kernel
theorem dX11_waits_31 : decode cX11_waits 31 = .ok (.iload_n 3, 1) := by decide +kernel
theorem dX11_waits_32 : decode cX11_waits 32 = .ok (.invokevirtual 329, 3) := by decide +kernel
theorem dX11_waits_35 : decode cX11_waits 35 = .ok (.istore 4, 2) := by decide +kernel
theorem dX11_waits_37 : decode cX11_waits 37 = .ok (.sipush 1000, 3) := by decide +kernel
theorem dX11_waits_40 : decode cX11_waits 40 = .ok (.iload 4, 2) := by decide +kernel
theorem dX11_waits_42 : decode cX11_waits 42 = .ok (.bipush (-4), 2) := by decide +kernel
theorem dX11_waits_44 : decode cX11_waits 44 = .ok (.if_icmp .ne 7, 3) := by decide +kernel
theorem dX11_waits_47 : decode cX11_waits 47 = .ok (.iconst 0, 1) := by decide +kernel
theorem dX11_waits_48 : decode cX11_waits 48 = .ok (.goto 16, 3) := by decide +kernel
theorem dX11_waits_51 : decode cX11_waits 51 = .ok (.aload_n 0, 1) := by decide +kernel
theorem dX11_waits_52 : decode cX11_waits 52 = .ok (.iload_n 1, 1) := by decide +kernel
theorem dX11_waits_53 : decode cX11_waits 53 = .ok (.iload_n 2, 1) := by decide +kernel
theorem dX11_waits_54 : decode cX11_waits 54 = .ok (.aload_n 0, 1) := by decide +kernel
theorem dX11_waits_55 : decode cX11_waits 55 = .ok (.getfield 29, 3) := by decide +kernel
theorem dX11_waits_58 : decode cX11_waits 58 = .ok (.iload 4, 2) := by decide +kernel
theorem dX11_waits_60 : decode cX11_waits 60 = .ok (.iaload, 1) := by decide +kernel
theorem dX11_waits_61 : decode cX11_waits 61 = .ok (.invokevirtual 323, 3) := by decide +kernel
theorem dX11_waits_64 : decode cX11_waits 64 = .ok (.iadd, 1) := by decide +kernel
theorem dX11_waits_65 : decode cX11_waits 65 = .ok (.ireturn, 1) := by decide +kernel
theorem dX11_vex_0 : decode cX11_vex 0 = .ok (.iload_n 1, 1) := by decide +kernel
theorem dX11_vex_1 : decode cX11_vex 1 = .ok (.invokestatic 279, 3) := by decide +kernel
theorem dX11_vex_4 : decode cX11_vex 4 = .ok (.ifCond .eq 15, 3) := by decide +kernel
theorem dX11_vex_7 : decode cX11_vex 7 = .ok (.iload_n 2, 1) := by decide +kernel
theorem dX11_vex_8 : decode cX11_vex 8 = .ok (.i2l, 1) := by decide +kernel
theorem dX11_vex_9 : decode cX11_vex 9 = .ok (.lconst 0, 1) := by decide +kernel
theorem dX11_vex_10 : decode cX11_vex 10 = .ok (.ldc2_w 332, 3) := by decide +kernel
theorem dX11_vex_13 : decode cX11_vex 13 = .ok (.invokestatic 146, 3) := by decide +kernel
theorem dX11_vex_16 : decode cX11_vex 16 = .ok (.ifCond .ne 5, 3) := by decide +kernel
theorem dX11_vex_19 : decode cX11_vex 19 = .ok (.iconst (-1), 1) := by decide +kernel
theorem dX11_vex_20 : decode cX11_vex 20 = .ok (.ireturn, 1) := by decide +kernel
theorem dX11_vex_21 : decode cX11_vex 21 = .ok (.iconst 0, 1) := by decide +kernel
theorem dX11_vex_22 : decode cX11_vex 22 = .ok (.istore_n 3, 1) := by decide +kernel
theorem dX11_vex_23 : decode cX11_vex 23 = .ok (.iconst 0, 1) := by decide +kernel
theorem dX11_vex_24 : decode cX11_vex 24 = .ok (.istore 4, 2) := by decide +kernel
theorem dX11_vex_26 : decode cX11_vex 26 = .ok (.bipush (-4), 2) := by decide +kernel
theorem dX11_vex_28 : decode cX11_vex 28 = .ok (.istore 5, 2) := by decide +kernel
theorem dX11_vex_30 : decode cX11_vex 30 = .ok (.bipush (-4), 2) := by decide +kernel
theorem dX11_vex_32 : decode cX11_vex 32 = .ok (.istore 6, 2) := by decide +kernel
theorem dX11_vex_34 : decode cX11_vex 34 = .ok (.bipush 6, 2) := by decide +kernel
theorem dX11_vex_36 : decode cX11_vex 36 = .ok (.iconst 1, 1) := by decide +kernel
theorem dX11_vex_37 : decode cX11_vex 37 = .ok (.iload_n 1, 1) := by decide +kernel
theorem dX11_vex_38 : decode cX11_vex 38 = .ok (.isub, 1) := by decide +kernel
theorem dX11_vex_39 : decode cX11_vex 39 = .ok (.imul, 1) := by decide +kernel
theorem dX11_vex_40 : decode cX11_vex 40 = .ok (.istore 7, 2) := by decide +kernel
theorem dX11_vex_42 : decode cX11_vex 42 = .ok (.iconst 0, 1) := by decide +kernel
theorem dX11_vex_43 : decode cX11_vex 43 = .ok (.istore 8, 2) := by decide +kernel
theorem dX11_vex_45 : decode cX11_vex 45 = .ok (.iload 8, 2) := by decide +kernel
theorem dX11_vex_47 : decode cX11_vex 47 = .ok (.aload_n 0, 1) := by decide +kernel
theorem dX11_vex_48 : decode cX11_vex 48 = .ok (.getfield 129, 3) := by decide +kernel
theorem dX11_vex_51 : decode cX11_vex 51 = .ok (.if_icmp .ge 183, 3) := by decide +kernel
theorem dX11_vex_54 : decode cX11_vex 54 = .ok (.aload_n 0, 1) := by decide +kernel
theorem dX11_vex_55 : decode cX11_vex 55 = .ok (.iload_n 1, 1) := by decide +kernel
theorem dX11_vex_56 : decode cX11_vex 56 = .ok (.iload 8, 2) := by decide +kernel
theorem dX11_vex_58 : decode cX11_vex 58 = .ok (.invokevirtual 289, 3) := by decide +kernel
theorem dX11_vex_61 : decode cX11_vex 61 = .ok (.istore 9, 2) := by decide +kernel
theorem dX11_vex_63 : decode cX11_vex 63 = .ok (.iconst 1, 1) := by decide +kernel
theorem dX11_vex_64 : decode cX11_vex 64 = .ok (.istore 10, 2) := by decide +kernel
theorem dX11_vex_66 : decode cX11_vex 66 = .ok (.iload 10, 2) := by decide +kernel
theorem dX11_vex_68 : decode cX11_vex 68 = .ok (.bipush 6, 2) := by decide +kernel
theorem dX11_vex_70 : decode cX11_vex 70 = .ok (.if_icmp .ge 158, 3) := by decide +kernel
theorem dX11_vex_73 : decode cX11_vex 73 = .ok (.iload 9, 2) := by decide +kernel
theorem dX11_vex_75 : decode cX11_vex 75 = .ok (.bipush (-4), 2) := by decide +kernel
theorem dX11_vex_77 : decode cX11_vex 77 = .ok (.if_icmp .eq 151, 3) := by decide +kernel
theorem dX11_vex_80 : decode cX11_vex 80 = .ok (.aload_n 0, 1) := by decide +kernel
theorem dX11_vex_81 : decode cX11_vex 81 = .ok (.getfield 20, 3) := by decide +kernel
theorem dX11_vex_84 : decode cX11_vex 84 = .ok (.iload 7, 2) := by decide +kernel
theorem dX11_vex_86 : decode cX11_vex 86 = .ok (.aload_n 0, 1) := by decide +kernel
theorem dX11_vex_87 : decode cX11_vex 87 = .ok (.getfield 29, 3) := by decide +kernel
theorem dX11_vex_90 : decode cX11_vex 90 = .ok (.iload 10, 2) := by decide +kernel
theorem dX11_vex_92 : decode cX11_vex 92 = .ok (.iaload, 1) := by decide +kernel
theorem dX11_vex_93 : decode cX11_vex 93 = .ok (.iadd, 1) := by decide +kernel
theorem dX11_vex_94 : decode cX11_vex 94 = .ok (.iaload, 1) := by decide +kernel
theorem dX11_vex_95 : decode cX11_vex 95 = .ok (.aload_n 0, 1) := by decide +kernel
theorem dX11_vex_96 : decode cX11_vex 96 = .ok (.getfield 23, 3) := by decide +kernel
theorem dX11_vex_99 : decode cX11_vex 99 = .ok (.iload 7, 2) := by decide +kernel
theorem dX11_vex_101 : decode cX11_vex 101 = .ok (.aload_n 0, 1) := by decide +kernel
theorem dX11_vex_102 : decode cX11_vex 102 = .ok (.iconst 1, 1) := by decide +kernel
theorem dX11_vex_103 : decode cX11_vex 103 = .ok (.iload_n 1, 1) := by decide +kernel
theorem dX11_vex_104 : decode cX11_vex 104 = .ok (.isub, 1) := by decide +kernel
theorem dX11_vex_105 : decode cX11_vex 105 = .ok (.iload 9, 2) := by decide +kernel
theorem dX11_vex_107 : decode cX11_vex 107 = .ok (.invokevirtual 320, 3) := by decide +kernel
theorem dX11_vex_110 : decode cX11_vex 110 = .ok (.iadd, 1) := by decide +kernel
theorem dX11_vex_111 : decode cX11_vex 111 = .ok (.iaload, 1) := by decide +kernel
theorem dX11_vex_112 : decode cX11_vex 112 = .ok (.iadd, 1) := by decide +kernel
theorem dX11_vex_113 : decode cX11_vex 113 = .ok (.aload_n 0, 1) := by decide +kernel
theorem dX11_vex_114 : decode cX11_vex 114 = .ok (.getfield 23, 3) := by decide +kernel
theorem dX11_vex_117 : decode cX11_vex 117 = .ok (.iload 7, 2) := by decide +kernel
theorem dX11_vex_119 : decode cX11_vex 119 = .ok (.aload_n 0, 1) := by decide +kernel
theorem dX11_vex_120 : decode cX11_vex 120 = .ok (.getfield 29, 3) := by decide +kernel
theorem dX11_vex_123 : decode cX11_vex 123 = .ok (.iload 10, 2) := by decide +kernel
theorem dX11_vex_125 : decode cX11_vex 125 = .ok (.iaload, 1) := by decide +kernel
theorem dX11_vex_126 : decode cX11_vex 126 = .ok (.iadd, 1) := by decide +kernel
theorem dX11_vex_127 : decode cX11_vex 127 = .ok (.iaload, 1) := by decide +kernel
theorem dX11_vex_128 : decode cX11_vex 128 = .ok (.isub, 1) := by decide +kernel
theorem dX11_vex_129 : decode cX11_vex 129 = .ok (.istore 11, 2) := by decide +kernel
theorem dX11_vex_131 : decode cX11_vex 131 = .ok (.aload_n 0, 1) := by decide +kernel
theorem dX11_vex_132 : decode cX11_vex 132 = .ok (.getfield 20, 3) := by decide +kernel
theorem dX11_vex_135 : decode cX11_vex 135 = .ok (.bipush 6, 2) := by decide +kernel
theorem dX11_vex_137 : decode cX11_vex 137 = .ok (.iload_n 1, 1) := by decide +kernel
theorem dX11_vex_138 : decode cX11_vex 138 = .ok (.imul, 1) := by decide +kernel
theorem dX11_vex_139 : decode cX11_vex 139 = .ok (.iload 10, 2) := by decide +kernel
theorem dX11_vex_141 : decode cX11_vex 141 = .ok (.iadd, 1) := by decide +kernel
theorem dX11_vex_142 : decode cX11_vex 142 = .ok (.iaload, 1) := by decide +kernel
theorem dX11_vex_143 : decode cX11_vex 143 = .ok (.istore 12, 2) := by decide +kernel
theorem dX11_vex_145 : decode cX11_vex 145 = .ok (.aload_n 0, 1) := by decide +kernel
theorem dX11_vex_146 : decode cX11_vex 146 = .ok (.iload_n 1, 1) := by decide +kernel
theorem dX11_vex_147 : decode cX11_vex 147 = .ok (.iload 8, 2) := by decide +kernel
theorem dX11_vex_149 : decode cX11_vex 149 = .ok (.iload 10, 2) := by decide +kernel
theorem dX11_vex_151 : decode cX11_vex 151 = .ok (.invokevirtual 326, 3) := by decide +kernel
theorem dX11_vex_154 : decode cX11_vex 154 = .ok (.ifCond .eq 19, 3) := by decide +kernel
theorem dX11_vex_157 : decode cX11_vex 157 = .ok (.iload 10, 2) := by decide +kernel
theorem dX11_vex_159 : decode cX11_vex 159 = .ok (.aload_n 0, 1) := by decide +kernel
theorem dX11_vex_160 : decode cX11_vex 160 = .ok (.iload_n 1, 1) := by decide +kernel
theorem dX11_vex_161 : decode cX11_vex 161 = .ok (.iload 8, 2) := by decide +kernel
theorem dX11_vex_163 : decode cX11_vex 163 = .ok (.invokevirtual 320, 3) := by decide +kernel
theorem dX11_vex_166 : decode cX11_vex 166 = .ok (.if_icmp .eq 7, 3) := by decide +kernel
theorem dX11_vex_169 : decode cX11_vex 169 = .ok (.iconst 1, 1) := by decide +kernel
theorem dX11_vex_170 : decode cX11_vex 170 = .ok (.goto 4, 3) := by decide +kernel
theorem dX11_vex_173 : decode cX11_vex 173 = .ok (.iconst 0, 1) := by decide +kernel
theorem dX11_vex_174 : decode cX11_vex 174 = .ok (.istore 13, 2) := by decide +kernel
theorem dX11_vex_176 : decode cX11_vex 176 = .ok (.iload 13, 2) := by decide +kernel
theorem dX11_vex_178 : decode cX11_vex 178 = .ok (.ifCond .eq 44, 3) := by decide +kernel
theorem dX11_vex_181 : decode cX11_vex 181 = .ok (.iload 5, 2) := by decide +kernel
theorem dX11_vex_183 : decode cX11_vex 183 = .ok (.bipush (-4), 2) := by decide +kernel
theorem dX11_vex_185 : decode cX11_vex 185 = .ok (.if_icmp .eq 22, 3) := by decide +kernel
theorem dX11_vex_188 : decode cX11_vex 188 = .ok (.iload 11, 2) := by decide +kernel
theorem dX11_vex_190 : decode cX11_vex 190 = .ok (.iload_n 3, 1) := by decide +kernel
theorem dX11_vex_191 : decode cX11_vex 191 = .ok (.if_icmp .gt 16, 3) := by decide +kernel
theorem dX11_vex_194 : decode cX11_vex 194 = .ok (.iload 11, 2) := by decide +kernel
theorem dX11_vex_196 : decode cX11_vex 196 = .ok (.iload_n 3, 1) := by decide +kernel
theorem dX11_vex_197 : decode cX11_vex 197 = .ok (.if_icmp .ne 25, 3) := by decide +kernel
theorem dX11_vex_200 : decode cX11_vex 200 = .ok (.iload 12, 2) := by decide +kernel
theorem dX11_vex_202 : decode cX11_vex 202 = .ok (.iload 4, 2) := by decide +kernel
theorem dX11_vex_204 : decode cX11_vex 204 = .ok (.if_icmp .ge 18, 3) := by decide +kernel
theorem dX11_vex_207 : decode cX11_vex 207 = .ok (.iload 11, 2) := by decide +kernel
theorem dX11_vex_209 : decode cX11_vex 209 = .ok (.istore_n 3, 1) := by decide +kernel
theorem dX11_vex_210 : decode cX11_vex 210 = .ok (.iload 12, 2) := by decide +kernel
theorem dX11_vex_212 : decode cX11_vex 212 = .ok (.istore 4, 2) := by decide +kernel
theorem dX11_vex_214 : decode cX11_vex 214 = .ok (.iload 8, 2) := by decide +kernel
theorem dX11_vex_216 : decode cX11_vex 216 = .ok (.istore 5, 2) := by decide +kernel
theorem dX11_vex_218 : decode cX11_vex 218 = .ok (.iload 10, 2) := by decide +kernel
theorem dX11_vex_220 : decode cX11_vex 220 = .ok (.istore 6, 2) := by decide +kernel
theorem dX11_vex_222 : decode cX11_vex 222 = .ok (.iinc 10 1, 3) := by decide +kernel
theorem dX11_vex_225 : decode cX11_vex 225 = .ok (.goto (-159), 3) := by decide +kernel
theorem dX11_vex_228 : decode cX11_vex 228 = .ok (.iinc 8 1, 3) := by decide +kernel
theorem dX11_vex_231 : decode cX11_vex 231 = .ok (.goto (-186), 3) := by decide +kernel
theorem dX11_vex_234 : decode cX11_vex 234 = .ok (.iload 5, 2) := by decide +kernel
theorem dX11_vex_236 : decode cX11_vex 236 = .ok (.bipush (-4), 2) := by decide +kernel
theorem dX11_vex_238 : decode cX11_vex 238 = .ok (.if_icmp .ne 8, 3) := by decide +kernel
theorem dX11_vex_241 : decode cX11_vex 241 = .ok (.bipush (-4), 2) := by decide +kernel
theorem dX11_vex_243 : decode cX11_vex 243 = .ok (.goto 27, 3) := by decide +kernel
theorem dX11_vex_246 : decode cX11_vex 246 = .ok (.iload_n 2, 1) := by decide +kernel
theorem dX11_vex_247 : decode cX11_vex 247 = .ok (.ifCond .ne 11, 3) := by decide +kernel
theorem dX11_vex_250 : decode cX11_vex 250 = .ok (.iload_n 3, 1) := by decide +kernel
theorem dX11_vex_251 : decode cX11_vex 251 = .ok (.sipush 1000, 3) := by decide +kernel
theorem dX11_vex_254 : decode cX11_vex 254 = .ok (.iadd, 1) := by decide +kernel
theorem dX11_vex_255 : decode cX11_vex 255 = .ok (.goto 15, 3) := by decide +kernel
theorem dX11_vex_258 : decode cX11_vex 258 = .ok (.iload_n 2, 1) := by decide +kernel
theorem dX11_vex_259 : decode cX11_vex 259 = .ok (.iconst 1, 1) := by decide +kernel
theorem dX11_vex_260 : decode cX11_vex 260 = .ok (.if_icmp .ne 8, 3) := by decide +kernel
theorem dX11_vex_263 : decode cX11_vex 263 = .ok (.iload 5, 2) := by decide +kernel
theorem dX11_vex_265 : decode cX11_vex 265 = .ok (.goto 5, 3) := by decide +kernel
theorem dX11_vex_268 : decode cX11_vex 268 = .ok (.iload 6, 2) := by decide +kernel
theorem dX11_vex_270 : decode cX11_vex 270 = .ok (.ireturn, 1) := by decide +kernel
theorem dX11_want_0 : decode cX11_want 0 = .ok (.aload_n 0, 1) := by decide +kernel
theorem dX11_want_1 : decode cX11_want 1 = .ok (.iconst 0, 1) := by decide +kernel
theorem dX11_want_2 : decode cX11_want 2 = .ok (.iload_n 1, 1) := by decide +kernel
theorem dX11_want_3 : decode cX11_want 3 = .ok (.invokevirtual 282, 3) := by decide +kernel
theorem dX11_want_6 : decode cX11_want 6 = .ok (.ifCond .eq 15, 3) := by decide +kernel
theorem dX11_want_9 : decode cX11_want 9 = .ok (.iload_n 2, 1) := by decide +kernel
theorem dX11_want_10 : decode cX11_want 10 = .ok (.i2l, 1) := by decide +kernel
theorem dX11_want_11 : decode cX11_want 11 = .ok (.lconst 1, 1) := by decide +kernel
theorem dX11_want_12 : decode cX11_want 12 = .ok (.ldc2_w 255, 3) := by decide +kernel
theorem dX11_want_15 : decode cX11_want 15 = .ok (.invokestatic 146, 3) := by decide +kernel
theorem dX11_want_18 : decode cX11_want 18 = .ok (.ifCond .ne 5, 3) := by decide +kernel
theorem dX11_want_21 : decode cX11_want 21 = .ok (.iconst (-1), 1) := by decide +kernel
theorem dX11_want_22 : decode cX11_want 22 = .ok (.ireturn, 1) := by decide +kernel
theorem dX11_want_23 : decode cX11_want 23 = .ok (.aload_n 0, 1) := by decide +kernel
theorem dX11_want_24 : decode cX11_want 24 = .ok (.getfield 7, 3) := by decide +kernel
theorem dX11_want_27 : decode cX11_want 27 = .ok (.bipush 65, 2) := by decide +kernel
theorem dX11_want_29 : decode cX11_want 29 = .ok (.iaload, 1) := by decide +kernel
theorem dX11_want_30 : decode cX11_want 30 = .ok (.bipush 6, 2) := by decide +kernel
theorem dX11_want_32 : decode cX11_want 32 = .ok (.if_icmp .ne 6, 3) := by decide +kernel
theorem dX11_want_35 : decode cX11_want 35 = .ok (.bipush (-3), 2) := by decide +kernel
theorem dX11_want_37 : decode cX11_want 37 = .ok (.ireturn, 1) := by decide +kernel
theorem dX11_want_38 : decode cX11_want 38 = .ok (.bipush 66, 2) := by decide +kernel
theorem dX11_want_40 : decode cX11_want 40 = .ok (.iconst 2, 1) := by decide +kernel
theorem dX11_want_41 : decode cX11_want 41 = .ok (.aload_n 0, 1) := by decide +kernel
theorem dX11_want_42 : decode cX11_want 42 = .ok (.getfield 7, 3) := by decide +kernel
theorem dX11_want_45 : decode cX11_want 45 = .ok (.bipush 65, 2) := by decide +kernel
theorem dX11_want_47 : decode cX11_want 47 = .ok (.iaload, 1) := by decide +kernel
theorem dX11_want_48 : decode cX11_want 48 = .ok (.imul, 1) := by decide +kernel
theorem dX11_want_49 : decode cX11_want 49 = .ok (.iadd, 1) := by decide +kernel
theorem dX11_want_50 : decode cX11_want 50 = .ok (.istore_n 3, 1) := by decide +kernel
theorem dX11_want_51 : decode cX11_want 51 = .ok (.aload_n 0, 1) := by decide +kernel
theorem dX11_want_52 : decode cX11_want 52 = .ok (.getfield 7, 3) := by decide +kernel
theorem dX11_want_55 : decode cX11_want 55 = .ok (.iload_n 3, 1) := by decide +kernel
theorem dX11_want_56 : decode cX11_want 56 = .ok (.iload_n 1, 1) := by decide +kernel
theorem dX11_want_57 : decode cX11_want 57 = .ok (.iastore, 1) := by decide +kernel
theorem dX11_want_58 : decode cX11_want 58 = .ok (.aload_n 0, 1) := by decide +kernel
theorem dX11_want_59 : decode cX11_want 59 = .ok (.getfield 7, 3) := by decide +kernel
theorem dX11_want_62 : decode cX11_want 62 = .ok (.iload_n 3, 1) := by decide +kernel
theorem dX11_want_63 : decode cX11_want 63 = .ok (.iconst 1, 1) := by decide +kernel
theorem dX11_want_64 : decode cX11_want 64 = .ok (.iadd, 1) := by decide +kernel
theorem dX11_want_65 : decode cX11_want 65 = .ok (.iload_n 2, 1) := by decide +kernel
theorem dX11_want_66 : decode cX11_want 66 = .ok (.iastore, 1) := by decide +kernel
theorem dX11_want_67 : decode cX11_want 67 = .ok (.aload_n 0, 1) := by decide +kernel
theorem dX11_want_68 : decode cX11_want 68 = .ok (.getfield 7, 3) := by decide +kernel
theorem dX11_want_71 : decode cX11_want 71 = .ok (.bipush 65, 2) := by decide +kernel
theorem dX11_want_73 : decode cX11_want 73 = .ok (.dup2, 1) := by decide +kernel
theorem dX11_want_74 : decode cX11_want 74 = .ok (.iaload, 1) := by decide +kernel
theorem dX11_want_75 : decode cX11_want 75 = .ok (.iconst 1, 1) := by decide +kernel
theorem dX11_want_76 : decode cX11_want 76 = .ok (.iadd, 1) := by decide +kernel
theorem dX11_want_77 : decode cX11_want 77 = .ok (.iastore, 1) := by decide +kernel
theorem dX11_want_78 : decode cX11_want 78 = .ok (.aload_n 0, 1) := by decide +kernel
theorem dX11_want_79 : decode cX11_want 79 = .ok (.getfield 7, 3) := by decide +kernel
theorem dX11_want_82 : decode cX11_want 82 = .ok (.bipush 65, 2) := by decide +kernel
theorem dX11_want_84 : decode cX11_want 84 = .ok (.iaload, 1) := by decide +kernel
theorem dX11_want_85 : decode cX11_want 85 = .ok (.ireturn, 1) := by decide +kernel
theorem dX11_content_0 : decode cX11_content 0 = .ok (.aload_n 0, 1) := by decide +kernel
theorem dX11_content_1 : decode cX11_content 1 = .ok (.getfield 7, 3) := by decide +kernel
theorem dX11_content_4 : decode cX11_content 4 = .ok (.bipush 65, 2) := by decide +kernel
theorem dX11_content_6 : decode cX11_content 6 = .ok (.iaload, 1) := by decide +kernel
theorem dX11_content_7 : decode cX11_content 7 = .ok (.istore_n 1, 1) := by decide +kernel
theorem dX11_content_8 : decode cX11_content 8 = .ok (.aload_n 0, 1) := by decide +kernel
theorem dX11_content_9 : decode cX11_content 9 = .ok (.getfield 7, 3) := by decide +kernel
theorem dX11_content_12 : decode cX11_content 12 = .ok (.bipush 65, 2) := by decide +kernel
theorem dX11_content_14 : decode cX11_content 14 = .ok (.iconst 0, 1) := by decide +kernel
theorem dX11_content_15 : decode cX11_content 15 = .ok (.iastore, 1) := by decide +kernel
theorem dX11_content_16 : decode cX11_content 16 = .ok (.iload_n 1, 1) := by decide +kernel
theorem dX11_content_17 : decode cX11_content 17 = .ok (.ireturn, 1) := by decide +kernel
theorem dX11_bitsOf_0 : decode cX11_bitsOf 0 = .ok (.iconst 0, 1) := by decide +kernel
theorem dX11_bitsOf_1 : decode cX11_bitsOf 1 = .ok (.istore_n 1, 1) := by decide +kernel
theorem dX11_bitsOf_2 : decode cX11_bitsOf 2 = .ok (.iconst 0, 1) := by decide +kernel
theorem dX11_bitsOf_3 : decode cX11_bitsOf 3 = .ok (.istore_n 2, 1) := by decide +kernel
theorem dX11_bitsOf_4 : decode cX11_bitsOf 4 = .ok (.iload_n 2, 1) := by decide +kernel
theorem dX11_bitsOf_5 : decode cX11_bitsOf 5 = .ok (.bipush 12, 2) := by decide +kernel
theorem dX11_bitsOf_7 : decode cX11_bitsOf 7 = .ok (.if_icmp .ge 17, 3) := by decide +kernel
theorem dX11_bitsOf_10 : decode cX11_bitsOf 10 = .ok (.iload_n 1, 1) := by decide +kernel
theorem dX11_bitsOf_11 : decode cX11_bitsOf 11 = .ok (.iload_n 0, 1) := by decide +kernel
theorem dX11_bitsOf_12 : decode cX11_bitsOf 12 = .ok (.iload_n 2, 1) := by decide +kernel
theorem dX11_bitsOf_13 : decode cX11_bitsOf 13 = .ok (.ishr, 1) := by decide +kernel
theorem dX11_bitsOf_14 : decode cX11_bitsOf 14 = .ok (.iconst 1, 1) := by decide +kernel
theorem dX11_bitsOf_15 : decode cX11_bitsOf 15 = .ok (.iand, 1) := by decide +kernel
theorem dX11_bitsOf_16 : decode cX11_bitsOf 16 = .ok (.iadd, 1) := by decide +kernel
theorem dX11_bitsOf_17 : decode cX11_bitsOf 17 = .ok (.istore_n 1, 1) := by decide +kernel
theorem dX11_bitsOf_18 : decode cX11_bitsOf 18 = .ok (.iinc 2 1, 3) := by decide +kernel
theorem dX11_bitsOf_21 : decode cX11_bitsOf 21 = .ok (.goto (-17), 3) := by decide +kernel
theorem dX11_bitsOf_24 : decode cX11_bitsOf 24 = .ok (.iload_n 1, 1) := by decide +kernel
theorem dX11_bitsOf_25 : decode cX11_bitsOf 25 = .ok (.ireturn, 1) := by decide +kernel
theorem dX11_wantCost_0 : decode cX11_wantCost 0 = .ok (.aload_n 0, 1) := by decide +kernel
theorem dX11_wantCost_1 : decode cX11_wantCost 1 = .ok (.getfield 7, 3) := by decide +kernel
theorem dX11_wantCost_4 : decode cX11_wantCost 4 = .ok (.bipush 66, 2) := by decide +kernel
theorem dX11_wantCost_6 : decode cX11_wantCost 6 = .ok (.iconst 2, 1) := by decide +kernel
theorem dX11_wantCost_7 : decode cX11_wantCost 7 = .ok (.iload_n 1, 1) := by decide +kernel
theorem dX11_wantCost_8 : decode cX11_wantCost 8 = .ok (.imul, 1) := by decide +kernel
theorem dX11_wantCost_9 : decode cX11_wantCost 9 = .ok (.iadd, 1) := by decide +kernel
theorem dX11_wantCost_10 : decode cX11_wantCost 10 = .ok (.iconst 1, 1) := by decide +kernel
theorem dX11_wantCost_11 : decode cX11_wantCost 11 = .ok (.iadd, 1) := by decide +kernel
theorem dX11_wantCost_12 : decode cX11_wantCost 12 = .ok (.iaload, 1) := by decide +kernel
theorem dX11_wantCost_13 : decode cX11_wantCost 13 = .ok (.istore_n 3, 1) := by decide +kernel
theorem dX11_wantCost_14 : decode cX11_wantCost 14 = .ok (.aload_n 0, 1) := by decide +kernel
theorem dX11_wantCost_15 : decode cX11_wantCost 15 = .ok (.getfield 17, 3) := by decide +kernel
theorem dX11_wantCost_18 : decode cX11_wantCost 18 = .ok (.iload_n 2, 1) := by decide +kernel
theorem dX11_wantCost_19 : decode cX11_wantCost 19 = .ok (.iconst 4, 1) := by decide +kernel
theorem dX11_wantCost_20 : decode cX11_wantCost 20 = .ok (.irem, 1) := by decide +kernel
theorem dX11_wantCost_21 : decode cX11_wantCost 21 = .ok (.iaload, 1) := by decide +kernel
theorem dX11_wantCost_22 : decode cX11_wantCost 22 = .ok (.aload_n 0, 1) := by decide +kernel
theorem dX11_wantCost_23 : decode cX11_wantCost 23 = .ok (.getfield 20, 3) := by decide +kernel
theorem dX11_wantCost_26 : decode cX11_wantCost 26 = .ok (.iload_n 3, 1) := by decide +kernel
theorem dX11_wantCost_27 : decode cX11_wantCost 27 = .ok (.iaload, 1) := by decide +kernel
theorem dX11_wantCost_28 : decode cX11_wantCost 28 = .ok (.aload_n 0, 1) := by decide +kernel
theorem dX11_wantCost_29 : decode cX11_wantCost 29 = .ok (.getfield 20, 3) := by decide +kernel
theorem dX11_wantCost_32 : decode cX11_wantCost 32 = .ok (.bipush 6, 2) := by decide +kernel
theorem dX11_wantCost_34 : decode cX11_wantCost 34 = .ok (.aload_n 0, 1) := by decide +kernel
theorem dX11_wantCost_35 : decode cX11_wantCost 35 = .ok (.getfield 29, 3) := by decide +kernel
theorem dX11_wantCost_38 : decode cX11_wantCost 38 = .ok (.iload_n 3, 1) := by decide +kernel
theorem dX11_wantCost_39 : decode cX11_wantCost 39 = .ok (.iaload, 1) := by decide +kernel
theorem dX11_wantCost_40 : decode cX11_wantCost 40 = .ok (.iadd, 1) := by decide +kernel
theorem dX11_wantCost_41 : decode cX11_wantCost 41 = .ok (.iaload, 1) := by decide +kernel
theorem dX11_wantCost_42 : decode cX11_wantCost 42 = .ok (.iadd, 1) := by decide +kernel
theorem dX11_wantCost_43 : decode cX11_wantCost 43 = .ok (.imul, 1) := by decide +kernel
theorem dX11_wantCost_44 : decode cX11_wantCost 44 = .ok (.ireturn, 1) := by decide +kernel
theorem dX11_findRests_0 : decode cX11_findRests 0 = .ok (.sipush 4095, 3) := by decide +kernel
theorem dX11_findRests_3 : decode cX11_findRests 3 = .ok (.istore_n 2, 1) := by decide +kernel
theorem dX11_findRests_4 : decode cX11_findRests 4 = .ok (.iload_n 2, 1) := by decide +kernel
theorem dX11_findRests_5 : decode cX11_findRests 5 = .ok (.ifCond .lt 125, 3) := by decide +kernel
theorem dX11_findRests_8 : decode cX11_findRests 8 = .ok (.iload_n 2, 1) := by decide +kernel
theorem dX11_findRests_9 : decode cX11_findRests 9 = .ok (.invokestatic 334, 3) := by decide +kernel
theorem dX11_findRests_12 : decode cX11_findRests 12 = .ok (.istore_n 3, 1) := by decide +kernel
theorem dX11_findRests_13 : decode cX11_findRests 13 = .ok (.aload_n 0, 1) := by decide +kernel
theorem dX11_findRests_14 : decode cX11_findRests 14 = .ok (.getfield 77, 3) := by decide +kernel
theorem dX11_findRests_17 : decode cX11_findRests 17 = .ok (.iload_n 2, 1) := by decide +kernel
theorem dX11_findRests_18 : decode cX11_findRests 18 = .ok (.iload_n 3, 1) := by decide +kernel
theorem dX11_findRests_19 : decode cX11_findRests 19 = .ok (.aload_n 0, 1) := by decide +kernel
theorem dX11_findRests_20 : decode cX11_findRests 20 = .ok (.getfield 7, 3) := by decide +kernel
theorem dX11_findRests_23 : decode cX11_findRests 23 = .ok (.bipush 65, 2) := by decide +kernel
theorem dX11_findRests_25 : decode cX11_findRests 25 = .ok (.iaload, 1) := by decide +kernel
theorem dX11_findRests_26 : decode cX11_findRests 26 = .ok (.if_icmp .ne 7, 3) := by decide +kernel
theorem dX11_findRests_29 : decode cX11_findRests 29 = .ok (.iconst 0, 1) := by decide +kernel
theorem dX11_findRests_30 : decode cX11_findRests 30 = .ok (.goto 6, 3) := by decide +kernel
theorem dX11_findRests_33 : decode cX11_findRests 33 = .ok (.ldc_w 337, 3) := by decide +kernel
theorem dX11_findRests_36 : decode cX11_findRests 36 = .ok (.iastore, 1) := by decide +kernel
theorem dX11_findRests_37 : decode cX11_findRests 37 = .ok (.iconst 0, 1) := by decide +kernel
theorem dX11_findRests_38 : decode cX11_findRests 38 = .ok (.istore 4, 2) := by decide +kernel
theorem dX11_findRests_40 : decode cX11_findRests 40 = .ok (.iload 4, 2) := by decide +kernel
theorem dX11_findRests_42 : decode cX11_findRests 42 = .ok (.bipush 12, 2) := by decide +kernel
theorem dX11_findRests_44 : decode cX11_findRests 44 = .ok (.if_icmp .ge 80, 3) := by decide +kernel
theorem dX11_findRests_47 : decode cX11_findRests 47 = .ok (.iload_n 3, 1) := by decide +kernel
theorem dX11_findRests_48 : decode cX11_findRests 48 = .ok (.aload_n 0, 1) := by decide +kernel
theorem dX11_findRests_49 : decode cX11_findRests 49 = .ok (.getfield 7, 3) := by decide +kernel
theorem dX11_findRests_52 : decode cX11_findRests 52 = .ok (.bipush 65, 2) := by decide +kernel
theorem dX11_findRests_54 : decode cX11_findRests 54 = .ok (.iaload, 1) := by decide +kernel
theorem dX11_findRests_55 : decode cX11_findRests 55 = .ok (.if_icmp .ge 69, 3) := by decide +kernel
theorem dX11_findRests_58 : decode cX11_findRests 58 = .ok (.iload_n 2, 1) := by decide +kernel
theorem dX11_findRests_59 : decode cX11_findRests 59 = .ok (.iload 4, 2) := by decide +kernel
theorem dX11_findRests_61 : decode cX11_findRests 61 = .ok (.ishr, 1) := by decide +kernel
theorem dX11_findRests_62 : decode cX11_findRests 62 = .ok (.iconst 1, 1) := by decide +kernel
theorem dX11_findRests_63 : decode cX11_findRests 63 = .ok (.iand, 1) := by decide +kernel
theorem dX11_findRests_64 : decode cX11_findRests 64 = .ok (.ifCond .ne 54, 3) := by decide +kernel
theorem dX11_findRests_67 : decode cX11_findRests 67 = .ok (.aload_n 0, 1) := by decide +kernel
theorem dX11_findRests_68 : decode cX11_findRests 68 = .ok (.iload_n 3, 1) := by decide +kernel
theorem dX11_findRests_69 : decode cX11_findRests 69 = .ok (.iload_n 1, 1) := by decide +kernel
theorem dX11_findRests_70 : decode cX11_findRests 70 = .ok (.iload 4, 2) := by decide +kernel
theorem dX11_findRests_72 : decode cX11_findRests 72 = .ok (.iadd, 1) := by decide +kernel
theorem dX11_findRests_73 : decode cX11_findRests 73 = .ok (.invokevirtual 338, 3) := by decide +kernel
theorem dX11_findRests_76 : decode cX11_findRests 76 = .ok (.aload_n 0, 1) := by decide +kernel
theorem dX11_findRests_77 : decode cX11_findRests 77 = .ok (.getfield 77, 3) := by decide +kernel
theorem dX11_findRests_80 : decode cX11_findRests 80 = .ok (.iload_n 2, 1) := by decide +kernel
theorem dX11_findRests_81 : decode cX11_findRests 81 = .ok (.iconst 1, 1) := by decide +kernel
theorem dX11_findRests_82 : decode cX11_findRests 82 = .ok (.iload 4, 2) := by decide +kernel
theorem dX11_findRests_84 : decode cX11_findRests 84 = .ok (.ishl, 1) := by decide +kernel
theorem dX11_findRests_85 : decode cX11_findRests 85 = .ok (.ior, 1) := by decide +kernel
theorem dX11_findRests_86 : decode cX11_findRests 86 = .ok (.iaload, 1) := by decide +kernel
theorem dX11_findRests_87 : decode cX11_findRests 87 = .ok (.iadd, 1) := by decide +kernel
theorem dX11_findRests_88 : decode cX11_findRests 88 = .ok (.istore 5, 2) := by decide +kernel
theorem dX11_findRests_90 : decode cX11_findRests 90 = .ok (.aload_n 0, 1) := by decide +kernel
theorem dX11_findRests_91 : decode cX11_findRests 91 = .ok (.getfield 77, 3) := by decide +kernel
theorem dX11_findRests_94 : decode cX11_findRests 94 = .ok (.iload_n 2, 1) := by decide +kernel
theorem dX11_findRests_95 : decode cX11_findRests 95 = .ok (.iload 5, 2) := by decide +kernel
theorem dX11_findRests_97 : decode cX11_findRests 97 = .ok (.aload_n 0, 1) := by decide +kernel
theorem dX11_findRests_98 : decode cX11_findRests 98 = .ok (.getfield 77, 3) := by decide +kernel
theorem dX11_findRests_101 : decode cX11_findRests 101 = .ok (.iload_n 2, 1) := by decide +kernel
theorem dX11_findRests_102 : decode cX11_findRests 102 = .ok (.iaload, 1) := by decide +kernel
theorem dX11_findRests_103 : decode cX11_findRests 103 = .ok (.if_icmp .ge 8, 3) := by decide +kernel
theorem dX11_findRests_106 : decode cX11_findRests 106 = .ok (.iload 5, 2) := by decide +kernel
theorem dX11_findRests_108 : decode cX11_findRests 108 = .ok (.goto 9, 3) := by decide +kernel
theorem dX11_findRests_111 : decode cX11_findRests 111 = .ok (.aload_n 0, 1) := by decide +kernel
theorem dX11_findRests_112 : decode cX11_findRests 112 = .ok (.getfield 77, 3) := by decide +kernel
theorem dX11_findRests_115 : decode cX11_findRests 115 = .ok (.iload_n 2, 1) := by decide +kernel
theorem dX11_findRests_116 : decode cX11_findRests 116 = .ok (.iaload, 1) := by decide +kernel
theorem dX11_findRests_117 : decode cX11_findRests 117 = .ok (.iastore, 1) := by decide +kernel
theorem dX11_findRests_118 : decode cX11_findRests 118 = .ok (.iinc 4 1, 3) := by decide +kernel
theorem dX11_findRests_121 : decode cX11_findRests 121 = .ok (.goto (-81), 3) := by decide +kernel
theorem dX11_findRests_124 : decode cX11_findRests 124 = .ok (.iinc 2 (-1), 3) := by decide +kernel
theorem dX11_findRests_127 : decode cX11_findRests 127 = .ok (.goto (-123), 3) := by decide +kernel
theorem dX11_findRests_130 : decode cX11_findRests 130 = .ok (.return_, 1) := by decide +kernel
theorem dX11_plan_0 : decode cX11_plan 0 = .ok (.iload_n 1, 1) := by decide +kernel
theorem dX11_plan_1 : decode cX11_plan 1 = .ok (.i2l, 1) := by decide +kernel
theorem dX11_plan_2 : decode cX11_plan 2 = .ok (.lconst 0, 1) := by decide +kernel
theorem dX11_plan_3 : decode cX11_plan 3 = .ok (.ldc2_w 269, 3) := by decide +kernel
theorem dX11_plan_6 : decode cX11_plan 6 = .ok (.invokestatic 146, 3) := by decide +kernel
theorem dX11_plan_9 : decode cX11_plan 9 = .ok (.ifCond .eq 29, 3) := by decide +kernel
theorem dX11_plan_12 : decode cX11_plan 12 = .ok (.iload_n 2, 1) := by decide +kernel
theorem dX11_plan_13 : decode cX11_plan 13 = .ok (.ifCond .eq 27, 3) := by decide +kernel
theorem dX11_plan_16 : decode cX11_plan 16 = .ok (.iload_n 2, 1) := by decide +kernel
theorem dX11_plan_17 : decode cX11_plan 17 = .ok (.i2l, 1) := by decide +kernel
theorem dX11_plan_18 : decode cX11_plan 18 = .ok (.ldc2_w 251, 3) := by decide +kernel
theorem dX11_plan_21 : decode cX11_plan 21 = .ok (.bipush 9, 2) := by decide +kernel
theorem dX11_plan_23 : decode cX11_plan 23 = .ok (.aload_n 0, 1) := by decide +kernel
theorem dX11_plan_24 : decode cX11_plan 24 = .ok (.getfield 7, 3) := by decide +kernel
theorem dX11_plan_27 : decode cX11_plan 27 = .ok (.bipush 65, 2) := by decide +kernel
theorem dX11_plan_29 : decode cX11_plan 29 = .ok (.iaload, 1) := by decide +kernel
theorem dX11_plan_30 : decode cX11_plan 30 = .ok (.iadd, 1) := by decide +kernel
theorem dX11_plan_31 : decode cX11_plan 31 = .ok (.i2l, 1) := by decide +kernel
theorem dX11_plan_32 : decode cX11_plan 32 = .ok (.invokestatic 146, 3) := by decide +kernel
theorem dX11_plan_35 : decode cX11_plan 35 = .ok (.ifCond .ne 5, 3) := by decide +kernel
theorem dX11_plan_38 : decode cX11_plan 38 = .ok (.iconst (-1), 1) := by decide +kernel
theorem dX11_plan_39 : decode cX11_plan 39 = .ok (.ireturn, 1) := by decide +kernel
theorem dX11_plan_40 : decode cX11_plan 40 = .ok (.aload_n 0, 1) := by decide +kernel
theorem dX11_plan_41 : decode cX11_plan 41 = .ok (.getfield 7, 3) := by decide +kernel
theorem dX11_plan_44 : decode cX11_plan 44 = .ok (.bipush 65, 2) := by decide +kernel
theorem dX11_plan_46 : decode cX11_plan 46 = .ok (.iaload, 1) := by decide +kernel
theorem dX11_plan_47 : decode cX11_plan 47 = .ok (.ifCond .ne 6, 3) := by decide +kernel
theorem dX11_plan_50 : decode cX11_plan 50 = .ok (.bipush (-2), 2) := by decide +kernel
theorem dX11_plan_52 : decode cX11_plan 52 = .ok (.ireturn, 1) := by decide +kernel
theorem dX11_plan_53 : decode cX11_plan 53 = .ok (.aload_n 0, 1) := by decide +kernel
theorem dX11_plan_54 : decode cX11_plan 54 = .ok (.iload_n 1, 1) := by decide +kernel
theorem dX11_plan_55 : decode cX11_plan 55 = .ok (.invokevirtual 341, 3) := by decide +kernel
theorem dX11_plan_58 : decode cX11_plan 58 = .ok (.iload_n 2, 1) := by decide +kernel
theorem dX11_plan_59 : decode cX11_plan 59 = .ok (.ifCond .ne 10, 3) := by decide +kernel
theorem dX11_plan_62 : decode cX11_plan 62 = .ok (.aload_n 0, 1) := by decide +kernel
theorem dX11_plan_63 : decode cX11_plan 63 = .ok (.getfield 77, 3) := by decide +kernel
theorem dX11_plan_66 : decode cX11_plan 66 = .ok (.iconst 0, 1) := by decide +kernel
theorem dX11_plan_67 : decode cX11_plan 67 = .ok (.iaload, 1) := by decide +kernel
theorem dX11_plan_68 : decode cX11_plan 68 = .ok (.ireturn, 1) := by decide +kernel
theorem dX11_plan_69 : decode cX11_plan 69 = .ok (.iconst 0, 1) := by decide +kernel
theorem dX11_plan_70 : decode cX11_plan 70 = .ok (.istore_n 3, 1) := by decide +kernel
theorem dX11_plan_71 : decode cX11_plan 71 = .ok (.bipush (-4), 2) := by decide +kernel
theorem dX11_plan_73 : decode cX11_plan 73 = .ok (.istore 4, 2) := by decide +kernel
theorem dX11_plan_75 : decode cX11_plan 75 = .ok (.iconst 0, 1) := by decide +kernel
theorem dX11_plan_76 : decode cX11_plan 76 = .ok (.istore 5, 2) := by decide +kernel
theorem dX11_plan_78 : decode cX11_plan 78 = .ok (.iload 5, 2) := by decide +kernel
theorem dX11_plan_80 : decode cX11_plan 80 = .ok (.iload_n 2, 1) := by decide +kernel
theorem dX11_plan_81 : decode cX11_plan 81 = .ok (.bipush 10, 2) := by decide +kernel
theorem dX11_plan_83 : decode cX11_plan 83 = .ok (.isub, 1) := by decide +kernel
theorem dX11_plan_84 : decode cX11_plan 84 = .ok (.if_icmp .gt 96, 3) := by decide +kernel
theorem dX11_plan_87 : decode cX11_plan 87 = .ok (.bipush (-4), 2) := by decide +kernel
theorem dX11_plan_89 : decode cX11_plan 89 = .ok (.istore 4, 2) := by decide +kernel
theorem dX11_plan_91 : decode cX11_plan 91 = .ok (.bipush 11, 2) := by decide +kernel
theorem dX11_plan_93 : decode cX11_plan 93 = .ok (.istore 6, 2) := by decide +kernel
theorem dX11_plan_95 : decode cX11_plan 95 = .ok (.iload 6, 2) := by decide +kernel
theorem dX11_plan_97 : decode cX11_plan 97 = .ok (.ifCond .lt 70, 3) := by decide +kernel
theorem dX11_plan_100 : decode cX11_plan 100 = .ok (.iload_n 3, 1) := by decide +kernel
theorem dX11_plan_101 : decode cX11_plan 101 = .ok (.iload 6, 2) := by decide +kernel
theorem dX11_plan_103 : decode cX11_plan 103 = .ok (.ishr, 1) := by decide +kernel
theorem dX11_plan_104 : decode cX11_plan 104 = .ok (.iconst 1, 1) := by decide +kernel
theorem dX11_plan_105 : decode cX11_plan 105 = .ok (.iand, 1) := by decide +kernel
theorem dX11_plan_106 : decode cX11_plan 106 = .ok (.ifCond .ne 38, 3) := by decide +kernel
theorem dX11_plan_109 : decode cX11_plan 109 = .ok (.aload_n 0, 1) := by decide +kernel
theorem dX11_plan_110 : decode cX11_plan 110 = .ok (.iload 5, 2) := by decide +kernel
theorem dX11_plan_112 : decode cX11_plan 112 = .ok (.iload_n 1, 1) := by decide +kernel
theorem dX11_plan_113 : decode cX11_plan 113 = .ok (.iload 6, 2) := by decide +kernel
theorem dX11_plan_115 : decode cX11_plan 115 = .ok (.iadd, 1) := by decide +kernel
theorem dX11_plan_116 : decode cX11_plan 116 = .ok (.invokevirtual 338, 3) := by decide +kernel
theorem dX11_plan_119 : decode cX11_plan 119 = .ok (.aload_n 0, 1) := by decide +kernel
theorem dX11_plan_120 : decode cX11_plan 120 = .ok (.getfield 77, 3) := by decide +kernel
theorem dX11_plan_123 : decode cX11_plan 123 = .ok (.iload_n 3, 1) := by decide +kernel
theorem dX11_plan_124 : decode cX11_plan 124 = .ok (.iconst 1, 1) := by decide +kernel
theorem dX11_plan_125 : decode cX11_plan 125 = .ok (.iload 6, 2) := by decide +kernel
theorem dX11_plan_127 : decode cX11_plan 127 = .ok (.ishl, 1) := by decide +kernel
theorem dX11_plan_128 : decode cX11_plan 128 = .ok (.ior, 1) := by decide +kernel
theorem dX11_plan_129 : decode cX11_plan 129 = .ok (.iaload, 1) := by decide +kernel
theorem dX11_plan_130 : decode cX11_plan 130 = .ok (.iadd, 1) := by decide +kernel
theorem dX11_plan_131 : decode cX11_plan 131 = .ok (.aload_n 0, 1) := by decide +kernel
theorem dX11_plan_132 : decode cX11_plan 132 = .ok (.getfield 77, 3) := by decide +kernel
theorem dX11_plan_135 : decode cX11_plan 135 = .ok (.iload_n 3, 1) := by decide +kernel
theorem dX11_plan_136 : decode cX11_plan 136 = .ok (.iaload, 1) := by decide +kernel
theorem dX11_plan_137 : decode cX11_plan 137 = .ok (.if_icmp .ne 7, 3) := by decide +kernel
theorem dX11_plan_140 : decode cX11_plan 140 = .ok (.iconst 1, 1) := by decide +kernel
theorem dX11_plan_141 : decode cX11_plan 141 = .ok (.goto 4, 3) := by decide +kernel
theorem dX11_plan_144 : decode cX11_plan 144 = .ok (.iconst 0, 1) := by decide +kernel
theorem dX11_plan_145 : decode cX11_plan 145 = .ok (.istore 7, 2) := by decide +kernel
theorem dX11_plan_147 : decode cX11_plan 147 = .ok (.iload 7, 2) := by decide +kernel
theorem dX11_plan_149 : decode cX11_plan 149 = .ok (.ifCond .eq 8, 3) := by decide +kernel
theorem dX11_plan_152 : decode cX11_plan 152 = .ok (.iload 6, 2) := by decide +kernel
theorem dX11_plan_154 : decode cX11_plan 154 = .ok (.goto 5, 3) := by decide +kernel
theorem dX11_plan_157 : decode cX11_plan 157 = .ok (.iload 4, 2) := by decide +kernel
theorem dX11_plan_159 : decode cX11_plan 159 = .ok (.istore 4, 2) := by decide +kernel
theorem dX11_plan_161 : decode cX11_plan 161 = .ok (.iinc 6 (-1), 3) := by decide +kernel
theorem dX11_plan_164 : decode cX11_plan 164 = .ok (.goto (-69), 3) := by decide +kernel
theorem dX11_plan_167 : decode cX11_plan 167 = .ok (.iload_n 3, 1) := by decide +kernel
theorem dX11_plan_168 : decode cX11_plan 168 = .ok (.iconst 1, 1) := by decide +kernel
theorem dX11_plan_169 : decode cX11_plan 169 = .ok (.iload 4, 2) := by decide +kernel
theorem dX11_plan_171 : decode cX11_plan 171 = .ok (.ishl, 1) := by decide +kernel
theorem dX11_plan_172 : decode cX11_plan 172 = .ok (.ior, 1) := by decide +kernel
theorem dX11_plan_173 : decode cX11_plan 173 = .ok (.istore_n 3, 1) := by decide +kernel
theorem dX11_plan_174 : decode cX11_plan 174 = .ok (.iinc 5 1, 3) := by decide +kernel
theorem dX11_plan_177 : decode cX11_plan 177 = .ok (.goto (-99), 3) := by decide +kernel
theorem dX11_plan_180 : decode cX11_plan 180 = .ok (.iload_n 1, 1) := by decide +kernel
theorem dX11_plan_181 : decode cX11_plan 181 = .ok (.iload 4, 2) := by decide +kernel
theorem dX11_plan_183 : decode cX11_plan 183 = .ok (.iadd, 1) := by decide +kernel
theorem dX11_plan_184 : decode cX11_plan 184 = .ok (.ireturn, 1) := by decide +kernel
theorem dX11_cannot_0 : decode cX11_cannot 0 = .ok (.iload_n 1, 1) := by decide +kernel
theorem dX11_cannot_1 : decode cX11_cannot 1 = .ok (.i2l, 1) := by decide +kernel
theorem dX11_cannot_2 : decode cX11_cannot 2 = .ok (.lconst 0, 1) := by decide +kernel
theorem dX11_cannot_3 : decode cX11_cannot 3 = .ok (.lconst 1, 1) := by decide +kernel
theorem dX11_cannot_4 : decode cX11_cannot 4 = .ok (.invokestatic 146, 3) := by decide +kernel
theorem dX11_cannot_7 : decode cX11_cannot 7 = .ok (.ifCond .ne 5, 3) := by decide +kernel
theorem dX11_cannot_10 : decode cX11_cannot 10 = .ok (.iconst (-1), 1) := by decide +kernel
theorem dX11_cannot_11 : decode cX11_cannot 11 = .ok (.ireturn, 1) := by decide +kernel
theorem dX11_cannot_12 : decode cX11_cannot 12 = .ok (.iconst 0, 1) := by decide +kernel
theorem dX11_cannot_13 : decode cX11_cannot 13 = .ok (.istore_n 2, 1) := by decide +kernel
theorem dX11_cannot_14 : decode cX11_cannot 14 = .ok (.bipush (-4), 2) := by decide +kernel
theorem dX11_cannot_16 : decode cX11_cannot 16 = .ok (.istore_n 3, 1) := by decide +kernel
theorem dX11_cannot_17 : decode cX11_cannot 17 = .ok (.iconst 1, 1) := by decide +kernel
theorem dX11_cannot_18 : decode cX11_cannot 18 = .ok (.istore 4, 2) := by decide +kernel
theorem dX11_cannot_20 : decode cX11_cannot 20 = .ok (.iload 4, 2) := by decide +kernel
theorem dX11_cannot_22 : decode cX11_cannot 22 = .ok (.bipush 6, 2) := by decide +kernel
theorem dX11_cannot_24 : decode cX11_cannot 24 = .ok (.if_icmp .ge 66, 3) := by decide +kernel
theorem dX11_cannot_27 : decode cX11_cannot 27 = .ok (.aload_n 0, 1) := by decide +kernel
theorem dX11_cannot_28 : decode cX11_cannot 28 = .ok (.iconst 1, 1) := by decide +kernel
theorem dX11_cannot_29 : decode cX11_cannot 29 = .ok (.iload 4, 2) := by decide +kernel
theorem dX11_cannot_31 : decode cX11_cannot 31 = .ok (.invokevirtual 261, 3) := by decide +kernel
theorem dX11_cannot_34 : decode cX11_cannot 34 = .ok (.ifCond .ne 27, 3) := by decide +kernel
theorem dX11_cannot_37 : decode cX11_cannot 37 = .ok (.iload_n 3, 1) := by decide +kernel
theorem dX11_cannot_38 : decode cX11_cannot 38 = .ok (.bipush (-4), 2) := by decide +kernel
theorem dX11_cannot_40 : decode cX11_cannot 40 = .ok (.if_icmp .eq 17, 3) := by decide +kernel
theorem dX11_cannot_43 : decode cX11_cannot 43 = .ok (.aload_n 0, 1) := by decide +kernel
theorem dX11_cannot_44 : decode cX11_cannot 44 = .ok (.getfield 20, 3) := by decide +kernel
theorem dX11_cannot_47 : decode cX11_cannot 47 = .ok (.bipush 6, 2) := by decide +kernel
theorem dX11_cannot_49 : decode cX11_cannot 49 = .ok (.iload 4, 2) := by decide +kernel
theorem dX11_cannot_51 : decode cX11_cannot 51 = .ok (.iadd, 1) := by decide +kernel
theorem dX11_cannot_52 : decode cX11_cannot 52 = .ok (.iaload, 1) := by decide +kernel
theorem dX11_cannot_53 : decode cX11_cannot 53 = .ok (.iload_n 3, 1) := by decide +kernel
theorem dX11_cannot_54 : decode cX11_cannot 54 = .ok (.if_icmp .ge 7, 3) := by decide +kernel
theorem dX11_cannot_57 : decode cX11_cannot 57 = .ok (.iconst 1, 1) := by decide +kernel
theorem dX11_cannot_58 : decode cX11_cannot 58 = .ok (.goto 4, 3) := by decide +kernel
theorem dX11_cannot_61 : decode cX11_cannot 61 = .ok (.iconst 0, 1) := by decide +kernel
theorem dX11_cannot_62 : decode cX11_cannot 62 = .ok (.istore 5, 2) := by decide +kernel
theorem dX11_cannot_64 : decode cX11_cannot 64 = .ok (.iload 5, 2) := by decide +kernel
theorem dX11_cannot_66 : decode cX11_cannot 66 = .ok (.ifCond .eq 16, 3) := by decide +kernel
theorem dX11_cannot_69 : decode cX11_cannot 69 = .ok (.aload_n 0, 1) := by decide +kernel
theorem dX11_cannot_70 : decode cX11_cannot 70 = .ok (.getfield 20, 3) := by decide +kernel
theorem dX11_cannot_73 : decode cX11_cannot 73 = .ok (.bipush 6, 2) := by decide +kernel
theorem dX11_cannot_75 : decode cX11_cannot 75 = .ok (.iload 4, 2) := by decide +kernel
theorem dX11_cannot_77 : decode cX11_cannot 77 = .ok (.iadd, 1) := by decide +kernel
theorem dX11_cannot_78 : decode cX11_cannot 78 = .ok (.iaload, 1) := by decide +kernel
theorem dX11_cannot_79 : decode cX11_cannot 79 = .ok (.goto 4, 3) := by decide +kernel
theorem dX11_cannot_82 : decode cX11_cannot 82 = .ok (.iload_n 3, 1) := by decide +kernel
theorem dX11_cannot_83 : decode cX11_cannot 83 = .ok (.istore_n 3, 1) := by decide +kernel
theorem dX11_cannot_84 : decode cX11_cannot 84 = .ok (.iinc 4 1, 3) := by decide +kernel
theorem dX11_cannot_87 : decode cX11_cannot 87 = .ok (.goto (-67), 3) := by decide +kernel
theorem dX11_cannot_90 : decode cX11_cannot 90 = .ok (.iconst 0, 1) := by decide +kernel
theorem dX11_cannot_91 : decode cX11_cannot 91 = .ok (.istore 4, 2) := by decide +kernel
theorem dX11_cannot_93 : decode cX11_cannot 93 = .ok (.iconst 0, 1) := by decide +kernel
theorem dX11_cannot_94 : decode cX11_cannot 94 = .ok (.istore 5, 2) := by decide +kernel
theorem dX11_cannot_96 : decode cX11_cannot 96 = .ok (.iload 5, 2) := by decide +kernel
theorem dX11_cannot_98 : decode cX11_cannot 98 = .ok (.aload_n 0, 1) := by decide +kernel
theorem dX11_cannot_99 : decode cX11_cannot 99 = .ok (.getfield 7, 3) := by decide +kernel
theorem dX11_cannot_102 : decode cX11_cannot 102 = .ok (.bipush 65, 2) := by decide +kernel
theorem dX11_cannot_104 : decode cX11_cannot 104 = .ok (.iaload, 1) := by decide +kernel
theorem dX11_cannot_105 : decode cX11_cannot 105 = .ok (.if_icmp .ge 86, 3) := by decide +kernel
theorem dX11_cannot_108 : decode cX11_cannot 108 = .ok (.aload_n 0, 1) := by decide +kernel
theorem dX11_cannot_109 : decode cX11_cannot 109 = .ok (.getfield 7, 3) := by decide +kernel
theorem dX11_cannot_112 : decode cX11_cannot 112 = .ok (.bipush 66, 2) := by decide +kernel
theorem dX11_cannot_114 : decode cX11_cannot 114 = .ok (.iconst 2, 1) := by decide +kernel
theorem dX11_cannot_115 : decode cX11_cannot 115 = .ok (.iload 5, 2) := by decide +kernel
theorem dX11_cannot_117 : decode cX11_cannot 117 = .ok (.imul, 1) := by decide +kernel
theorem dX11_cannot_118 : decode cX11_cannot 118 = .ok (.iadd, 1) := by decide +kernel
theorem dX11_cannot_119 : decode cX11_cannot 119 = .ok (.iconst 1, 1) := by decide +kernel
theorem dX11_cannot_120 : decode cX11_cannot 120 = .ok (.iadd, 1) := by decide +kernel
theorem dX11_cannot_121 : decode cX11_cannot 121 = .ok (.iaload, 1) := by decide +kernel
theorem dX11_cannot_122 : decode cX11_cannot 122 = .ok (.istore 6, 2) := by decide +kernel
theorem dX11_cannot_124 : decode cX11_cannot 124 = .ok (.iload_n 2, 1) := by decide +kernel
theorem dX11_cannot_125 : decode cX11_cannot 125 = .ok (.aload_n 0, 1) := by decide +kernel
theorem dX11_cannot_126 : decode cX11_cannot 126 = .ok (.iconst 0, 1) := by decide +kernel
theorem dX11_cannot_127 : decode cX11_cannot 127 = .ok (.iload 6, 2) := by decide +kernel
theorem dX11_cannot_129 : decode cX11_cannot 129 = .ok (.invokevirtual 261, 3) := by decide +kernel
theorem dX11_cannot_132 : decode cX11_cannot 132 = .ok (.ifCond .ne 18, 3) := by decide +kernel
theorem dX11_cannot_135 : decode cX11_cannot 135 = .ok (.aload_n 0, 1) := by decide +kernel
theorem dX11_cannot_136 : decode cX11_cannot 136 = .ok (.iconst 1, 1) := by decide +kernel
theorem dX11_cannot_137 : decode cX11_cannot 137 = .ok (.aload_n 0, 1) := by decide +kernel
theorem dX11_cannot_138 : decode cX11_cannot 138 = .ok (.getfield 29, 3) := by decide +kernel
theorem dX11_cannot_141 : decode cX11_cannot 141 = .ok (.iload 6, 2) := by decide +kernel
theorem dX11_cannot_143 : decode cX11_cannot 143 = .ok (.iaload, 1) := by decide +kernel
theorem dX11_cannot_144 : decode cX11_cannot 144 = .ok (.invokevirtual 261, 3) := by decide +kernel
theorem dX11_cannot_147 : decode cX11_cannot 147 = .ok (.ifCond .eq 10, 3) := by decide +kernel
theorem dX11_cannot_150 : decode cX11_cannot 150 = .ok (.iconst 1, 1) := by decide +kernel
theorem dX11_cannot_151 : decode cX11_cannot 151 = .ok (.iload 6, 2) := by decide +kernel
theorem dX11_cannot_153 : decode cX11_cannot 153 = .ok (.ishl, 1) := by decide +kernel
theorem dX11_cannot_154 : decode cX11_cannot 154 = .ok (.goto 4, 3) := by decide +kernel
theorem dX11_cannot_157 : decode cX11_cannot 157 = .ok (.iconst 0, 1) := by decide +kernel
theorem dX11_cannot_158 : decode cX11_cannot 158 = .ok (.ior, 1) := by decide +kernel
theorem dX11_cannot_159 : decode cX11_cannot 159 = .ok (.istore_n 2, 1) := by decide +kernel
theorem dX11_cannot_160 : decode cX11_cannot 160 = .ok (.iload 4, 2) := by decide +kernel
theorem dX11_cannot_162 : decode cX11_cannot 162 = .ok (.aload_n 0, 1) := by decide +kernel
theorem dX11_cannot_163 : decode cX11_cannot 163 = .ok (.iconst 1, 1) := by decide +kernel
theorem dX11_cannot_164 : decode cX11_cannot 164 = .ok (.aload_n 0, 1) := by decide +kernel
theorem dX11_cannot_165 : decode cX11_cannot 165 = .ok (.getfield 29, 3) := by decide +kernel
theorem dX11_cannot_168 : decode cX11_cannot 168 = .ok (.iload 6, 2) := by decide +kernel
theorem dX11_cannot_170 : decode cX11_cannot 170 = .ok (.iaload, 1) := by decide +kernel
theorem dX11_cannot_171 : decode cX11_cannot 171 = .ok (.invokevirtual 261, 3) := by decide +kernel
theorem dX11_cannot_174 : decode cX11_cannot 174 = .ok (.ifCond .eq 7, 3) := by decide +kernel
theorem dX11_cannot_177 : decode cX11_cannot 177 = .ok (.iload_n 3, 1) := by decide +kernel
theorem dX11_cannot_178 : decode cX11_cannot 178 = .ok (.goto 4, 3) := by decide +kernel
theorem dX11_cannot_181 : decode cX11_cannot 181 = .ok (.iconst 0, 1) := by decide +kernel
theorem dX11_cannot_182 : decode cX11_cannot 182 = .ok (.iadd, 1) := by decide +kernel
theorem dX11_cannot_183 : decode cX11_cannot 183 = .ok (.istore 4, 2) := by decide +kernel
theorem dX11_cannot_185 : decode cX11_cannot 185 = .ok (.iinc 5 1, 3) := by decide +kernel
theorem dX11_cannot_188 : decode cX11_cannot 188 = .ok (.goto (-92), 3) := by decide +kernel
theorem dX11_cannot_191 : decode cX11_cannot 191 = .ok (.iload_n 1, 1) := by decide +kernel
theorem dX11_cannot_192 : decode cX11_cannot 192 = .ok (.ifCond .ne 7, 3) := by decide +kernel
theorem dX11_cannot_195 : decode cX11_cannot 195 = .ok (.iload_n 2, 1) := by decide +kernel
theorem dX11_cannot_196 : decode cX11_cannot 196 = .ok (.goto 16, 3) := by decide +kernel
theorem dX11_cannot_199 : decode cX11_cannot 199 = .ok (.iload_n 3, 1) := by decide +kernel
theorem dX11_cannot_200 : decode cX11_cannot 200 = .ok (.bipush (-4), 2) := by decide +kernel
theorem dX11_cannot_202 : decode cX11_cannot 202 = .ok (.if_icmp .ne 8, 3) := by decide +kernel
theorem dX11_cannot_205 : decode cX11_cannot 205 = .ok (.bipush (-4), 2) := by decide +kernel
theorem dX11_cannot_207 : decode cX11_cannot 207 = .ok (.goto 5, 3) := by decide +kernel
theorem dX11_cannot_210 : decode cX11_cannot 210 = .ok (.iload 4, 2) := by decide +kernel
theorem dX11_cannot_212 : decode cX11_cannot 212 = .ok (.ireturn, 1) := by decide +kernel
theorem dX11_fire_0 : decode cX11_fire 0 = .ok (.aload_n 0, 1) := by decide +kernel
theorem dX11_fire_1 : decode cX11_fire 1 = .ok (.iload_n 1, 1) := by decide +kernel
theorem dX11_fire_2 : decode cX11_fire 2 = .ok (.iload_n 2, 1) := by decide +kernel
theorem dX11_fire_3 : decode cX11_fire 3 = .ok (.invokevirtual 282, 3) := by decide +kernel
theorem dX11_fire_6 : decode cX11_fire 6 = .ok (.ifCond .eq 13, 3) := by decide +kernel
theorem dX11_fire_9 : decode cX11_fire 9 = .ok (.iload_n 3, 1) := by decide +kernel
theorem dX11_fire_10 : decode cX11_fire 10 = .ok (.i2l, 1) := by decide +kernel
theorem dX11_fire_11 : decode cX11_fire 11 = .ok (.lconst 0, 1) := by decide +kernel
theorem dX11_fire_12 : decode cX11_fire 12 = .ok (.lconst 1, 1) := by decide +kernel
theorem dX11_fire_13 : decode cX11_fire 13 = .ok (.invokestatic 146, 3) := by decide +kernel
theorem dX11_fire_16 : decode cX11_fire 16 = .ok (.ifCond .ne 5, 3) := by decide +kernel
theorem dX11_fire_19 : decode cX11_fire 19 = .ok (.iconst (-1), 1) := by decide +kernel
theorem dX11_fire_20 : decode cX11_fire 20 = .ok (.ireturn, 1) := by decide +kernel
theorem dX11_fire_21 : decode cX11_fire 21 = .ok (.aload_n 0, 1) := by decide +kernel
theorem dX11_fire_22 : decode cX11_fire 22 = .ok (.iload_n 1, 1) := by decide +kernel
theorem dX11_fire_23 : decode cX11_fire 23 = .ok (.iload_n 2, 1) := by decide +kernel
theorem dX11_fire_24 : decode cX11_fire 24 = .ok (.invokevirtual 320, 3) := by decide +kernel
theorem dX11_fire_27 : decode cX11_fire 27 = .ok (.istore 4, 2) := by decide +kernel
theorem dX11_fire_29 : decode cX11_fire 29 = .ok (.iload 4, 2) := by decide +kernel
theorem dX11_fire_31 : decode cX11_fire 31 = .ok (.ifCond .ne 6, 3) := by decide +kernel
theorem dX11_fire_34 : decode cX11_fire 34 = .ok (.bipush (-2), 2) := by decide +kernel
theorem dX11_fire_36 : decode cX11_fire 36 = .ok (.ireturn, 1) := by decide +kernel
theorem dX11_fire_37 : decode cX11_fire 37 = .ok (.aload_n 0, 1) := by decide +kernel
theorem dX11_fire_38 : decode cX11_fire 38 = .ok (.iload_n 1, 1) := by decide +kernel
theorem dX11_fire_39 : decode cX11_fire 39 = .ok (.iload_n 2, 1) := by decide +kernel
theorem dX11_fire_40 : decode cX11_fire 40 = .ok (.invokevirtual 289, 3) := by decide +kernel
theorem dX11_fire_43 : decode cX11_fire 43 = .ok (.istore 5, 2) := by decide +kernel
theorem dX11_fire_45 : decode cX11_fire 45 = .ok (.aload_n 0, 1) := by decide +kernel
theorem dX11_fire_46 : decode cX11_fire 46 = .ok (.getfield 20, 3) := by decide +kernel
theorem dX11_fire_49 : decode cX11_fire 49 = .ok (.bipush 6, 2) := by decide +kernel
theorem dX11_fire_51 : decode cX11_fire 51 = .ok (.iload_n 1, 1) := by decide +kernel
theorem dX11_fire_52 : decode cX11_fire 52 = .ok (.imul, 1) := by decide +kernel
theorem dX11_fire_53 : decode cX11_fire 53 = .ok (.iload 4, 2) := by decide +kernel
theorem dX11_fire_55 : decode cX11_fire 55 = .ok (.iadd, 1) := by decide +kernel
theorem dX11_fire_56 : decode cX11_fire 56 = .ok (.iaload, 1) := by decide +kernel
theorem dX11_fire_57 : decode cX11_fire 57 = .ok (.istore 6, 2) := by decide +kernel
theorem dX11_fire_59 : decode cX11_fire 59 = .ok (.aload_n 0, 1) := by decide +kernel
theorem dX11_fire_60 : decode cX11_fire 60 = .ok (.getfield 23, 3) := by decide +kernel
theorem dX11_fire_63 : decode cX11_fire 63 = .ok (.bipush 6, 2) := by decide +kernel
theorem dX11_fire_65 : decode cX11_fire 65 = .ok (.iload_n 1, 1) := by decide +kernel
theorem dX11_fire_66 : decode cX11_fire 66 = .ok (.imul, 1) := by decide +kernel
theorem dX11_fire_67 : decode cX11_fire 67 = .ok (.iload 4, 2) := by decide +kernel
theorem dX11_fire_69 : decode cX11_fire 69 = .ok (.iadd, 1) := by decide +kernel
theorem dX11_fire_70 : decode cX11_fire 70 = .ok (.iaload, 1) := by decide +kernel
theorem dX11_fire_71 : decode cX11_fire 71 = .ok (.iload 5, 2) := by decide +kernel
theorem dX11_fire_73 : decode cX11_fire 73 = .ok (.bipush (-4), 2) := by decide +kernel
theorem dX11_fire_75 : decode cX11_fire 75 = .ok (.if_icmp .ne 7, 3) := by decide +kernel
theorem dX11_fire_78 : decode cX11_fire 78 = .ok (.iconst 0, 1) := by decide +kernel
theorem dX11_fire_79 : decode cX11_fire 79 = .ok (.goto 29, 3) := by decide +kernel
theorem dX11_fire_82 : decode cX11_fire 82 = .ok (.aload_n 0, 1) := by decide +kernel
theorem dX11_fire_83 : decode cX11_fire 83 = .ok (.getfield 135, 3) := by decide +kernel
theorem dX11_fire_86 : decode cX11_fire 86 = .ok (.aload_n 0, 1) := by decide +kernel
theorem dX11_fire_87 : decode cX11_fire 87 = .ok (.getfield 23, 3) := by decide +kernel
theorem dX11_fire_90 : decode cX11_fire 90 = .ok (.bipush 6, 2) := by decide +kernel
theorem dX11_fire_92 : decode cX11_fire 92 = .ok (.iconst 1, 1) := by decide +kernel
theorem dX11_fire_93 : decode cX11_fire 93 = .ok (.iload_n 1, 1) := by decide +kernel
theorem dX11_fire_94 : decode cX11_fire 94 = .ok (.isub, 1) := by decide +kernel
theorem dX11_fire_95 : decode cX11_fire 95 = .ok (.imul, 1) := by decide +kernel
theorem dX11_fire_96 : decode cX11_fire 96 = .ok (.aload_n 0, 1) := by decide +kernel
theorem dX11_fire_97 : decode cX11_fire 97 = .ok (.iconst 1, 1) := by decide +kernel
theorem dX11_fire_98 : decode cX11_fire 98 = .ok (.iload_n 1, 1) := by decide +kernel
theorem dX11_fire_99 : decode cX11_fire 99 = .ok (.isub, 1) := by decide +kernel
theorem dX11_fire_100 : decode cX11_fire 100 = .ok (.iload 5, 2) := by decide +kernel
theorem dX11_fire_102 : decode cX11_fire 102 = .ok (.invokevirtual 320, 3) := by decide +kernel
theorem dX11_fire_105 : decode cX11_fire 105 = .ok (.iadd, 1) := by decide +kernel
theorem dX11_fire_106 : decode cX11_fire 106 = .ok (.iaload, 1) := by decide +kernel
theorem dX11_fire_107 : decode cX11_fire 107 = .ok (.iadd, 1) := by decide +kernel
theorem dX11_fire_108 : decode cX11_fire 108 = .ok (.iadd, 1) := by decide +kernel
theorem dX11_fire_109 : decode cX11_fire 109 = .ok (.istore 7, 2) := by decide +kernel
theorem dX11_fire_111 : decode cX11_fire 111 = .ok (.iload_n 3, 1) := by decide +kernel
theorem dX11_fire_112 : decode cX11_fire 112 = .ok (.ifCond .ne 21, 3) := by decide +kernel
theorem dX11_fire_115 : decode cX11_fire 115 = .ok (.iload 6, 2) := by decide +kernel
theorem dX11_fire_117 : decode cX11_fire 117 = .ok (.iload 7, 2) := by decide +kernel
theorem dX11_fire_119 : decode cX11_fire 119 = .ok (.if_icmp .gt 7, 3) := by decide +kernel
theorem dX11_fire_122 : decode cX11_fire 122 = .ok (.iconst 1, 1) := by decide +kernel
theorem dX11_fire_123 : decode cX11_fire 123 = .ok (.goto 4, 3) := by decide +kernel
theorem dX11_fire_126 : decode cX11_fire 126 = .ok (.iconst 0, 1) := by decide +kernel
theorem dX11_fire_127 : decode cX11_fire 127 = .ok (.invokestatic 265, 3) := by decide +kernel
theorem dX11_fire_130 : decode cX11_fire 130 = .ok (.goto 17, 3) := by decide +kernel
theorem dX11_fire_133 : decode cX11_fire 133 = .ok (.iload 6, 2) := by decide +kernel
end
section
theorem dX11_fire_135 : decode cX11_fire 135 = .ok (.iload 7, 2) := by decide +kernel
theorem dX11_fire_137 : decode cX11_fire 137 = .ok (.if_icmp .gt 8, 3) := by decide +kernel
theorem dX11_fire_140 : decode cX11_fire 140 = .ok (.iload 6, 2) := by decide +kernel
theorem dX11_fire_142 : decode cX11_fire 142 = .ok (.goto 5, 3) := by decide +kernel
theorem dX11_fire_145 : decode cX11_fire 145 = .ok (.iload 7, 2) := by decide +kernel
theorem dX11_fire_147 : decode cX11_fire 147 = .ok (.ireturn, 1) := by decide +kernel
theorem dX11_quarrelOf_0 : decode cX11_quarrelOf 0 = .ok (.iconst 0, 1) := by decide +kernel
theorem dX11_quarrelOf_1 : decode cX11_quarrelOf 1 = .ok (.istore_n 2, 1) := by decide +kernel
theorem dX11_quarrelOf_2 : decode cX11_quarrelOf 2 = .ok (.iconst 0, 1) := by decide +kernel
theorem dX11_quarrelOf_3 : decode cX11_quarrelOf 3 = .ok (.istore_n 3, 1) := by decide +kernel
theorem dX11_quarrelOf_4 : decode cX11_quarrelOf 4 = .ok (.iload_n 3, 1) := by decide +kernel
theorem dX11_quarrelOf_5 : decode cX11_quarrelOf 5 = .ok (.aload_n 0, 1) := by decide +kernel
theorem dX11_quarrelOf_6 : decode cX11_quarrelOf 6 = .ok (.getfield 129, 3) := by decide +kernel
theorem dX11_quarrelOf_9 : decode cX11_quarrelOf 9 = .ok (.if_icmp .ge 118, 3) := by decide +kernel
theorem dX11_quarrelOf_12 : decode cX11_quarrelOf 12 = .ok (.aload_n 0, 1) := by decide +kernel
theorem dX11_quarrelOf_13 : decode cX11_quarrelOf 13 = .ok (.iload_n 1, 1) := by decide +kernel
theorem dX11_quarrelOf_14 : decode cX11_quarrelOf 14 = .ok (.iconst 0, 1) := by decide +kernel
theorem dX11_quarrelOf_15 : decode cX11_quarrelOf 15 = .ok (.iload_n 3, 1) := by decide +kernel
theorem dX11_quarrelOf_16 : decode cX11_quarrelOf 16 = .ok (.invokevirtual 285, 3) := by decide +kernel
theorem dX11_quarrelOf_19 : decode cX11_quarrelOf 19 = .ok (.istore 4, 2) := by decide +kernel
theorem dX11_quarrelOf_21 : decode cX11_quarrelOf 21 = .ok (.iload_n 2, 1) := by decide +kernel
theorem dX11_quarrelOf_22 : decode cX11_quarrelOf 22 = .ok (.iload 4, 2) := by decide +kernel
theorem dX11_quarrelOf_24 : decode cX11_quarrelOf 24 = .ok (.bipush (-4), 2) := by decide +kernel
theorem dX11_quarrelOf_26 : decode cX11_quarrelOf 26 = .ok (.if_icmp .ne 23, 3) := by decide +kernel
theorem dX11_quarrelOf_29 : decode cX11_quarrelOf 29 = .ok (.aload_n 0, 1) := by decide +kernel
theorem dX11_quarrelOf_30 : decode cX11_quarrelOf 30 = .ok (.getfield 7, 3) := by decide +kernel
theorem dX11_quarrelOf_33 : decode cX11_quarrelOf 33 = .ok (.iload_n 3, 1) := by decide +kernel
theorem dX11_quarrelOf_34 : decode cX11_quarrelOf 34 = .ok (.iaload, 1) := by decide +kernel
theorem dX11_quarrelOf_35 : decode cX11_quarrelOf 35 = .ok (.ifCond .eq 7, 3) := by decide +kernel
theorem dX11_quarrelOf_38 : decode cX11_quarrelOf 38 = .ok (.iconst 1, 1) := by decide +kernel
theorem dX11_quarrelOf_39 : decode cX11_quarrelOf 39 = .ok (.goto 4, 3) := by decide +kernel
theorem dX11_quarrelOf_42 : decode cX11_quarrelOf 42 = .ok (.iconst 0, 1) := by decide +kernel
theorem dX11_quarrelOf_43 : decode cX11_quarrelOf 43 = .ok (.invokestatic 265, 3) := by decide +kernel
theorem dX11_quarrelOf_46 : decode cX11_quarrelOf 46 = .ok (.goto 34, 3) := by decide +kernel
theorem dX11_quarrelOf_49 : decode cX11_quarrelOf 49 = .ok (.aload_n 0, 1) := by decide +kernel
theorem dX11_quarrelOf_50 : decode cX11_quarrelOf 50 = .ok (.getfield 7, 3) := by decide +kernel
theorem dX11_quarrelOf_53 : decode cX11_quarrelOf 53 = .ok (.bipush 8, 2) := by decide +kernel
theorem dX11_quarrelOf_55 : decode cX11_quarrelOf 55 = .ok (.iload 4, 2) := by decide +kernel
theorem dX11_quarrelOf_57 : decode cX11_quarrelOf 57 = .ok (.iadd, 1) := by decide +kernel
theorem dX11_quarrelOf_58 : decode cX11_quarrelOf 58 = .ok (.iaload, 1) := by decide +kernel
theorem dX11_quarrelOf_59 : decode cX11_quarrelOf 59 = .ok (.aload_n 0, 1) := by decide +kernel
theorem dX11_quarrelOf_60 : decode cX11_quarrelOf 60 = .ok (.aload_n 0, 1) := by decide +kernel
theorem dX11_quarrelOf_61 : decode cX11_quarrelOf 61 = .ok (.getfield 7, 3) := by decide +kernel
theorem dX11_quarrelOf_64 : decode cX11_quarrelOf 64 = .ok (.iload_n 3, 1) := by decide +kernel
theorem dX11_quarrelOf_65 : decode cX11_quarrelOf 65 = .ok (.iaload, 1) := by decide +kernel
theorem dX11_quarrelOf_66 : decode cX11_quarrelOf 66 = .ok (.invokevirtual 276, 3) := by decide +kernel
theorem dX11_quarrelOf_69 : decode cX11_quarrelOf 69 = .ok (.if_icmp .eq 7, 3) := by decide +kernel
theorem dX11_quarrelOf_72 : decode cX11_quarrelOf 72 = .ok (.iconst 1, 1) := by decide +kernel
theorem dX11_quarrelOf_73 : decode cX11_quarrelOf 73 = .ok (.goto 4, 3) := by decide +kernel
theorem dX11_quarrelOf_76 : decode cX11_quarrelOf 76 = .ok (.iconst 0, 1) := by decide +kernel
theorem dX11_quarrelOf_77 : decode cX11_quarrelOf 77 = .ok (.invokestatic 265, 3) := by decide +kernel
theorem dX11_quarrelOf_80 : decode cX11_quarrelOf 80 = .ok (.iadd, 1) := by decide +kernel
theorem dX11_quarrelOf_81 : decode cX11_quarrelOf 81 = .ok (.istore_n 2, 1) := by decide +kernel
theorem dX11_quarrelOf_82 : decode cX11_quarrelOf 82 = .ok (.iload_n 2, 1) := by decide +kernel
theorem dX11_quarrelOf_83 : decode cX11_quarrelOf 83 = .ok (.aload_n 0, 1) := by decide +kernel
theorem dX11_quarrelOf_84 : decode cX11_quarrelOf 84 = .ok (.iload_n 1, 1) := by decide +kernel
theorem dX11_quarrelOf_85 : decode cX11_quarrelOf 85 = .ok (.iconst 1, 1) := by decide +kernel
theorem dX11_quarrelOf_86 : decode cX11_quarrelOf 86 = .ok (.iload_n 3, 1) := by decide +kernel
theorem dX11_quarrelOf_87 : decode cX11_quarrelOf 87 = .ok (.invokevirtual 285, 3) := by decide +kernel
theorem dX11_quarrelOf_90 : decode cX11_quarrelOf 90 = .ok (.bipush (-4), 2) := by decide +kernel
theorem dX11_quarrelOf_92 : decode cX11_quarrelOf 92 = .ok (.if_icmp .ne 26, 3) := by decide +kernel
theorem dX11_quarrelOf_95 : decode cX11_quarrelOf 95 = .ok (.aload_n 0, 1) := by decide +kernel
theorem dX11_quarrelOf_96 : decode cX11_quarrelOf 96 = .ok (.getfield 7, 3) := by decide +kernel
theorem dX11_quarrelOf_99 : decode cX11_quarrelOf 99 = .ok (.bipush 8, 2) := by decide +kernel
theorem dX11_quarrelOf_101 : decode cX11_quarrelOf 101 = .ok (.iload_n 3, 1) := by decide +kernel
theorem dX11_quarrelOf_102 : decode cX11_quarrelOf 102 = .ok (.iadd, 1) := by decide +kernel
theorem dX11_quarrelOf_103 : decode cX11_quarrelOf 103 = .ok (.iaload, 1) := by decide +kernel
theorem dX11_quarrelOf_104 : decode cX11_quarrelOf 104 = .ok (.ifCond .eq 7, 3) := by decide +kernel
theorem dX11_quarrelOf_107 : decode cX11_quarrelOf 107 = .ok (.iconst 1, 1) := by decide +kernel
theorem dX11_quarrelOf_108 : decode cX11_quarrelOf 108 = .ok (.goto 4, 3) := by decide +kernel
theorem dX11_quarrelOf_111 : decode cX11_quarrelOf 111 = .ok (.iconst 0, 1) := by decide +kernel
theorem dX11_quarrelOf_112 : decode cX11_quarrelOf 112 = .ok (.invokestatic 265, 3) := by decide +kernel
theorem dX11_quarrelOf_115 : decode cX11_quarrelOf 115 = .ok (.goto 4, 3) := by decide +kernel
theorem dX11_quarrelOf_118 : decode cX11_quarrelOf 118 = .ok (.iconst 0, 1) := by decide +kernel
theorem dX11_quarrelOf_119 : decode cX11_quarrelOf 119 = .ok (.iadd, 1) := by decide +kernel
theorem dX11_quarrelOf_120 : decode cX11_quarrelOf 120 = .ok (.istore_n 2, 1) := by decide +kernel
theorem dX11_quarrelOf_121 : decode cX11_quarrelOf 121 = .ok (.iinc 3 1, 3) := by decide +kernel
theorem dX11_quarrelOf_124 : decode cX11_quarrelOf 124 = .ok (.goto (-120), 3) := by decide +kernel
theorem dX11_quarrelOf_127 : decode cX11_quarrelOf 127 = .ok (.iload_n 2, 1) := by decide +kernel
theorem dX11_quarrelOf_128 : decode cX11_quarrelOf 128 = .ok (.ireturn, 1) := by decide +kernel
theorem dX11_quarrel_0 : decode cX11_quarrel 0 = .ok (.iload_n 1, 1) := by decide +kernel
theorem dX11_quarrel_1 : decode cX11_quarrel 1 = .ok (.i2l, 1) := by decide +kernel
theorem dX11_quarrel_2 : decode cX11_quarrel 2 = .ok (.lconst 0, 1) := by decide +kernel
theorem dX11_quarrel_3 : decode cX11_quarrel 3 = .ok (.ldc2_w 344, 3) := by decide +kernel
theorem dX11_quarrel_6 : decode cX11_quarrel 6 = .ok (.invokestatic 146, 3) := by decide +kernel
theorem dX11_quarrel_9 : decode cX11_quarrel 9 = .ok (.ifCond .eq 11, 3) := by decide +kernel
theorem dX11_quarrel_12 : decode cX11_quarrel 12 = .ok (.aload_n 0, 1) := by decide +kernel
theorem dX11_quarrel_13 : decode cX11_quarrel 13 = .ok (.iload_n 1, 1) := by decide +kernel
theorem dX11_quarrel_14 : decode cX11_quarrel 14 = .ok (.invokevirtual 346, 3) := by decide +kernel
theorem dX11_quarrel_17 : decode cX11_quarrel 17 = .ok (.goto 4, 3) := by decide +kernel
theorem dX11_quarrel_20 : decode cX11_quarrel 20 = .ok (.iconst (-1), 1) := by decide +kernel
theorem dX11_quarrel_21 : decode cX11_quarrel 21 = .ok (.ireturn, 1) := by decide +kernel
theorem dX11_bend_0 : decode cX11_bend 0 = .ok (.iconst 0, 1) := by decide +kernel
theorem dX11_bend_1 : decode cX11_bend 1 = .ok (.istore_n 1, 1) := by decide +kernel
theorem dX11_bend_2 : decode cX11_bend 2 = .ok (.iconst 1, 1) := by decide +kernel
theorem dX11_bend_3 : decode cX11_bend 3 = .ok (.istore_n 2, 1) := by decide +kernel
theorem dX11_bend_4 : decode cX11_bend 4 = .ok (.iload_n 2, 1) := by decide +kernel
theorem dX11_bend_5 : decode cX11_bend 5 = .ok (.bipush 7, 2) := by decide +kernel
theorem dX11_bend_7 : decode cX11_bend 7 = .ok (.if_icmp .ge 28, 3) := by decide +kernel
theorem dX11_bend_10 : decode cX11_bend 10 = .ok (.aload_n 0, 1) := by decide +kernel
theorem dX11_bend_11 : decode cX11_bend 11 = .ok (.iload_n 2, 1) := by decide +kernel
theorem dX11_bend_12 : decode cX11_bend 12 = .ok (.invokevirtual 346, 3) := by decide +kernel
theorem dX11_bend_15 : decode cX11_bend 15 = .ok (.aload_n 0, 1) := by decide +kernel
theorem dX11_bend_16 : decode cX11_bend 16 = .ok (.iload_n 1, 1) := by decide +kernel
theorem dX11_bend_17 : decode cX11_bend 17 = .ok (.invokevirtual 346, 3) := by decide +kernel
theorem dX11_bend_20 : decode cX11_bend 20 = .ok (.if_icmp .ge 7, 3) := by decide +kernel
theorem dX11_bend_23 : decode cX11_bend 23 = .ok (.iload_n 2, 1) := by decide +kernel
theorem dX11_bend_24 : decode cX11_bend 24 = .ok (.goto 4, 3) := by decide +kernel
theorem dX11_bend_27 : decode cX11_bend 27 = .ok (.iload_n 1, 1) := by decide +kernel
theorem dX11_bend_28 : decode cX11_bend 28 = .ok (.istore_n 1, 1) := by decide +kernel
theorem dX11_bend_29 : decode cX11_bend 29 = .ok (.iinc 2 1, 3) := by decide +kernel
theorem dX11_bend_32 : decode cX11_bend 32 = .ok (.goto (-28), 3) := by decide +kernel
theorem dX11_bend_35 : decode cX11_bend 35 = .ok (.iload_n 1, 1) := by decide +kernel
theorem dX11_bend_36 : decode cX11_bend 36 = .ok (.ireturn, 1) := by decide +kernel
theorem dX11_isShop_0 : decode cX11_isShop 0 = .ok (.iload_n 2, 1) := by decide +kernel
theorem dX11_isShop_1 : decode cX11_isShop 1 = .ok (.i2l, 1) := by decide +kernel
theorem dX11_isShop_2 : decode cX11_isShop 2 = .ok (.lconst 0, 1) := by decide +kernel
theorem dX11_isShop_3 : decode cX11_isShop 3 = .ok (.aload_n 0, 1) := by decide +kernel
theorem dX11_isShop_4 : decode cX11_isShop 4 = .ok (.getfield 129, 3) := by decide +kernel
theorem dX11_isShop_7 : decode cX11_isShop 7 = .ok (.iconst 1, 1) := by decide +kernel
theorem dX11_isShop_8 : decode cX11_isShop 8 = .ok (.isub, 1) := by decide +kernel
theorem dX11_isShop_9 : decode cX11_isShop 9 = .ok (.i2l, 1) := by decide +kernel
theorem dX11_isShop_10 : decode cX11_isShop 10 = .ok (.invokestatic 146, 3) := by decide +kernel
theorem dX11_isShop_13 : decode cX11_isShop 13 = .ok (.ifCond .eq 17, 3) := by decide +kernel
theorem dX11_isShop_16 : decode cX11_isShop 16 = .ok (.aload_n 0, 1) := by decide +kernel
theorem dX11_isShop_17 : decode cX11_isShop 17 = .ok (.iload_n 1, 1) := by decide +kernel
theorem dX11_isShop_18 : decode cX11_isShop 18 = .ok (.iload_n 2, 1) := by decide +kernel
theorem dX11_isShop_19 : decode cX11_isShop 19 = .ok (.invokevirtual 320, 3) := by decide +kernel
theorem dX11_isShop_22 : decode cX11_isShop 22 = .ok (.iconst 3, 1) := by decide +kernel
theorem dX11_isShop_23 : decode cX11_isShop 23 = .ok (.if_icmp .ne 7, 3) := by decide +kernel
theorem dX11_isShop_26 : decode cX11_isShop 26 = .ok (.iconst 1, 1) := by decide +kernel
theorem dX11_isShop_27 : decode cX11_isShop 27 = .ok (.goto 4, 3) := by decide +kernel
theorem dX11_isShop_30 : decode cX11_isShop 30 = .ok (.iconst 0, 1) := by decide +kernel
theorem dX11_isShop_31 : decode cX11_isShop 31 = .ok (.ireturn, 1) := by decide +kernel
theorem dX11_shops_0 : decode cX11_shops 0 = .ok (.iload_n 1, 1) := by decide +kernel
theorem dX11_shops_1 : decode cX11_shops 1 = .ok (.invokestatic 279, 3) := by decide +kernel
theorem dX11_shops_4 : decode cX11_shops 4 = .ok (.ifCond .eq 13, 3) := by decide +kernel
theorem dX11_shops_7 : decode cX11_shops 7 = .ok (.iload_n 2, 1) := by decide +kernel
theorem dX11_shops_8 : decode cX11_shops 8 = .ok (.i2l, 1) := by decide +kernel
theorem dX11_shops_9 : decode cX11_shops 9 = .ok (.lconst 0, 1) := by decide +kernel
theorem dX11_shops_10 : decode cX11_shops 10 = .ok (.lconst 1, 1) := by decide +kernel
theorem dX11_shops_11 : decode cX11_shops 11 = .ok (.invokestatic 146, 3) := by decide +kernel
theorem dX11_shops_14 : decode cX11_shops 14 = .ok (.ifCond .ne 5, 3) := by decide +kernel
theorem dX11_shops_17 : decode cX11_shops 17 = .ok (.iconst (-1), 1) := by decide +kernel
theorem dX11_shops_18 : decode cX11_shops 18 = .ok (.ireturn, 1) := by decide +kernel
theorem dX11_shops_19 : decode cX11_shops 19 = .ok (.iconst 0, 1) := by decide +kernel
theorem dX11_shops_20 : decode cX11_shops 20 = .ok (.istore_n 3, 1) := by decide +kernel
theorem dX11_shops_21 : decode cX11_shops 21 = .ok (.iconst 0, 1) := by decide +kernel
theorem dX11_shops_22 : decode cX11_shops 22 = .ok (.istore 4, 2) := by decide +kernel
theorem dX11_shops_24 : decode cX11_shops 24 = .ok (.iconst 0, 1) := by decide +kernel
theorem dX11_shops_25 : decode cX11_shops 25 = .ok (.istore 5, 2) := by decide +kernel
theorem dX11_shops_27 : decode cX11_shops 27 = .ok (.iconst 0, 1) := by decide +kernel
theorem dX11_shops_28 : decode cX11_shops 28 = .ok (.istore 6, 2) := by decide +kernel
theorem dX11_shops_30 : decode cX11_shops 30 = .ok (.iload 6, 2) := by decide +kernel
theorem dX11_shops_32 : decode cX11_shops 32 = .ok (.aload_n 0, 1) := by decide +kernel
theorem dX11_shops_33 : decode cX11_shops 33 = .ok (.getfield 129, 3) := by decide +kernel
theorem dX11_shops_36 : decode cX11_shops 36 = .ok (.if_icmp .ge 99, 3) := by decide +kernel
theorem dX11_shops_39 : decode cX11_shops 39 = .ok (.iload_n 3, 1) := by decide +kernel
theorem dX11_shops_40 : decode cX11_shops 40 = .ok (.aload_n 0, 1) := by decide +kernel
theorem dX11_shops_41 : decode cX11_shops 41 = .ok (.iload_n 1, 1) := by decide +kernel
theorem dX11_shops_42 : decode cX11_shops 42 = .ok (.iload 6, 2) := by decide +kernel
theorem dX11_shops_44 : decode cX11_shops 44 = .ok (.invokevirtual 349, 3) := by decide +kernel
theorem dX11_shops_47 : decode cX11_shops 47 = .ok (.ifCond .eq 31, 3) := by decide +kernel
theorem dX11_shops_50 : decode cX11_shops 50 = .ok (.aload_n 0, 1) := by decide +kernel
theorem dX11_shops_51 : decode cX11_shops 51 = .ok (.iload_n 1, 1) := by decide +kernel
theorem dX11_shops_52 : decode cX11_shops 52 = .ok (.iload 6, 2) := by decide +kernel
theorem dX11_shops_54 : decode cX11_shops 54 = .ok (.iconst 1, 1) := by decide +kernel
theorem dX11_shops_55 : decode cX11_shops 55 = .ok (.isub, 1) := by decide +kernel
theorem dX11_shops_56 : decode cX11_shops 56 = .ok (.invokevirtual 349, 3) := by decide +kernel
theorem dX11_shops_59 : decode cX11_shops 59 = .ok (.ifCond .ne 15, 3) := by decide +kernel
theorem dX11_shops_62 : decode cX11_shops 62 = .ok (.aload_n 0, 1) := by decide +kernel
theorem dX11_shops_63 : decode cX11_shops 63 = .ok (.iload_n 1, 1) := by decide +kernel
theorem dX11_shops_64 : decode cX11_shops 64 = .ok (.iload 6, 2) := by decide +kernel
theorem dX11_shops_66 : decode cX11_shops 66 = .ok (.iconst 1, 1) := by decide +kernel
theorem dX11_shops_67 : decode cX11_shops 67 = .ok (.iadd, 1) := by decide +kernel
theorem dX11_shops_68 : decode cX11_shops 68 = .ok (.invokevirtual 349, 3) := by decide +kernel
theorem dX11_shops_71 : decode cX11_shops 71 = .ok (.ifCond .eq 7, 3) := by decide +kernel
theorem dX11_shops_74 : decode cX11_shops 74 = .ok (.iconst 1, 1) := by decide +kernel
theorem dX11_shops_75 : decode cX11_shops 75 = .ok (.goto 4, 3) := by decide +kernel
theorem dX11_shops_78 : decode cX11_shops 78 = .ok (.iconst 0, 1) := by decide +kernel
theorem dX11_shops_79 : decode cX11_shops 79 = .ok (.invokestatic 265, 3) := by decide +kernel
theorem dX11_shops_82 : decode cX11_shops 82 = .ok (.iload 6, 2) := by decide +kernel
theorem dX11_shops_84 : decode cX11_shops 84 = .ok (.ishl, 1) := by decide +kernel
theorem dX11_shops_85 : decode cX11_shops 85 = .ok (.ior, 1) := by decide +kernel
theorem dX11_shops_86 : decode cX11_shops 86 = .ok (.istore_n 3, 1) := by decide +kernel
theorem dX11_shops_87 : decode cX11_shops 87 = .ok (.aload_n 0, 1) := by decide +kernel
theorem dX11_shops_88 : decode cX11_shops 88 = .ok (.iload_n 1, 1) := by decide +kernel
theorem dX11_shops_89 : decode cX11_shops 89 = .ok (.iload 6, 2) := by decide +kernel
theorem dX11_shops_91 : decode cX11_shops 91 = .ok (.invokevirtual 349, 3) := by decide +kernel
theorem dX11_shops_94 : decode cX11_shops 94 = .ok (.ifCond .eq 10, 3) := by decide +kernel
theorem dX11_shops_97 : decode cX11_shops 97 = .ok (.iload 5, 2) := by decide +kernel
theorem dX11_shops_99 : decode cX11_shops 99 = .ok (.iconst 1, 1) := by decide +kernel
theorem dX11_shops_100 : decode cX11_shops 100 = .ok (.iadd, 1) := by decide +kernel
theorem dX11_shops_101 : decode cX11_shops 101 = .ok (.goto 4, 3) := by decide +kernel
theorem dX11_shops_104 : decode cX11_shops 104 = .ok (.iconst 0, 1) := by decide +kernel
theorem dX11_shops_105 : decode cX11_shops 105 = .ok (.istore 5, 2) := by decide +kernel
theorem dX11_shops_107 : decode cX11_shops 107 = .ok (.iload 4, 2) := by decide +kernel
theorem dX11_shops_109 : decode cX11_shops 109 = .ok (.iload 5, 2) := by decide +kernel
theorem dX11_shops_111 : decode cX11_shops 111 = .ok (.ifCond .le 14, 3) := by decide +kernel
theorem dX11_shops_114 : decode cX11_shops 114 = .ok (.iload 5, 2) := by decide +kernel
theorem dX11_shops_116 : decode cX11_shops 116 = .ok (.iconst 2, 1) := by decide +kernel
theorem dX11_shops_117 : decode cX11_shops 117 = .ok (.irem, 1) := by decide +kernel
theorem dX11_shops_118 : decode cX11_shops 118 = .ok (.ifCond .ne 7, 3) := by decide +kernel
theorem dX11_shops_121 : decode cX11_shops 121 = .ok (.iconst 1, 1) := by decide +kernel
theorem dX11_shops_122 : decode cX11_shops 122 = .ok (.goto 4, 3) := by decide +kernel
theorem dX11_shops_125 : decode cX11_shops 125 = .ok (.iconst 0, 1) := by decide +kernel
theorem dX11_shops_126 : decode cX11_shops 126 = .ok (.iadd, 1) := by decide +kernel
theorem dX11_shops_127 : decode cX11_shops 127 = .ok (.istore 4, 2) := by decide +kernel
theorem dX11_shops_129 : decode cX11_shops 129 = .ok (.iinc 6 1, 3) := by decide +kernel
theorem dX11_shops_132 : decode cX11_shops 132 = .ok (.goto (-102), 3) := by decide +kernel
theorem dX11_shops_135 : decode cX11_shops 135 = .ok (.iload_n 2, 1) := by decide +kernel
theorem dX11_shops_136 : decode cX11_shops 136 = .ok (.ifCond .ne 7, 3) := by decide +kernel
theorem dX11_shops_139 : decode cX11_shops 139 = .ok (.iload_n 3, 1) := by decide +kernel
theorem dX11_shops_140 : decode cX11_shops 140 = .ok (.goto 5, 3) := by decide +kernel
theorem dX11_shops_143 : decode cX11_shops 143 = .ok (.iload 4, 2) := by decide +kernel
theorem dX11_shops_145 : decode cX11_shops 145 = .ok (.ireturn, 1) := by decide +kernel
theorem dX11_saw_0 : decode cX11_saw 0 = .ok (.aload_n 0, 1) := by decide +kernel
theorem dX11_saw_1 : decode cX11_saw 1 = .ok (.iload_n 1, 1) := by decide +kernel
theorem dX11_saw_2 : decode cX11_saw 2 = .ok (.iload_n 2, 1) := by decide +kernel
theorem dX11_saw_3 : decode cX11_saw 3 = .ok (.invokevirtual 282, 3) := by decide +kernel
theorem dX11_saw_6 : decode cX11_saw 6 = .ok (.ifCond .eq 15, 3) := by decide +kernel
theorem dX11_saw_9 : decode cX11_saw 9 = .ok (.iload_n 3, 1) := by decide +kernel
theorem dX11_saw_10 : decode cX11_saw 10 = .ok (.i2l, 1) := by decide +kernel
theorem dX11_saw_11 : decode cX11_saw 11 = .ok (.lconst 0, 1) := by decide +kernel
theorem dX11_saw_12 : decode cX11_saw 12 = .ok (.ldc2_w 318, 3) := by decide +kernel
theorem dX11_saw_15 : decode cX11_saw 15 = .ok (.invokestatic 146, 3) := by decide +kernel
theorem dX11_saw_18 : decode cX11_saw 18 = .ok (.ifCond .ne 5, 3) := by decide +kernel
theorem dX11_saw_21 : decode cX11_saw 21 = .ok (.iconst (-1), 1) := by decide +kernel
theorem dX11_saw_22 : decode cX11_saw 22 = .ok (.ireturn, 1) := by decide +kernel
theorem dX11_saw_23 : decode cX11_saw 23 = .ok (.aload_n 0, 1) := by decide +kernel
theorem dX11_saw_24 : decode cX11_saw 24 = .ok (.getfield 7, 3) := by decide +kernel
theorem dX11_saw_27 : decode cX11_saw 27 = .ok (.bipush 78, 2) := by decide +kernel
theorem dX11_saw_29 : decode cX11_saw 29 = .ok (.iaload, 1) := by decide +kernel
theorem dX11_saw_30 : decode cX11_saw 30 = .ok (.bipush 12, 2) := by decide +kernel
theorem dX11_saw_32 : decode cX11_saw 32 = .ok (.if_icmp .ne 6, 3) := by decide +kernel
theorem dX11_saw_35 : decode cX11_saw 35 = .ok (.bipush (-3), 2) := by decide +kernel
theorem dX11_saw_37 : decode cX11_saw 37 = .ok (.ireturn, 1) := by decide +kernel
theorem dX11_saw_38 : decode cX11_saw 38 = .ok (.bipush 79, 2) := by decide +kernel
theorem dX11_saw_40 : decode cX11_saw 40 = .ok (.iconst 4, 1) := by decide +kernel
theorem dX11_saw_41 : decode cX11_saw 41 = .ok (.aload_n 0, 1) := by decide +kernel
theorem dX11_saw_42 : decode cX11_saw 42 = .ok (.getfield 7, 3) := by decide +kernel
theorem dX11_saw_45 : decode cX11_saw 45 = .ok (.bipush 78, 2) := by decide +kernel
theorem dX11_saw_47 : decode cX11_saw 47 = .ok (.iaload, 1) := by decide +kernel
theorem dX11_saw_48 : decode cX11_saw 48 = .ok (.imul, 1) := by decide +kernel
theorem dX11_saw_49 : decode cX11_saw 49 = .ok (.iadd, 1) := by decide +kernel
theorem dX11_saw_50 : decode cX11_saw 50 = .ok (.istore 5, 2) := by decide +kernel
theorem dX11_saw_52 : decode cX11_saw 52 = .ok (.aload_n 0, 1) := by decide +kernel
theorem dX11_saw_53 : decode cX11_saw 53 = .ok (.getfield 7, 3) := by decide +kernel
theorem dX11_saw_56 : decode cX11_saw 56 = .ok (.iload 5, 2) := by decide +kernel
theorem dX11_saw_58 : decode cX11_saw 58 = .ok (.iload_n 1, 1) := by decide +kernel
theorem dX11_saw_59 : decode cX11_saw 59 = .ok (.iastore, 1) := by decide +kernel
theorem dX11_saw_60 : decode cX11_saw 60 = .ok (.aload_n 0, 1) := by decide +kernel
theorem dX11_saw_61 : decode cX11_saw 61 = .ok (.getfield 7, 3) := by decide +kernel
theorem dX11_saw_64 : decode cX11_saw 64 = .ok (.iload 5, 2) := by decide +kernel
theorem dX11_saw_66 : decode cX11_saw 66 = .ok (.iconst 1, 1) := by decide +kernel
theorem dX11_saw_67 : decode cX11_saw 67 = .ok (.iadd, 1) := by decide +kernel
theorem dX11_saw_68 : decode cX11_saw 68 = .ok (.iload_n 2, 1) := by decide +kernel
theorem dX11_saw_69 : decode cX11_saw 69 = .ok (.iastore, 1) := by decide +kernel
theorem dX11_saw_70 : decode cX11_saw 70 = .ok (.aload_n 0, 1) := by decide +kernel
theorem dX11_saw_71 : decode cX11_saw 71 = .ok (.getfield 7, 3) := by decide +kernel
theorem dX11_saw_74 : decode cX11_saw 74 = .ok (.iload 5, 2) := by decide +kernel
theorem dX11_saw_76 : decode cX11_saw 76 = .ok (.iconst 2, 1) := by decide +kernel
theorem dX11_saw_77 : decode cX11_saw 77 = .ok (.iadd, 1) := by decide +kernel
theorem dX11_saw_78 : decode cX11_saw 78 = .ok (.iload_n 3, 1) := by decide +kernel
theorem dX11_saw_79 : decode cX11_saw 79 = .ok (.iastore, 1) := by decide +kernel
theorem dX11_saw_80 : decode cX11_saw 80 = .ok (.aload_n 0, 1) := by decide +kernel
theorem dX11_saw_81 : decode cX11_saw 81 = .ok (.getfield 7, 3) := by decide +kernel
theorem dX11_saw_84 : decode cX11_saw 84 = .ok (.iload 5, 2) := by decide +kernel
theorem dX11_saw_86 : decode cX11_saw 86 = .ok (.iconst 3, 1) := by decide +kernel
theorem dX11_saw_87 : decode cX11_saw 87 = .ok (.iadd, 1) := by decide +kernel
theorem dX11_saw_88 : decode cX11_saw 88 = .ok (.iload 4, 2) := by decide +kernel
theorem dX11_saw_90 : decode cX11_saw 90 = .ok (.invokestatic 265, 3) := by decide +kernel
theorem dX11_saw_93 : decode cX11_saw 93 = .ok (.iastore, 1) := by decide +kernel
theorem dX11_saw_94 : decode cX11_saw 94 = .ok (.aload_n 0, 1) := by decide +kernel
theorem dX11_saw_95 : decode cX11_saw 95 = .ok (.getfield 7, 3) := by decide +kernel
theorem dX11_saw_98 : decode cX11_saw 98 = .ok (.bipush 78, 2) := by decide +kernel
theorem dX11_saw_100 : decode cX11_saw 100 = .ok (.dup2, 1) := by decide +kernel
theorem dX11_saw_101 : decode cX11_saw 101 = .ok (.iaload, 1) := by decide +kernel
theorem dX11_saw_102 : decode cX11_saw 102 = .ok (.iconst 1, 1) := by decide +kernel
theorem dX11_saw_103 : decode cX11_saw 103 = .ok (.iadd, 1) := by decide +kernel
theorem dX11_saw_104 : decode cX11_saw 104 = .ok (.iastore, 1) := by decide +kernel
theorem dX11_saw_105 : decode cX11_saw 105 = .ok (.aload_n 0, 1) := by decide +kernel
theorem dX11_saw_106 : decode cX11_saw 106 = .ok (.getfield 7, 3) := by decide +kernel
theorem dX11_saw_109 : decode cX11_saw 109 = .ok (.bipush 78, 2) := by decide +kernel
theorem dX11_saw_111 : decode cX11_saw 111 = .ok (.iaload, 1) := by decide +kernel
theorem dX11_saw_112 : decode cX11_saw 112 = .ok (.ireturn, 1) := by decide +kernel
theorem dX11_forget_0 : decode cX11_forget 0 = .ok (.aload_n 0, 1) := by decide +kernel
theorem dX11_forget_1 : decode cX11_forget 1 = .ok (.getfield 7, 3) := by decide +kernel
theorem dX11_forget_4 : decode cX11_forget 4 = .ok (.bipush 78, 2) := by decide +kernel
theorem dX11_forget_6 : decode cX11_forget 6 = .ok (.iaload, 1) := by decide +kernel
theorem dX11_forget_7 : decode cX11_forget 7 = .ok (.istore_n 1, 1) := by decide +kernel
theorem dX11_forget_8 : decode cX11_forget 8 = .ok (.aload_n 0, 1) := by decide +kernel
theorem dX11_forget_9 : decode cX11_forget 9 = .ok (.getfield 7, 3) := by decide +kernel
theorem dX11_forget_12 : decode cX11_forget 12 = .ok (.bipush 78, 2) := by decide +kernel
theorem dX11_forget_14 : decode cX11_forget 14 = .ok (.iconst 0, 1) := by decide +kernel
theorem dX11_forget_15 : decode cX11_forget 15 = .ok (.iastore, 1) := by decide +kernel
theorem dX11_forget_16 : decode cX11_forget 16 = .ok (.iload_n 1, 1) := by decide +kernel
theorem dX11_forget_17 : decode cX11_forget 17 = .ok (.ireturn, 1) := by decide +kernel
theorem dX11_isTold_0 : decode cX11_isTold 0 = .ok (.aload_n 0, 1) := by decide +kernel
theorem dX11_isTold_1 : decode cX11_isTold 1 = .ok (.iconst 0, 1) := by decide +kernel
theorem dX11_isTold_2 : decode cX11_isTold 2 = .ok (.iload_n 1, 1) := by decide +kernel
theorem dX11_isTold_3 : decode cX11_isTold 3 = .ok (.invokevirtual 289, 3) := by decide +kernel
theorem dX11_isTold_6 : decode cX11_isTold 6 = .ok (.istore_n 2, 1) := by decide +kernel
theorem dX11_isTold_7 : decode cX11_isTold 7 = .ok (.iload_n 2, 1) := by decide +kernel
theorem dX11_isTold_8 : decode cX11_isTold 8 = .ok (.bipush (-4), 2) := by decide +kernel
theorem dX11_isTold_10 : decode cX11_isTold 10 = .ok (.if_icmp .eq 38, 3) := by decide +kernel
theorem dX11_isTold_13 : decode cX11_isTold 13 = .ok (.aload_n 0, 1) := by decide +kernel
theorem dX11_isTold_14 : decode cX11_isTold 14 = .ok (.getfield 7, 3) := by decide +kernel
theorem dX11_isTold_17 : decode cX11_isTold 17 = .ok (.iload_n 1, 1) := by decide +kernel
theorem dX11_isTold_18 : decode cX11_isTold 18 = .ok (.iaload, 1) := by decide +kernel
theorem dX11_isTold_19 : decode cX11_isTold 19 = .ok (.ifCond .eq 29, 3) := by decide +kernel
theorem dX11_isTold_22 : decode cX11_isTold 22 = .ok (.aload_n 0, 1) := by decide +kernel
theorem dX11_isTold_23 : decode cX11_isTold 23 = .ok (.getfield 7, 3) := by decide +kernel
theorem dX11_isTold_26 : decode cX11_isTold 26 = .ok (.bipush 8, 2) := by decide +kernel
theorem dX11_isTold_28 : decode cX11_isTold 28 = .ok (.iload_n 2, 1) := by decide +kernel
theorem dX11_isTold_29 : decode cX11_isTold 29 = .ok (.iadd, 1) := by decide +kernel
theorem dX11_isTold_30 : decode cX11_isTold 30 = .ok (.iaload, 1) := by decide +kernel
theorem dX11_isTold_31 : decode cX11_isTold 31 = .ok (.aload_n 0, 1) := by decide +kernel
theorem dX11_isTold_32 : decode cX11_isTold 32 = .ok (.aload_n 0, 1) := by decide +kernel
theorem dX11_isTold_33 : decode cX11_isTold 33 = .ok (.getfield 7, 3) := by decide +kernel
theorem dX11_isTold_36 : decode cX11_isTold 36 = .ok (.iload_n 1, 1) := by decide +kernel
theorem dX11_isTold_37 : decode cX11_isTold 37 = .ok (.iaload, 1) := by decide +kernel
theorem dX11_isTold_38 : decode cX11_isTold 38 = .ok (.invokevirtual 276, 3) := by decide +kernel
theorem dX11_isTold_41 : decode cX11_isTold 41 = .ok (.if_icmp .ne 7, 3) := by decide +kernel
theorem dX11_isTold_44 : decode cX11_isTold 44 = .ok (.iconst 1, 1) := by decide +kernel
theorem dX11_isTold_45 : decode cX11_isTold 45 = .ok (.goto 4, 3) := by decide +kernel
theorem dX11_isTold_48 : decode cX11_isTold 48 = .ok (.iconst 0, 1) := by decide +kernel
theorem dX11_isTold_49 : decode cX11_isTold 49 = .ok (.ireturn, 1) := by decide +kernel
theorem dX11_fits_0 : decode cX11_fits 0 = .ok (.iconst 1, 1) := by decide +kernel
theorem dX11_fits_1 : decode cX11_fits 1 = .ok (.istore 4, 2) := by decide +kernel
theorem dX11_fits_3 : decode cX11_fits 3 = .ok (.iconst 0, 1) := by decide +kernel
theorem dX11_fits_4 : decode cX11_fits 4 = .ok (.istore 5, 2) := by decide +kernel
theorem dX11_fits_6 : decode cX11_fits 6 = .ok (.iload 5, 2) := by decide +kernel
theorem dX11_fits_8 : decode cX11_fits 8 = .ok (.aload_n 0, 1) := by decide +kernel
theorem dX11_fits_9 : decode cX11_fits 9 = .ok (.getfield 7, 3) := by decide +kernel
theorem dX11_fits_12 : decode cX11_fits 12 = .ok (.bipush 78, 2) := by decide +kernel
theorem dX11_fits_14 : decode cX11_fits 14 = .ok (.iaload, 1) := by decide +kernel
theorem dX11_fits_15 : decode cX11_fits 15 = .ok (.if_icmp .ge 87, 3) := by decide +kernel
theorem dX11_fits_18 : decode cX11_fits 18 = .ok (.bipush 79, 2) := by decide +kernel
theorem dX11_fits_20 : decode cX11_fits 20 = .ok (.iconst 4, 1) := by decide +kernel
theorem dX11_fits_21 : decode cX11_fits 21 = .ok (.iload 5, 2) := by decide +kernel
theorem dX11_fits_23 : decode cX11_fits 23 = .ok (.imul, 1) := by decide +kernel
theorem dX11_fits_24 : decode cX11_fits 24 = .ok (.iadd, 1) := by decide +kernel
theorem dX11_fits_25 : decode cX11_fits 25 = .ok (.istore 6, 2) := by decide +kernel
theorem dX11_fits_27 : decode cX11_fits 27 = .ok (.iload 4, 2) := by decide +kernel
theorem dX11_fits_29 : decode cX11_fits 29 = .ok (.ifCond .eq 64, 3) := by decide +kernel
theorem dX11_fits_32 : decode cX11_fits 32 = .ok (.aload_n 0, 1) := by decide +kernel
theorem dX11_fits_33 : decode cX11_fits 33 = .ok (.getfield 7, 3) := by decide +kernel
theorem dX11_fits_36 : decode cX11_fits 36 = .ok (.iload 6, 2) := by decide +kernel
theorem dX11_fits_38 : decode cX11_fits 38 = .ok (.iaload, 1) := by decide +kernel
theorem dX11_fits_39 : decode cX11_fits 39 = .ok (.iload_n 1, 1) := by decide +kernel
theorem dX11_fits_40 : decode cX11_fits 40 = .ok (.if_icmp .ne 49, 3) := by decide +kernel
theorem dX11_fits_43 : decode cX11_fits 43 = .ok (.aload_n 0, 1) := by decide +kernel
theorem dX11_fits_44 : decode cX11_fits 44 = .ok (.getfield 7, 3) := by decide +kernel
theorem dX11_fits_47 : decode cX11_fits 47 = .ok (.iload 6, 2) := by decide +kernel
theorem dX11_fits_49 : decode cX11_fits 49 = .ok (.iconst 1, 1) := by decide +kernel
theorem dX11_fits_50 : decode cX11_fits 50 = .ok (.iadd, 1) := by decide +kernel
theorem dX11_fits_51 : decode cX11_fits 51 = .ok (.iaload, 1) := by decide +kernel
theorem dX11_fits_52 : decode cX11_fits 52 = .ok (.iload_n 2, 1) := by decide +kernel
theorem dX11_fits_53 : decode cX11_fits 53 = .ok (.if_icmp .ne 36, 3) := by decide +kernel
theorem dX11_fits_56 : decode cX11_fits 56 = .ok (.aload_n 0, 1) := by decide +kernel
theorem dX11_fits_57 : decode cX11_fits 57 = .ok (.getfield 7, 3) := by decide +kernel
theorem dX11_fits_60 : decode cX11_fits 60 = .ok (.iload 6, 2) := by decide +kernel
theorem dX11_fits_62 : decode cX11_fits 62 = .ok (.iconst 3, 1) := by decide +kernel
theorem dX11_fits_63 : decode cX11_fits 63 = .ok (.iadd, 1) := by decide +kernel
theorem dX11_fits_64 : decode cX11_fits 64 = .ok (.iaload, 1) := by decide +kernel
theorem dX11_fits_65 : decode cX11_fits 65 = .ok (.aload_n 0, 1) := by decide +kernel
theorem dX11_fits_66 : decode cX11_fits 66 = .ok (.getfield 7, 3) := by decide +kernel
theorem dX11_fits_69 : decode cX11_fits 69 = .ok (.iload 6, 2) := by decide +kernel
theorem dX11_fits_71 : decode cX11_fits 71 = .ok (.iconst 2, 1) := by decide +kernel
theorem dX11_fits_72 : decode cX11_fits 72 = .ok (.iadd, 1) := by decide +kernel
theorem dX11_fits_73 : decode cX11_fits 73 = .ok (.iaload, 1) := by decide +kernel
theorem dX11_fits_74 : decode cX11_fits 74 = .ok (.iload_n 3, 1) := by decide +kernel
theorem dX11_fits_75 : decode cX11_fits 75 = .ok (.if_icmp .lt 7, 3) := by decide +kernel
theorem dX11_fits_78 : decode cX11_fits 78 = .ok (.iconst 1, 1) := by decide +kernel
theorem dX11_fits_79 : decode cX11_fits 79 = .ok (.goto 4, 3) := by decide +kernel
theorem dX11_fits_82 : decode cX11_fits 82 = .ok (.iconst 0, 1) := by decide +kernel
theorem dX11_fits_83 : decode cX11_fits 83 = .ok (.invokestatic 265, 3) := by decide +kernel
theorem dX11_fits_86 : decode cX11_fits 86 = .ok (.if_icmp .ne 7, 3) := by decide +kernel
theorem dX11_fits_89 : decode cX11_fits 89 = .ok (.iconst 1, 1) := by decide +kernel
theorem dX11_fits_90 : decode cX11_fits 90 = .ok (.goto 4, 3) := by decide +kernel
theorem dX11_fits_93 : decode cX11_fits 93 = .ok (.iconst 0, 1) := by decide +kernel
theorem dX11_fits_94 : decode cX11_fits 94 = .ok (.istore 4, 2) := by decide +kernel
theorem dX11_fits_96 : decode cX11_fits 96 = .ok (.iinc 5 1, 3) := by decide +kernel
theorem dX11_fits_99 : decode cX11_fits 99 = .ok (.goto (-93), 3) := by decide +kernel
theorem dX11_fits_102 : decode cX11_fits 102 = .ok (.iload 4, 2) := by decide +kernel
theorem dX11_fits_104 : decode cX11_fits 104 = .ok (.ireturn, 1) := by decide +kernel
theorem dX11_waysOf_0 : decode cX11_waysOf 0 = .ok (.aload_n 0, 1) := by decide +kernel
theorem dX11_waysOf_1 : decode cX11_waysOf 1 = .ok (.iconst 0, 1) := by decide +kernel
theorem dX11_waysOf_2 : decode cX11_waysOf 2 = .ok (.iload_n 1, 1) := by decide +kernel
theorem dX11_waysOf_3 : decode cX11_waysOf 3 = .ok (.invokevirtual 289, 3) := by decide +kernel
theorem dX11_waysOf_6 : decode cX11_waysOf 6 = .ok (.istore 5, 2) := by decide +kernel
theorem dX11_waysOf_8 : decode cX11_waysOf 8 = .ok (.iload_n 2, 1) := by decide +kernel
theorem dX11_waysOf_9 : decode cX11_waysOf 9 = .ok (.ifCond .ne 7, 3) := by decide +kernel
theorem dX11_waysOf_12 : decode cX11_waysOf 12 = .ok (.iload_n 1, 1) := by decide +kernel
theorem dX11_waysOf_13 : decode cX11_waysOf 13 = .ok (.goto 5, 3) := by decide +kernel
theorem dX11_waysOf_16 : decode cX11_waysOf 16 = .ok (.iload 5, 2) := by decide +kernel
theorem dX11_waysOf_18 : decode cX11_waysOf 18 = .ok (.istore 6, 2) := by decide +kernel
theorem dX11_waysOf_20 : decode cX11_waysOf 20 = .ok (.iload_n 2, 1) := by decide +kernel
theorem dX11_waysOf_21 : decode cX11_waysOf 21 = .ok (.ifCond .ne 8, 3) := by decide +kernel
theorem dX11_waysOf_24 : decode cX11_waysOf 24 = .ok (.iload 5, 2) := by decide +kernel
theorem dX11_waysOf_26 : decode cX11_waysOf 26 = .ok (.goto 4, 3) := by decide +kernel
theorem dX11_waysOf_29 : decode cX11_waysOf 29 = .ok (.iload_n 1, 1) := by decide +kernel
theorem dX11_waysOf_30 : decode cX11_waysOf 30 = .ok (.istore 7, 2) := by decide +kernel
theorem dX11_waysOf_32 : decode cX11_waysOf 32 = .ok (.aload_n 0, 1) := by decide +kernel
theorem dX11_waysOf_33 : decode cX11_waysOf 33 = .ok (.iload_n 2, 1) := by decide +kernel
theorem dX11_waysOf_34 : decode cX11_waysOf 34 = .ok (.iload 6, 2) := by decide +kernel
theorem dX11_waysOf_36 : decode cX11_waysOf 36 = .ok (.iload_n 3, 1) := by decide +kernel
theorem dX11_waysOf_37 : decode cX11_waysOf 37 = .ok (.invokevirtual 352, 3) := by decide +kernel
theorem dX11_waysOf_40 : decode cX11_waysOf 40 = .ok (.ifCond .ne 5, 3) := by decide +kernel
theorem dX11_waysOf_43 : decode cX11_waysOf 43 = .ok (.iconst 0, 1) := by decide +kernel
theorem dX11_waysOf_44 : decode cX11_waysOf 44 = .ok (.ireturn, 1) := by decide +kernel
theorem dX11_waysOf_45 : decode cX11_waysOf 45 = .ok (.aload_n 0, 1) := by decide +kernel
theorem dX11_waysOf_46 : decode cX11_waysOf 46 = .ok (.iconst 1, 1) := by decide +kernel
theorem dX11_waysOf_47 : decode cX11_waysOf 47 = .ok (.iload_n 2, 1) := by decide +kernel
theorem dX11_waysOf_48 : decode cX11_waysOf 48 = .ok (.isub, 1) := by decide +kernel
theorem dX11_waysOf_49 : decode cX11_waysOf 49 = .ok (.iload 7, 2) := by decide +kernel
theorem dX11_waysOf_51 : decode cX11_waysOf 51 = .ok (.iload_n 3, 1) := by decide +kernel
theorem dX11_waysOf_52 : decode cX11_waysOf 52 = .ok (.invokevirtual 352, 3) := by decide +kernel
theorem dX11_waysOf_55 : decode cX11_waysOf 55 = .ok (.invokestatic 265, 3) := by decide +kernel
theorem dX11_waysOf_58 : decode cX11_waysOf 58 = .ok (.iload_n 3, 1) := by decide +kernel
theorem dX11_waysOf_59 : decode cX11_waysOf 59 = .ok (.iload 4, 2) := by decide +kernel
theorem dX11_waysOf_61 : decode cX11_waysOf 61 = .ok (.if_icmp .ge 22, 3) := by decide +kernel
theorem dX11_waysOf_64 : decode cX11_waysOf 64 = .ok (.aload_n 0, 1) := by decide +kernel
theorem dX11_waysOf_65 : decode cX11_waysOf 65 = .ok (.iconst 1, 1) := by decide +kernel
theorem dX11_waysOf_66 : decode cX11_waysOf 66 = .ok (.iload_n 2, 1) := by decide +kernel
theorem dX11_waysOf_67 : decode cX11_waysOf 67 = .ok (.isub, 1) := by decide +kernel
theorem dX11_waysOf_68 : decode cX11_waysOf 68 = .ok (.iload 7, 2) := by decide +kernel
theorem dX11_waysOf_70 : decode cX11_waysOf 70 = .ok (.iload_n 3, 1) := by decide +kernel
theorem dX11_waysOf_71 : decode cX11_waysOf 71 = .ok (.iconst 1, 1) := by decide +kernel
theorem dX11_waysOf_72 : decode cX11_waysOf 72 = .ok (.iadd, 1) := by decide +kernel
theorem dX11_waysOf_73 : decode cX11_waysOf 73 = .ok (.invokevirtual 352, 3) := by decide +kernel
theorem dX11_waysOf_76 : decode cX11_waysOf 76 = .ok (.ifCond .eq 7, 3) := by decide +kernel
theorem dX11_waysOf_79 : decode cX11_waysOf 79 = .ok (.iconst 1, 1) := by decide +kernel
theorem dX11_waysOf_80 : decode cX11_waysOf 80 = .ok (.goto 4, 3) := by decide +kernel
theorem dX11_waysOf_83 : decode cX11_waysOf 83 = .ok (.iconst 0, 1) := by decide +kernel
theorem dX11_waysOf_84 : decode cX11_waysOf 84 = .ok (.invokestatic 265, 3) := by decide +kernel
theorem dX11_waysOf_87 : decode cX11_waysOf 87 = .ok (.iadd, 1) := by decide +kernel
theorem dX11_waysOf_88 : decode cX11_waysOf 88 = .ok (.ireturn, 1) := by decide +kernel
theorem dX11_histories_0 : decode cX11_histories 0 = .ok (.iload_n 1, 1) := by decide +kernel
theorem dX11_histories_1 : decode cX11_histories 1 = .ok (.i2l, 1) := by decide +kernel
theorem dX11_histories_2 : decode cX11_histories 2 = .ok (.lconst 0, 1) := by decide +kernel
theorem dX11_histories_3 : decode cX11_histories 3 = .ok (.ldc2_w 318, 3) := by decide +kernel
theorem dX11_histories_6 : decode cX11_histories 6 = .ok (.invokestatic 146, 3) := by decide +kernel
theorem dX11_histories_9 : decode cX11_histories 9 = .ok (.ifCond .ne 7, 3) := by decide +kernel
theorem dX11_histories_12 : decode cX11_histories 12 = .ok (.ldc2_w 355, 3) := by decide +kernel
theorem dX11_histories_15 : decode cX11_histories 15 = .ok (.lreturn, 1) := by decide +kernel
theorem dX11_histories_16 : decode cX11_histories 16 = .ok (.lconst 1, 1) := by decide +kernel
theorem dX11_histories_17 : decode cX11_histories 17 = .ok (.lstore_n 2, 1) := by decide +kernel
theorem dX11_histories_18 : decode cX11_histories 18 = .ok (.iconst 0, 1) := by decide +kernel
theorem dX11_histories_19 : decode cX11_histories 19 = .ok (.istore 4, 2) := by decide +kernel
theorem dX11_histories_21 : decode cX11_histories 21 = .ok (.iload 4, 2) := by decide +kernel
theorem dX11_histories_23 : decode cX11_histories 23 = .ok (.aload_n 0, 1) := by decide +kernel
theorem dX11_histories_24 : decode cX11_histories 24 = .ok (.getfield 129, 3) := by decide +kernel
theorem dX11_histories_27 : decode cX11_histories 27 = .ok (.if_icmp .ge 68, 3) := by decide +kernel
theorem dX11_histories_30 : decode cX11_histories 30 = .ok (.aload_n 0, 1) := by decide +kernel
theorem dX11_histories_31 : decode cX11_histories 31 = .ok (.iload 4, 2) := by decide +kernel
theorem dX11_histories_33 : decode cX11_histories 33 = .ok (.invokevirtual 357, 3) := by decide +kernel
theorem dX11_histories_36 : decode cX11_histories 36 = .ok (.ifCond .eq 53, 3) := by decide +kernel
theorem dX11_histories_39 : decode cX11_histories 39 = .ok (.lconst 0, 1) := by decide +kernel
theorem dX11_histories_40 : decode cX11_histories 40 = .ok (.lstore 5, 2) := by decide +kernel
theorem dX11_histories_42 : decode cX11_histories 42 = .ok (.iconst 0, 1) := by decide +kernel
theorem dX11_histories_43 : decode cX11_histories 43 = .ok (.istore 7, 2) := by decide +kernel
theorem dX11_histories_45 : decode cX11_histories 45 = .ok (.iload 7, 2) := by decide +kernel
theorem dX11_histories_47 : decode cX11_histories 47 = .ok (.iload_n 1, 1) := by decide +kernel
theorem dX11_histories_48 : decode cX11_histories 48 = .ok (.if_icmp .gt 36, 3) := by decide +kernel
theorem dX11_histories_51 : decode cX11_histories 51 = .ok (.lload 5, 2) := by decide +kernel
theorem dX11_histories_53 : decode cX11_histories 53 = .ok (.aload_n 0, 1) := by decide +kernel
theorem dX11_histories_54 : decode cX11_histories 54 = .ok (.iload 4, 2) := by decide +kernel
theorem dX11_histories_56 : decode cX11_histories 56 = .ok (.iconst 0, 1) := by decide +kernel
theorem dX11_histories_57 : decode cX11_histories 57 = .ok (.iload 7, 2) := by decide +kernel
theorem dX11_histories_59 : decode cX11_histories 59 = .ok (.iload_n 1, 1) := by decide +kernel
theorem dX11_histories_60 : decode cX11_histories 60 = .ok (.invokevirtual 360, 3) := by decide +kernel
theorem dX11_histories_63 : decode cX11_histories 63 = .ok (.aload_n 0, 1) := by decide +kernel
theorem dX11_histories_64 : decode cX11_histories 64 = .ok (.iload 4, 2) := by decide +kernel
theorem dX11_histories_66 : decode cX11_histories 66 = .ok (.iconst 1, 1) := by decide +kernel
theorem dX11_histories_67 : decode cX11_histories 67 = .ok (.iload 7, 2) := by decide +kernel
theorem dX11_histories_69 : decode cX11_histories 69 = .ok (.iload_n 1, 1) := by decide +kernel
theorem dX11_histories_70 : decode cX11_histories 70 = .ok (.invokevirtual 360, 3) := by decide +kernel
theorem dX11_histories_73 : decode cX11_histories 73 = .ok (.iadd, 1) := by decide +kernel
theorem dX11_histories_74 : decode cX11_histories 74 = .ok (.i2l, 1) := by decide +kernel
theorem dX11_histories_75 : decode cX11_histories 75 = .ok (.ladd, 1) := by decide +kernel
theorem dX11_histories_76 : decode cX11_histories 76 = .ok (.lstore 5, 2) := by decide +kernel
theorem dX11_histories_78 : decode cX11_histories 78 = .ok (.iinc 7 1, 3) := by decide +kernel
theorem dX11_histories_81 : decode cX11_histories 81 = .ok (.goto (-36), 3) := by decide +kernel
theorem dX11_histories_84 : decode cX11_histories 84 = .ok (.lload_n 2, 1) := by decide +kernel
theorem dX11_histories_85 : decode cX11_histories 85 = .ok (.lload 5, 2) := by decide +kernel
theorem dX11_histories_87 : decode cX11_histories 87 = .ok (.lmul, 1) := by decide +kernel
theorem dX11_histories_88 : decode cX11_histories 88 = .ok (.lstore_n 2, 1) := by decide +kernel
theorem dX11_histories_89 : decode cX11_histories 89 = .ok (.iinc 4 1, 3) := by decide +kernel
theorem dX11_histories_92 : decode cX11_histories 92 = .ok (.goto (-71), 3) := by decide +kernel
theorem dX11_histories_95 : decode cX11_histories 95 = .ok (.lload_n 2, 1) := by decide +kernel
theorem dX11_histories_96 : decode cX11_histories 96 = .ok (.lreturn, 1) := by decide +kernel
theorem dX11_began_0 : decode cX11_began 0 = .ok (.aload_n 0, 1) := by decide +kernel
theorem dX11_began_1 : decode cX11_began 1 = .ok (.iconst 0, 1) := by decide +kernel
theorem dX11_began_2 : decode cX11_began 2 = .ok (.iload_n 1, 1) := by decide +kernel
theorem dX11_began_3 : decode cX11_began 3 = .ok (.invokevirtual 282, 3) := by decide +kernel
theorem dX11_began_6 : decode cX11_began 6 = .ok (.ifCond .eq 27, 3) := by decide +kernel
theorem dX11_began_9 : decode cX11_began 9 = .ok (.iload_n 2, 1) := by decide +kernel
theorem dX11_began_10 : decode cX11_began 10 = .ok (.i2l, 1) := by decide +kernel
theorem dX11_began_11 : decode cX11_began 11 = .ok (.lconst 0, 1) := by decide +kernel
theorem dX11_began_12 : decode cX11_began 12 = .ok (.ldc2_w 318, 3) := by decide +kernel
theorem dX11_began_15 : decode cX11_began 15 = .ok (.invokestatic 146, 3) := by decide +kernel
theorem dX11_began_18 : decode cX11_began 18 = .ok (.ifCond .eq 15, 3) := by decide +kernel
theorem dX11_began_21 : decode cX11_began 21 = .ok (.iload_n 3, 1) := by decide +kernel
theorem dX11_began_22 : decode cX11_began 22 = .ok (.i2l, 1) := by decide +kernel
theorem dX11_began_23 : decode cX11_began 23 = .ok (.lconst 0, 1) := by decide +kernel
theorem dX11_began_24 : decode cX11_began 24 = .ok (.ldc2_w 332, 3) := by decide +kernel
theorem dX11_began_27 : decode cX11_began 27 = .ok (.invokestatic 146, 3) := by decide +kernel
theorem dX11_began_30 : decode cX11_began 30 = .ok (.ifCond .ne 5, 3) := by decide +kernel
theorem dX11_began_33 : decode cX11_began 33 = .ok (.iconst (-1), 1) := by decide +kernel
theorem dX11_began_34 : decode cX11_began 34 = .ok (.ireturn, 1) := by decide +kernel
theorem dX11_began_35 : decode cX11_began 35 = .ok (.aload_n 0, 1) := by decide +kernel
theorem dX11_began_36 : decode cX11_began 36 = .ok (.iload_n 1, 1) := by decide +kernel
theorem dX11_began_37 : decode cX11_began 37 = .ok (.invokevirtual 357, 3) := by decide +kernel
theorem dX11_began_40 : decode cX11_began 40 = .ok (.ifCond .ne 6, 3) := by decide +kernel
theorem dX11_began_43 : decode cX11_began 43 = .ok (.bipush (-2), 2) := by decide +kernel
theorem dX11_began_45 : decode cX11_began 45 = .ok (.ireturn, 1) := by decide +kernel
theorem dX11_began_46 : decode cX11_began 46 = .ok (.iconst 0, 1) := by decide +kernel
theorem dX11_began_47 : decode cX11_began 47 = .ok (.istore 4, 2) := by decide +kernel
theorem dX11_began_49 : decode cX11_began 49 = .ok (.iconst 0, 1) := by decide +kernel
theorem dX11_began_50 : decode cX11_began 50 = .ok (.istore 5, 2) := by decide +kernel
theorem dX11_began_52 : decode cX11_began 52 = .ok (.bipush (-4), 2) := by decide +kernel
theorem dX11_began_54 : decode cX11_began 54 = .ok (.istore 6, 2) := by decide +kernel
theorem dX11_began_56 : decode cX11_began 56 = .ok (.bipush (-4), 2) := by decide +kernel
theorem dX11_began_58 : decode cX11_began 58 = .ok (.istore 7, 2) := by decide +kernel
theorem dX11_began_60 : decode cX11_began 60 = .ok (.iconst 0, 1) := by decide +kernel
theorem dX11_began_61 : decode cX11_began 61 = .ok (.istore 8, 2) := by decide +kernel
theorem dX11_began_63 : decode cX11_began 63 = .ok (.iload 8, 2) := by decide +kernel
theorem dX11_began_65 : decode cX11_began 65 = .ok (.iload_n 2, 1) := by decide +kernel
theorem dX11_began_66 : decode cX11_began 66 = .ok (.if_icmp .gt 86, 3) := by decide +kernel
theorem dX11_began_69 : decode cX11_began 69 = .ok (.aload_n 0, 1) := by decide +kernel
theorem dX11_began_70 : decode cX11_began 70 = .ok (.iload_n 1, 1) := by decide +kernel
theorem dX11_began_71 : decode cX11_began 71 = .ok (.iconst 0, 1) := by decide +kernel
theorem dX11_began_72 : decode cX11_began 72 = .ok (.iload 8, 2) := by decide +kernel
theorem dX11_began_74 : decode cX11_began 74 = .ok (.iload_n 2, 1) := by decide +kernel
theorem dX11_began_75 : decode cX11_began 75 = .ok (.invokevirtual 360, 3) := by decide +kernel
theorem dX11_began_78 : decode cX11_began 78 = .ok (.istore 9, 2) := by decide +kernel
theorem dX11_began_80 : decode cX11_began 80 = .ok (.aload_n 0, 1) := by decide +kernel
theorem dX11_began_81 : decode cX11_began 81 = .ok (.iload_n 1, 1) := by decide +kernel
theorem dX11_began_82 : decode cX11_began 82 = .ok (.iconst 1, 1) := by decide +kernel
theorem dX11_began_83 : decode cX11_began 83 = .ok (.iload 8, 2) := by decide +kernel
theorem dX11_began_85 : decode cX11_began 85 = .ok (.iload_n 2, 1) := by decide +kernel
theorem dX11_began_86 : decode cX11_began 86 = .ok (.invokevirtual 360, 3) := by decide +kernel
theorem dX11_began_89 : decode cX11_began 89 = .ok (.istore 10, 2) := by decide +kernel
theorem dX11_began_91 : decode cX11_began 91 = .ok (.iload 4, 2) := by decide +kernel
theorem dX11_began_93 : decode cX11_began 93 = .ok (.iload 9, 2) := by decide +kernel
theorem dX11_began_95 : decode cX11_began 95 = .ok (.iadd, 1) := by decide +kernel
theorem dX11_began_96 : decode cX11_began 96 = .ok (.istore 4, 2) := by decide +kernel
theorem dX11_began_98 : decode cX11_began 98 = .ok (.iload 5, 2) := by decide +kernel
theorem dX11_began_100 : decode cX11_began 100 = .ok (.iload 10, 2) := by decide +kernel
theorem dX11_began_102 : decode cX11_began 102 = .ok (.iadd, 1) := by decide +kernel
theorem dX11_began_103 : decode cX11_began 103 = .ok (.istore 5, 2) := by decide +kernel
theorem dX11_began_105 : decode cX11_began 105 = .ok (.iload 6, 2) := by decide +kernel
theorem dX11_began_107 : decode cX11_began 107 = .ok (.bipush (-4), 2) := by decide +kernel
theorem dX11_began_109 : decode cX11_began 109 = .ok (.if_icmp .ne 16, 3) := by decide +kernel
theorem dX11_began_112 : decode cX11_began 112 = .ok (.iload 9, 2) := by decide +kernel
theorem dX11_began_114 : decode cX11_began 114 = .ok (.iload 10, 2) := by decide +kernel
theorem dX11_began_116 : decode cX11_began 116 = .ok (.iadd, 1) := by decide +kernel
theorem dX11_began_117 : decode cX11_began 117 = .ok (.ifCond .le 8, 3) := by decide +kernel
theorem dX11_began_120 : decode cX11_began 120 = .ok (.iload 8, 2) := by decide +kernel
theorem dX11_began_122 : decode cX11_began 122 = .ok (.goto 5, 3) := by decide +kernel
theorem dX11_began_125 : decode cX11_began 125 = .ok (.iload 6, 2) := by decide +kernel
theorem dX11_began_127 : decode cX11_began 127 = .ok (.istore 6, 2) := by decide +kernel
theorem dX11_began_129 : decode cX11_began 129 = .ok (.iload 9, 2) := by decide +kernel
theorem dX11_began_131 : decode cX11_began 131 = .ok (.iload 10, 2) := by decide +kernel
theorem dX11_began_133 : decode cX11_began 133 = .ok (.iadd, 1) := by decide +kernel
theorem dX11_began_134 : decode cX11_began 134 = .ok (.ifCond .le 8, 3) := by decide +kernel
theorem dX11_began_137 : decode cX11_began 137 = .ok (.iload 8, 2) := by decide +kernel
theorem dX11_began_139 : decode cX11_began 139 = .ok (.goto 5, 3) := by decide +kernel
theorem dX11_began_142 : decode cX11_began 142 = .ok (.iload 7, 2) := by decide +kernel
theorem dX11_began_144 : decode cX11_began 144 = .ok (.istore 7, 2) := by decide +kernel
theorem dX11_began_146 : decode cX11_began 146 = .ok (.iinc 8 1, 3) := by decide +kernel
theorem dX11_began_149 : decode cX11_began 149 = .ok (.goto (-86), 3) := by decide +kernel
theorem dX11_began_152 : decode cX11_began 152 = .ok (.iload_n 3, 1) := by decide +kernel
theorem dX11_began_153 : decode cX11_began 153 = .ok (.iconst 1, 1) := by decide +kernel
theorem dX11_began_154 : decode cX11_began 154 = .ok (.if_icmp .ne 8, 3) := by decide +kernel
theorem dX11_began_157 : decode cX11_began 157 = .ok (.iload 6, 2) := by decide +kernel
theorem dX11_began_159 : decode cX11_began 159 = .ok (.goto 43, 3) := by decide +kernel
theorem dX11_began_162 : decode cX11_began 162 = .ok (.iload_n 3, 1) := by decide +kernel
theorem dX11_began_163 : decode cX11_began 163 = .ok (.iconst 2, 1) := by decide +kernel
theorem dX11_began_164 : decode cX11_began 164 = .ok (.if_icmp .ne 8, 3) := by decide +kernel
theorem dX11_began_167 : decode cX11_began 167 = .ok (.iload 7, 2) := by decide +kernel
theorem dX11_began_169 : decode cX11_began 169 = .ok (.goto 33, 3) := by decide +kernel
theorem dX11_began_172 : decode cX11_began 172 = .ok (.iload 4, 2) := by decide +kernel
theorem dX11_began_174 : decode cX11_began 174 = .ok (.ifCond .le 12, 3) := by decide +kernel
theorem dX11_began_177 : decode cX11_began 177 = .ok (.iload 5, 2) := by decide +kernel
theorem dX11_began_179 : decode cX11_began 179 = .ok (.ifCond .ne 7, 3) := by decide +kernel
theorem dX11_began_182 : decode cX11_began 182 = .ok (.iconst 0, 1) := by decide +kernel
theorem dX11_began_183 : decode cX11_began 183 = .ok (.goto 19, 3) := by decide +kernel
theorem dX11_began_186 : decode cX11_began 186 = .ok (.iload 5, 2) := by decide +kernel
theorem dX11_began_188 : decode cX11_began 188 = .ok (.ifCond .le 12, 3) := by decide +kernel
theorem dX11_began_191 : decode cX11_began 191 = .ok (.iload 4, 2) := by decide +kernel
theorem dX11_began_193 : decode cX11_began 193 = .ok (.ifCond .ne 7, 3) := by decide +kernel
theorem dX11_began_196 : decode cX11_began 196 = .ok (.iconst 1, 1) := by decide +kernel
theorem dX11_began_197 : decode cX11_began 197 = .ok (.goto 5, 3) := by decide +kernel
theorem dX11_began_200 : decode cX11_began 200 = .ok (.bipush (-4), 2) := by decide +kernel
theorem dX11_began_202 : decode cX11_began 202 = .ok (.ireturn, 1) := by decide +kernel
theorem dX11_thingMany_0 : decode cX11_thingMany 0 = .ok (.iconst 0, 1) := by decide +kernel
theorem dX11_thingMany_1 : decode cX11_thingMany 1 = .ok (.istore_n 1, 1) := by decide +kernel
theorem dX11_thingMany_2 : decode cX11_thingMany 2 = .ok (.iconst 0, 1) := by decide +kernel
theorem dX11_thingMany_3 : decode cX11_thingMany 3 = .ok (.istore_n 2, 1) := by decide +kernel
theorem dX11_thingMany_4 : decode cX11_thingMany 4 = .ok (.iload_n 2, 1) := by decide +kernel
theorem dX11_thingMany_5 : decode cX11_thingMany 5 = .ok (.bipush 16, 2) := by decide +kernel
theorem dX11_thingMany_7 : decode cX11_thingMany 7 = .ok (.if_icmp .ge 29, 3) := by decide +kernel
theorem dX11_thingMany_10 : decode cX11_thingMany 10 = .ok (.iload_n 1, 1) := by decide +kernel
theorem dX11_thingMany_11 : decode cX11_thingMany 11 = .ok (.aload_n 0, 1) := by decide +kernel
theorem dX11_thingMany_12 : decode cX11_thingMany 12 = .ok (.getfield 7, 3) := by decide +kernel
theorem dX11_thingMany_15 : decode cX11_thingMany 15 = .ok (.iload_n 2, 1) := by decide +kernel
theorem dX11_thingMany_16 : decode cX11_thingMany 16 = .ok (.iaload, 1) := by decide +kernel
theorem dX11_thingMany_17 : decode cX11_thingMany 17 = .ok (.ifCond .eq 7, 3) := by decide +kernel
theorem dX11_thingMany_20 : decode cX11_thingMany 20 = .ok (.iconst 1, 1) := by decide +kernel
theorem dX11_thingMany_21 : decode cX11_thingMany 21 = .ok (.goto 4, 3) := by decide +kernel
theorem dX11_thingMany_24 : decode cX11_thingMany 24 = .ok (.iconst 0, 1) := by decide +kernel
theorem dX11_thingMany_25 : decode cX11_thingMany 25 = .ok (.invokestatic 265, 3) := by decide +kernel
theorem dX11_thingMany_28 : decode cX11_thingMany 28 = .ok (.iadd, 1) := by decide +kernel
theorem dX11_thingMany_29 : decode cX11_thingMany 29 = .ok (.istore_n 1, 1) := by decide +kernel
theorem dX11_thingMany_30 : decode cX11_thingMany 30 = .ok (.iinc 2 1, 3) := by decide +kernel
theorem dX11_thingMany_33 : decode cX11_thingMany 33 = .ok (.goto (-29), 3) := by decide +kernel
theorem dX11_thingMany_36 : decode cX11_thingMany 36 = .ok (.iload_n 1, 1) := by decide +kernel
theorem dX11_thingMany_37 : decode cX11_thingMany 37 = .ok (.ireturn, 1) := by decide +kernel
theorem dX11_copies_0 : decode cX11_copies 0 = .ok (.iconst 0, 1) := by decide +kernel
theorem dX11_copies_1 : decode cX11_copies 1 = .ok (.istore_n 3, 1) := by decide +kernel
theorem dX11_copies_2 : decode cX11_copies 2 = .ok (.iload_n 3, 1) := by decide +kernel
theorem dX11_copies_3 : decode cX11_copies 3 = .ok (.bipush 127, 2) := by decide +kernel
theorem dX11_copies_5 : decode cX11_copies 5 = .ok (.if_icmp .ge 25, 3) := by decide +kernel
theorem dX11_copies_8 : decode cX11_copies 8 = .ok (.aload_n 0, 1) := by decide +kernel
theorem dX11_copies_9 : decode cX11_copies 9 = .ok (.getfield 7, 3) := by decide +kernel
theorem dX11_copies_12 : decode cX11_copies 12 = .ok (.iload_n 1, 1) := by decide +kernel
theorem dX11_copies_13 : decode cX11_copies 13 = .ok (.iload_n 3, 1) := by decide +kernel
theorem dX11_copies_14 : decode cX11_copies 14 = .ok (.iadd, 1) := by decide +kernel
theorem dX11_copies_15 : decode cX11_copies 15 = .ok (.aload_n 0, 1) := by decide +kernel
theorem dX11_copies_16 : decode cX11_copies 16 = .ok (.getfield 7, 3) := by decide +kernel
theorem dX11_copies_19 : decode cX11_copies 19 = .ok (.iload_n 2, 1) := by decide +kernel
theorem dX11_copies_20 : decode cX11_copies 20 = .ok (.iload_n 3, 1) := by decide +kernel
theorem dX11_copies_21 : decode cX11_copies 21 = .ok (.iadd, 1) := by decide +kernel
theorem dX11_copies_22 : decode cX11_copies 22 = .ok (.iaload, 1) := by decide +kernel
theorem dX11_copies_23 : decode cX11_copies 23 = .ok (.iastore, 1) := by decide +kernel
theorem dX11_copies_24 : decode cX11_copies 24 = .ok (.iinc 3 1, 3) := by decide +kernel
theorem dX11_copies_27 : decode cX11_copies 27 = .ok (.goto (-25), 3) := by decide +kernel
theorem dX11_copies_30 : decode cX11_copies 30 = .ok (.return_, 1) := by decide +kernel
theorem dX11_keep_0 : decode cX11_keep 0 = .ok (.iload_n 1, 1) := by decide +kernel
theorem dX11_keep_1 : decode cX11_keep 1 = .ok (.i2l, 1) := by decide +kernel
theorem dX11_keep_2 : decode cX11_keep 2 = .ok (.lconst 0, 1) := by decide +kernel
theorem dX11_keep_3 : decode cX11_keep 3 = .ok (.lconst 1, 1) := by decide +kernel
theorem dX11_keep_4 : decode cX11_keep 4 = .ok (.invokestatic 146, 3) := by decide +kernel
theorem dX11_keep_7 : decode cX11_keep 7 = .ok (.ifCond .ne 5, 3) := by decide +kernel
theorem dX11_keep_10 : decode cX11_keep 10 = .ok (.iconst (-1), 1) := by decide +kernel
theorem dX11_keep_11 : decode cX11_keep 11 = .ok (.ireturn, 1) := by decide +kernel
theorem dX11_keep_12 : decode cX11_keep 12 = .ok (.aload_n 0, 1) := by decide +kernel
theorem dX11_keep_13 : decode cX11_keep 13 = .ok (.getfield 13, 3) := by decide +kernel
theorem dX11_keep_16 : decode cX11_keep 16 = .ok (.iload_n 1, 1) := by decide +kernel
theorem dX11_keep_17 : decode cX11_keep 17 = .ok (.baload, 1) := by decide +kernel
theorem dX11_keep_18 : decode cX11_keep 18 = .ok (.invokestatic 265, 3) := by decide +kernel
theorem dX11_keep_21 : decode cX11_keep 21 = .ok (.istore_n 2, 1) := by decide +kernel
theorem dX11_keep_22 : decode cX11_keep 22 = .ok (.aload_n 0, 1) := by decide +kernel
theorem dX11_keep_23 : decode cX11_keep 23 = .ok (.getfield 13, 3) := by decide +kernel
theorem dX11_keep_26 : decode cX11_keep 26 = .ok (.iload_n 1, 1) := by decide +kernel
theorem dX11_keep_27 : decode cX11_keep 27 = .ok (.iconst 1, 1) := by decide +kernel
theorem dX11_keep_28 : decode cX11_keep 28 = .ok (.bastore, 1) := by decide +kernel
theorem dX11_keep_29 : decode cX11_keep 29 = .ok (.aload_n 0, 1) := by decide +kernel
theorem dX11_keep_30 : decode cX11_keep 30 = .ok (.bipush 127, 2) := by decide +kernel
theorem dX11_keep_32 : decode cX11_keep 32 = .ok (.iload_n 1, 1) := by decide +kernel
theorem dX11_keep_33 : decode cX11_keep 33 = .ok (.iconst 1, 1) := by decide +kernel
theorem dX11_keep_34 : decode cX11_keep 34 = .ok (.iadd, 1) := by decide +kernel
theorem dX11_keep_35 : decode cX11_keep 35 = .ok (.imul, 1) := by decide +kernel
theorem dX11_keep_36 : decode cX11_keep 36 = .ok (.iconst 0, 1) := by decide +kernel
theorem dX11_keep_37 : decode cX11_keep 37 = .ok (.invokevirtual 364, 3) := by decide +kernel
theorem dX11_keep_40 : decode cX11_keep 40 = .ok (.iload_n 2, 1) := by decide +kernel
theorem dX11_keep_41 : decode cX11_keep 41 = .ok (.ireturn, 1) := by decide +kernel
theorem dX11_back_0 : decode cX11_back 0 = .ok (.iload_n 1, 1) := by decide +kernel
theorem dX11_back_1 : decode cX11_back 1 = .ok (.i2l, 1) := by decide +kernel
theorem dX11_back_2 : decode cX11_back 2 = .ok (.lconst 0, 1) := by decide +kernel
theorem dX11_back_3 : decode cX11_back 3 = .ok (.lconst 1, 1) := by decide +kernel
theorem dX11_back_4 : decode cX11_back 4 = .ok (.invokestatic 146, 3) := by decide +kernel
theorem dX11_back_7 : decode cX11_back 7 = .ok (.ifCond .ne 5, 3) := by decide +kernel
theorem dX11_back_10 : decode cX11_back 10 = .ok (.iconst (-1), 1) := by decide +kernel
theorem dX11_back_11 : decode cX11_back 11 = .ok (.ireturn, 1) := by decide +kernel
theorem dX11_back_12 : decode cX11_back 12 = .ok (.aload_n 0, 1) := by decide +kernel
theorem dX11_back_13 : decode cX11_back 13 = .ok (.getfield 13, 3) := by decide +kernel
theorem dX11_back_16 : decode cX11_back 16 = .ok (.iload_n 1, 1) := by decide +kernel
theorem dX11_back_17 : decode cX11_back 17 = .ok (.baload, 1) := by decide +kernel
theorem dX11_back_18 : decode cX11_back 18 = .ok (.ifCond .ne 6, 3) := by decide +kernel
theorem dX11_back_21 : decode cX11_back 21 = .ok (.bipush (-2), 2) := by decide +kernel
theorem dX11_back_23 : decode cX11_back 23 = .ok (.ireturn, 1) := by decide +kernel
theorem dX11_back_24 : decode cX11_back 24 = .ok (.aload_n 0, 1) := by decide +kernel
theorem dX11_back_25 : decode cX11_back 25 = .ok (.iconst 0, 1) := by decide +kernel
theorem dX11_back_26 : decode cX11_back 26 = .ok (.bipush 127, 2) := by decide +kernel
theorem dX11_back_28 : decode cX11_back 28 = .ok (.iload_n 1, 1) := by decide +kernel
theorem dX11_back_29 : decode cX11_back 29 = .ok (.iconst 1, 1) := by decide +kernel
theorem dX11_back_30 : decode cX11_back 30 = .ok (.iadd, 1) := by decide +kernel
theorem dX11_back_31 : decode cX11_back 31 = .ok (.imul, 1) := by decide +kernel
theorem dX11_back_32 : decode cX11_back 32 = .ok (.invokevirtual 364, 3) := by decide +kernel
theorem dX11_back_35 : decode cX11_back 35 = .ok (.aload_n 0, 1) := by decide +kernel
theorem dX11_back_36 : decode cX11_back 36 = .ok (.invokevirtual 368, 3) := by decide +kernel
theorem dX11_back_39 : decode cX11_back 39 = .ok (.ireturn, 1) := by decide +kernel
theorem dX11_isSheet_0 : decode cX11_isSheet 0 = .ok (.iload_n 0, 1) := by decide +kernel
theorem dX11_isSheet_1 : decode cX11_isSheet 1 = .ok (.i2l, 1) := by decide +kernel
theorem dX11_isSheet_2 : decode cX11_isSheet 2 = .ok (.lconst 0, 1) := by decide +kernel
theorem dX11_isSheet_3 : decode cX11_isSheet 3 = .ok (.ldc2_w 269, 3) := by decide +kernel
theorem dX11_isSheet_6 : decode cX11_isSheet 6 = .ok (.invokestatic 146, 3) := by decide +kernel
theorem dX11_isSheet_9 : decode cX11_isSheet 9 = .ok (.ifCond .eq 19, 3) := by decide +kernel
theorem dX11_isSheet_12 : decode cX11_isSheet 12 = .ok (.iload_n 1, 1) := by decide +kernel
theorem dX11_isSheet_13 : decode cX11_isSheet 13 = .ok (.i2l, 1) := by decide +kernel
theorem dX11_isSheet_14 : decode cX11_isSheet 14 = .ok (.lconst 0, 1) := by decide +kernel
theorem dX11_isSheet_15 : decode cX11_isSheet 15 = .ok (.ldc2_w 332, 3) := by decide +kernel
theorem dX11_isSheet_18 : decode cX11_isSheet 18 = .ok (.invokestatic 146, 3) := by decide +kernel
theorem dX11_isSheet_21 : decode cX11_isSheet 21 = .ok (.ifCond .eq 7, 3) := by decide +kernel
theorem dX11_isSheet_24 : decode cX11_isSheet 24 = .ok (.iconst 1, 1) := by decide +kernel
theorem dX11_isSheet_25 : decode cX11_isSheet 25 = .ok (.goto 4, 3) := by decide +kernel
theorem dX11_isSheet_28 : decode cX11_isSheet 28 = .ok (.iconst 0, 1) := by decide +kernel
theorem dX11_isSheet_29 : decode cX11_isSheet 29 = .ok (.ireturn, 1) := by decide +kernel
theorem dX11_sheet_0 : decode cX11_sheet 0 = .ok (.iload_n 1, 1) := by decide +kernel
theorem dX11_sheet_1 : decode cX11_sheet 1 = .ok (.iload_n 2, 1) := by decide +kernel
theorem dX11_sheet_2 : decode cX11_sheet 2 = .ok (.invokestatic 371, 3) := by decide +kernel
theorem dX11_sheet_5 : decode cX11_sheet 5 = .ok (.ifCond .eq 9, 3) := by decide +kernel
theorem dX11_sheet_8 : decode cX11_sheet 8 = .ok (.iload_n 3, 1) := by decide +kernel
theorem dX11_sheet_9 : decode cX11_sheet 9 = .ok (.bipush 40, 2) := by decide +kernel
theorem dX11_sheet_11 : decode cX11_sheet 11 = .ok (.if_icmp .le 5, 3) := by decide +kernel
theorem dX11_sheet_14 : decode cX11_sheet 14 = .ok (.iconst (-1), 1) := by decide +kernel
theorem dX11_sheet_15 : decode cX11_sheet 15 = .ok (.ireturn, 1) := by decide +kernel
theorem dX11_sheet_16 : decode cX11_sheet 16 = .ok (.iload_n 3, 1) := by decide +kernel
theorem dX11_sheet_17 : decode cX11_sheet 17 = .ok (.ifCond .ge 6, 3) := by decide +kernel
theorem dX11_sheet_20 : decode cX11_sheet 20 = .ok (.bipush (-14), 2) := by decide +kernel
theorem dX11_sheet_22 : decode cX11_sheet 22 = .ok (.ireturn, 1) := by decide +kernel
theorem dX11_sheet_23 : decode cX11_sheet 23 = .ok (.aload_n 0, 1) := by decide +kernel
theorem dX11_sheet_24 : decode cX11_sheet 24 = .ok (.getfield 80, 3) := by decide +kernel
theorem dX11_sheet_27 : decode cX11_sheet 27 = .ok (.iload_n 1, 1) := by decide +kernel
theorem dX11_sheet_28 : decode cX11_sheet 28 = .ok (.iload_n 2, 1) := by decide +kernel
theorem dX11_sheet_29 : decode cX11_sheet 29 = .ok (.iastore, 1) := by decide +kernel
theorem dX11_sheet_30 : decode cX11_sheet 30 = .ok (.aload_n 0, 1) := by decide +kernel
theorem dX11_sheet_31 : decode cX11_sheet 31 = .ok (.getfield 83, 3) := by decide +kernel
theorem dX11_sheet_34 : decode cX11_sheet 34 = .ok (.iload_n 1, 1) := by decide +kernel
theorem dX11_sheet_35 : decode cX11_sheet 35 = .ok (.iload_n 3, 1) := by decide +kernel
theorem dX11_sheet_36 : decode cX11_sheet 36 = .ok (.iastore, 1) := by decide +kernel
theorem dX11_sheet_37 : decode cX11_sheet 37 = .ok (.iconst 0, 1) := by decide +kernel
theorem dX11_sheet_38 : decode cX11_sheet 38 = .ok (.istore 4, 2) := by decide +kernel
theorem dX11_sheet_40 : decode cX11_sheet 40 = .ok (.iload 4, 2) := by decide +kernel
theorem dX11_sheet_42 : decode cX11_sheet 42 = .ok (.bipush 40, 2) := by decide +kernel
theorem dX11_sheet_44 : decode cX11_sheet 44 = .ok (.if_icmp .ge 22, 3) := by decide +kernel
theorem dX11_sheet_47 : decode cX11_sheet 47 = .ok (.aload_n 0, 1) := by decide +kernel
theorem dX11_sheet_48 : decode cX11_sheet 48 = .ok (.getfield 86, 3) := by decide +kernel
theorem dX11_sheet_51 : decode cX11_sheet 51 = .ok (.bipush 40, 2) := by decide +kernel
theorem dX11_sheet_53 : decode cX11_sheet 53 = .ok (.iload_n 1, 1) := by decide +kernel
theorem dX11_sheet_54 : decode cX11_sheet 54 = .ok (.imul, 1) := by decide +kernel
theorem dX11_sheet_55 : decode cX11_sheet 55 = .ok (.iload 4, 2) := by decide +kernel
theorem dX11_sheet_57 : decode cX11_sheet 57 = .ok (.iadd, 1) := by decide +kernel
theorem dX11_sheet_58 : decode cX11_sheet 58 = .ok (.iconst 0, 1) := by decide +kernel
theorem dX11_sheet_59 : decode cX11_sheet 59 = .ok (.iastore, 1) := by decide +kernel
theorem dX11_sheet_60 : decode cX11_sheet 60 = .ok (.iinc 4 1, 3) := by decide +kernel
theorem dX11_sheet_63 : decode cX11_sheet 63 = .ok (.goto (-23), 3) := by decide +kernel
theorem dX11_sheet_66 : decode cX11_sheet 66 = .ok (.iconst 1, 1) := by decide +kernel
theorem dX11_sheet_67 : decode cX11_sheet 67 = .ok (.ireturn, 1) := by decide +kernel
theorem dX11_lay_0 : decode cX11_lay 0 = .ok (.iload_n 1, 1) := by decide +kernel
theorem dX11_lay_1 : decode cX11_lay 1 = .ok (.iconst 0, 1) := by decide +kernel
theorem dX11_lay_2 : decode cX11_lay 2 = .ok (.invokestatic 371, 3) := by decide +kernel
theorem dX11_lay_5 : decode cX11_lay 5 = .ok (.ifCond .ne 5, 3) := by decide +kernel
theorem dX11_lay_8 : decode cX11_lay 8 = .ok (.iconst (-1), 1) := by decide +kernel
theorem dX11_lay_9 : decode cX11_lay 9 = .ok (.ireturn, 1) := by decide +kernel
theorem dX11_lay_10 : decode cX11_lay 10 = .ok (.aload_n 0, 1) := by decide +kernel
theorem dX11_lay_11 : decode cX11_lay 11 = .ok (.getfield 80, 3) := by decide +kernel
theorem dX11_lay_14 : decode cX11_lay 14 = .ok (.iload_n 1, 1) := by decide +kernel
theorem dX11_lay_15 : decode cX11_lay 15 = .ok (.iaload, 1) := by decide +kernel
theorem dX11_lay_16 : decode cX11_lay 16 = .ok (.bipush (-4), 2) := by decide +kernel
theorem dX11_lay_18 : decode cX11_lay 18 = .ok (.if_icmp .ne 6, 3) := by decide +kernel
theorem dX11_lay_21 : decode cX11_lay 21 = .ok (.bipush (-11), 2) := by decide +kernel
theorem dX11_lay_23 : decode cX11_lay 23 = .ok (.ireturn, 1) := by decide +kernel
theorem dX11_lay_24 : decode cX11_lay 24 = .ok (.iload_n 2, 1) := by decide +kernel
theorem dX11_lay_25 : decode cX11_lay 25 = .ok (.i2l, 1) := by decide +kernel
theorem dX11_lay_26 : decode cX11_lay 26 = .ok (.lconst 0, 1) := by decide +kernel
theorem dX11_lay_27 : decode cX11_lay 27 = .ok (.aload_n 0, 1) := by decide +kernel
theorem dX11_lay_28 : decode cX11_lay 28 = .ok (.getfield 83, 3) := by decide +kernel
theorem dX11_lay_31 : decode cX11_lay 31 = .ok (.iload_n 1, 1) := by decide +kernel
theorem dX11_lay_32 : decode cX11_lay 32 = .ok (.iaload, 1) := by decide +kernel
theorem dX11_lay_33 : decode cX11_lay 33 = .ok (.iconst 1, 1) := by decide +kernel
theorem dX11_lay_34 : decode cX11_lay 34 = .ok (.isub, 1) := by decide +kernel
theorem dX11_lay_35 : decode cX11_lay 35 = .ok (.i2l, 1) := by decide +kernel
theorem dX11_lay_36 : decode cX11_lay 36 = .ok (.invokestatic 146, 3) := by decide +kernel
theorem dX11_lay_39 : decode cX11_lay 39 = .ok (.ifCond .ne 6, 3) := by decide +kernel
theorem dX11_lay_42 : decode cX11_lay 42 = .ok (.bipush (-12), 2) := by decide +kernel
theorem dX11_lay_44 : decode cX11_lay 44 = .ok (.ireturn, 1) := by decide +kernel
theorem dX11_lay_45 : decode cX11_lay 45 = .ok (.aload_n 0, 1) := by decide +kernel
theorem dX11_lay_46 : decode cX11_lay 46 = .ok (.getfield 86, 3) := by decide +kernel
theorem dX11_lay_49 : decode cX11_lay 49 = .ok (.bipush 40, 2) := by decide +kernel
theorem dX11_lay_51 : decode cX11_lay 51 = .ok (.iload_n 1, 1) := by decide +kernel
theorem dX11_lay_52 : decode cX11_lay 52 = .ok (.imul, 1) := by decide +kernel
theorem dX11_lay_53 : decode cX11_lay 53 = .ok (.iload_n 2, 1) := by decide +kernel
theorem dX11_lay_54 : decode cX11_lay 54 = .ok (.iadd, 1) := by decide +kernel
theorem dX11_lay_55 : decode cX11_lay 55 = .ok (.aload_n 0, 1) := by decide +kernel
theorem dX11_lay_56 : decode cX11_lay 56 = .ok (.getfield 80, 3) := by decide +kernel
theorem dX11_lay_59 : decode cX11_lay 59 = .ok (.iload_n 1, 1) := by decide +kernel
theorem dX11_lay_60 : decode cX11_lay 60 = .ok (.iaload, 1) := by decide +kernel
theorem dX11_lay_61 : decode cX11_lay 61 = .ok (.ifCond .ne 8, 3) := by decide +kernel
theorem dX11_lay_64 : decode cX11_lay 64 = .ok (.iload_n 3, 1) := by decide +kernel
theorem dX11_lay_65 : decode cX11_lay 65 = .ok (.i2b, 1) := by decide +kernel
theorem dX11_lay_66 : decode cX11_lay 66 = .ok (.goto 19, 3) := by decide +kernel
theorem dX11_lay_69 : decode cX11_lay 69 = .ok (.aload_n 0, 1) := by decide +kernel
theorem dX11_lay_70 : decode cX11_lay 70 = .ok (.getfield 80, 3) := by decide +kernel
theorem dX11_lay_73 : decode cX11_lay 73 = .ok (.iload_n 1, 1) := by decide +kernel
theorem dX11_lay_74 : decode cX11_lay 74 = .ok (.iaload, 1) := by decide +kernel
theorem dX11_lay_75 : decode cX11_lay 75 = .ok (.iconst 1, 1) := by decide +kernel
theorem dX11_lay_76 : decode cX11_lay 76 = .ok (.if_icmp .ne 8, 3) := by decide +kernel
theorem dX11_lay_79 : decode cX11_lay 79 = .ok (.iload_n 3, 1) := by decide +kernel
theorem dX11_lay_80 : decode cX11_lay 80 = .ok (.i2s, 1) := by decide +kernel
theorem dX11_lay_81 : decode cX11_lay 81 = .ok (.goto 4, 3) := by decide +kernel
theorem dX11_lay_84 : decode cX11_lay 84 = .ok (.iload_n 3, 1) := by decide +kernel
theorem dX11_lay_85 : decode cX11_lay 85 = .ok (.iastore, 1) := by decide +kernel
theorem dX11_lay_86 : decode cX11_lay 86 = .ok (.iconst 1, 1) := by decide +kernel
theorem dX11_lay_87 : decode cX11_lay 87 = .ok (.ireturn, 1) := by decide +kernel
theorem dX11_read_0 : decode cX11_read 0 = .ok (.iload_n 1, 1) := by decide +kernel
theorem dX11_read_1 : decode cX11_read 1 = .ok (.iload_n 2, 1) := by decide +kernel
theorem dX11_read_2 : decode cX11_read 2 = .ok (.invokestatic 371, 3) := by decide +kernel
theorem dX11_read_5 : decode cX11_read 5 = .ok (.ifCond .eq 16, 3) := by decide +kernel
theorem dX11_read_8 : decode cX11_read 8 = .ok (.iload 4, 2) := by decide +kernel
theorem dX11_read_10 : decode cX11_read 10 = .ok (.i2l, 1) := by decide +kernel
theorem dX11_read_11 : decode cX11_read 11 = .ok (.lconst 0, 1) := by decide +kernel
theorem dX11_read_12 : decode cX11_read 12 = .ok (.ldc2_w 253, 3) := by decide +kernel
theorem dX11_read_15 : decode cX11_read 15 = .ok (.invokestatic 146, 3) := by decide +kernel
theorem dX11_read_18 : decode cX11_read 18 = .ok (.ifCond .ne 5, 3) := by decide +kernel
theorem dX11_read_21 : decode cX11_read 21 = .ok (.iconst (-1), 1) := by decide +kernel
theorem dX11_read_22 : decode cX11_read 22 = .ok (.ireturn, 1) := by decide +kernel
theorem dX11_read_23 : decode cX11_read 23 = .ok (.iconst 0, 1) := by decide +kernel
theorem dX11_read_24 : decode cX11_read 24 = .ok (.istore 5, 2) := by decide +kernel
theorem dX11_read_26 : decode cX11_read 26 = .ok (.iconst 0, 1) := by decide +kernel
theorem dX11_read_27 : decode cX11_read 27 = .ok (.istore 6, 2) := by decide +kernel
theorem dX11_read_29 : decode cX11_read 29 = .ok (.iconst 0, 1) := by decide +kernel
theorem dX11_read_30 : decode cX11_read 30 = .ok (.istore 7, 2) := by decide +kernel
theorem dX11_read_32 : decode cX11_read 32 = .ok (.iload 7, 2) := by decide +kernel
theorem dX11_read_34 : decode cX11_read 34 = .ok (.iload 4, 2) := by decide +kernel
theorem dX11_read_36 : decode cX11_read 36 = .ok (.if_icmp .ge 169, 3) := by decide +kernel
theorem dX11_read_39 : decode cX11_read 39 = .ok (.iload 5, 2) := by decide +kernel
theorem dX11_read_41 : decode cX11_read 41 = .ok (.ifCond .ne 164, 3) := by decide +kernel
theorem dX11_read_44 : decode cX11_read 44 = .ok (.iconst 0, 1) := by decide +kernel
theorem dX11_read_45 : decode cX11_read 45 = .ok (.istore 8, 2) := by decide +kernel
theorem dX11_read_47 : decode cX11_read 47 = .ok (.iload 8, 2) := by decide +kernel
theorem dX11_read_49 : decode cX11_read 49 = .ok (.iconst 3, 1) := by decide +kernel
theorem dX11_read_50 : decode cX11_read 50 = .ok (.if_icmp .ge 84, 3) := by decide +kernel
theorem dX11_read_53 : decode cX11_read 53 = .ok (.iload 5, 2) := by decide +kernel
theorem dX11_read_55 : decode cX11_read 55 = .ok (.ifCond .ne 79, 3) := by decide +kernel
theorem dX11_read_58 : decode cX11_read 58 = .ok (.iload_n 3, 1) := by decide +kernel
theorem dX11_read_59 : decode cX11_read 59 = .ok (.i2l, 1) := by decide +kernel
theorem dX11_read_60 : decode cX11_read 60 = .ok (.iconst 3, 1) := by decide +kernel
theorem dX11_read_61 : decode cX11_read 61 = .ok (.iload 7, 2) := by decide +kernel
theorem dX11_read_63 : decode cX11_read 63 = .ok (.imul, 1) := by decide +kernel
theorem dX11_read_64 : decode cX11_read 64 = .ok (.i2l, 1) := by decide +kernel
theorem dX11_read_65 : decode cX11_read 65 = .ok (.ladd, 1) := by decide +kernel
theorem dX11_read_66 : decode cX11_read 66 = .ok (.iload 8, 2) := by decide +kernel
theorem dX11_read_68 : decode cX11_read 68 = .ok (.i2l, 1) := by decide +kernel
theorem dX11_read_69 : decode cX11_read 69 = .ok (.ladd, 1) := by decide +kernel
theorem dX11_read_70 : decode cX11_read 70 = .ok (.lstore 9, 2) := by decide +kernel
theorem dX11_read_72 : decode cX11_read 72 = .ok (.aload_n 0, 1) := by decide +kernel
theorem dX11_read_73 : decode cX11_read 73 = .ok (.getfield 80, 3) := by decide +kernel
theorem dX11_read_76 : decode cX11_read 76 = .ok (.iload_n 1, 1) := by decide +kernel
theorem dX11_read_77 : decode cX11_read 77 = .ok (.iaload, 1) := by decide +kernel
theorem dX11_read_78 : decode cX11_read 78 = .ok (.bipush (-4), 2) := by decide +kernel
theorem dX11_read_80 : decode cX11_read 80 = .ok (.if_icmp .ne 7, 3) := by decide +kernel
theorem dX11_read_83 : decode cX11_read 83 = .ok (.iconst 1, 1) := by decide +kernel
theorem dX11_read_84 : decode cX11_read 84 = .ok (.goto 42, 3) := by decide +kernel
theorem dX11_read_87 : decode cX11_read 87 = .ok (.aload_n 0, 1) := by decide +kernel
theorem dX11_read_88 : decode cX11_read 88 = .ok (.getfield 80, 3) := by decide +kernel
theorem dX11_read_91 : decode cX11_read 91 = .ok (.iload_n 1, 1) := by decide +kernel
theorem dX11_read_92 : decode cX11_read 92 = .ok (.iaload, 1) := by decide +kernel
theorem dX11_read_93 : decode cX11_read 93 = .ok (.iload_n 2, 1) := by decide +kernel
theorem dX11_read_94 : decode cX11_read 94 = .ok (.if_icmp .eq 7, 3) := by decide +kernel
theorem dX11_read_97 : decode cX11_read 97 = .ok (.iconst 3, 1) := by decide +kernel
theorem dX11_read_98 : decode cX11_read 98 = .ok (.goto 28, 3) := by decide +kernel
theorem dX11_read_101 : decode cX11_read 101 = .ok (.lload 9, 2) := by decide +kernel
theorem dX11_read_103 : decode cX11_read 103 = .ok (.lconst 0, 1) := by decide +kernel
theorem dX11_read_104 : decode cX11_read 104 = .ok (.lcmp, 1) := by decide +kernel
theorem dX11_read_105 : decode cX11_read 105 = .ok (.ifCond .lt 16, 3) := by decide +kernel
theorem dX11_read_108 : decode cX11_read 108 = .ok (.lload 9, 2) := by decide +kernel
theorem dX11_read_110 : decode cX11_read 110 = .ok (.aload_n 0, 1) := by decide +kernel
theorem dX11_read_111 : decode cX11_read 111 = .ok (.getfield 83, 3) := by decide +kernel
theorem dX11_read_114 : decode cX11_read 114 = .ok (.iload_n 1, 1) := by decide +kernel
theorem dX11_read_115 : decode cX11_read 115 = .ok (.iaload, 1) := by decide +kernel
theorem dX11_read_116 : decode cX11_read 116 = .ok (.i2l, 1) := by decide +kernel
theorem dX11_read_117 : decode cX11_read 117 = .ok (.lcmp, 1) := by decide +kernel
theorem dX11_read_118 : decode cX11_read 118 = .ok (.ifCond .lt 7, 3) := by decide +kernel
theorem dX11_read_121 : decode cX11_read 121 = .ok (.iconst 2, 1) := by decide +kernel
theorem dX11_read_122 : decode cX11_read 122 = .ok (.goto 4, 3) := by decide +kernel
theorem dX11_read_125 : decode cX11_read 125 = .ok (.iconst 0, 1) := by decide +kernel
theorem dX11_read_126 : decode cX11_read 126 = .ok (.istore 5, 2) := by decide +kernel
theorem dX11_read_128 : decode cX11_read 128 = .ok (.iinc 8 1, 3) := by decide +kernel
theorem dX11_read_131 : decode cX11_read 131 = .ok (.goto (-84), 3) := by decide +kernel
theorem dX11_read_134 : decode cX11_read 134 = .ok (.iload 5, 2) := by decide +kernel
theorem dX11_read_136 : decode cX11_read 136 = .ok (.ifCond .ne 63, 3) := by decide +kernel
theorem dX11_read_139 : decode cX11_read 139 = .ok (.bipush 40, 2) := by decide +kernel
theorem dX11_read_141 : decode cX11_read 141 = .ok (.iload_n 1, 1) := by decide +kernel
theorem dX11_read_142 : decode cX11_read 142 = .ok (.imul, 1) := by decide +kernel
theorem dX11_read_143 : decode cX11_read 143 = .ok (.iload_n 3, 1) := by decide +kernel
theorem dX11_read_144 : decode cX11_read 144 = .ok (.iadd, 1) := by decide +kernel
theorem dX11_read_145 : decode cX11_read 145 = .ok (.iconst 3, 1) := by decide +kernel
theorem dX11_read_146 : decode cX11_read 146 = .ok (.iload 7, 2) := by decide +kernel
theorem dX11_read_148 : decode cX11_read 148 = .ok (.imul, 1) := by decide +kernel
theorem dX11_read_149 : decode cX11_read 149 = .ok (.iadd, 1) := by decide +kernel
theorem dX11_read_150 : decode cX11_read 150 = .ok (.istore 8, 2) := by decide +kernel
theorem dX11_read_152 : decode cX11_read 152 = .ok (.aload_n 0, 1) := by decide +kernel
theorem dX11_read_153 : decode cX11_read 153 = .ok (.aload_n 0, 1) := by decide +kernel
theorem dX11_read_154 : decode cX11_read 154 = .ok (.getfield 86, 3) := by decide +kernel
theorem dX11_read_157 : decode cX11_read 157 = .ok (.iload 8, 2) := by decide +kernel
theorem dX11_read_159 : decode cX11_read 159 = .ok (.iaload, 1) := by decide +kernel
theorem dX11_read_160 : decode cX11_read 160 = .ok (.aload_n 0, 1) := by decide +kernel
theorem dX11_read_161 : decode cX11_read 161 = .ok (.getfield 86, 3) := by decide +kernel
theorem dX11_read_164 : decode cX11_read 164 = .ok (.iload 8, 2) := by decide +kernel
theorem dX11_read_166 : decode cX11_read 166 = .ok (.iconst 1, 1) := by decide +kernel
theorem dX11_read_167 : decode cX11_read 167 = .ok (.iadd, 1) := by decide +kernel
theorem dX11_read_168 : decode cX11_read 168 = .ok (.iaload, 1) := by decide +kernel
theorem dX11_read_169 : decode cX11_read 169 = .ok (.invokevirtual 282, 3) := by decide +kernel
theorem dX11_read_172 : decode cX11_read 172 = .ok (.ifCond .eq 18, 3) := by decide +kernel
theorem dX11_read_175 : decode cX11_read 175 = .ok (.aload_n 0, 1) := by decide +kernel
theorem dX11_read_176 : decode cX11_read 176 = .ok (.getfield 86, 3) := by decide +kernel
theorem dX11_read_179 : decode cX11_read 179 = .ok (.iload 8, 2) := by decide +kernel
theorem dX11_read_181 : decode cX11_read 181 = .ok (.iconst 2, 1) := by decide +kernel
theorem dX11_read_182 : decode cX11_read 182 = .ok (.iadd, 1) := by decide +kernel
theorem dX11_read_183 : decode cX11_read 183 = .ok (.iaload, 1) := by decide +kernel
theorem dX11_read_184 : decode cX11_read 184 = .ok (.invokestatic 273, 3) := by decide +kernel
theorem dX11_read_187 : decode cX11_read 187 = .ok (.ifCond .ne 9, 3) := by decide +kernel
theorem dX11_read_190 : decode cX11_read 190 = .ok (.bipush (-20), 2) := by decide +kernel
theorem dX11_read_192 : decode cX11_read 192 = .ok (.iload 7, 2) := by decide +kernel
theorem dX11_read_194 : decode cX11_read 194 = .ok (.isub, 1) := by decide +kernel
theorem dX11_read_195 : decode cX11_read 195 = .ok (.ireturn, 1) := by decide +kernel
theorem dX11_read_196 : decode cX11_read 196 = .ok (.iinc 6 1, 3) := by decide +kernel
theorem dX11_read_199 : decode cX11_read 199 = .ok (.iinc 7 1, 3) := by decide +kernel
theorem dX11_read_202 : decode cX11_read 202 = .ok (.goto (-170), 3) := by decide +kernel
theorem dX11_read_205 : decode cX11_read 205 = .ok (.aload_n 0, 1) := by decide +kernel
theorem dX11_read_206 : decode cX11_read 206 = .ok (.iload 5, 2) := by decide +kernel
theorem dX11_read_208 : decode cX11_read 208 = .ok (.putfield 374, 3) := by decide +kernel
theorem dX11_read_211 : decode cX11_read 211 = .ok (.iconst 0, 1) := by decide +kernel
theorem dX11_read_212 : decode cX11_read 212 = .ok (.istore 7, 2) := by decide +kernel
theorem dX11_read_214 : decode cX11_read 214 = .ok (.iload 7, 2) := by decide +kernel
theorem dX11_read_216 : decode cX11_read 216 = .ok (.iload 6, 2) := by decide +kernel
theorem dX11_read_218 : decode cX11_read 218 = .ok (.if_icmp .ge 56, 3) := by decide +kernel
theorem dX11_read_221 : decode cX11_read 221 = .ok (.bipush 40, 2) := by decide +kernel
theorem dX11_read_223 : decode cX11_read 223 = .ok (.iload_n 1, 1) := by decide +kernel
theorem dX11_read_224 : decode cX11_read 224 = .ok (.imul, 1) := by decide +kernel
theorem dX11_read_225 : decode cX11_read 225 = .ok (.iload_n 3, 1) := by decide +kernel
theorem dX11_read_226 : decode cX11_read 226 = .ok (.iadd, 1) := by decide +kernel
theorem dX11_read_227 : decode cX11_read 227 = .ok (.iconst 3, 1) := by decide +kernel
theorem dX11_read_228 : decode cX11_read 228 = .ok (.iload 7, 2) := by decide +kernel
theorem dX11_read_230 : decode cX11_read 230 = .ok (.imul, 1) := by decide +kernel
theorem dX11_read_231 : decode cX11_read 231 = .ok (.iadd, 1) := by decide +kernel
theorem dX11_read_232 : decode cX11_read 232 = .ok (.istore 8, 2) := by decide +kernel
theorem dX11_read_234 : decode cX11_read 234 = .ok (.aload_n 0, 1) := by decide +kernel
theorem dX11_read_235 : decode cX11_read 235 = .ok (.getfield 7, 3) := by decide +kernel
theorem dX11_read_238 : decode cX11_read 238 = .ok (.bipush 8, 2) := by decide +kernel
theorem dX11_read_240 : decode cX11_read 240 = .ok (.aload_n 0, 1) := by decide +kernel
theorem dX11_read_241 : decode cX11_read 241 = .ok (.getfield 86, 3) := by decide +kernel
theorem dX11_read_244 : decode cX11_read 244 = .ok (.iload 8, 2) := by decide +kernel
theorem dX11_read_246 : decode cX11_read 246 = .ok (.iaload, 1) := by decide +kernel
theorem dX11_read_247 : decode cX11_read 247 = .ok (.imul, 1) := by decide +kernel
theorem dX11_read_248 : decode cX11_read 248 = .ok (.aload_n 0, 1) := by decide +kernel
theorem dX11_read_249 : decode cX11_read 249 = .ok (.getfield 86, 3) := by decide +kernel
theorem dX11_read_252 : decode cX11_read 252 = .ok (.iload 8, 2) := by decide +kernel
theorem dX11_read_254 : decode cX11_read 254 = .ok (.iconst 1, 1) := by decide +kernel
theorem dX11_read_255 : decode cX11_read 255 = .ok (.iadd, 1) := by decide +kernel
theorem dX11_read_256 : decode cX11_read 256 = .ok (.iaload, 1) := by decide +kernel
theorem dX11_read_257 : decode cX11_read 257 = .ok (.iadd, 1) := by decide +kernel
theorem dX11_read_258 : decode cX11_read 258 = .ok (.aload_n 0, 1) := by decide +kernel
theorem dX11_read_259 : decode cX11_read 259 = .ok (.getfield 86, 3) := by decide +kernel
theorem dX11_read_262 : decode cX11_read 262 = .ok (.iload 8, 2) := by decide +kernel
theorem dX11_read_264 : decode cX11_read 264 = .ok (.iconst 2, 1) := by decide +kernel
theorem dX11_read_265 : decode cX11_read 265 = .ok (.iadd, 1) := by decide +kernel
theorem dX11_read_266 : decode cX11_read 266 = .ok (.iaload, 1) := by decide +kernel
theorem dX11_read_267 : decode cX11_read 267 = .ok (.iastore, 1) := by decide +kernel
theorem dX11_read_268 : decode cX11_read 268 = .ok (.iinc 7 1, 3) := by decide +kernel
theorem dX11_read_271 : decode cX11_read 271 = .ok (.goto (-57), 3) := by decide +kernel
theorem dX11_read_274 : decode cX11_read 274 = .ok (.iload 6, 2) := by decide +kernel
theorem dX11_read_276 : decode cX11_read 276 = .ok (.ireturn, 1) := by decide +kernel
theorem dX11_torn_0 : decode cX11_torn 0 = .ok (.aload_n 0, 1) := by decide +kernel
theorem dX11_torn_1 : decode cX11_torn 1 = .ok (.getfield 374, 3) := by decide +kernel
theorem dX11_torn_4 : decode cX11_torn 4 = .ok (.ireturn, 1) := by decide +kernel
theorem dX11_count_0 : decode cX11_count 0 = .ok (.iconst 0, 1) := by decide +kernel
theorem dX11_count_1 : decode cX11_count 1 = .ok (.istore_n 2, 1) := by decide +kernel
theorem dX11_count_2 : decode cX11_count 2 = .ok (.iconst 0, 1) := by decide +kernel
theorem dX11_count_3 : decode cX11_count 3 = .ok (.istore_n 3, 1) := by decide +kernel
theorem dX11_count_4 : decode cX11_count 4 = .ok (.iload_n 3, 1) := by decide +kernel
theorem dX11_count_5 : decode cX11_count 5 = .ok (.aload_n 0, 1) := by decide +kernel
theorem dX11_count_6 : decode cX11_count 6 = .ok (.getfield 129, 3) := by decide +kernel
theorem dX11_count_9 : decode cX11_count 9 = .ok (.if_icmp .ge 31, 3) := by decide +kernel
theorem dX11_count_12 : decode cX11_count 12 = .ok (.iload_n 2, 1) := by decide +kernel
theorem dX11_count_13 : decode cX11_count 13 = .ok (.aload_n 0, 1) := by decide +kernel
theorem dX11_count_14 : decode cX11_count 14 = .ok (.iconst 0, 1) := by decide +kernel
theorem dX11_count_15 : decode cX11_count 15 = .ok (.iload_n 3, 1) := by decide +kernel
theorem dX11_count_16 : decode cX11_count 16 = .ok (.invokevirtual 289, 3) := by decide +kernel
theorem dX11_count_19 : decode cX11_count 19 = .ok (.bipush (-4), 2) := by decide +kernel
theorem dX11_count_21 : decode cX11_count 21 = .ok (.if_icmp .eq 7, 3) := by decide +kernel
theorem dX11_count_24 : decode cX11_count 24 = .ok (.iconst 1, 1) := by decide +kernel
theorem dX11_count_25 : decode cX11_count 25 = .ok (.goto 4, 3) := by decide +kernel
theorem dX11_count_28 : decode cX11_count 28 = .ok (.iconst 0, 1) := by decide +kernel
theorem dX11_count_29 : decode cX11_count 29 = .ok (.invokestatic 265, 3) := by decide +kernel
theorem dX11_count_32 : decode cX11_count 32 = .ok (.iadd, 1) := by decide +kernel
theorem dX11_count_33 : decode cX11_count 33 = .ok (.istore_n 2, 1) := by decide +kernel
theorem dX11_count_34 : decode cX11_count 34 = .ok (.iinc 3 1, 3) := by decide +kernel
theorem dX11_count_37 : decode cX11_count 37 = .ok (.goto (-33), 3) := by decide +kernel
theorem dX11_count_40 : decode cX11_count 40 = .ok (.iload_n 1, 1) := by decide +kernel
theorem dX11_count_41 : decode cX11_count 41 = .ok (.tableswitch 114 0 6 #[43, 48, 50, 58, 66, 86, 91], 43) := by decide +kernel
theorem dX11_count_84 : decode cX11_count 84 = .ok (.aload_n 0, 1) := by decide +kernel
theorem dX11_count_85 : decode cX11_count 85 = .ok (.invokevirtual 368, 3) := by decide +kernel
theorem dX11_count_88 : decode cX11_count 88 = .ok (.ireturn, 1) := by decide +kernel
theorem dX11_count_89 : decode cX11_count 89 = .ok (.iload_n 2, 1) := by decide +kernel
theorem dX11_count_90 : decode cX11_count 90 = .ok (.ireturn, 1) := by decide +kernel
theorem dX11_count_91 : decode cX11_count 91 = .ok (.aload_n 0, 1) := by decide +kernel
theorem dX11_count_92 : decode cX11_count 92 = .ok (.getfield 7, 3) := by decide +kernel
theorem dX11_count_95 : decode cX11_count 95 = .ok (.bipush 65, 2) := by decide +kernel
theorem dX11_count_97 : decode cX11_count 97 = .ok (.iaload, 1) := by decide +kernel
theorem dX11_count_98 : decode cX11_count 98 = .ok (.ireturn, 1) := by decide +kernel
theorem dX11_count_99 : decode cX11_count 99 = .ok (.aload_n 0, 1) := by decide +kernel
theorem dX11_count_100 : decode cX11_count 100 = .ok (.getfield 7, 3) := by decide +kernel
theorem dX11_count_103 : decode cX11_count 103 = .ok (.bipush 78, 2) := by decide +kernel
theorem dX11_count_105 : decode cX11_count 105 = .ok (.iaload, 1) := by decide +kernel
theorem dX11_count_106 : decode cX11_count 106 = .ok (.ireturn, 1) := by decide +kernel
theorem dX11_count_107 : decode cX11_count 107 = .ok (.aload_n 0, 1) := by decide +kernel
theorem dX11_count_108 : decode cX11_count 108 = .ok (.getfield 13, 3) := by decide +kernel
theorem dX11_count_111 : decode cX11_count 111 = .ok (.iconst 0, 1) := by decide +kernel
theorem dX11_count_112 : decode cX11_count 112 = .ok (.baload, 1) := by decide +kernel
theorem dX11_count_113 : decode cX11_count 113 = .ok (.invokestatic 265, 3) := by decide +kernel
theorem dX11_count_116 : decode cX11_count 116 = .ok (.aload_n 0, 1) := by decide +kernel
theorem dX11_count_117 : decode cX11_count 117 = .ok (.getfield 13, 3) := by decide +kernel
theorem dX11_count_120 : decode cX11_count 120 = .ok (.iconst 1, 1) := by decide +kernel
theorem dX11_count_121 : decode cX11_count 121 = .ok (.baload, 1) := by decide +kernel
theorem dX11_count_122 : decode cX11_count 122 = .ok (.invokestatic 265, 3) := by decide +kernel
theorem dX11_count_125 : decode cX11_count 125 = .ok (.iadd, 1) := by decide +kernel
theorem dX11_count_126 : decode cX11_count 126 = .ok (.ireturn, 1) := by decide +kernel
theorem dX11_count_127 : decode cX11_count 127 = .ok (.aload_n 0, 1) := by decide +kernel
theorem dX11_count_128 : decode cX11_count 128 = .ok (.getfield 141, 3) := by decide +kernel
theorem dX11_count_131 : decode cX11_count 131 = .ok (.ireturn, 1) := by decide +kernel
theorem dX11_count_132 : decode cX11_count 132 = .ok (.aload_n 0, 1) := by decide +kernel
theorem dX11_count_133 : decode cX11_count 133 = .ok (.getfield 80, 3) := by decide +kernel
theorem dX11_count_136 : decode cX11_count 136 = .ok (.iconst 0, 1) := by decide +kernel
theorem dX11_count_137 : decode cX11_count 137 = .ok (.iaload, 1) := by decide +kernel
theorem dX11_count_138 : decode cX11_count 138 = .ok (.bipush (-4), 2) := by decide +kernel
theorem dX11_count_140 : decode cX11_count 140 = .ok (.if_icmp .ne 8, 3) := by decide +kernel
theorem dX11_count_143 : decode cX11_count 143 = .ok (.bipush (-4), 2) := by decide +kernel
theorem dX11_count_145 : decode cX11_count 145 = .ok (.goto 9, 3) := by decide +kernel
theorem dX11_count_148 : decode cX11_count 148 = .ok (.aload_n 0, 1) := by decide +kernel
theorem dX11_count_149 : decode cX11_count 149 = .ok (.getfield 83, 3) := by decide +kernel
theorem dX11_count_152 : decode cX11_count 152 = .ok (.iconst 0, 1) := by decide +kernel
theorem dX11_count_153 : decode cX11_count 153 = .ok (.iaload, 1) := by decide +kernel
theorem dX11_count_154 : decode cX11_count 154 = .ok (.ireturn, 1) := by decide +kernel
theorem dX11_count_155 : decode cX11_count 155 = .ok (.iconst (-1), 1) := by decide +kernel
theorem dX11_count_156 : decode cX11_count 156 = .ok (.ireturn, 1) := by decide +kernel
end
