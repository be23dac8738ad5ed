section
-- ===== PART A: goes FIRST, ahead of the names: the tables' words, and 'selects' of the private methods out of them =====
/-- a private method of a class that the tables say can be made, by its rows of tables_1 -/
def lw_okq (q : MethodName × Nat) : Prop := (q.1.cls ≠ "java/lang/invoke/MethodHandle" ∧ q.1.cls ≠ "java/lang/invoke/VarHandle") ∧ Cond.instantiable q.1.cls q.2 ∈ tables_1 ∧ Cond.privateMethod q.1 ∈ tables_1 ∧ Cond.instanceMethod q.1 ∈ tables_1
theorem lw_p0 : lw_okq (⟨"HouseTwins$Reader", "restart", "()V"⟩, 11) := ⟨⟨by decide +kernel, by decide +kernel⟩, List.mem_of_getElem? (i := 160) (by decide +kernel), List.mem_of_getElem? (i := 395) (by decide +kernel), List.mem_of_getElem? (i := 396) (by decide +kernel)⟩
theorem lw_p1 : lw_okq (⟨"HouseTwins$Reader", "takeToken", "()V"⟩, 11) := ⟨⟨by decide +kernel, by decide +kernel⟩, List.mem_of_getElem? (i := 160) (by decide +kernel), List.mem_of_getElem? (i := 408) (by decide +kernel), List.mem_of_getElem? (i := 409) (by decide +kernel)⟩
theorem lw_p2 : lw_okq (⟨"HouseTwins$Reader", "fail", "(II)I"⟩, 11) := ⟨⟨by decide +kernel, by decide +kernel⟩, List.mem_of_getElem? (i := 160) (by decide +kernel), List.mem_of_getElem? (i := 419) (by decide +kernel), List.mem_of_getElem? (i := 420) (by decide +kernel)⟩
theorem lw_p3 : lw_okq (⟨"HouseTwins$Reader", "readLine", "()V"⟩, 11) := ⟨⟨by decide +kernel, by decide +kernel⟩, List.mem_of_getElem? (i := 160) (by decide +kernel), List.mem_of_getElem? (i := 423) (by decide +kernel), List.mem_of_getElem? (i := 424) (by decide +kernel)⟩
theorem lw_p4 : lw_okq (⟨"HouseTwins$Reader", "nameAmong", "(Ljava/lang/String;)I"⟩, 11) := ⟨⟨by decide +kernel, by decide +kernel⟩, List.mem_of_getElem? (i := 160) (by decide +kernel), List.mem_of_getElem? (i := 428) (by decide +kernel), List.mem_of_getElem? (i := 429) (by decide +kernel)⟩
theorem lw_p5 : lw_okq (⟨"HouseTwins$Reader", "tellOnce", "(I)V"⟩, 11) := ⟨⟨by decide +kernel, by decide +kernel⟩, List.mem_of_getElem? (i := 160) (by decide +kernel), List.mem_of_getElem? (i := 480) (by decide +kernel), List.mem_of_getElem? (i := 481) (by decide +kernel)⟩
theorem lw_p6 : lw_okq (⟨"HouseTwins$Reader", "takeNumber", "(II)I"⟩, 11) := ⟨⟨by decide +kernel, by decide +kernel⟩, List.mem_of_getElem? (i := 160) (by decide +kernel), List.mem_of_getElem? (i := 484) (by decide +kernel), List.mem_of_getElem? (i := 485) (by decide +kernel)⟩
theorem lw_p7 : lw_okq (⟨"HouseTwins$Reader", "readPrices", "()V"⟩, 11) := ⟨⟨by decide +kernel, by decide +kernel⟩, List.mem_of_getElem? (i := 160) (by decide +kernel), List.mem_of_getElem? (i := 488) (by decide +kernel), List.mem_of_getElem? (i := 489) (by decide +kernel)⟩
theorem lw_p8 : lw_okq (⟨"HouseTwins$Reader", "readOfKinds", "([[II)V"⟩, 11) := ⟨⟨by decide +kernel, by decide +kernel⟩, List.mem_of_getElem? (i := 160) (by decide +kernel), List.mem_of_getElem? (i := 492) (by decide +kernel), List.mem_of_getElem? (i := 493) (by decide +kernel)⟩
theorem lw_p9 : lw_okq (⟨"HouseTwins$Reader", "takeBank", "()I"⟩, 11) := ⟨⟨by decide +kernel, by decide +kernel⟩, List.mem_of_getElem? (i := 160) (by decide +kernel), List.mem_of_getElem? (i := 496) (by decide +kernel), List.mem_of_getElem? (i := 497) (by decide +kernel)⟩
theorem lw_p10 : lw_okq (⟨"HouseTwins$Reader", "readLack", "()V"⟩, 11) := ⟨⟨by decide +kernel, by decide +kernel⟩, List.mem_of_getElem? (i := 160) (by decide +kernel), List.mem_of_getElem? (i := 500) (by decide +kernel), List.mem_of_getElem? (i := 501) (by decide +kernel)⟩
theorem lw_p11 : lw_okq (⟨"HouseTwins$Reader", "takeNameOf", "(Ljava/lang/String;)I"⟩, 11) := ⟨⟨by decide +kernel, by decide +kernel⟩, List.mem_of_getElem? (i := 160) (by decide +kernel), List.mem_of_getElem? (i := 505) (by decide +kernel), List.mem_of_getElem? (i := 506) (by decide +kernel)⟩
theorem lw_p12 : lw_okq (⟨"HouseTwins$Reader", "readTwins", "()V"⟩, 11) := ⟨⟨by decide +kernel, by decide +kernel⟩, List.mem_of_getElem? (i := 160) (by decide +kernel), List.mem_of_getElem? (i := 509) (by decide +kernel), List.mem_of_getElem? (i := 510) (by decide +kernel)⟩
theorem lw_p13 : lw_okq (⟨"HouseTwins$Reader", "readPaint", "()V"⟩, 11) := ⟨⟨by decide +kernel, by decide +kernel⟩, List.mem_of_getElem? (i := 160) (by decide +kernel), List.mem_of_getElem? (i := 513) (by decide +kernel), List.mem_of_getElem? (i := 514) (by decide +kernel)⟩
theorem lw_p14 : lw_okq (⟨"HouseTwins$Reader", "readRight", "()V"⟩, 11) := ⟨⟨by decide +kernel, by decide +kernel⟩, List.mem_of_getElem? (i := 160) (by decide +kernel), List.mem_of_getElem? (i := 517) (by decide +kernel), List.mem_of_getElem? (i := 518) (by decide +kernel)⟩
theorem lw_p15 : lw_okq (⟨"HouseTwins$Reader", "readThing", "()V"⟩, 11) := ⟨⟨by decide +kernel, by decide +kernel⟩, List.mem_of_getElem? (i := 160) (by decide +kernel), List.mem_of_getElem? (i := 521) (by decide +kernel), List.mem_of_getElem? (i := 522) (by decide +kernel)⟩
def lw_privs_1 : List (MethodName × Nat) := [(⟨"HouseTwins$Reader", "restart", "()V"⟩, 11), (⟨"HouseTwins$Reader", "takeToken", "()V"⟩, 11), (⟨"HouseTwins$Reader", "fail", "(II)I"⟩, 11), (⟨"HouseTwins$Reader", "readLine", "()V"⟩, 11), (⟨"HouseTwins$Reader", "nameAmong", "(Ljava/lang/String;)I"⟩, 11), (⟨"HouseTwins$Reader", "tellOnce", "(I)V"⟩, 11), (⟨"HouseTwins$Reader", "takeNumber", "(II)I"⟩, 11), (⟨"HouseTwins$Reader", "readPrices", "()V"⟩, 11), (⟨"HouseTwins$Reader", "readOfKinds", "([[II)V"⟩, 11), (⟨"HouseTwins$Reader", "takeBank", "()I"⟩, 11), (⟨"HouseTwins$Reader", "readLack", "()V"⟩, 11), (⟨"HouseTwins$Reader", "takeNameOf", "(Ljava/lang/String;)I"⟩, 11), (⟨"HouseTwins$Reader", "readTwins", "()V"⟩, 11), (⟨"HouseTwins$Reader", "readPaint", "()V"⟩, 11), (⟨"HouseTwins$Reader", "readRight", "()V"⟩, 11), (⟨"HouseTwins$Reader", "readThing", "()V"⟩, 11)]
theorem lw_r1 : ∀ q ∈ lw_privs_1, lw_okq q := List.forall_mem_cons.mpr ⟨lw_p0, List.forall_mem_cons.mpr ⟨lw_p1, List.forall_mem_cons.mpr ⟨lw_p2, List.forall_mem_cons.mpr ⟨lw_p3, List.forall_mem_cons.mpr ⟨lw_p4, List.forall_mem_cons.mpr ⟨lw_p5, List.forall_mem_cons.mpr ⟨lw_p6, List.forall_mem_cons.mpr ⟨lw_p7, List.forall_mem_cons.mpr ⟨lw_p8, List.forall_mem_cons.mpr ⟨lw_p9, List.forall_mem_cons.mpr ⟨lw_p10, List.forall_mem_cons.mpr ⟨lw_p11, List.forall_mem_cons.mpr ⟨lw_p12, List.forall_mem_cons.mpr ⟨lw_p13, List.forall_mem_cons.mpr ⟨lw_p14, List.forall_mem_cons.mpr ⟨lw_p15, fun _ h => absurd h List.not_mem_nil⟩⟩⟩⟩⟩⟩⟩⟩⟩⟩⟩⟩⟩⟩⟩⟩
theorem lw_p16 : lw_okq (⟨"HouseTwins$Reader", "takeThing", "()I"⟩, 11) := ⟨⟨by decide +kernel, by decide +kernel⟩, List.mem_of_getElem? (i := 160) (by decide +kernel), List.mem_of_getElem? (i := 528) (by decide +kernel), List.mem_of_getElem? (i := 529) (by decide +kernel)⟩
theorem lw_p17 : lw_okq (⟨"HouseTwins$Reader", "readWork", "()V"⟩, 11) := ⟨⟨by decide +kernel, by decide +kernel⟩, List.mem_of_getElem? (i := 160) (by decide +kernel), List.mem_of_getElem? (i := 545) (by decide +kernel), List.mem_of_getElem? (i := 546) (by decide +kernel)⟩
theorem lw_p18 : lw_okq (⟨"HouseTwins$Rows", "setCell", "(III)V"⟩, 4) := ⟨⟨by decide +kernel, by decide +kernel⟩, List.mem_of_getElem? (i := 112) (by decide +kernel), List.mem_of_getElem? (i := 566) (by decide +kernel), List.mem_of_getElem? (i := 567) (by decide +kernel)⟩
theorem lw_p19 : lw_okq (⟨"HouseTwins$Reader", "takeStop", "()V"⟩, 11) := ⟨⟨by decide +kernel, by decide +kernel⟩, List.mem_of_getElem? (i := 160) (by decide +kernel), List.mem_of_getElem? (i := 570) (by decide +kernel), List.mem_of_getElem? (i := 571) (by decide +kernel)⟩
theorem lw_p20 : lw_okq (⟨"HouseTwins$Reader", "allLotsAre", "()Z"⟩, 11) := ⟨⟨by decide +kernel, by decide +kernel⟩, List.mem_of_getElem? (i := 160) (by decide +kernel), List.mem_of_getElem? (i := 574) (by decide +kernel), List.mem_of_getElem? (i := 575) (by decide +kernel)⟩
theorem lw_p21 : lw_okq (⟨"HouseTwins$Law", "doorStays", "(I)Z"⟩, 10) := ⟨⟨by decide +kernel, by decide +kernel⟩, List.mem_of_getElem? (i := 44) (by decide +kernel), List.mem_of_getElem? (i := 652) (by decide +kernel), List.mem_of_getElem? (i := 653) (by decide +kernel)⟩
theorem lw_p22 : lw_okq (⟨"HouseTwins$Run", "tryWork", "(IIII)I"⟩, 7) := ⟨⟨by decide +kernel, by decide +kernel⟩, List.mem_of_getElem? (i := 209) (by decide +kernel), List.mem_of_getElem? (i := 727) (by decide +kernel), List.mem_of_getElem? (i := 728) (by decide +kernel)⟩
theorem lw_p23 : lw_okq (⟨"HouseTwins$Run", "build", "(III)V"⟩, 7) := ⟨⟨by decide +kernel, by decide +kernel⟩, List.mem_of_getElem? (i := 209) (by decide +kernel), List.mem_of_getElem? (i := 741) (by decide +kernel), List.mem_of_getElem? (i := 742) (by decide +kernel)⟩
theorem lw_p24 : lw_okq (⟨"HouseTwins$Run", "answer", "(II)V"⟩, 7) := ⟨⟨by decide +kernel, by decide +kernel⟩, List.mem_of_getElem? (i := 209) (by decide +kernel), List.mem_of_getElem? (i := 746) (by decide +kernel), List.mem_of_getElem? (i := 747) (by decide +kernel)⟩
theorem lw_p25 : lw_okq (⟨"HouseTwins$Run", "isEvenPair", "(II)Z"⟩, 7) := ⟨⟨by decide +kernel, by decide +kernel⟩, List.mem_of_getElem? (i := 209) (by decide +kernel), List.mem_of_getElem? (i := 750) (by decide +kernel), List.mem_of_getElem? (i := 751) (by decide +kernel)⟩
theorem lw_p26 : lw_okq (⟨"HouseTwins$Choice", "weighVex", "(IIII)V"⟩, 5) := ⟨⟨by decide +kernel, by decide +kernel⟩, List.mem_of_getElem? (i := 240) (by decide +kernel), List.mem_of_getElem? (i := 835) (by decide +kernel), List.mem_of_getElem? (i := 836) (by decide +kernel)⟩
theorem lw_p27 : lw_okq (⟨"HouseTwins$Planner", "leastFrom", "(II)I"⟩, 5) := ⟨⟨by decide +kernel, by decide +kernel⟩, List.mem_of_getElem? (i := 265) (by decide +kernel), List.mem_of_getElem? (i := 864) (by decide +kernel), List.mem_of_getElem? (i := 865) (by decide +kernel)⟩
theorem lw_p28 : lw_okq (⟨"HouseTwins$Planner", "costWith", "(III)I"⟩, 5) := ⟨⟨by decide +kernel, by decide +kernel⟩, List.mem_of_getElem? (i := 265) (by decide +kernel), List.mem_of_getElem? (i := 869) (by decide +kernel), List.mem_of_getElem? (i := 870) (by decide +kernel)⟩
theorem lw_p29 : lw_okq (⟨"HouseTwins$Planner", "placeWants", "(II)V"⟩, 5) := ⟨⟨by decide +kernel, by decide +kernel⟩, List.mem_of_getElem? (i := 265) (by decide +kernel), List.mem_of_getElem? (i := 876) (by decide +kernel), List.mem_of_getElem? (i := 877) (by decide +kernel)⟩
theorem lw_p30 : lw_okq (⟨"HouseTwins", "lossOfBoth", "(III)I"⟩, 13) := ⟨⟨by decide +kernel, by decide +kernel⟩, List.mem_of_getElem? (i := 20) (by decide +kernel), List.mem_of_getElem? (i := 902) (by decide +kernel), List.mem_of_getElem? (i := 903) (by decide +kernel)⟩
theorem lw_p31 : lw_okq (⟨"HouseTwins", "quarrelBy", "(I)I"⟩, 13) := ⟨⟨by decide +kernel, by decide +kernel⟩, List.mem_of_getElem? (i := 20) (by decide +kernel), List.mem_of_getElem? (i := 911) (by decide +kernel), List.mem_of_getElem? (i := 912) (by decide +kernel)⟩
def lw_privs_2 : List (MethodName × Nat) := [(⟨"HouseTwins$Reader", "takeThing", "()I"⟩, 11), (⟨"HouseTwins$Reader", "readWork", "()V"⟩, 11), (⟨"HouseTwins$Rows", "setCell", "(III)V"⟩, 4), (⟨"HouseTwins$Reader", "takeStop", "()V"⟩, 11), (⟨"HouseTwins$Reader", "allLotsAre", "()Z"⟩, 11), (⟨"HouseTwins$Law", "doorStays", "(I)Z"⟩, 10), (⟨"HouseTwins$Run", "tryWork", "(IIII)I"⟩, 7), (⟨"HouseTwins$Run", "build", "(III)V"⟩, 7), (⟨"HouseTwins$Run", "answer", "(II)V"⟩, 7), (⟨"HouseTwins$Run", "isEvenPair", "(II)Z"⟩, 7), (⟨"HouseTwins$Choice", "weighVex", "(IIII)V"⟩, 5), (⟨"HouseTwins$Planner", "leastFrom", "(II)I"⟩, 5), (⟨"HouseTwins$Planner", "costWith", "(III)I"⟩, 5), (⟨"HouseTwins$Planner", "placeWants", "(II)V"⟩, 5), (⟨"HouseTwins", "lossOfBoth", "(III)I"⟩, 13), (⟨"HouseTwins", "quarrelBy", "(I)I"⟩, 13)]
theorem lw_r2 : ∀ q ∈ lw_privs_2, lw_okq q := List.forall_mem_cons.mpr ⟨lw_p16, List.forall_mem_cons.mpr ⟨lw_p17, List.forall_mem_cons.mpr ⟨lw_p18, List.forall_mem_cons.mpr ⟨lw_p19, List.forall_mem_cons.mpr ⟨lw_p20, List.forall_mem_cons.mpr ⟨lw_p21, List.forall_mem_cons.mpr ⟨lw_p22, List.forall_mem_cons.mpr ⟨lw_p23, List.forall_mem_cons.mpr ⟨lw_p24, List.forall_mem_cons.mpr ⟨lw_p25, List.forall_mem_cons.mpr ⟨lw_p26, List.forall_mem_cons.mpr ⟨lw_p27, List.forall_mem_cons.mpr ⟨lw_p28, List.forall_mem_cons.mpr ⟨lw_p29, List.forall_mem_cons.mpr ⟨lw_p30, List.forall_mem_cons.mpr ⟨lw_p31, fun _ h => absurd h List.not_mem_nil⟩⟩⟩⟩⟩⟩⟩⟩⟩⟩⟩⟩⟩⟩⟩⟩
theorem lw_p32 : lw_okq (⟨"HouseTwins$Past", "fitsSeen", "(III)Z"⟩, 6) := ⟨⟨by decide +kernel, by decide +kernel⟩, List.mem_of_getElem? (i := 287) (by decide +kernel), List.mem_of_getElem? (i := 952) (by decide +kernel), List.mem_of_getElem? (i := 953) (by decide +kernel)⟩
theorem lw_p33 : lw_okq (⟨"HouseTwins$Past", "note", "(II)V"⟩, 6) := ⟨⟨by decide +kernel, by decide +kernel⟩, List.mem_of_getElem? (i := 287) (by decide +kernel), List.mem_of_getElem? (i := 957) (by decide +kernel), List.mem_of_getElem? (i := 958) (by decide +kernel)⟩
theorem lw_p34 : lw_okq (⟨"HouseTwinsModel", "firstDraft", "()V"⟩, 49) := ⟨⟨by decide +kernel, by decide +kernel⟩, List.mem_of_getElem? (i := 1038) (by decide +kernel), List.mem_of_getElem? (i := 1044) (by decide +kernel), List.mem_of_getElem? (i := 1045) (by decide +kernel)⟩
theorem lw_p35 : lw_okq (⟨"HouseTwinsModel", "keepDraft", "()V"⟩, 49) := ⟨⟨by decide +kernel, by decide +kernel⟩, List.mem_of_getElem? (i := 1038) (by decide +kernel), List.mem_of_getElem? (i := 1048) (by decide +kernel), List.mem_of_getElem? (i := 1049) (by decide +kernel)⟩
theorem lw_p36 : lw_okq (⟨"HouseTwinsModel", "next", "()V"⟩, 49) := ⟨⟨by decide +kernel, by decide +kernel⟩, List.mem_of_getElem? (i := 1038) (by decide +kernel), List.mem_of_getElem? (i := 1216) (by decide +kernel), List.mem_of_getElem? (i := 1217) (by decide +kernel)⟩
theorem lw_p37 : lw_okq (⟨"HouseTwinsModel", "look", "(I)I"⟩, 49) := ⟨⟨by decide +kernel, by decide +kernel⟩, List.mem_of_getElem? (i := 1038) (by decide +kernel), List.mem_of_getElem? (i := 1220) (by decide +kernel), List.mem_of_getElem? (i := 1221) (by decide +kernel)⟩
theorem lw_p38 : lw_okq (⟨"HouseTwinsModel", "needs", "(ZI)V"⟩, 49) := ⟨⟨by decide +kernel, by decide +kernel⟩, List.mem_of_getElem? (i := 1038) (by decide +kernel), List.mem_of_getElem? (i := 1228) (by decide +kernel), List.mem_of_getElem? (i := 1229) (by decide +kernel)⟩
theorem lw_p39 : lw_okq (⟨"HouseTwinsModel", "readLine", "()V"⟩, 49) := ⟨⟨by decide +kernel, by decide +kernel⟩, List.mem_of_getElem? (i := 1038) (by decide +kernel), List.mem_of_getElem? (i := 1232) (by decide +kernel), List.mem_of_getElem? (i := 1233) (by decide +kernel)⟩
theorem lw_p40 : lw_okq (⟨"HouseTwinsModel", "lineNow", "()I"⟩, 49) := ⟨⟨by decide +kernel, by decide +kernel⟩, List.mem_of_getElem? (i := 1038) (by decide +kernel), List.mem_of_getElem? (i := 1236) (by decide +kernel), List.mem_of_getElem? (i := 1237) (by decide +kernel)⟩
theorem lw_p41 : lw_okq (⟨"HouseTwinsModel", "is", "(IIIII)Z"⟩, 49) := ⟨⟨by decide +kernel, by decide +kernel⟩, List.mem_of_getElem? (i := 1038) (by decide +kernel), List.mem_of_getElem? (i := 1240) (by decide +kernel), List.mem_of_getElem? (i := 1241) (by decide +kernel)⟩
theorem lw_p42 : lw_okq (⟨"HouseTwinsModel", "ends", "(III)Z"⟩, 49) := ⟨⟨by decide +kernel, by decide +kernel⟩, List.mem_of_getElem? (i := 1038) (by decide +kernel), List.mem_of_getElem? (i := 1244) (by decide +kernel), List.mem_of_getElem? (i := 1245) (by decide +kernel)⟩
theorem lw_p43 : lw_okq (⟨"HouseTwinsModel", "ruleNow", "()I"⟩, 49) := ⟨⟨by decide +kernel, by decide +kernel⟩, List.mem_of_getElem? (i := 1038) (by decide +kernel), List.mem_of_getElem? (i := 1248) (by decide +kernel), List.mem_of_getElem? (i := 1249) (by decide +kernel)⟩
theorem lw_p44 : lw_okq (⟨"HouseTwinsModel", "readLineOf", "(I)V"⟩, 49) := ⟨⟨by decide +kernel, by decide +kernel⟩, List.mem_of_getElem? (i := 1038) (by decide +kernel), List.mem_of_getElem? (i := 1252) (by decide +kernel), List.mem_of_getElem? (i := 1253) (by decide +kernel)⟩
theorem lw_p45 : lw_okq (⟨"HouseTwinsModel", "readNumber", "(II)I"⟩, 49) := ⟨⟨by decide +kernel, by decide +kernel⟩, List.mem_of_getElem? (i := 1038) (by decide +kernel), List.mem_of_getElem? (i := 1256) (by decide +kernel), List.mem_of_getElem? (i := 1257) (by decide +kernel)⟩
theorem lw_p46 : lw_okq (⟨"HouseTwinsModel", "looked", "(II)I"⟩, 49) := ⟨⟨by decide +kernel, by decide +kernel⟩, List.mem_of_getElem? (i := 1038) (by decide +kernel), List.mem_of_getElem? (i := 1260) (by decide +kernel), List.mem_of_getElem? (i := 1261) (by decide +kernel)⟩
theorem lw_p47 : lw_okq (⟨"HouseTwinsModel", "readCosts", "(Z)V"⟩, 49) := ⟨⟨by decide +kernel, by decide +kernel⟩, List.mem_of_getElem? (i := 1038) (by decide +kernel), List.mem_of_getElem? (i := 1264) (by decide +kernel), List.mem_of_getElem? (i := 1265) (by decide +kernel)⟩
def lw_privs_3 : List (MethodName × Nat) := [(⟨"HouseTwins$Past", "fitsSeen", "(III)Z"⟩, 6), (⟨"HouseTwins$Past", "note", "(II)V"⟩, 6), (⟨"HouseTwinsModel", "firstDraft", "()V"⟩, 49), (⟨"HouseTwinsModel", "keepDraft", "()V"⟩, 49), (⟨"HouseTwinsModel", "next", "()V"⟩, 49), (⟨"HouseTwinsModel", "look", "(I)I"⟩, 49), (⟨"HouseTwinsModel", "needs", "(ZI)V"⟩, 49), (⟨"HouseTwinsModel", "readLine", "()V"⟩, 49), (⟨"HouseTwinsModel", "lineNow", "()I"⟩, 49), (⟨"HouseTwinsModel", "is", "(IIIII)Z"⟩, 49), (⟨"HouseTwinsModel", "ends", "(III)Z"⟩, 49), (⟨"HouseTwinsModel", "ruleNow", "()I"⟩, 49), (⟨"HouseTwinsModel", "readLineOf", "(I)V"⟩, 49), (⟨"HouseTwinsModel", "readNumber", "(II)I"⟩, 49), (⟨"HouseTwinsModel", "looked", "(II)I"⟩, 49), (⟨"HouseTwinsModel", "readCosts", "(Z)V"⟩, 49)]
theorem lw_r3 : ∀ q ∈ lw_privs_3, lw_okq q := List.forall_mem_cons.mpr ⟨lw_p32, List.forall_mem_cons.mpr ⟨lw_p33, List.forall_mem_cons.mpr ⟨lw_p34, List.forall_mem_cons.mpr ⟨lw_p35, List.forall_mem_cons.mpr ⟨lw_p36, List.forall_mem_cons.mpr ⟨lw_p37, List.forall_mem_cons.mpr ⟨lw_p38, List.forall_mem_cons.mpr ⟨lw_p39, List.forall_mem_cons.mpr ⟨lw_p40, List.forall_mem_cons.mpr ⟨lw_p41, List.forall_mem_cons.mpr ⟨lw_p42, List.forall_mem_cons.mpr ⟨lw_p43, List.forall_mem_cons.mpr ⟨lw_p44, List.forall_mem_cons.mpr ⟨lw_p45, List.forall_mem_cons.mpr ⟨lw_p46, List.forall_mem_cons.mpr ⟨lw_p47, fun _ h => absurd h List.not_mem_nil⟩⟩⟩⟩⟩⟩⟩⟩⟩⟩⟩⟩⟩⟩⟩⟩
theorem lw_p48 : lw_okq (⟨"HouseTwinsModel", "readThing", "()V"⟩, 49) := ⟨⟨by decide +kernel, by decide +kernel⟩, List.mem_of_getElem? (i := 1038) (by decide +kernel), List.mem_of_getElem? (i := 1268) (by decide +kernel), List.mem_of_getElem? (i := 1269) (by decide +kernel)⟩
theorem lw_p49 : lw_okq (⟨"HouseTwinsModel", "readLot", "()I"⟩, 49) := ⟨⟨by decide +kernel, by decide +kernel⟩, List.mem_of_getElem? (i := 1038) (by decide +kernel), List.mem_of_getElem? (i := 1272) (by decide +kernel), List.mem_of_getElem? (i := 1273) (by decide +kernel)⟩
theorem lw_p50 : lw_okq (⟨"HouseTwinsModel", "readWhat", "()I"⟩, 49) := ⟨⟨by decide +kernel, by decide +kernel⟩, List.mem_of_getElem? (i := 1038) (by decide +kernel), List.mem_of_getElem? (i := 1276) (by decide +kernel), List.mem_of_getElem? (i := 1277) (by decide +kernel)⟩
theorem lw_p51 : lw_okq (⟨"HouseTwinsModel", "isNothing", "()Z"⟩, 49) := ⟨⟨by decide +kernel, by decide +kernel⟩, List.mem_of_getElem? (i := 1038) (by decide +kernel), List.mem_of_getElem? (i := 1280) (by decide +kernel), List.mem_of_getElem? (i := 1281) (by decide +kernel)⟩
theorem lw_p52 : lw_okq (⟨"HouseTwinsModel", "readKind", "(I)I"⟩, 49) := ⟨⟨by decide +kernel, by decide +kernel⟩, List.mem_of_getElem? (i := 1038) (by decide +kernel), List.mem_of_getElem? (i := 1284) (by decide +kernel), List.mem_of_getElem? (i := 1285) (by decide +kernel)⟩
theorem lw_p53 : lw_okq (⟨"HouseTwinsModel", "kindNow", "()I"⟩, 49) := ⟨⟨by decide +kernel, by decide +kernel⟩, List.mem_of_getElem? (i := 1038) (by decide +kernel), List.mem_of_getElem? (i := 1288) (by decide +kernel), List.mem_of_getElem? (i := 1289) (by decide +kernel)⟩
theorem lw_p54 : lw_okq (⟨"HouseTwinsModel", "sideNow", "()I"⟩, 49) := ⟨⟨by decide +kernel, by decide +kernel⟩, List.mem_of_getElem? (i := 1038) (by decide +kernel), List.mem_of_getElem? (i := 1292) (by decide +kernel), List.mem_of_getElem? (i := 1293) (by decide +kernel)⟩
theorem lw_p55 : lw_okq (⟨"HouseTwinsModel", "readWork", "()V"⟩, 49) := ⟨⟨by decide +kernel, by decide +kernel⟩, List.mem_of_getElem? (i := 1038) (by decide +kernel), List.mem_of_getElem? (i := 1296) (by decide +kernel), List.mem_of_getElem? (i := 1297) (by decide +kernel)⟩
theorem lw_p56 : lw_okq (⟨"HouseTwinsModel", "readLaw", "(I)V"⟩, 49) := ⟨⟨by decide +kernel, by decide +kernel⟩, List.mem_of_getElem? (i := 1038) (by decide +kernel), List.mem_of_getElem? (i := 1300) (by decide +kernel), List.mem_of_getElem? (i := 1301) (by decide +kernel)⟩
theorem lw_p57 : lw_okq (⟨"HouseTwinsModel", "readColour", "(I)I"⟩, 49) := ⟨⟨by decide +kernel, by decide +kernel⟩, List.mem_of_getElem? (i := 1038) (by decide +kernel), List.mem_of_getElem? (i := 1304) (by decide +kernel), List.mem_of_getElem? (i := 1305) (by decide +kernel)⟩
theorem lw_p58 : lw_okq (⟨"HouseTwinsModel", "doesLack", "(II)Z"⟩, 49) := ⟨⟨by decide +kernel, by decide +kernel⟩, List.mem_of_getElem? (i := 1038) (by decide +kernel), List.mem_of_getElem? (i := 1326) (by decide +kernel), List.mem_of_getElem? (i := 1327) (by decide +kernel)⟩
theorem lw_p59 : lw_okq (⟨"HouseTwinsModel", "mirrorOf", "(I)I"⟩, 49) := ⟨⟨by decide +kernel, by decide +kernel⟩, List.mem_of_getElem? (i := 1038) (by decide +kernel), List.mem_of_getElem? (i := 1346) (by decide +kernel), List.mem_of_getElem? (i := 1347) (by decide +kernel)⟩
theorem lw_p60 : lw_okq (⟨"HouseTwinsModel", "isLot", "(II)Z"⟩, 49) := ⟨⟨by decide +kernel, by decide +kernel⟩, List.mem_of_getElem? (i := 1038) (by decide +kernel), List.mem_of_getElem? (i := 1358) (by decide +kernel), List.mem_of_getElem? (i := 1359) (by decide +kernel)⟩
theorem lw_p61 : lw_okq (⟨"HouseTwinsModel", "matchOf", "(II)I"⟩, 49) := ⟨⟨by decide +kernel, by decide +kernel⟩, List.mem_of_getElem? (i := 1038) (by decide +kernel), List.mem_of_getElem? (i := 1373) (by decide +kernel), List.mem_of_getElem? (i := 1374) (by decide +kernel)⟩
theorem lw_p62 : lw_okq (⟨"HouseTwinsModel", "matchBy", "(III)I"⟩, 49) := ⟨⟨by decide +kernel, by decide +kernel⟩, List.mem_of_getElem? (i := 1038) (by decide +kernel), List.mem_of_getElem? (i := 1377) (by decide +kernel), List.mem_of_getElem? (i := 1378) (by decide +kernel)⟩
theorem lw_p63 : lw_okq (⟨"HouseTwinsModel", "asNow", "()V"⟩, 49) := ⟨⟨by decide +kernel, by decide +kernel⟩, List.mem_of_getElem? (i := 1038) (by decide +kernel), List.mem_of_getElem? (i := 1385) (by decide +kernel), List.mem_of_getElem? (i := 1386) (by decide +kernel)⟩
def lw_privs_4 : List (MethodName × Nat) := [(⟨"HouseTwinsModel", "readThing", "()V"⟩, 49), (⟨"HouseTwinsModel", "readLot", "()I"⟩, 49), (⟨"HouseTwinsModel", "readWhat", "()I"⟩, 49), (⟨"HouseTwinsModel", "isNothing", "()Z"⟩, 49), (⟨"HouseTwinsModel", "readKind", "(I)I"⟩, 49), (⟨"HouseTwinsModel", "kindNow", "()I"⟩, 49), (⟨"HouseTwinsModel", "sideNow", "()I"⟩, 49), (⟨"HouseTwinsModel", "readWork", "()V"⟩, 49), (⟨"HouseTwinsModel", "readLaw", "(I)V"⟩, 49), (⟨"HouseTwinsModel", "readColour", "(I)I"⟩, 49), (⟨"HouseTwinsModel", "doesLack", "(II)Z"⟩, 49), (⟨"HouseTwinsModel", "mirrorOf", "(I)I"⟩, 49), (⟨"HouseTwinsModel", "isLot", "(II)Z"⟩, 49), (⟨"HouseTwinsModel", "matchOf", "(II)I"⟩, 49), (⟨"HouseTwinsModel", "matchBy", "(III)I"⟩, 49), (⟨"HouseTwinsModel", "asNow", "()V"⟩, 49)]
theorem lw_r4 : ∀ q ∈ lw_privs_4, lw_okq q := List.forall_mem_cons.mpr ⟨lw_p48, List.forall_mem_cons.mpr ⟨lw_p49, List.forall_mem_cons.mpr ⟨lw_p50, List.forall_mem_cons.mpr ⟨lw_p51, List.forall_mem_cons.mpr ⟨lw_p52, List.forall_mem_cons.mpr ⟨lw_p53, List.forall_mem_cons.mpr ⟨lw_p54, List.forall_mem_cons.mpr ⟨lw_p55, List.forall_mem_cons.mpr ⟨lw_p56, List.forall_mem_cons.mpr ⟨lw_p57, List.forall_mem_cons.mpr ⟨lw_p58, List.forall_mem_cons.mpr ⟨lw_p59, List.forall_mem_cons.mpr ⟨lw_p60, List.forall_mem_cons.mpr ⟨lw_p61, List.forall_mem_cons.mpr ⟨lw_p62, List.forall_mem_cons.mpr ⟨lw_p63, fun _ h => absurd h List.not_mem_nil⟩⟩⟩⟩⟩⟩⟩⟩⟩⟩⟩⟩⟩⟩⟩⟩
theorem lw_p64 : lw_okq (⟨"HouseTwinsModel", "oddLots", "()I"⟩, 49) := ⟨⟨by decide +kernel, by decide +kernel⟩, List.mem_of_getElem? (i := 1038) (by decide +kernel), List.mem_of_getElem? (i := 1389) (by decide +kernel), List.mem_of_getElem? (i := 1390) (by decide +kernel)⟩
theorem lw_p65 : lw_okq (⟨"HouseTwinsModel", "isEven", "(I)Z"⟩, 49) := ⟨⟨by decide +kernel, by decide +kernel⟩, List.mem_of_getElem? (i := 1038) (by decide +kernel), List.mem_of_getElem? (i := 1393) (by decide +kernel), List.mem_of_getElem? (i := 1394) (by decide +kernel)⟩
theorem lw_p66 : lw_okq (⟨"HouseTwinsModel", "goRun", "(I)V"⟩, 49) := ⟨⟨by decide +kernel, by decide +kernel⟩, List.mem_of_getElem? (i := 1038) (by decide +kernel), List.mem_of_getElem? (i := 1409) (by decide +kernel), List.mem_of_getElem? (i := 1410) (by decide +kernel)⟩
theorem lw_p67 : lw_okq (⟨"HouseTwinsModel", "startRun", "()V"⟩, 49) := ⟨⟨by decide +kernel, by decide +kernel⟩, List.mem_of_getElem? (i := 1038) (by decide +kernel), List.mem_of_getElem? (i := 1413) (by decide +kernel), List.mem_of_getElem? (i := 1414) (by decide +kernel)⟩
theorem lw_p68 : lw_okq (⟨"HouseTwinsModel", "goMonth", "(I)V"⟩, 49) := ⟨⟨by decide +kernel, by decide +kernel⟩, List.mem_of_getElem? (i := 1038) (by decide +kernel), List.mem_of_getElem? (i := 1417) (by decide +kernel), List.mem_of_getElem? (i := 1418) (by decide +kernel)⟩
theorem lw_p69 : lw_okq (⟨"HouseTwinsModel", "works", "(I)V"⟩, 49) := ⟨⟨by decide +kernel, by decide +kernel⟩, List.mem_of_getElem? (i := 1038) (by decide +kernel), List.mem_of_getElem? (i := 1421) (by decide +kernel), List.mem_of_getElem? (i := 1422) (by decide +kernel)⟩
theorem lw_p70 : lw_okq (⟨"HouseTwinsModel", "gainOf", "(III)I"⟩, 49) := ⟨⟨by decide +kernel, by decide +kernel⟩, List.mem_of_getElem? (i := 1038) (by decide +kernel), List.mem_of_getElem? (i := 1454) (by decide +kernel), List.mem_of_getElem? (i := 1455) (by decide +kernel)⟩
theorem lw_p71 : lw_okq (⟨"HouseTwinsModel", "kindThere", "(II)I"⟩, 49) := ⟨⟨by decide +kernel, by decide +kernel⟩, List.mem_of_getElem? (i := 1038) (by decide +kernel), List.mem_of_getElem? (i := 1458) (by decide +kernel), List.mem_of_getElem? (i := 1459) (by decide +kernel)⟩
theorem lw_p72 : lw_okq (⟨"HouseTwinsModel", "beginOf", "(II)I"⟩, 49) := ⟨⟨by decide +kernel, by decide +kernel⟩, List.mem_of_getElem? (i := 1038) (by decide +kernel), List.mem_of_getElem? (i := 1466) (by decide +kernel), List.mem_of_getElem? (i := 1467) (by decide +kernel)⟩
theorem lw_p73 : lw_okq (⟨"HouseTwinsModel", "mayBe", "(III)Z"⟩, 49) := ⟨⟨by decide +kernel, by decide +kernel⟩, List.mem_of_getElem? (i := 1038) (by decide +kernel), List.mem_of_getElem? (i := 1470) (by decide +kernel), List.mem_of_getElem? (i := 1471) (by decide +kernel)⟩
theorem lw_p74 : lw_okq (⟨"HouseTwinsModel", "findRests", "(I)V"⟩, 49) := ⟨⟨by decide +kernel, by decide +kernel⟩, List.mem_of_getElem? (i := 1038) (by decide +kernel), List.mem_of_getElem? (i := 1495) (by decide +kernel), List.mem_of_getElem? (i := 1496) (by decide +kernel)⟩
theorem lw_p75 : lw_okq (⟨"HouseTwinsModel", "wantCost", "(II)I"⟩, 49) := ⟨⟨by decide +kernel, by decide +kernel⟩, List.mem_of_getElem? (i := 1038) (by decide +kernel), List.mem_of_getElem? (i := 1503) (by decide +kernel), List.mem_of_getElem? (i := 1504) (by decide +kernel)⟩
theorem lw_p76 : lw_okq (⟨"HouseTwinsModel", "quarrelOf", "(I)I"⟩, 49) := ⟨⟨by decide +kernel, by decide +kernel⟩, List.mem_of_getElem? (i := 1038) (by decide +kernel), List.mem_of_getElem? (i := 1520) (by decide +kernel), List.mem_of_getElem? (i := 1521) (by decide +kernel)⟩
theorem lw_p77 : lw_okq (⟨"HouseTwinsModel", "isShop", "(II)Z"⟩, 49) := ⟨⟨by decide +kernel, by decide +kernel⟩, List.mem_of_getElem? (i := 1038) (by decide +kernel), List.mem_of_getElem? (i := 1532) (by decide +kernel), List.mem_of_getElem? (i := 1533) (by decide +kernel)⟩
theorem lw_p78 : lw_okq (⟨"HouseTwinsModel", "isTold", "(I)Z"⟩, 49) := ⟨⟨by decide +kernel, by decide +kernel⟩, List.mem_of_getElem? (i := 1038) (by decide +kernel), List.mem_of_getElem? (i := 1549) (by decide +kernel), List.mem_of_getElem? (i := 1550) (by decide +kernel)⟩
theorem lw_p79 : lw_okq (⟨"HouseTwinsModel", "waysOf", "(IIII)I"⟩, 49) := ⟨⟨by decide +kernel, by decide +kernel⟩, List.mem_of_getElem? (i := 1038) (by decide +kernel), List.mem_of_getElem? (i := 1553) (by decide +kernel), List.mem_of_getElem? (i := 1554) (by decide +kernel)⟩
def lw_privs_5 : List (MethodName × Nat) := [(⟨"HouseTwinsModel", "oddLots", "()I"⟩, 49), (⟨"HouseTwinsModel", "isEven", "(I)Z"⟩, 49), (⟨"HouseTwinsModel", "goRun", "(I)V"⟩, 49), (⟨"HouseTwinsModel", "startRun", "()V"⟩, 49), (⟨"HouseTwinsModel", "goMonth", "(I)V"⟩, 49), (⟨"HouseTwinsModel", "works", "(I)V"⟩, 49), (⟨"HouseTwinsModel", "gainOf", "(III)I"⟩, 49), (⟨"HouseTwinsModel", "kindThere", "(II)I"⟩, 49), (⟨"HouseTwinsModel", "beginOf", "(II)I"⟩, 49), (⟨"HouseTwinsModel", "mayBe", "(III)Z"⟩, 49), (⟨"HouseTwinsModel", "findRests", "(I)V"⟩, 49), (⟨"HouseTwinsModel", "wantCost", "(II)I"⟩, 49), (⟨"HouseTwinsModel", "quarrelOf", "(I)I"⟩, 49), (⟨"HouseTwinsModel", "isShop", "(II)Z"⟩, 49), (⟨"HouseTwinsModel", "isTold", "(I)Z"⟩, 49), (⟨"HouseTwinsModel", "waysOf", "(IIII)I"⟩, 49)]
theorem lw_r5 : ∀ q ∈ lw_privs_5, lw_okq q := List.forall_mem_cons.mpr ⟨lw_p64, List.forall_mem_cons.mpr ⟨lw_p65, List.forall_mem_cons.mpr ⟨lw_p66, List.forall_mem_cons.mpr ⟨lw_p67, List.forall_mem_cons.mpr ⟨lw_p68, List.forall_mem_cons.mpr ⟨lw_p69, List.forall_mem_cons.mpr ⟨lw_p70, List.forall_mem_cons.mpr ⟨lw_p71, List.forall_mem_cons.mpr ⟨lw_p72, List.forall_mem_cons.mpr ⟨lw_p73, List.forall_mem_cons.mpr ⟨lw_p74, List.forall_mem_cons.mpr ⟨lw_p75, List.forall_mem_cons.mpr ⟨lw_p76, List.forall_mem_cons.mpr ⟨lw_p77, List.forall_mem_cons.mpr ⟨lw_p78, List.forall_mem_cons.mpr ⟨lw_p79, fun _ h => absurd h List.not_mem_nil⟩⟩⟩⟩⟩⟩⟩⟩⟩⟩⟩⟩⟩⟩⟩⟩
theorem lw_p80 : lw_okq (⟨"HouseTwinsModel", "fits", "(III)Z"⟩, 49) := ⟨⟨by decide +kernel, by decide +kernel⟩, List.mem_of_getElem? (i := 1038) (by decide +kernel), List.mem_of_getElem? (i := 1557) (by decide +kernel), List.mem_of_getElem? (i := 1558) (by decide +kernel)⟩
theorem lw_p81 : lw_okq (⟨"HouseTwinsModel", "copies", "(II)V"⟩, 49) := ⟨⟨by decide +kernel, by decide +kernel⟩, List.mem_of_getElem? (i := 1038) (by decide +kernel), List.mem_of_getElem? (i := 1569) (by decide +kernel), List.mem_of_getElem? (i := 1570) (by decide +kernel)⟩
theorem lw_p82 : lw_okq (⟨"HouseTwinsModel", "thingMany", "()I"⟩, 49) := ⟨⟨by decide +kernel, by decide +kernel⟩, List.mem_of_getElem? (i := 1038) (by decide +kernel), List.mem_of_getElem? (i := 1577) (by decide +kernel), List.mem_of_getElem? (i := 1578) (by decide +kernel)⟩
def lw_privs_6 : List (MethodName × Nat) := [(⟨"HouseTwinsModel", "fits", "(III)Z"⟩, 49), (⟨"HouseTwinsModel", "copies", "(II)V"⟩, 49), (⟨"HouseTwinsModel", "thingMany", "()I"⟩, 49)]
theorem lw_r6 : ∀ q ∈ lw_privs_6, lw_okq q := List.forall_mem_cons.mpr ⟨lw_p80, List.forall_mem_cons.mpr ⟨lw_p81, List.forall_mem_cons.mpr ⟨lw_p82, fun _ h => absurd h List.not_mem_nil⟩⟩⟩
def lw_privs : List (MethodName × Nat) := lw_privs_1 ++ (lw_privs_2 ++ (lw_privs_3 ++ (lw_privs_4 ++ (lw_privs_5 ++ (lw_privs_6)))))
def lw_tbl : List Cond := k2_sels lw_privs ++ tables_1
theorem lw_privs_ok : ∀ q ∈ lw_privs, lw_okq q := by
  show ∀ q ∈ lw_privs_1 ++ (lw_privs_2 ++ (lw_privs_3 ++ (lw_privs_4 ++ (lw_privs_5 ++ (lw_privs_6))))), lw_okq q
  exact List.forall_mem_append.mpr ⟨lw_r1, List.forall_mem_append.mpr ⟨lw_r2, List.forall_mem_append.mpr ⟨lw_r3, List.forall_mem_append.mpr ⟨lw_r4, List.forall_mem_append.mpr ⟨lw_r5, lw_r6⟩⟩⟩⟩⟩
end
section
def RX0 : String := "HouseTwins$Choice"
def TX0 : u_T := fun k => match k with
  | 0 => ("HouseTwins$Choice", "vexMost", "I", false)
  | 1 => ("HouseTwins$Choice", "vexLot", "I", false)
  | 2 => ("HouseTwins$Choice", "vexKind", "I", false)
  | 3 => ("HouseTwins$Choice", "law", "LHouseTwins$Law;", true)
  | _ => ("HouseTwins$Choice", "scene", "LHouseTwins$Scene;", true)
def tyX0 : Nat → FieldType := fun k => match k with
  | 0 => .int
  | 1 => .int
  | 2 => .int
  | 3 => .object "HouseTwins$Law"
  | _ => .object "HouseTwins$Scene"
abbrev wsX00 : List Cond := u_ws RX0 TX0 5
theorem nmX0 : ∀ a, a < 5 → ∀ b, b < 5 → a ≠ b → (TX0 a).2.1 ≠ (TX0 b).2.1 := by decide +kernel
theorem tyX0_ok : ∀ k, k < 5 → parseFieldDescriptor (TX0 k).2.2.1 = some (tyX0 k) := by decide +kernel
abbrev cX0_init : ByteArray := prog_2_method_1_code
def yX0_init : MethodName := ⟨RX0, "<init>", "(LHouseTwins$Law;LHouseTwins$Scene;)V"⟩
abbrev cX0_gainOf : ByteArray := prog_2_method_2_code
def yX0_gainOf : MethodName := ⟨RX0, "gainOf", "(III)I"⟩
abbrev cX0_bestKind : ByteArray := prog_2_method_3_code
def yX0_bestKind : MethodName := ⟨RX0, "bestKind", "(II)I"⟩
abbrev cX0_findVex : ByteArray := prog_2_method_4_code
def yX0_findVex : MethodName := ⟨RX0, "findVex", "(I)V"⟩
abbrev cX0_weighVex : ByteArray := prog_2_method_5_code
def yX0_weighVex : MethodName := ⟨RX0, "weighVex", "(IIII)V"⟩
def RX1 : String := "HouseTwins$Law"
def TX1 : u_T := fun k => match k with
  | 0 => ("HouseTwins$Law", "lots", "I", false)
  | 1 => ("HouseTwins$Law", "bend", "I", false)
  | 2 => ("HouseTwins$Law", "pull", "I", false)
  | 3 => ("HouseTwins$Law", "rightKinds", "I", false)
  | 4 => ("HouseTwins$Law", "price", "[I", true)
  | 5 => ("HouseTwins$Law", "cost", "[[I", true)
  | 6 => ("HouseTwins$Law", "taste", "[[I", true)
  | 7 => ("HouseTwins$Law", "lackedKinds", "[I", true)
  | 8 => ("HouseTwins$Law", "twin", "[I", true)
  | _ => ("HouseTwins$Law", "paint", "[I", true)
def tyX1 : Nat → FieldType := fun k => match k with
  | 0 => .int
  | 1 => .int
  | 2 => .int
  | 3 => .int
  | 4 => .array .int
  | 5 => .array (.array .int)
  | 6 => .array (.array .int)
  | 7 => .array .int
  | 8 => .array .int
  | _ => .array .int
abbrev wsX10 : List Cond := u_ws RX1 TX1 10
theorem nmX1 : ∀ a, a < 10 → ∀ b, b < 10 → a ≠ b → (TX1 a).2.1 ≠ (TX1 b).2.1 := by decide +kernel
theorem tyX1_ok : ∀ k, k < 10 → parseFieldDescriptor (TX1 k).2.2.1 = some (tyX1 k) := by decide +kernel
abbrev cX1_init : ByteArray := prog_3_method_1_code
def yX1_init : MethodName := ⟨RX1, "<init>", "()V"⟩
abbrev cX1_setFirst : ByteArray := prog_3_method_2_code
def yX1_setFirst : MethodName := ⟨RX1, "setFirst", "()V"⟩
abbrev cX1_copyFrom : ByteArray := prog_3_method_3_code
def yX1_copyFrom : MethodName := ⟨RX1, "copyFrom", "(LHouseTwins$Law;)V"⟩
abbrev cX1_isLot : ByteArray := prog_3_method_4_code
def yX1_isLot : MethodName := ⟨RX1, "isLot", "(II)Z"⟩
abbrev cX1_twinOf : ByteArray := prog_3_method_5_code
def yX1_twinOf : MethodName := ⟨RX1, "twinOf", "(I)I"⟩
abbrev cX1_costOf : ByteArray := prog_3_method_6_code
def yX1_costOf : MethodName := ⟨RX1, "costOf", "(II)I"⟩
abbrev cX1_tasteOf : ByteArray := prog_3_method_7_code
def yX1_tasteOf : MethodName := ⟨RX1, "tasteOf", "(II)I"⟩
abbrev cX1_lacks : ByteArray := prog_3_method_8_code
def yX1_lacks : MethodName := ⟨RX1, "lacks", "(II)Z"⟩
abbrev cX1_mayBuild : ByteArray := prog_3_method_9_code
def yX1_mayBuild : MethodName := ⟨RX1, "mayBuild", "(III)Z"⟩
abbrev cX1_matchOf : ByteArray := prog_3_method_10_code
def yX1_matchOf : MethodName := ⟨RX1, "matchOf", "(II)I"⟩
abbrev cX1_matchBy : ByteArray := prog_3_method_11_code
def yX1_matchBy : MethodName := ⟨RX1, "matchBy", "(III)I"⟩
abbrev cX1_countPairs : ByteArray := prog_3_method_12_code
def yX1_countPairs : MethodName := ⟨RX1, "countPairs", "()I"⟩
abbrev cX1_mirrorOf : ByteArray := prog_3_method_13_code
def yX1_mirrorOf : MethodName := ⟨RX1, "mirrorOf", "(I)I"⟩
abbrev cX1_doorStays : ByteArray := prog_3_method_14_code
def yX1_doorStays : MethodName := ⟨RX1, "doorStays", "(I)Z"⟩
abbrev cX1_isEven : ByteArray := prog_3_method_15_code
def yX1_isEven : MethodName := ⟨RX1, "isEven", "(II)Z"⟩
abbrev cX1_unevenLots : ByteArray := prog_3_method_16_code
def yX1_unevenLots : MethodName := ⟨RX1, "unevenLots", "([I)I"⟩
def RX2 : String := "HouseTwins$Past"
def TX2 : u_T := fun k => match k with
  | 0 => ("HouseTwins$Past", "found", "I", false)
  | 1 => ("HouseTwins$Past", "firstMonth", "I", false)
  | 2 => ("HouseTwins$Past", "lastMonth", "I", false)
  | 3 => ("HouseTwins$Past", "beginners", "I", false)
  | 4 => ("HouseTwins$Past", "law", "LHouseTwins$Law;", true)
  | _ => ("HouseTwins$Past", "scene", "LHouseTwins$Scene;", true)
def tyX2 : Nat → FieldType := fun k => match k with
  | 0 => .int
  | 1 => .int
  | 2 => .int
  | 3 => .int
  | 4 => .object "HouseTwins$Law"
  | _ => .object "HouseTwins$Scene"
abbrev wsX20 : List Cond := u_ws RX2 TX2 6
theorem nmX2 : ∀ a, a < 6 → ∀ b, b < 6 → a ≠ b → (TX2 a).2.1 ≠ (TX2 b).2.1 := by decide +kernel
theorem tyX2_ok : ∀ k, k < 6 → parseFieldDescriptor (TX2 k).2.2.1 = some (tyX2 k) := by decide +kernel
abbrev cX2_init : ByteArray := prog_4_method_1_code
def yX2_init : MethodName := ⟨RX2, "<init>", "(LHouseTwins$Law;LHouseTwins$Scene;)V"⟩
abbrev cX2_hasHistory : ByteArray := prog_4_method_2_code
def yX2_hasHistory : MethodName := ⟨RX2, "hasHistory", "(I)Z"⟩
abbrev cX2_findHistories : ByteArray := prog_4_method_3_code
def yX2_findHistories : MethodName := ⟨RX2, "findHistories", "(II)V"⟩
abbrev cX2_note : ByteArray := prog_4_method_4_code
def yX2_note : MethodName := ⟨RX2, "note", "(II)V"⟩
abbrev cX2_fitsSeen : ByteArray := prog_4_method_5_code
def yX2_fitsSeen : MethodName := ⟨RX2, "fitsSeen", "(III)Z"⟩
abbrev cX2_onlyBeginner : ByteArray := prog_4_method_6_code
def yX2_onlyBeginner : MethodName := ⟨RX2, "onlyBeginner", "()I"⟩
def RX3 : String := "HouseTwins$Planner"
def TX3 : u_T := fun k => match k with
  | 0 => ("HouseTwins$Planner", "law", "LHouseTwins$Law;", true)
  | 1 => ("HouseTwins$Planner", "scene", "LHouseTwins$Scene;", true)
  | 2 => ("HouseTwins$Planner", "least", "[I", true)
  | 3 => ("HouseTwins$Planner", "weights", "[I", true)
  | _ => ("HouseTwins$Planner", "months", "[I", true)
def tyX3 : Nat → FieldType := fun k => match k with
  | 0 => .object "HouseTwins$Law"
  | 1 => .object "HouseTwins$Scene"
  | 2 => .array .int
  | 3 => .array .int
  | _ => .array .int
abbrev wsX30 : List Cond := u_ws RX3 TX3 5
theorem nmX3 : ∀ a, a < 5 → ∀ b, b < 5 → a ≠ b → (TX3 a).2.1 ≠ (TX3 b).2.1 := by decide +kernel
theorem tyX3_ok : ∀ k, k < 5 → parseFieldDescriptor (TX3 k).2.2.1 = some (tyX3 k) := by decide +kernel
abbrev cX3_init : ByteArray := prog_5_method_1_code
def yX3_init : MethodName := ⟨RX3, "<init>", "(LHouseTwins$Law;LHouseTwins$Scene;)V"⟩
abbrev cX3_monthOf : ByteArray := prog_5_method_2_code
def yX3_monthOf : MethodName := ⟨RX3, "monthOf", "(I)I"⟩
abbrev cX3_findPlan : ByteArray := prog_5_method_3_code
def yX3_findPlan : MethodName := ⟨RX3, "findPlan", "(I)I"⟩
abbrev cX3_taken : ByteArray := prog_5_method_4_code
def yX3_taken : MethodName := ⟨RX3, "taken", "(II)I"⟩
abbrev cX3_withOneMore : ByteArray := prog_5_method_5_code
def yX3_withOneMore : MethodName := ⟨RX3, "withOneMore", "(II)I"⟩
abbrev cX3_costWith : ByteArray := prog_5_method_6_code
def yX3_costWith : MethodName := ⟨RX3, "costWith", "(III)I"⟩
abbrev cX3_leastFrom : ByteArray := prog_5_method_7_code
def yX3_leastFrom : MethodName := ⟨RX3, "leastFrom", "(II)I"⟩
abbrev cX3_placeWants : ByteArray := prog_5_method_8_code
def yX3_placeWants : MethodName := ⟨RX3, "placeWants", "(II)V"⟩
abbrev cX3_kindsBarred : ByteArray := prog_5_method_9_code
def yX3_kindsBarred : MethodName := ⟨RX3, "kindsBarred", "()I"⟩
abbrev cX3_costInstead : ByteArray := prog_5_method_10_code
def yX3_costInstead : MethodName := ⟨RX3, "costInstead", "()I"⟩
def RX4 : String := "HouseTwins$Reader"
def TX4 : u_T := fun k => match k with
  | 0 => ("HouseTwins$Reader", "law", "LHouseTwins$Law;", true)
  | 1 => ("HouseTwins$Reader", "scene", "LHouseTwins$Scene;", true)
  | 2 => ("HouseTwins$Reader", "fault", "I", false)
  | 3 => ("HouseTwins$Reader", "place", "I", false)
  | 4 => ("HouseTwins$Reader", "lines", "I", false)
  | 5 => ("HouseTwins$Reader", "tape", "LHouseTwins$Tape;", true)
  | 6 => ("HouseTwins$Reader", "next", "I", false)
  | 7 => ("HouseTwins$Reader", "start", "I", false)
  | 8 => ("HouseTwins$Reader", "type", "I", false)
  | 9 => ("HouseTwins$Reader", "figures", "I", false)
  | _ => ("HouseTwins$Reader", "told", "J", false)
def tyX4 : Nat → FieldType := fun k => match k with
  | 0 => .object "HouseTwins$Law"
  | 1 => .object "HouseTwins$Scene"
  | 2 => .int
  | 3 => .int
  | 4 => .int
  | 5 => .object "HouseTwins$Tape"
  | 6 => .int
  | 7 => .int
  | 8 => .int
  | 9 => .int
  | _ => .long
abbrev wsX40 : List Cond := u_ws RX4 TX4 11
theorem nmX4 : ∀ a, a < 11 → ∀ b, b < 11 → a ≠ b → (TX4 a).2.1 ≠ (TX4 b).2.1 := by decide +kernel
theorem tyX4_ok : ∀ k, k < 11 → parseFieldDescriptor (TX4 k).2.2.1 = some (tyX4 k) := by decide +kernel
abbrev cX4_init : ByteArray := prog_6_method_1_code
def yX4_init : MethodName := ⟨RX4, "<init>", "(LHouseTwins$Tape;)V"⟩
abbrev cX4_readAll : ByteArray := prog_6_method_2_code
def yX4_readAll : MethodName := ⟨RX4, "readAll", "()V"⟩
abbrev cX4_restart : ByteArray := prog_6_method_3_code
def yX4_restart : MethodName := ⟨RX4, "restart", "()V"⟩
abbrev cX4_fail : ByteArray := prog_6_method_4_code
def yX4_fail : MethodName := ⟨RX4, "fail", "(II)I"⟩
abbrev cX4_takeToken : ByteArray := prog_6_method_5_code
def yX4_takeToken : MethodName := ⟨RX4, "takeToken", "()V"⟩
abbrev cX4_typeOf : ByteArray := prog_6_method_6_code
def yX4_typeOf : MethodName := ⟨RX4, "typeOf", "(I)I"⟩
abbrev cX4_nameAmong : ByteArray := prog_6_method_7_code
def yX4_nameAmong : MethodName := ⟨RX4, "nameAmong", "(Ljava/lang/String;)I"⟩
abbrev cX4_takeNumber : ByteArray := prog_6_method_8_code
def yX4_takeNumber : MethodName := ⟨RX4, "takeNumber", "(II)I"⟩
abbrev cX4_takeBank : ByteArray := prog_6_method_9_code
def yX4_takeBank : MethodName := ⟨RX4, "takeBank", "()I"⟩
abbrev cX4_takeNameOf : ByteArray := prog_6_method_10_code
def yX4_takeNameOf : MethodName := ⟨RX4, "takeNameOf", "(Ljava/lang/String;)I"⟩
abbrev cX4_takeThing : ByteArray := prog_6_method_11_code
def yX4_takeThing : MethodName := ⟨RX4, "takeThing", "()I"⟩
abbrev cX4_takeStop : ByteArray := prog_6_method_12_code
def yX4_takeStop : MethodName := ⟨RX4, "takeStop", "()V"⟩
abbrev cX4_tellOnce : ByteArray := prog_6_method_13_code
def yX4_tellOnce : MethodName := ⟨RX4, "tellOnce", "(I)V"⟩
abbrev cX4_readLine : ByteArray := prog_6_method_14_code
def yX4_readLine : MethodName := ⟨RX4, "readLine", "()V"⟩
abbrev cX4_readPrices : ByteArray := prog_6_method_15_code
def yX4_readPrices : MethodName := ⟨RX4, "readPrices", "()V"⟩
abbrev cX4_readOfKinds : ByteArray := prog_6_method_16_code
def yX4_readOfKinds : MethodName := ⟨RX4, "readOfKinds", "([[II)V"⟩
abbrev cX4_readLack : ByteArray := prog_6_method_17_code
def yX4_readLack : MethodName := ⟨RX4, "readLack", "()V"⟩
abbrev cX4_readTwins : ByteArray := prog_6_method_18_code
def yX4_readTwins : MethodName := ⟨RX4, "readTwins", "()V"⟩
abbrev cX4_readPaint : ByteArray := prog_6_method_19_code
def yX4_readPaint : MethodName := ⟨RX4, "readPaint", "()V"⟩
abbrev cX4_readRight : ByteArray := prog_6_method_20_code
def yX4_readRight : MethodName := ⟨RX4, "readRight", "()V"⟩
abbrev cX4_readThing : ByteArray := prog_6_method_21_code
def yX4_readThing : MethodName := ⟨RX4, "readThing", "()V"⟩
abbrev cX4_readWork : ByteArray := prog_6_method_22_code
def yX4_readWork : MethodName := ⟨RX4, "readWork", "()V"⟩
abbrev cX4_allLotsAre : ByteArray := prog_6_method_23_code
def yX4_allLotsAre : MethodName := ⟨RX4, "allLotsAre", "()Z"⟩
def RX5 : String := "HouseTwins$Rows"
def TX5 : u_T := fun k => match k with
  | 0 => ("HouseTwins$Rows", "most", "I", true)
  | 1 => ("HouseTwins$Rows", "width", "I", true)
  | 2 => ("HouseTwins$Rows", "cells", "[I", true)
  | _ => ("HouseTwins$Rows", "size", "I", false)
def tyX5 : Nat → FieldType := fun k => match k with
  | 0 => .int
  | 1 => .int
  | 2 => .array .int
  | _ => .int
abbrev wsX50 : List Cond := u_ws RX5 TX5 4
theorem nmX5 : ∀ a, a < 4 → ∀ b, b < 4 → a ≠ b → (TX5 a).2.1 ≠ (TX5 b).2.1 := by decide +kernel
theorem tyX5_ok : ∀ k, k < 4 → parseFieldDescriptor (TX5 k).2.2.1 = some (tyX5 k) := by decide +kernel
abbrev cX5_init : ByteArray := prog_7_method_1_code
def yX5_init : MethodName := ⟨RX5, "<init>", "(II)V"⟩
abbrev cX5_isFull : ByteArray := prog_7_method_2_code
def yX5_isFull : MethodName := ⟨RX5, "isFull", "()Z"⟩
abbrev cX5_addRow : ByteArray := prog_7_method_3_code
def yX5_addRow : MethodName := ⟨RX5, "addRow", "(IIII)V"⟩
abbrev cX5_setCell : ByteArray := prog_7_method_4_code
def yX5_setCell : MethodName := ⟨RX5, "setCell", "(III)V"⟩
abbrev cX5_cell : ByteArray := prog_7_method_5_code
def yX5_cell : MethodName := ⟨RX5, "cell", "(II)I"⟩
abbrev cX5_empty : ByteArray := prog_7_method_6_code
def yX5_empty : MethodName := ⟨RX5, "empty", "()I"⟩
abbrev cX5_copyFrom : ByteArray := prog_7_method_7_code
def yX5_copyFrom : MethodName := ⟨RX5, "copyFrom", "(LHouseTwins$Rows;)V"⟩
def RX6 : String := "HouseTwins$Run"
def TX6 : u_T := fun k => match k with
  | 0 => ("HouseTwins$Run", "things", "[I", true)
  | 1 => ("HouseTwins$Run", "spent", "[I", true)
  | 2 => ("HouseTwins$Run", "fates", "[I", true)
  | 3 => ("HouseTwins$Run", "law", "LHouseTwins$Law;", true)
  | 4 => ("HouseTwins$Run", "scene", "LHouseTwins$Scene;", true)
  | 5 => ("HouseTwins$Run", "latest", "[I", true)
  | _ => ("HouseTwins$Run", "worked", "[I", true)
def tyX6 : Nat → FieldType := fun k => match k with
  | 0 => .array .int
  | 1 => .array .int
  | 2 => .array .int
  | 3 => .object "HouseTwins$Law"
  | 4 => .object "HouseTwins$Scene"
  | 5 => .array .int
  | _ => .array .int
abbrev wsX60 : List Cond := u_ws RX6 TX6 7
theorem nmX6 : ∀ a, a < 7 → ∀ b, b < 7 → a ≠ b → (TX6 a).2.1 ≠ (TX6 b).2.1 := by decide +kernel
theorem tyX6_ok : ∀ k, k < 7 → parseFieldDescriptor (TX6 k).2.2.1 = some (tyX6 k) := by decide +kernel
abbrev cX6_init : ByteArray := prog_8_method_1_code
def yX6_init : MethodName := ⟨RX6, "<init>", "(LHouseTwins$Law;LHouseTwins$Scene;)V"⟩
abbrev cX6_runMonths : ByteArray := prog_8_method_2_code
def yX6_runMonths : MethodName := ⟨RX6, "runMonths", "(I)V"⟩
abbrev cX6_start : ByteArray := prog_8_method_3_code
def yX6_start : MethodName := ⟨RX6, "start", "()V"⟩
abbrev cX6_runMonth : ByteArray := prog_8_method_4_code
def yX6_runMonth : MethodName := ⟨RX6, "runMonth", "(I)V"⟩
abbrev cX6_tryWork : ByteArray := prog_8_method_5_code
def yX6_tryWork : MethodName := ⟨RX6, "tryWork", "(IIII)I"⟩
abbrev cX6_build : ByteArray := prog_8_method_6_code
def yX6_build : MethodName := ⟨RX6, "build", "(III)V"⟩
abbrev cX6_answer : ByteArray := prog_8_method_7_code
def yX6_answer : MethodName := ⟨RX6, "answer", "(II)V"⟩
abbrev cX6_isEvenPair : ByteArray := prog_8_method_8_code
def yX6_isEvenPair : MethodName := ⟨RX6, "isEvenPair", "(II)Z"⟩
abbrev cX6_lotsOwedBy : ByteArray := prog_8_method_9_code
def yX6_lotsOwedBy : MethodName := ⟨RX6, "lotsOwedBy", "(I)I"⟩
abbrev cX6_worksDone : ByteArray := prog_8_method_10_code
def yX6_worksDone : MethodName := ⟨RX6, "worksDone", "()I"⟩
def RX7 : String := "HouseTwins$Scene"
def TX7 : u_T := fun k => match k with
  | 0 => ("HouseTwins$Scene", "things", "[I", true)
  | 1 => ("HouseTwins$Scene", "works", "LHouseTwins$Rows;", true)
  | 2 => ("HouseTwins$Scene", "wants", "LHouseTwins$Rows;", true)
  | _ => ("HouseTwins$Scene", "seen", "LHouseTwins$Rows;", true)
def tyX7 : Nat → FieldType := fun k => match k with
  | 0 => .array .int
  | 1 => .object "HouseTwins$Rows"
  | 2 => .object "HouseTwins$Rows"
  | _ => .object "HouseTwins$Rows"
abbrev wsX70 : List Cond := u_ws RX7 TX7 4
theorem nmX7 : ∀ a, a < 4 → ∀ b, b < 4 → a ≠ b → (TX7 a).2.1 ≠ (TX7 b).2.1 := by decide +kernel
theorem tyX7_ok : ∀ k, k < 4 → parseFieldDescriptor (TX7 k).2.2.1 = some (tyX7 k) := by decide +kernel
abbrev cX7_init : ByteArray := prog_9_method_1_code
def yX7_init : MethodName := ⟨RX7, "<init>", "()V"⟩
abbrev cX7_clear : ByteArray := prog_9_method_2_code
def yX7_clear : MethodName := ⟨RX7, "clear", "()V"⟩
abbrev cX7_copyFrom : ByteArray := prog_9_method_3_code
def yX7_copyFrom : MethodName := ⟨RX7, "copyFrom", "(LHouseTwins$Scene;)V"⟩
abbrev cX7_thingAt : ByteArray := prog_9_method_4_code
def yX7_thingAt : MethodName := ⟨RX7, "thingAt", "(II)I"⟩
abbrev cX7_kindAt : ByteArray := prog_9_method_5_code
def yX7_kindAt : MethodName := ⟨RX7, "kindAt", "(II)I"⟩
abbrev cX7_setThing : ByteArray := prog_9_method_6_code
def yX7_setThing : MethodName := ⟨RX7, "setThing", "(III)V"⟩
abbrev cX7_countThings : ByteArray := prog_9_method_7_code
def yX7_countThings : MethodName := ⟨RX7, "countThings", "()I"⟩
abbrev cX7_lastMonth : ByteArray := prog_9_method_8_code
def yX7_lastMonth : MethodName := ⟨RX7, "lastMonth", "()I"⟩
def RX8 : String := "HouseTwins$Sheet"
def TX8 : u_T := fun k => match k with
  | 0 => ("HouseTwins$Sheet", "size", "I", false)
  | 1 => ("HouseTwins$Sheet", "lane", "I", false)
  | _ => ("HouseTwins$Sheet", "cells", "[I", true)
def tyX8 : Nat → FieldType := fun k => match k with
  | 0 => .int
  | 1 => .int
  | _ => .array .int
abbrev wsX80 : List Cond := u_ws RX8 TX8 3
theorem nmX8 : ∀ a, a < 3 → ∀ b, b < 3 → a ≠ b → (TX8 a).2.1 ≠ (TX8 b).2.1 := by decide +kernel
theorem tyX8_ok : ∀ k, k < 3 → parseFieldDescriptor (TX8 k).2.2.1 = some (tyX8 k) := by decide +kernel
abbrev cX8_init : ByteArray := prog_10_method_1_code
def yX8_init : MethodName := ⟨RX8, "<init>", "()V"⟩
abbrev cX8_renew : ByteArray := prog_10_method_2_code
def yX8_renew : MethodName := ⟨RX8, "renew", "(II)V"⟩
abbrev cX8_faultAt : ByteArray := prog_10_method_3_code
def yX8_faultAt : MethodName := ⟨RX8, "faultAt", "(I)I"⟩
abbrev cX8_setCell : ByteArray := prog_10_method_4_code
def yX8_setCell : MethodName := ⟨RX8, "setCell", "(II)V"⟩
abbrev cX8_cell : ByteArray := prog_10_method_5_code
def yX8_cell : MethodName := ⟨RX8, "cell", "(I)I"⟩
abbrev cX8_wholeThings : ByteArray := prog_10_method_6_code
def yX8_wholeThings : MethodName := ⟨RX8, "wholeThings", "(III)I"⟩
abbrev cX8_faultOfReading : ByteArray := prog_10_method_7_code
def yX8_faultOfReading : MethodName := ⟨RX8, "faultOfReading", "(III)I"⟩
def RX9 : String := "HouseTwins$Tape"
def TX9 : u_T := fun k => match k with
  | 0 => ("HouseTwins$Tape", "bytes", "[I", true)
  | _ => ("HouseTwins$Tape", "size", "I", false)
def tyX9 : Nat → FieldType := fun k => match k with
  | 0 => .array .int
  | _ => .int
abbrev wsX90 : List Cond := u_ws RX9 TX9 2
theorem nmX9 : ∀ a, a < 2 → ∀ b, b < 2 → a ≠ b → (TX9 a).2.1 ≠ (TX9 b).2.1 := by decide +kernel
theorem tyX9_ok : ∀ k, k < 2 → parseFieldDescriptor (TX9 k).2.2.1 = some (tyX9 k) := by decide +kernel
abbrev cX9_init : ByteArray := prog_11_method_1_code
def yX9_init : MethodName := ⟨RX9, "<init>", "()V"⟩
abbrev cX9_append : ByteArray := prog_11_method_2_code
def yX9_append : MethodName := ⟨RX9, "append", "(J)V"⟩
abbrev cX9_byteAt : ByteArray := prog_11_method_3_code
def yX9_byteAt : MethodName := ⟨RX9, "byteAt", "(I)I"⟩
def RX10 : String := "HouseTwins"
def TX10 : u_T := fun k => match k with
  | 0 => ("HouseTwins", "tape", "LHouseTwins$Tape;", true)
  | 1 => ("HouseTwins", "law", "LHouseTwins$Law;", true)
  | 2 => ("HouseTwins", "scene", "LHouseTwins$Scene;", true)
  | 3 => ("HouseTwins", "reader", "LHouseTwins$Reader;", true)
  | 4 => ("HouseTwins", "run", "LHouseTwins$Run;", true)
  | 5 => ("HouseTwins", "choice", "LHouseTwins$Choice;", true)
  | 6 => ("HouseTwins", "planner", "LHouseTwins$Planner;", true)
  | 7 => ("HouseTwins", "past", "LHouseTwins$Past;", true)
  | 8 => ("HouseTwins", "images", "[LHouseTwins$Scene;", true)
  | 9 => ("HouseTwins", "imageKept", "[Z", true)
  | 10 => ("HouseTwins", "sheets", "[LHouseTwins$Sheet;", true)
  | 11 => ("HouseTwins", "textFault", "I", false)
  | _ => ("HouseTwins", "sheetFault", "I", false)
def tyX10 : Nat → FieldType := fun k => match k with
  | 0 => .object "HouseTwins$Tape"
  | 1 => .object "HouseTwins$Law"
  | 2 => .object "HouseTwins$Scene"
  | 3 => .object "HouseTwins$Reader"
  | 4 => .object "HouseTwins$Run"
  | 5 => .object "HouseTwins$Choice"
  | 6 => .object "HouseTwins$Planner"
  | 7 => .object "HouseTwins$Past"
  | 8 => .array (.object "HouseTwins$Scene")
  | 9 => .array .boolean
  | 10 => .array (.object "HouseTwins$Sheet")
  | 11 => .int
  | _ => .int
abbrev wsX100 : List Cond := u_ws RX10 TX10 13
theorem nmX10 : ∀ a, a < 13 → ∀ b, b < 13 → a ≠ b → (TX10 a).2.1 ≠ (TX10 b).2.1 := by decide +kernel
theorem tyX10_ok : ∀ k, k < 13 → parseFieldDescriptor (TX10 k).2.2.1 = some (tyX10 k) := by decide +kernel
abbrev cX10_init : ByteArray := prog_1_method_1_code
def yX10_init : MethodName := ⟨RX10, "<init>", "()V"⟩
abbrev cX10_feed : ByteArray := prog_1_method_2_code
def yX10_feed : MethodName := ⟨RX10, "feed", "(J)I"⟩
abbrev cX10_end : ByteArray := prog_1_method_3_code
def yX10_end : MethodName := ⟨RX10, "end", "(I)I"⟩
abbrev cX10_text : ByteArray := prog_1_method_4_code
def yX10_text : MethodName := ⟨RX10, "text", "()I"⟩
abbrev cX10_fault : ByteArray := prog_1_method_5_code
def yX10_fault : MethodName := ⟨RX10, "fault", "()I"⟩
abbrev cX10_rule : ByteArray := prog_1_method_6_code
def yX10_rule : MethodName := ⟨RX10, "rule", "(I)I"⟩
abbrev cX10_kind : ByteArray := prog_1_method_7_code
def yX10_kind : MethodName := ⟨RX10, "kind", "(II)I"⟩
abbrev cX10_colour : ByteArray := prog_1_method_8_code
def yX10_colour : MethodName := ⟨RX10, "colour", "(I)I"⟩
abbrev cX10_mirror : ByteArray := prog_1_method_9_code
def yX10_mirror : MethodName := ⟨RX10, "mirror", "(I)I"⟩
abbrev cX10_work : ByteArray := prog_1_method_10_code
def yX10_work : MethodName := ⟨RX10, "work", "(II)I"⟩
abbrev cX10_thing : ByteArray := prog_1_method_11_code
def yX10_thing : MethodName := ⟨RX10, "thing", "(II)I"⟩
abbrev cX10_put : ByteArray := prog_1_method_12_code
def yX10_put : MethodName := ⟨RX10, "put", "(III)I"⟩
abbrev cX10_match : ByteArray := prog_1_method_13_code
def yX10_match : MethodName := ⟨RX10, "match", "(II)I"⟩
abbrev cX10_odd : ByteArray := prog_1_method_14_code
def yX10_odd : MethodName := ⟨RX10, "odd", "()I"⟩
abbrev cX10_third : ByteArray := prog_1_method_15_code
def yX10_third : MethodName := ⟨RX10, "third", "(I)I"⟩
abbrev cX10_after : ByteArray := prog_1_method_16_code
def yX10_after : MethodName := ⟨RX10, "after", "(III)I"⟩
abbrev cX10_paid : ByteArray := prog_1_method_17_code
def yX10_paid : MethodName := ⟨RX10, "paid", "(II)I"⟩
abbrev cX10_owes : ByteArray := prog_1_method_18_code
def yX10_owes : MethodName := ⟨RX10, "owes", "(II)I"⟩
abbrev cX10_fate : ByteArray := prog_1_method_19_code
def yX10_fate : MethodName := ⟨RX10, "fate", "(I)I"⟩
abbrev cX10_uneven : ByteArray := prog_1_method_20_code
def yX10_uneven : MethodName := ⟨RX10, "uneven", "(I)I"⟩
abbrev cX10_firstLot : ByteArray := prog_1_method_21_code
def yX10_firstLot : MethodName := ⟨RX10, "firstLot", "(I)I"⟩
abbrev cX10_go : ByteArray := prog_1_method_22_code
def yX10_go : MethodName := ⟨RX10, "go", "()I"⟩
abbrev cX10_plot : ByteArray := prog_1_method_23_code
def yX10_plot : MethodName := ⟨RX10, "plot", "(IIII)I"⟩
abbrev cX10_gain : ByteArray := prog_1_method_24_code
def yX10_gain : MethodName := ⟨RX10, "gain", "(III)I"⟩
abbrev cX10_begin : ByteArray := prog_1_method_25_code
def yX10_begin : MethodName := ⟨RX10, "begin", "(III)I"⟩
abbrev cX10_waits : ByteArray := prog_1_method_26_code
def yX10_waits : MethodName := ⟨RX10, "waits", "(II)I"⟩
abbrev cX10_vex : ByteArray := prog_1_method_27_code
def yX10_vex : MethodName := ⟨RX10, "vex", "(II)I"⟩
abbrev cX10_want : ByteArray := prog_1_method_28_code
def yX10_want : MethodName := ⟨RX10, "want", "(II)I"⟩
abbrev cX10_content : ByteArray := prog_1_method_29_code
def yX10_content : MethodName := ⟨RX10, "content", "()I"⟩
abbrev cX10_plan : ByteArray := prog_1_method_30_code
def yX10_plan : MethodName := ⟨RX10, "plan", "(II)I"⟩
abbrev cX10_cannot : ByteArray := prog_1_method_31_code
def yX10_cannot : MethodName := ⟨RX10, "cannot", "(I)I"⟩
abbrev cX10_fire : ByteArray := prog_1_method_32_code
def yX10_fire : MethodName := ⟨RX10, "fire", "(III)I"⟩
abbrev cX10_lossOfBoth : ByteArray := prog_1_method_33_code
def yX10_lossOfBoth : MethodName := ⟨RX10, "lossOfBoth", "(III)I"⟩
abbrev cX10_quarrel : ByteArray := prog_1_method_34_code
def yX10_quarrel : MethodName := ⟨RX10, "quarrel", "(I)I"⟩
abbrev cX10_quarrelBy : ByteArray := prog_1_method_35_code
def yX10_quarrelBy : MethodName := ⟨RX10, "quarrelBy", "(I)I"⟩
abbrev cX10_bend : ByteArray := prog_1_method_36_code
def yX10_bend : MethodName := ⟨RX10, "bend", "()I"⟩
abbrev cX10_shops : ByteArray := prog_1_method_37_code
def yX10_shops : MethodName := ⟨RX10, "shops", "(II)I"⟩
abbrev cX10_fewestToGo : ByteArray := prog_1_method_38_code
def yX10_fewestToGo : MethodName := ⟨RX10, "fewestToGo", "(I)I"⟩
abbrev cX10_saw : ByteArray := prog_1_method_39_code
def yX10_saw : MethodName := ⟨RX10, "saw", "(IIIZ)I"⟩
abbrev cX10_forget : ByteArray := prog_1_method_40_code
def yX10_forget : MethodName := ⟨RX10, "forget", "()I"⟩
abbrev cX10_histories : ByteArray := prog_1_method_41_code
def yX10_histories : MethodName := ⟨RX10, "histories", "(I)J"⟩
abbrev cX10_began : ByteArray := prog_1_method_42_code
def yX10_began : MethodName := ⟨RX10, "began", "(III)I"⟩
abbrev cX10_keep : ByteArray := prog_1_method_43_code
def yX10_keep : MethodName := ⟨RX10, "keep", "(I)I"⟩
abbrev cX10_back : ByteArray := prog_1_method_44_code
def yX10_back : MethodName := ⟨RX10, "back", "(I)I"⟩
abbrev cX10_sheet : ByteArray := prog_1_method_45_code
def yX10_sheet : MethodName := ⟨RX10, "sheet", "(III)I"⟩
abbrev cX10_lay : ByteArray := prog_1_method_46_code
def yX10_lay : MethodName := ⟨RX10, "lay", "(III)I"⟩
abbrev cX10_read : ByteArray := prog_1_method_47_code
def yX10_read : MethodName := ⟨RX10, "read", "(IIII)I"⟩
abbrev cX10_torn : ByteArray := prog_1_method_48_code
def yX10_torn : MethodName := ⟨RX10, "torn", "()I"⟩
abbrev cX10_count : ByteArray := prog_1_method_49_code
def yX10_count : MethodName := ⟨RX10, "count", "(I)I"⟩
abbrev cX10_isBank : ByteArray := prog_1_method_50_code
def yX10_isBank : MethodName := ⟨RX10, "isBank", "(I)Z"⟩
abbrev cX10_isKind : ByteArray := prog_1_method_51_code
def yX10_isKind : MethodName := ⟨RX10, "isKind", "(I)Z"⟩
abbrev cX10_isBuilt : ByteArray := prog_1_method_52_code
def yX10_isBuilt : MethodName := ⟨RX10, "isBuilt", "(I)Z"⟩
abbrev cX10_isThing : ByteArray := prog_1_method_53_code
def yX10_isThing : MethodName := ⟨RX10, "isThing", "(I)Z"⟩
abbrev cX10_isSheet : ByteArray := prog_1_method_54_code
def yX10_isSheet : MethodName := ⟨RX10, "isSheet", "(I)Z"⟩
abbrev cX10_isLane : ByteArray := prog_1_method_55_code
def yX10_isLane : MethodName := ⟨RX10, "isLane", "(I)Z"⟩
abbrev cX10_isSlot : ByteArray := prog_1_method_56_code
def yX10_isSlot : MethodName := ⟨RX10, "isSlot", "(II)Z"⟩
abbrev cX10_slot : ByteArray := prog_1_method_57_code
def yX10_slot : MethodName := ⟨RX10, "slot", "(II)I"⟩
def RX11 : String := "HouseTwinsModel"
def TX11 : u_T := fun k => match k with
  | 0 => ("HouseTwinsModel", "st", "[I", true)
  | 1 => ("HouseTwinsModel", "isKept", "[Z", true)
  | 2 => ("HouseTwinsModel", "lots", "I", false)
  | 3 => ("HouseTwinsModel", "bend", "I", false)
  | 4 => ("HouseTwinsModel", "pull", "I", false)
  | 5 => ("HouseTwinsModel", "price", "[I", true)
  | 6 => ("HouseTwinsModel", "cost", "[I", true)
  | 7 => ("HouseTwinsModel", "taste", "[I", true)
  | 8 => ("HouseTwinsModel", "lacks", "[I", true)
  | 9 => ("HouseTwinsModel", "twin", "[I", true)
  | 10 => ("HouseTwinsModel", "paint", "[I", true)
  | 11 => ("HouseTwinsModel", "rights", "I", false)
  | 12 => ("HouseTwinsModel", "draft", "[I", true)
  | 13 => ("HouseTwinsModel", "dLots", "I", false)
  | 14 => ("HouseTwinsModel", "dBend", "I", false)
  | 15 => ("HouseTwinsModel", "dPull", "I", false)
  | 16 => ("HouseTwinsModel", "dPrice", "[I", true)
  | 17 => ("HouseTwinsModel", "dCost", "[I", true)
  | 18 => ("HouseTwinsModel", "dTaste", "[I", true)
  | 19 => ("HouseTwinsModel", "dLacks", "[I", true)
  | 20 => ("HouseTwinsModel", "dTwin", "[I", true)
  | 21 => ("HouseTwinsModel", "dPaint", "[I", true)
  | 22 => ("HouseTwinsModel", "dRights", "I", false)
  | 23 => ("HouseTwinsModel", "toldLines", "I", false)
  | 24 => ("HouseTwinsModel", "toldThings", "I", false)
  | 25 => ("HouseTwinsModel", "toldCosts", "I", false)
  | 26 => ("HouseTwinsModel", "toldTastes", "I", false)
  | 27 => ("HouseTwinsModel", "toldKinds", "I", false)
  | 28 => ("HouseTwinsModel", "toldColours", "I", false)
  | 29 => ("HouseTwinsModel", "highestLot", "I", false)
  | 30 => ("HouseTwinsModel", "tape", "[I", true)
  | 31 => ("HouseTwinsModel", "taped", "I", false)
  | 32 => ("HouseTwinsModel", "pos", "I", false)
  | 33 => ("HouseTwinsModel", "from", "I", false)
  | 34 => ("HouseTwinsModel", "sort", "I", false)
  | 35 => ("HouseTwinsModel", "value", "I", false)
  | 36 => ("HouseTwinsModel", "fault", "I", false)
  | 37 => ("HouseTwinsModel", "wrongAt", "I", false)
  | 38 => ("HouseTwinsModel", "now", "[I", true)
  | 39 => ("HouseTwinsModel", "latest", "[I", true)
  | 40 => ("HouseTwinsModel", "nowWorked", "[Z", true)
  | 41 => ("HouseTwinsModel", "wasWorked", "[Z", true)
  | 42 => ("HouseTwinsModel", "paidBy", "[I", true)
  | 43 => ("HouseTwinsModel", "fates", "[I", true)
  | 44 => ("HouseTwinsModel", "rests", "[I", true)
  | 45 => ("HouseTwinsModel", "lanes", "[I", true)
  | 46 => ("HouseTwinsModel", "sizes", "[I", true)
  | 47 => ("HouseTwinsModel", "cells", "[I", true)
  | _ => ("HouseTwinsModel", "torn", "I", false)
def tyX11 : Nat → FieldType := fun k => match k with
  | 0 => .array .int
  | 1 => .array .boolean
  | 2 => .int
  | 3 => .int
  | 4 => .int
  | 5 => .array .int
  | 6 => .array .int
  | 7 => .array .int
  | 8 => .array .int
  | 9 => .array .int
  | 10 => .array .int
  | 11 => .int
  | 12 => .array .int
  | 13 => .int
  | 14 => .int
  | 15 => .int
  | 16 => .array .int
  | 17 => .array .int
  | 18 => .array .int
  | 19 => .array .int
  | 20 => .array .int
  | 21 => .array .int
  | 22 => .int
  | 23 => .int
  | 24 => .int
  | 25 => .int
  | 26 => .int
  | 27 => .int
  | 28 => .int
  | 29 => .int
  | 30 => .array .int
  | 31 => .int
  | 32 => .int
  | 33 => .int
  | 34 => .int
  | 35 => .int
  | 36 => .int
  | 37 => .int
  | 38 => .array .int
  | 39 => .array .int
  | 40 => .array .boolean
  | 41 => .array .boolean
  | 42 => .array .int
  | 43 => .array .int
  | 44 => .array .int
  | 45 => .array .int
  | 46 => .array .int
  | 47 => .array .int
  | _ => .int
abbrev wsX110 : List Cond := u_ws RX11 TX11 49
theorem nmX11 : ∀ a, a < 49 → ∀ b, b < 49 → a ≠ b → (TX11 a).2.1 ≠ (TX11 b).2.1 := by decide +kernel
theorem tyX11_ok : ∀ k, k < 49 → parseFieldDescriptor (TX11 k).2.2.1 = some (tyX11 k) := by decide +kernel
abbrev cX11_init : ByteArray := prog_13_method_1_code
def yX11_init : MethodName := ⟨RX11, "<init>", "()V"⟩
abbrev cX11_in : ByteArray := prog_13_method_3_code
def yX11_in : MethodName := ⟨RX11, "in", "(JJJ)Z"⟩
abbrev cX11_flag : ByteArray := prog_13_method_4_code
def yX11_flag : MethodName := ⟨RX11, "flag", "(Z)I"⟩
abbrev cX11_firstDraft : ByteArray := prog_13_method_5_code
def yX11_firstDraft : MethodName := ⟨RX11, "firstDraft", "()V"⟩
abbrev cX11_keepDraft : ByteArray := prog_13_method_6_code
def yX11_keepDraft : MethodName := ⟨RX11, "keepDraft", "()V"⟩
abbrev cX11_feed : ByteArray := prog_13_method_7_code
def yX11_feed : MethodName := ⟨RX11, "feed", "(J)I"⟩
abbrev cX11_end : ByteArray := prog_13_method_8_code
def yX11_end : MethodName := ⟨RX11, "end", "(I)I"⟩
abbrev cX11_needs : ByteArray := prog_13_method_9_code
def yX11_needs : MethodName := ⟨RX11, "needs", "(ZI)V"⟩
abbrev cX11_look : ByteArray := prog_13_method_10_code
def yX11_look : MethodName := ⟨RX11, "look", "(I)I"⟩
abbrev cX11_is : ByteArray := prog_13_method_11_code
def yX11_is : MethodName := ⟨RX11, "is", "(IIIII)Z"⟩
abbrev cX11_ends : ByteArray := prog_13_method_12_code
def yX11_ends : MethodName := ⟨RX11, "ends", "(III)Z"⟩
abbrev cX11_ruleNow : ByteArray := prog_13_method_13_code
def yX11_ruleNow : MethodName := ⟨RX11, "ruleNow", "()I"⟩
abbrev cX11_lineNow : ByteArray := prog_13_method_14_code
def yX11_lineNow : MethodName := ⟨RX11, "lineNow", "()I"⟩
abbrev cX11_kindNow : ByteArray := prog_13_method_15_code
def yX11_kindNow : MethodName := ⟨RX11, "kindNow", "()I"⟩
abbrev cX11_isNothing : ByteArray := prog_13_method_16_code
def yX11_isNothing : MethodName := ⟨RX11, "isNothing", "()Z"⟩
abbrev cX11_sideNow : ByteArray := prog_13_method_17_code
def yX11_sideNow : MethodName := ⟨RX11, "sideNow", "()I"⟩
abbrev cX11_next : ByteArray := prog_13_method_18_code
def yX11_next : MethodName := ⟨RX11, "next", "()V"⟩
abbrev cX11_looked : ByteArray := prog_13_method_19_code
def yX11_looked : MethodName := ⟨RX11, "looked", "(II)I"⟩
abbrev cX11_readNumber : ByteArray := prog_13_method_20_code
def yX11_readNumber : MethodName := ⟨RX11, "readNumber", "(II)I"⟩
abbrev cX11_readLot : ByteArray := prog_13_method_21_code
def yX11_readLot : MethodName := ⟨RX11, "readLot", "()I"⟩
abbrev cX11_readKind : ByteArray := prog_13_method_22_code
def yX11_readKind : MethodName := ⟨RX11, "readKind", "(I)I"⟩
abbrev cX11_readColour : ByteArray := prog_13_method_23_code
def yX11_readColour : MethodName := ⟨RX11, "readColour", "(I)I"⟩
abbrev cX11_readWhat : ByteArray := prog_13_method_24_code
def yX11_readWhat : MethodName := ⟨RX11, "readWhat", "()I"⟩
abbrev cX11_readCosts : ByteArray := prog_13_method_25_code
def yX11_readCosts : MethodName := ⟨RX11, "readCosts", "(Z)V"⟩
abbrev cX11_readThing : ByteArray := prog_13_method_26_code
def yX11_readThing : MethodName := ⟨RX11, "readThing", "()V"⟩
abbrev cX11_readWork : ByteArray := prog_13_method_27_code
def yX11_readWork : MethodName := ⟨RX11, "readWork", "()V"⟩
abbrev cX11_readLaw : ByteArray := prog_13_method_28_code
def yX11_readLaw : MethodName := ⟨RX11, "readLaw", "(I)V"⟩
abbrev cX11_readLineOf : ByteArray := prog_13_method_29_code
def yX11_readLineOf : MethodName := ⟨RX11, "readLineOf", "(I)V"⟩
abbrev cX11_readLine : ByteArray := prog_13_method_30_code
def yX11_readLine : MethodName := ⟨RX11, "readLine", "()V"⟩
abbrev cX11_text : ByteArray := prog_13_method_31_code
def yX11_text : MethodName := ⟨RX11, "text", "()I"⟩
abbrev cX11_fault : ByteArray := prog_13_method_32_code
def yX11_fault : MethodName := ⟨RX11, "fault", "()I"⟩
abbrev cX11_rule : ByteArray := prog_13_method_33_code
def yX11_rule : MethodName := ⟨RX11, "rule", "(I)I"⟩
abbrev cX11_isKind : ByteArray := prog_13_method_34_code
def yX11_isKind : MethodName := ⟨RX11, "isKind", "(I)Z"⟩
abbrev cX11_doesLack : ByteArray := prog_13_method_35_code
def yX11_doesLack : MethodName := ⟨RX11, "doesLack", "(II)Z"⟩
abbrev cX11_kind : ByteArray := prog_13_method_36_code
def yX11_kind : MethodName := ⟨RX11, "kind", "(II)I"⟩
abbrev cX11_colour : ByteArray := prog_13_method_37_code
def yX11_colour : MethodName := ⟨RX11, "colour", "(I)I"⟩
abbrev cX11_isThing : ByteArray := prog_13_method_38_code
def yX11_isThing : MethodName := ⟨RX11, "isThing", "(I)Z"⟩
abbrev cX11_mirrorOf : ByteArray := prog_13_method_39_code
def yX11_mirrorOf : MethodName := ⟨RX11, "mirrorOf", "(I)I"⟩
abbrev cX11_mirror : ByteArray := prog_13_method_40_code
def yX11_mirror : MethodName := ⟨RX11, "mirror", "(I)I"⟩
abbrev cX11_work : ByteArray := prog_13_method_41_code
def yX11_work : MethodName := ⟨RX11, "work", "(II)I"⟩
abbrev cX11_isBank : ByteArray := prog_13_method_42_code
def yX11_isBank : MethodName := ⟨RX11, "isBank", "(I)Z"⟩
abbrev cX11_isLot : ByteArray := prog_13_method_43_code
def yX11_isLot : MethodName := ⟨RX11, "isLot", "(II)Z"⟩
abbrev cX11_thing : ByteArray := prog_13_method_44_code
def yX11_thing : MethodName := ⟨RX11, "thing", "(II)I"⟩
abbrev cX11_put : ByteArray := prog_13_method_45_code
def yX11_put : MethodName := ⟨RX11, "put", "(III)I"⟩
abbrev cX11_matchBy : ByteArray := prog_13_method_46_code
def yX11_matchBy : MethodName := ⟨RX11, "matchBy", "(III)I"⟩
abbrev cX11_matchOf : ByteArray := prog_13_method_47_code
def yX11_matchOf : MethodName := ⟨RX11, "matchOf", "(II)I"⟩
abbrev cX11_match : ByteArray := prog_13_method_48_code
def yX11_match : MethodName := ⟨RX11, "match", "(II)I"⟩
abbrev cX11_asNow : ByteArray := prog_13_method_49_code
def yX11_asNow : MethodName := ⟨RX11, "asNow", "()V"⟩
abbrev cX11_isEven : ByteArray := prog_13_method_50_code
def yX11_isEven : MethodName := ⟨RX11, "isEven", "(I)Z"⟩
abbrev cX11_oddLots : ByteArray := prog_13_method_51_code
def yX11_oddLots : MethodName := ⟨RX11, "oddLots", "()I"⟩
abbrev cX11_odd : ByteArray := prog_13_method_52_code
def yX11_odd : MethodName := ⟨RX11, "odd", "()I"⟩
abbrev cX11_third : ByteArray := prog_13_method_53_code
def yX11_third : MethodName := ⟨RX11, "third", "(I)I"⟩
abbrev cX11_startRun : ByteArray := prog_13_method_54_code
def yX11_startRun : MethodName := ⟨RX11, "startRun", "()V"⟩
abbrev cX11_works : ByteArray := prog_13_method_55_code
def yX11_works : MethodName := ⟨RX11, "works", "(I)V"⟩
abbrev cX11_goMonth : ByteArray := prog_13_method_56_code
def yX11_goMonth : MethodName := ⟨RX11, "goMonth", "(I)V"⟩
abbrev cX11_goRun : ByteArray := prog_13_method_57_code
def yX11_goRun : MethodName := ⟨RX11, "goRun", "(I)V"⟩
abbrev cX11_isMany : ByteArray := prog_13_method_58_code
def yX11_isMany : MethodName := ⟨RX11, "isMany", "(I)Z"⟩
abbrev cX11_after : ByteArray := prog_13_method_59_code
def yX11_after : MethodName := ⟨RX11, "after", "(III)I"⟩
abbrev cX11_paid : ByteArray := prog_13_method_60_code
def yX11_paid : MethodName := ⟨RX11, "paid", "(II)I"⟩
abbrev cX11_owes : ByteArray := prog_13_method_61_code
def yX11_owes : MethodName := ⟨RX11, "owes", "(II)I"⟩
abbrev cX11_fate : ByteArray := prog_13_method_62_code
def yX11_fate : MethodName := ⟨RX11, "fate", "(I)I"⟩
abbrev cX11_uneven : ByteArray := prog_13_method_63_code
def yX11_uneven : MethodName := ⟨RX11, "uneven", "(I)I"⟩
abbrev cX11_go : ByteArray := prog_13_method_64_code
def yX11_go : MethodName := ⟨RX11, "go", "()I"⟩
abbrev cX11_plot : ByteArray := prog_13_method_65_code
def yX11_plot : MethodName := ⟨RX11, "plot", "(IIII)I"⟩
abbrev cX11_kindThere : ByteArray := prog_13_method_66_code
def yX11_kindThere : MethodName := ⟨RX11, "kindThere", "(II)I"⟩
abbrev cX11_gainOf : ByteArray := prog_13_method_67_code
def yX11_gainOf : MethodName := ⟨RX11, "gainOf", "(III)I"⟩
abbrev cX11_gain : ByteArray := prog_13_method_68_code
def yX11_gain : MethodName := ⟨RX11, "gain", "(III)I"⟩
abbrev cX11_mayBe : ByteArray := prog_13_method_69_code
def yX11_mayBe : MethodName := ⟨RX11, "mayBe", "(III)Z"⟩
abbrev cX11_beginOf : ByteArray := prog_13_method_70_code
def yX11_beginOf : MethodName := ⟨RX11, "beginOf", "(II)I"⟩
abbrev cX11_begin : ByteArray := prog_13_method_71_code
def yX11_begin : MethodName := ⟨RX11, "begin", "(III)I"⟩
abbrev cX11_waits : ByteArray := prog_13_method_72_code
def yX11_waits : MethodName := ⟨RX11, "waits", "(II)I"⟩
abbrev cX11_vex : ByteArray := prog_13_method_73_code
def yX11_vex : MethodName := ⟨RX11, "vex", "(II)I"⟩
abbrev cX11_want : ByteArray := prog_13_method_74_code
def yX11_want : MethodName := ⟨RX11, "want", "(II)I"⟩
abbrev cX11_content : ByteArray := prog_13_method_75_code
def yX11_content : MethodName := ⟨RX11, "content", "()I"⟩
abbrev cX11_bitsOf : ByteArray := prog_13_method_76_code
def yX11_bitsOf : MethodName := ⟨RX11, "bitsOf", "(I)I"⟩
abbrev cX11_wantCost : ByteArray := prog_13_method_77_code
def yX11_wantCost : MethodName := ⟨RX11, "wantCost", "(II)I"⟩
abbrev cX11_findRests : ByteArray := prog_13_method_78_code
def yX11_findRests : MethodName := ⟨RX11, "findRests", "(I)V"⟩
abbrev cX11_plan : ByteArray := prog_13_method_79_code
def yX11_plan : MethodName := ⟨RX11, "plan", "(II)I"⟩
abbrev cX11_cannot : ByteArray := prog_13_method_80_code
def yX11_cannot : MethodName := ⟨RX11, "cannot", "(I)I"⟩
abbrev cX11_fire : ByteArray := prog_13_method_81_code
def yX11_fire : MethodName := ⟨RX11, "fire", "(III)I"⟩
abbrev cX11_quarrelOf : ByteArray := prog_13_method_82_code
def yX11_quarrelOf : MethodName := ⟨RX11, "quarrelOf", "(I)I"⟩
abbrev cX11_quarrel : ByteArray := prog_13_method_83_code
def yX11_quarrel : MethodName := ⟨RX11, "quarrel", "(I)I"⟩
abbrev cX11_bend : ByteArray := prog_13_method_84_code
def yX11_bend : MethodName := ⟨RX11, "bend", "()I"⟩
abbrev cX11_isShop : ByteArray := prog_13_method_85_code
def yX11_isShop : MethodName := ⟨RX11, "isShop", "(II)Z"⟩
abbrev cX11_shops : ByteArray := prog_13_method_86_code
def yX11_shops : MethodName := ⟨RX11, "shops", "(II)I"⟩
abbrev cX11_saw : ByteArray := prog_13_method_87_code
def yX11_saw : MethodName := ⟨RX11, "saw", "(IIIZ)I"⟩
abbrev cX11_forget : ByteArray := prog_13_method_88_code
def yX11_forget : MethodName := ⟨RX11, "forget", "()I"⟩
abbrev cX11_isTold : ByteArray := prog_13_method_89_code
def yX11_isTold : MethodName := ⟨RX11, "isTold", "(I)Z"⟩
abbrev cX11_fits : ByteArray := prog_13_method_90_code
def yX11_fits : MethodName := ⟨RX11, "fits", "(III)Z"⟩
abbrev cX11_waysOf : ByteArray := prog_13_method_91_code
def yX11_waysOf : MethodName := ⟨RX11, "waysOf", "(IIII)I"⟩
abbrev cX11_histories : ByteArray := prog_13_method_92_code
def yX11_histories : MethodName := ⟨RX11, "histories", "(I)J"⟩
abbrev cX11_began : ByteArray := prog_13_method_93_code
def yX11_began : MethodName := ⟨RX11, "began", "(III)I"⟩
abbrev cX11_thingMany : ByteArray := prog_13_method_94_code
def yX11_thingMany : MethodName := ⟨RX11, "thingMany", "()I"⟩
abbrev cX11_copies : ByteArray := prog_13_method_95_code
def yX11_copies : MethodName := ⟨RX11, "copies", "(II)V"⟩
abbrev cX11_keep : ByteArray := prog_13_method_96_code
def yX11_keep : MethodName := ⟨RX11, "keep", "(I)I"⟩
abbrev cX11_back : ByteArray := prog_13_method_97_code
def yX11_back : MethodName := ⟨RX11, "back", "(I)I"⟩
abbrev cX11_isSheet : ByteArray := prog_13_method_98_code
def yX11_isSheet : MethodName := ⟨RX11, "isSheet", "(II)Z"⟩
abbrev cX11_sheet : ByteArray := prog_13_method_99_code
def yX11_sheet : MethodName := ⟨RX11, "sheet", "(III)I"⟩
abbrev cX11_lay : ByteArray := prog_13_method_100_code
def yX11_lay : MethodName := ⟨RX11, "lay", "(III)I"⟩
abbrev cX11_read : ByteArray := prog_13_method_101_code
def yX11_read : MethodName := ⟨RX11, "read", "(IIII)I"⟩
abbrev cX11_torn : ByteArray := prog_13_method_102_code
def yX11_torn : MethodName := ⟨RX11, "torn", "()I"⟩
abbrev cX11_count : ByteArray := prog_13_method_103_code
def yX11_count : MethodName := ⟨RX11, "count", "(I)I"⟩
def RJ9 : String := "java/lang/Math"
def TJ9 : u_T := fun k => match k with
  | _ => ("", "", "", false)
def tyJ9 : Nat → FieldType := fun k => match k with
  | _ => .int
abbrev wsJ90 : List Cond := u_ws RJ9 TJ9 0
theorem nmJ9 : ∀ a, a < 0 → ∀ b, b < 0 → a ≠ b → (TJ9 a).2.1 ≠ (TJ9 b).2.1 := by decide +kernel
theorem tyJ9_ok : ∀ k, k < 0 → parseFieldDescriptor (TJ9 k).2.2.1 = some (tyJ9 k) := by decide +kernel
abbrev cJ9_min_7cf53 : ByteArray := prog_14_method_69_code
def yJ9_min_7cf53 : MethodName := ⟨RJ9, "min", "(II)I"⟩
def RJ0 : String := "java/lang/String"
def TJ0 : u_T := fun k => match k with
  | _ => ("", "", "", false)
def tyJ0 : Nat → FieldType := fun k => match k with
  | _ => .int
abbrev wsJ00 : List Cond := u_ws RJ0 TJ0 0
theorem nmJ0 : ∀ a, a < 0 → ∀ b, b < 0 → a ≠ b → (TJ0 a).2.1 ≠ (TJ0 b).2.1 := by decide +kernel
theorem tyJ0_ok : ∀ k, k < 0 → parseFieldDescriptor (TJ0 k).2.2.1 = some (tyJ0 k) := by decide +kernel
abbrev cJ0_length_8abf5 : ByteArray := prog_15_method_54_code
def yJ0_length_8abf5 : MethodName := ⟨RJ0, "length", "()I"⟩
abbrev cJ0_charAt_5068e : ByteArray := prog_15_method_56_code
def yJ0_charAt_5068e : MethodName := ⟨RJ0, "charAt", "(I)C"⟩
abbrev cJ0_coder_7d493 : ByteArray := prog_15_method_152_code
def yJ0_coder_7d493 : MethodName := ⟨RJ0, "coder", "()B"⟩
abbrev cJ0_isLatin1_aae02 : ByteArray := prog_15_method_154_code
def yJ0_isLatin1_aae02 : MethodName := ⟨RJ0, "isLatin1", "()Z"⟩
abbrev cJ0_checkIndex_df160 : ByteArray := prog_15_method_155_code
def yJ0_checkIndex_df160 : MethodName := ⟨RJ0, "checkIndex", "(II)V"⟩
def RJ1 : String := "java/lang/StringLatin1"
def TJ1 : u_T := fun k => match k with
  | _ => ("", "", "", false)
def tyJ1 : Nat → FieldType := fun k => match k with
  | _ => .int
abbrev wsJ10 : List Cond := u_ws RJ1 TJ1 0
theorem nmJ1 : ∀ a, a < 0 → ∀ b, b < 0 → a ≠ b → (TJ1 a).2.1 ≠ (TJ1 b).2.1 := by decide +kernel
theorem tyJ1_ok : ∀ k, k < 0 → parseFieldDescriptor (TJ1 k).2.2.1 = some (tyJ1 k) := by decide +kernel
abbrev cJ1_charAt_3b067 : ByteArray := prog_16_method_2_code
def yJ1_charAt_3b067 : MethodName := ⟨RJ1, "charAt", "([BI)C"⟩
def RJ2 : String := "java/lang/StringUTF16"
def TJ2 : u_T := fun k => match k with
  | _ => ("", "", "", false)
def tyJ2 : Nat → FieldType := fun k => match k with
  | _ => .int
abbrev wsJ20 : List Cond := u_ws RJ2 TJ2 0
theorem nmJ2 : ∀ a, a < 0 → ∀ b, b < 0 → a ≠ b → (TJ2 a).2.1 ≠ (TJ2 b).2.1 := by decide +kernel
theorem tyJ2_ok : ∀ k, k < 0 → parseFieldDescriptor (TJ2 k).2.2.1 = some (tyJ2 k) := by decide +kernel
abbrev cJ2_getChar_3b067 : ByteArray := prog_17_method_5_code
def yJ2_getChar_3b067 : MethodName := ⟨RJ2, "getChar", "([BI)C"⟩
abbrev cJ2_length_9d52b : ByteArray := prog_17_method_6_code
def yJ2_length_9d52b : MethodName := ⟨RJ2, "length", "([B)I"⟩
abbrev cJ2_charAt_3b067 : ByteArray := prog_17_method_83_code
def yJ2_charAt_3b067 : MethodName := ⟨RJ2, "charAt", "([BI)C"⟩
abbrev cJ2_checkIndex_2214a : ByteArray := prog_17_method_91_code
def yJ2_checkIndex_2214a : MethodName := ⟨RJ2, "checkIndex", "(I[B)V"⟩
def RJ10 : String := "java/lang/System"
def TJ10 : u_T := fun k => match k with
  | _ => ("", "", "", false)
def tyJ10 : Nat → FieldType := fun k => match k with
  | _ => .int
abbrev wsJ100 : List Cond := u_ws RJ10 TJ10 0
theorem nmJ10 : ∀ a, a < 0 → ∀ b, b < 0 → a ≠ b → (TJ10 a).2.1 ≠ (TJ10 b).2.1 := by decide +kernel
theorem tyJ10_ok : ∀ k, k < 0 → parseFieldDescriptor (TJ10 k).2.2.1 = some (tyJ10 k) := by decide +kernel
def RJ3 : String := "jdk/internal/util/Preconditions"
def TJ3 : u_T := fun k => match k with
  | _ => ("", "", "", false)
def tyJ3 : Nat → FieldType := fun k => match k with
  | _ => .int
abbrev wsJ30 : List Cond := u_ws RJ3 TJ3 0
theorem nmJ3 : ∀ a, a < 0 → ∀ b, b < 0 → a ≠ b → (TJ3 a).2.1 ≠ (TJ3 b).2.1 := by decide +kernel
theorem tyJ3_ok : ∀ k, k < 0 → parseFieldDescriptor (TJ3 k).2.2.1 = some (tyJ3 k) := by decide +kernel
abbrev cJ3_checkIndex_8e157 : ByteArray := prog_19_method_11_code
def yJ3_checkIndex_8e157 : MethodName := ⟨RJ3, "checkIndex", "(IILjava/util/function/BiFunction;)I"⟩
def RL : String := "HouseTwinsLaw"
abbrev cL_law : ByteArray := code
def yL_law : MethodName := ⟨RL, "law", "([I)Z"⟩
abbrev vwCl : List vw_C := [(RX0, TX0, 5), (RX1, TX1, 10), (RX2, TX2, 6), (RX3, TX3, 5), (RX4, TX4, 11), (RX5, TX5, 4), (RX6, TX6, 7), (RX7, TX7, 4), (RX8, TX8, 3), (RX9, TX9, 2), (RX10, TX10, 13), (RX11, TX11, 49)]
end
section
/-! THE JUDGEMENT T: from a frame of method k (pc, locals l, stack st) with the world ws the machine comes to the method's end, with an answer and a world that Φ allows. The surroundings (machine, tables, heap, frame below) are bound inside: rules speak of pc, locals, stack and world alone. -/
/-- a method: name, bytes, locals' words, answer's type, room: frames, locals, cells, slots -/
abbrev MD : Type := MethodName × ByteArray × Nat × Option FieldType × Nat × Nat × Nat × Nat
def md_rm (k : MD) : Room := { frames := k.2.2.2.2.1, cells := k.2.2.2.2.2.2.1, slots := k.2.2.2.2.2.2.2, locals := k.2.2.2.2.2.1 }
/-- the tables' words that stay true while the machine runs on -/
def TB : List Cond := lw_tbl.filter goodWord
theorem tb_in {w : Cond} (h : w ∈ lw_tbl) (hg : goodWord w = true) : w ∈ TB := List.mem_filter.mpr ⟨h, hg⟩
theorem tb_out {w : Cond} (h : w ∈ TB) : w ∈ lw_tbl := (List.mem_filter.mp h).1
def md_ws (k : MD) : List Cond := .code k.1 k.2.1 k.2.2.1 k.2.2.2.1 :: TB
abbrev tyL (tc : Nat → ClassId) : List (ClassId × FieldType) := [(tc 0, .int), (tc 1, .boolean), (tc 2, .object "HouseTwins$Scene"), (tc 3, .object "HouseTwins$Sheet"), (tc 4, .array .int)]
/-- classes' numbers and slots; array classes' numbers; the String constants' cells; the script -/
abbrev EV : Type := va_G × (Nat → ClassId) × (Nat → Nat) × (Nat → Nat) × Option (Nat × Nat × (Nat → Int32))
def ixJS : List Nat := [117, 171, 110, 115]
def txJS : List String := ["lots bend pull price cost taste lack twin paint right thing work", "house garden shop tower shrine", "nothing house garden shop tower shrine", "left right"]
def lenJS : List Nat := [64, 30, 38, 10]
def bytJS : List (List Int32) := [[108, 111, 116, 115, 32, 98, 101, 110, 100, 32, 112, 117, 108, 108, 32, 112, 114, 105, 99, 101, 32, 99, 111, 115, 116, 32, 116, 97, 115, 116, 101, 32, 108, 97, 99, 107, 32, 116, 119, 105, 110, 32, 112, 97, 105, 110, 116, 32, 114, 105, 103, 104, 116, 32, 116, 104, 105, 110, 103, 32, 119, 111, 114, 107], [104, 111, 117, 115, 101, 32, 103, 97, 114, 100, 101, 110, 32, 115, 104, 111, 112, 32, 116, 111, 119, 101, 114, 32, 115, 104, 114, 105, 110, 101], [110, 111, 116, 104, 105, 110, 103, 32, 104, 111, 117, 115, 101, 32, 103, 97, 114, 100, 101, 110, 32, 115, 104, 111, 112, 32, 116, 111, 119, 101, 114, 32, 115, 104, 114, 105, 110, 101], [108, 101, 102, 116, 32, 114, 105, 103, 104, 116]]
def nestL : List (String × Nat × MethodName) := [("HouseTwins", 9, ⟨"HouseTwins$Tape", "<init>", "()V"⟩), ("HouseTwins", 25, ⟨"HouseTwins$Scene", "<init>", "()V"⟩), ("HouseTwins$Reader", 20, ⟨"HouseTwins$Scene", "<init>", "()V"⟩), ("HouseTwins", 83, ⟨"HouseTwins$Sheet", "<init>", "()V"⟩), ("HouseTwins$Reader", 185, ⟨"HouseTwins", "slot", "(II)I"⟩), ("HouseTwins$Scene", 44, ⟨"HouseTwins", "isSlot", "(II)Z"⟩), ("HouseTwins$Scene", 48, ⟨"HouseTwins", "slot", "(II)I"⟩), ("HouseTwins$Law", 58, ⟨"HouseTwins", "isKind", "(I)Z"⟩), ("HouseTwins$Law", 62, ⟨"HouseTwins", "isBank", "(I)Z"⟩), ("HouseTwins$Law", 65, ⟨"HouseTwins", "isBuilt", "(I)Z"⟩), ("HouseTwins$Law", 54, ⟨"HouseTwins", "isSlot", "(II)Z"⟩), ("HouseTwins$Law", 89, ⟨"HouseTwins", "slot", "(II)I"⟩), ("HouseTwins$Run", 83, ⟨"HouseTwins", "slot", "(II)I"⟩)]
/-- what else the tables say: nest mates' links, arrays over classes -/
def ExT (U : State) : Prop := (∀ q ∈ nestL, va_Nw (.methodLinkNest q.1 q.2.1 q.2.2 "HouseTwins") U) ∧ va_AO "HouseTwins$Scene" U ∧ va_AO "HouseTwins$Sheet" U ∧ (Cond.arrayOver (.array .int)).before #[] U = true
theorem ExT.warm {s U : State} (hW : s.WarmedH U.vm) (h : ExT s) : ExT U := ⟨fun q hq => (h.1 q hq).warmM hW, va_AO.moved hW.alike h.2.1, va_AO.moved hW.alike h.2.2.1, over_moved hW.alike h.2.2.2⟩
theorem ExT.same {u U : State} (hv : u.vm = U.vm) (h : ExT u) : ExT U := by
  have ha : u.vm.Alike U.vm := hv ▸ Vm.Alike.refl u.vm
  exact ⟨fun q hq => (h.1 q hq).same rfl hv, va_AO.moved ha h.2.1, va_AO.moved ha h.2.2.1, over_moved ha h.2.2.2⟩
def sc_ok (x : Option (Nat × Nat × (Nat → Int32))) (A : Nat → Prop) (U : State) (H : Heap) : Prop := match x with
  | none => True
  | some (b, L, xs) => va_X b L xs U H ∧ b < H.size ∧ ¬ A b
/-- what stands outside the world, and is never written -/
def ExS (E : EV) (A : Nat → Prop) (U : State) (H : Heap) : Prop :=
  va_K E.1 vwCl (tyL E.2.1) U ∧ vk_S 4 lenJS bytJS E.2.2.1 E.2.2.2.1 A U H ∧ (∀ i, i < 4 → vk_R RX4 (ixJS.getD i 0) (txJS.getD i "") (E.2.2.1 i) U) ∧ va_Z "java/lang/String" "COMPACT_STRINGS" "Z" (.int 1) A U H ∧ sc_ok E.2.2.2.2 A U H ∧ ExT U
def Cx (k : MD) (p : Program) (s : State) (m : MethodId) (args : Array Value) (meth : Method) (c : Code) : Prop :=
  p.tables.exec = Jvm.exec ∧ c.code = k.2.1 ∧ c.maxLocals = k.2.2.1 ∧ s.vm.findClass k.1.cls = some m.cls ∧ (∀ w ∈ TB, w.before args s = true) ∧ meth.sig.returnType = k.2.2.2.1 ∧ meth.locks = false ∧ meth.name = k.1.name
abbrev pushR (r : Option Value) (st : List Value) : List Value := match r with
  | none => st
  | some v => v :: st
def rtI (k : MD) (pc : Nat) (r : Option Value) : Prop := match r with
  | none => k.2.2.2.1 = none ∧ decode k.2.1 pc = .ok (.return_, 1)
  | some (.int v) => ∃ ty, k.2.2.2.1 = some ty ∧ narrow ty (.int v) = .int v ∧ decode k.2.1 pc = .ok (.ireturn, 1)
  | some (.long _) => k.2.2.2.1 = some .long ∧ decode k.2.1 pc = .ok (.lreturn, 1)
  | _ => False
def T (E : EV) (k : MD) (cu su : Nat) (ws : va_W) (pc : Nat) (l : List (Nat × Value)) (st : List Value) (Φ : Option Value → va_W → Prop) : Prop :=
  ∀ (p : Program) (L : Launch) (e : Env) (s : State) (m : MethodId) (args : Array Value) (below : List Frame) (meth : Method) (c : Code) (A : Nat → Prop) (Q : State → Prop) (H : Heap) (locs : List Loc) (ls : Array Slot),
    Cx k p s m args meth c → ExS E A s s.heap → (∀ q, s.heap.size ≤ q → A q) → va_P E.1 vwCl ws H → va_D A ws → va_S A s.heap H locs → lv_has ls k.2.2.1 l →
    (∀ (r : Option Value) (ws' : va_W) (H' : Heap) (locs' : List Loc) (ls' : Array Slot) (cu' su' pc' : Nat), Φ r ws' → va_P E.1 vwCl ws' H' → va_D A ws' → va_S A s.heap H' locs' → cu' ≤ k.2.2.2.2.2.2.1 → su' ≤ k.2.2.2.2.2.2.2 → rtI k pc' r → W p L e (md_rm k) s m args below meth c H' locs' cu' su' Q (F0 m pc' ls' (pushR r []))) →
    W p L e (md_rm k) s m args below meth c H locs cu su Q (F0 m pc ls st)
/-- a method's contract: from its entry -/
def Tm (E : EV) (k : MD) (ws : va_W) (av : List Value) (Φ : Option Value → va_W → Prop) : Prop := T E k 0 0 ws 0 (lv_args 0 av) [] Φ
/-- locals, sorted by their places -/
def stI : List (Nat × Value) → Nat → Value → List (Nat × Value)
  | [], i, v => [(i, v)]
  | q :: l, i, v => if Nat.ble i q.1 then (i, v) :: q :: l else q :: stI l i v
theorem stI_mem {i : Nat} {v : Value} {q : Nat × Value} : ∀ {l : List (Nat × Value)}, q ∈ stI l i v → q ∈ (i, v) :: l
  | [], h => h
  | x :: l, h => by
    unfold stI at h
    split at h
    · exact h
    · rcases List.mem_cons.mp h with h | h
      · rw [h]; exact List.mem_cons_of_mem _ List.mem_cons_self
      · rcases List.mem_cons.mp (stI_mem h) with h | h
        · rw [h]; exact List.mem_cons_self
        · exact List.mem_cons_of_mem _ (List.mem_cons_of_mem _ h)
def st1 (l : List (Nat × Value)) (i : Nat) (v : Value) : List (Nat × Value) := stI (l.filter (fun q => !(q.1 == i) && !(q.1 + 1 == i && q.2.category == 2))) i v
def st2 (l : List (Nat × Value)) (i : Nat) (v : Value) : List (Nat × Value) := stI (l.filter (fun q => !(q.1 == i) && (!(q.1 == i + 1) && !(q.1 + 1 == i && q.2.category == 2)))) i v
theorem lv_mem {ls : Array Slot} {n : Nat} {l l' : List (Nat × Value)} (h : lv_has ls n l) (hm : ∀ q ∈ l', q ∈ l) : lv_has ls n l' := ⟨h.1, h.2.1, fun q hq => h.2.2 q (hm q hq)⟩
theorem lk_mem {i : Nat} {v : Value} : ∀ {l : List (Nat × Value)}, l.lookup i = some v → (i, v) ∈ l
  | [], h => by cases h
  | (j, u) :: l, h => by
    rw [List.lookup_cons] at h
    cases hb : i == j with
    | true =>
      rw [hb] at h
      cases h
      have : i = j := by simpa using hb
      rw [this]; exact List.mem_cons_self
    | false =>
      rw [hb] at h
      exact List.mem_cons_of_mem _ (lk_mem h)
theorem lv_lk {ls : Array Slot} {n i : Nat} {l : List (Nat × Value)} {v : Value} (h : lv_has ls n l) (hk : l.lookup i = some v) : ls[i]? = some (.val v) := h.2.2 (i, v) (lk_mem hk)
theorem lk_at {i : Nat} {v : Value} {l : List (Nat × Value)} (h : l.lookup i = some v) : ∃ k : Nat, l[k]? = some (i, v) := List.getElem?_of_mem (lk_mem h)
section TR
variable {E : EV} {k : MD} {cu su : Nat} {ws : va_W} {pc : Nat} {l : List (Nat × Value)} {st : List Value} {Φ : Option Value → va_W → Prop}
/-- fewer locals -/
theorem tj_sub {l' : List (Nat × Value)} (hm : ∀ q ∈ l', q ∈ l) (kk : T E k cu su ws pc l' st Φ) : T E k cu su ws pc l st Φ := by
  intro p L e s m args below meth c A Q H locs ls hC hE hA hP hD hS hl hF
  exact kk p L e s m args below meth c A Q H locs ls hC hE hA hP hD hS (lv_mem hl hm) hF
theorem tj_mono {Ψ : Option Value → va_W → Prop} (h : T E k cu su ws pc l st Ψ) (hi : ∀ r w, Ψ r w → Φ r w) : T E k cu su ws pc l st Φ := by
  intro p L e s m args below meth c A Q H locs ls hC hE hA hP hD hS hl hF
  exact h p L e s m args below meth c A Q H locs ls hC hE hA hP hD hS hl (fun r ws' H' locs' ls' cu' su' pc' hΨ => hF r ws' H' locs' ls' cu' su' pc' (hi r ws' hΨ))
theorem tj_eq {pc' : Nat} {l' : List (Nat × Value)} {st' : List Value} {ws' : va_W} (hw : ws = ws') (hp : pc = pc') (hl : l = l') (hs : st = st') (kk : T E k cu su ws' pc' l' st' Φ) : T E k cu su ws pc l st Φ := by
  subst hw; subst hp; subst hl; subst hs; exact kk
theorem tj_topi {x : Int32} (kk : ∀ y : Int32, y = x → T E k cu su ws pc l (.int y :: st) Φ) : T E k cu su ws pc l (.int x :: st) Φ := kk x rfl

theorem tj_iconst {v : Int32} {z : Int} {n : Nat} (hn : pc + 1 = n) (hd : decode k.2.1 pc = .ok (.iconst z, 1)) (hv : Int32.ofInt z = v) (kk : T E k cu su ws n l (.int v :: st) Φ) : T E k cu su ws pc l (st) Φ := by
  subst hn
  intro p L e s m args below meth c A Q H locs ls hC hE hA hP hD hS hl hF
  exact lv_iconst hC.1 hC.2.1 hd hv (kk p L e s m args below meth c A Q H locs ls hC hE hA hP hD hS hl hF)
theorem tj_bipush {v : Int32} {z : Int} {n : Nat} (hn : pc + 2 = n) (hd : decode k.2.1 pc = .ok (.bipush z, 2)) (hv : (Int8.ofInt z).toInt32 = v) (kk : T E k cu su ws n l (.int v :: st) Φ) : T E k cu su ws pc l (st) Φ := by
  subst hn
  intro p L e s m args below meth c A Q H locs ls hC hE hA hP hD hS hl hF
  exact lv_bipush hC.1 hC.2.1 hd hv (kk p L e s m args below meth c A Q H locs ls hC hE hA hP hD hS hl hF)
theorem tj_sipush {v : Int32} {z : Int} {n : Nat} (hn : pc + 3 = n) (hd : decode k.2.1 pc = .ok (.sipush z, 3)) (hv : (Int16.ofInt z).toInt32 = v) (kk : T E k cu su ws n l (.int v :: st) Φ) : T E k cu su ws pc l (st) Φ := by
  subst hn
  intro p L e s m args below meth c A Q H locs ls hC hE hA hP hD hS hl hF
  exact lv_sipush hC.1 hC.2.1 hd hv (kk p L e s m args below meth c A Q H locs ls hC hE hA hP hD hS hl hF)
theorem tj_lconst {v : Int64} {z : Fin 2} {n : Nat} (hn : pc + 1 = n) (hd : decode k.2.1 pc = .ok (.lconst z, 1)) (hv : Int64.ofNat (z : Nat) = v) (kk : T E k cu su ws n l (.long v :: st) Φ) : T E k cu su ws pc l (st) Φ := by
  subst hn
  intro p L e s m args below meth c A Q H locs ls hC hE hA hP hD hS hl hF
  exact lv_lconst hC.1 hC.2.1 hd hv (kk p L e s m args below meth c A Q H locs ls hC hE hA hP hD hS hl hF)
theorem tj_iload_n {x : Int32} {j : Fin 4} {n : Nat} (hn : pc + 1 = n) (hd : decode k.2.1 pc = .ok (.iload_n j, 1)) (hk : l.lookup (j : Nat) = some (.int x)) (kk : T E k cu su ws n l (.int x :: st) Φ) : T E k cu su ws pc l (st) Φ := by
  subst hn
  intro p L e s m args below meth c A Q H locs ls hC hE hA hP hD hS hl hF
  exact lv_iload_n hC.1 hC.2.1 hd rfl (lv_lk hl hk) (kk p L e s m args below meth c A Q H locs ls hC hE hA hP hD hS hl hF)
theorem tj_iload {x : Int32} {j : Nat} {n : Nat} (hn : pc + 2 = n) (hd : decode k.2.1 pc = .ok (.iload j, 2)) (hk : l.lookup j = some (.int x)) (kk : T E k cu su ws n l (.int x :: st) Φ) : T E k cu su ws pc l (st) Φ := by
  subst hn
  intro p L e s m args below meth c A Q H locs ls hC hE hA hP hD hS hl hF
  exact lv_iload hC.1 hC.2.1 hd (lv_lk hl hk) (kk p L e s m args below meth c A Q H locs ls hC hE hA hP hD hS hl hF)
theorem tj_istore_n {x : Int32} {j : Fin 4} {n : Nat} {l' : List (Nat × Value)} (hn : pc + 1 = n) (hd : decode k.2.1 pc = .ok (.istore_n j, 1)) (hj : (j : Nat) < k.2.2.1) (hl' : st1 l (j : Nat) (.int x) = l') (kk : T E k cu su ws n l' st Φ) : T E k cu su ws pc l (.int x :: st) Φ := by
  subst hn
  subst hl'
  intro p L e s m args below meth c A Q H locs ls hC hE hA hP hD hS hl hF
  exact lv_istore_n hC.1 hC.2.1 hd rfl hl hj rfl (fun ls' h' => kk p L e s m args below meth c A Q H locs ls' hC hE hA hP hD hS (lv_mem h' (fun q hq => stI_mem hq)) hF)
theorem tj_istore {x : Int32} {j : Nat} {n : Nat} {l' : List (Nat × Value)} (hn : pc + 2 = n) (hd : decode k.2.1 pc = .ok (.istore j, 2)) (hj : j < k.2.2.1) (hl' : st1 l j (.int x) = l') (kk : T E k cu su ws n l' st Φ) : T E k cu su ws pc l (.int x :: st) Φ := by
  subst hn
  subst hl'
  intro p L e s m args below meth c A Q H locs ls hC hE hA hP hD hS hl hF
  exact lv_istore hC.1 hC.2.1 hd hl hj rfl (fun ls' h' => kk p L e s m args below meth c A Q H locs ls' hC hE hA hP hD hS (lv_mem h' (fun q hq => stI_mem hq)) hF)
theorem tj_lload_n {x : Int64} {j : Fin 4} {n : Nat} (hn : pc + 1 = n) (hd : decode k.2.1 pc = .ok (.lload_n j, 1)) (hk : l.lookup (j : Nat) = some (.long x)) (kk : T E k cu su ws n l (.long x :: st) Φ) : T E k cu su ws pc l (st) Φ := by
  subst hn
  intro p L e s m args below meth c A Q H locs ls hC hE hA hP hD hS hl hF
  exact lv_lload_n hC.1 hC.2.1 hd rfl (lv_lk hl hk) (kk p L e s m args below meth c A Q H locs ls hC hE hA hP hD hS hl hF)
theorem tj_lload {x : Int64} {j : Nat} {n : Nat} (hn : pc + 2 = n) (hd : decode k.2.1 pc = .ok (.lload j, 2)) (hk : l.lookup j = some (.long x)) (kk : T E k cu su ws n l (.long x :: st) Φ) : T E k cu su ws pc l (st) Φ := by
  subst hn
  intro p L e s m args below meth c A Q H locs ls hC hE hA hP hD hS hl hF
  exact lv_lload hC.1 hC.2.1 hd (lv_lk hl hk) (kk p L e s m args below meth c A Q H locs ls hC hE hA hP hD hS hl hF)
theorem tj_lstore_n {x : Int64} {j : Fin 4} {n : Nat} {l' : List (Nat × Value)} (hn : pc + 1 = n) (hd : decode k.2.1 pc = .ok (.lstore_n j, 1)) (hj : (j : Nat) + 1 < k.2.2.1) (hl' : st2 l (j : Nat) (.long x) = l') (kk : T E k cu su ws n l' st Φ) : T E k cu su ws pc l (.long x :: st) Φ := by
  subst hn
  subst hl'
  intro p L e s m args below meth c A Q H locs ls hC hE hA hP hD hS hl hF
  exact lv_lstore_n hC.1 hC.2.1 hd rfl hl hj rfl (fun ls' h' => kk p L e s m args below meth c A Q H locs ls' hC hE hA hP hD hS (lv_mem h' (fun q hq => stI_mem hq)) hF)
theorem tj_lstore {x : Int64} {j : Nat} {n : Nat} {l' : List (Nat × Value)} (hn : pc + 2 = n) (hd : decode k.2.1 pc = .ok (.lstore j, 2)) (hj : j + 1 < k.2.2.1) (hl' : st2 l j (.long x) = l') (kk : T E k cu su ws n l' st Φ) : T E k cu su ws pc l (.long x :: st) Φ := by
  subst hn
  subst hl'
  intro p L e s m args below meth c A Q H locs ls hC hE hA hP hD hS hl hF
  exact lv_lstore hC.1 hC.2.1 hd hl hj rfl (fun ls' h' => kk p L e s m args below meth c A Q H locs ls' hC hE hA hP hD hS (lv_mem h' (fun q hq => stI_mem hq)) hF)
theorem tj_aload_n {x : Nat} {j : Fin 4} {n : Nat} (hn : pc + 1 = n) (hd : decode k.2.1 pc = .ok (.aload_n j, 1)) (hk : l.lookup (j : Nat) = some (.ref x)) (kk : T E k cu su ws n l (.ref x :: st) Φ) : T E k cu su ws pc l (st) Φ := by
  subst hn
  intro p L e s m args below meth c A Q H locs ls hC hE hA hP hD hS hl hF
  exact lv_aload_n hC.1 hC.2.1 hd rfl (lv_lk hl hk) (kk p L e s m args below meth c A Q H locs ls hC hE hA hP hD hS hl hF)
theorem tj_aload {x : Nat} {j : Nat} {n : Nat} (hn : pc + 2 = n) (hd : decode k.2.1 pc = .ok (.aload j, 2)) (hk : l.lookup j = some (.ref x)) (kk : T E k cu su ws n l (.ref x :: st) Φ) : T E k cu su ws pc l (st) Φ := by
  subst hn
  intro p L e s m args below meth c A Q H locs ls hC hE hA hP hD hS hl hF
  exact lv_aload hC.1 hC.2.1 hd (lv_lk hl hk) (kk p L e s m args below meth c A Q H locs ls hC hE hA hP hD hS hl hF)
theorem tj_astore_n {x : Nat} {j : Fin 4} {n : Nat} {l' : List (Nat × Value)} (hn : pc + 1 = n) (hd : decode k.2.1 pc = .ok (.astore_n j, 1)) (hj : (j : Nat) < k.2.2.1) (hl' : st1 l (j : Nat) (.ref x) = l') (kk : T E k cu su ws n l' st Φ) : T E k cu su ws pc l (.ref x :: st) Φ := by
  subst hn
  subst hl'
  intro p L e s m args below meth c A Q H locs ls hC hE hA hP hD hS hl hF
  exact lv_astore_n hC.1 hC.2.1 hd rfl hl hj rfl (fun ls' h' => kk p L e s m args below meth c A Q H locs ls' hC hE hA hP hD hS (lv_mem h' (fun q hq => stI_mem hq)) hF)
theorem tj_astore {x : Nat} {j : Nat} {n : Nat} {l' : List (Nat × Value)} (hn : pc + 2 = n) (hd : decode k.2.1 pc = .ok (.astore j, 2)) (hj : j < k.2.2.1) (hl' : st1 l j (.ref x) = l') (kk : T E k cu su ws n l' st Φ) : T E k cu su ws pc l (.ref x :: st) Φ := by
  subst hn
  subst hl'
  intro p L e s m args below meth c A Q H locs ls hC hE hA hP hD hS hl hF
  exact lv_astore hC.1 hC.2.1 hd hl hj rfl (fun ls' h' => kk p L e s m args below meth c A Q H locs ls' hC hE hA hP hD hS (lv_mem h' (fun q hq => stI_mem hq)) hF)
theorem tj_iinc {x v : Int32} {j : Nat} {z : Int} {n : Nat} {l' : List (Nat × Value)} (hn : pc + 3 = n) (hd : decode k.2.1 pc = .ok (.iinc j z, 3)) (hk : l.lookup j = some (.int x)) (hj : j < k.2.2.1) (hv : x + Int32.ofInt z = v) (hl' : st1 l j (.int v) = l') (kk : T E k cu su ws n l' st Φ) : T E k cu su ws pc l st Φ := by
  subst hn
  subst hl'
  intro p L e s m args below meth c A Q H locs ls hC hE hA hP hD hS hl hF
  obtain ⟨i0, hi0⟩ := lk_at hk
  exact lv_iinc hC.1 hC.2.1 hd hl hi0 hv hj rfl (fun ls' h' => kk p L e s m args below meth c A Q H locs ls' hC hE hA hP hD hS (lv_mem h' (fun q hq => stI_mem hq)) hF)
theorem tj_iadd {x y : Int32} {n : Nat} (hn : pc + 1 = n) (hd : decode k.2.1 pc = .ok (.iadd, 1))  (kk : T E k cu su ws n l (.int (x + y) :: st) Φ) : T E k cu su ws pc l (.int y :: .int x :: st) Φ := by
  subst hn
  intro p L e s m args below meth c A Q H locs ls hC hE hA hP hD hS hl hF
  exact lv_iadd hC.1 hC.2.1 hd (kk p L e s m args below meth c A Q H locs ls hC hE hA hP hD hS hl hF)
theorem tj_isub {x y : Int32} {n : Nat} (hn : pc + 1 = n) (hd : decode k.2.1 pc = .ok (.isub, 1))  (kk : T E k cu su ws n l (.int (x - y) :: st) Φ) : T E k cu su ws pc l (.int y :: .int x :: st) Φ := by
  subst hn
  intro p L e s m args below meth c A Q H locs ls hC hE hA hP hD hS hl hF
  exact lv_isub hC.1 hC.2.1 hd (kk p L e s m args below meth c A Q H locs ls hC hE hA hP hD hS hl hF)
theorem tj_imul {x y : Int32} {n : Nat} (hn : pc + 1 = n) (hd : decode k.2.1 pc = .ok (.imul, 1))  (kk : T E k cu su ws n l (.int (x * y) :: st) Φ) : T E k cu su ws pc l (.int y :: .int x :: st) Φ := by
  subst hn
  intro p L e s m args below meth c A Q H locs ls hC hE hA hP hD hS hl hF
  exact lv_imul hC.1 hC.2.1 hd (kk p L e s m args below meth c A Q H locs ls hC hE hA hP hD hS hl hF)
theorem tj_iand {x y : Int32} {n : Nat} (hn : pc + 1 = n) (hd : decode k.2.1 pc = .ok (.iand, 1))  (kk : T E k cu su ws n l (.int (x &&& y) :: st) Φ) : T E k cu su ws pc l (.int y :: .int x :: st) Φ := by
  subst hn
  intro p L e s m args below meth c A Q H locs ls hC hE hA hP hD hS hl hF
  exact lv_iand hC.1 hC.2.1 hd (kk p L e s m args below meth c A Q H locs ls hC hE hA hP hD hS hl hF)
theorem tj_ior {x y : Int32} {n : Nat} (hn : pc + 1 = n) (hd : decode k.2.1 pc = .ok (.ior, 1))  (kk : T E k cu su ws n l (.int (x ||| y) :: st) Φ) : T E k cu su ws pc l (.int y :: .int x :: st) Φ := by
  subst hn
  intro p L e s m args below meth c A Q H locs ls hC hE hA hP hD hS hl hF
  exact lv_ior hC.1 hC.2.1 hd (kk p L e s m args below meth c A Q H locs ls hC hE hA hP hD hS hl hF)
theorem tj_ixor {x y : Int32} {n : Nat} (hn : pc + 1 = n) (hd : decode k.2.1 pc = .ok (.ixor, 1))  (kk : T E k cu su ws n l (.int (x ^^^ y) :: st) Φ) : T E k cu su ws pc l (.int y :: .int x :: st) Φ := by
  subst hn
  intro p L e s m args below meth c A Q H locs ls hC hE hA hP hD hS hl hF
  exact lv_ixor hC.1 hC.2.1 hd (kk p L e s m args below meth c A Q H locs ls hC hE hA hP hD hS hl hF)
theorem tj_ishl {x y : Int32} {n : Nat} (hn : pc + 1 = n) (hd : decode k.2.1 pc = .ok (.ishl, 1))  (kk : T E k cu su ws n l (.int (x <<< (y &&& 31)) :: st) Φ) : T E k cu su ws pc l (.int y :: .int x :: st) Φ := by
  subst hn
  intro p L e s m args below meth c A Q H locs ls hC hE hA hP hD hS hl hF
  exact lv_ishl hC.1 hC.2.1 hd (kk p L e s m args below meth c A Q H locs ls hC hE hA hP hD hS hl hF)
theorem tj_ishr {x y : Int32} {n : Nat} (hn : pc + 1 = n) (hd : decode k.2.1 pc = .ok (.ishr, 1))  (kk : T E k cu su ws n l (.int (x >>> (y &&& 31)) :: st) Φ) : T E k cu su ws pc l (.int y :: .int x :: st) Φ := by
  subst hn
  intro p L e s m args below meth c A Q H locs ls hC hE hA hP hD hS hl hF
  exact lv_ishr hC.1 hC.2.1 hd (kk p L e s m args below meth c A Q H locs ls hC hE hA hP hD hS hl hF)
theorem tj_idiv {x y : Int32} {n : Nat} (hn : pc + 1 = n) (hd : decode k.2.1 pc = .ok (.idiv, 1)) (hne : ¬ y = 0) (kk : T E k cu su ws n l (.int (x / y) :: st) Φ) : T E k cu su ws pc l (.int y :: .int x :: st) Φ := by
  subst hn
  intro p L e s m args below meth c A Q H locs ls hC hE hA hP hD hS hl hF
  exact lv_idiv hC.1 hC.2.1 hd hne (kk p L e s m args below meth c A Q H locs ls hC hE hA hP hD hS hl hF)
theorem tj_irem {x y : Int32} {n : Nat} (hn : pc + 1 = n) (hd : decode k.2.1 pc = .ok (.irem, 1)) (hne : ¬ y = 0) (kk : T E k cu su ws n l (.int (x - x / y * y) :: st) Φ) : T E k cu su ws pc l (.int y :: .int x :: st) Φ := by
  subst hn
  intro p L e s m args below meth c A Q H locs ls hC hE hA hP hD hS hl hF
  exact lv_irem hC.1 hC.2.1 hd hne (kk p L e s m args below meth c A Q H locs ls hC hE hA hP hD hS hl hF)
theorem tj_ladd {x y : Int64} {n : Nat} (hn : pc + 1 = n) (hd : decode k.2.1 pc = .ok (.ladd, 1))  (kk : T E k cu su ws n l (.long (x + y) :: st) Φ) : T E k cu su ws pc l (.long y :: .long x :: st) Φ := by
  subst hn
  intro p L e s m args below meth c A Q H locs ls hC hE hA hP hD hS hl hF
  exact lv_ladd hC.1 hC.2.1 hd (kk p L e s m args below meth c A Q H locs ls hC hE hA hP hD hS hl hF)
theorem tj_lsub {x y : Int64} {n : Nat} (hn : pc + 1 = n) (hd : decode k.2.1 pc = .ok (.lsub, 1))  (kk : T E k cu su ws n l (.long (x - y) :: st) Φ) : T E k cu su ws pc l (.long y :: .long x :: st) Φ := by
  subst hn
  intro p L e s m args below meth c A Q H locs ls hC hE hA hP hD hS hl hF
  exact lv_lsub hC.1 hC.2.1 hd (kk p L e s m args below meth c A Q H locs ls hC hE hA hP hD hS hl hF)
theorem tj_lmul {x y : Int64} {n : Nat} (hn : pc + 1 = n) (hd : decode k.2.1 pc = .ok (.lmul, 1))  (kk : T E k cu su ws n l (.long (x * y) :: st) Φ) : T E k cu su ws pc l (.long y :: .long x :: st) Φ := by
  subst hn
  intro p L e s m args below meth c A Q H locs ls hC hE hA hP hD hS hl hF
  exact lv_lmul hC.1 hC.2.1 hd (kk p L e s m args below meth c A Q H locs ls hC hE hA hP hD hS hl hF)
theorem tj_land {x y : Int64} {n : Nat} (hn : pc + 1 = n) (hd : decode k.2.1 pc = .ok (.land, 1))  (kk : T E k cu su ws n l (.long (x &&& y) :: st) Φ) : T E k cu su ws pc l (.long y :: .long x :: st) Φ := by
  subst hn
  intro p L e s m args below meth c A Q H locs ls hC hE hA hP hD hS hl hF
  exact lv_land hC.1 hC.2.1 hd (kk p L e s m args below meth c A Q H locs ls hC hE hA hP hD hS hl hF)
theorem tj_lor {x y : Int64} {n : Nat} (hn : pc + 1 = n) (hd : decode k.2.1 pc = .ok (.lor, 1))  (kk : T E k cu su ws n l (.long (x ||| y) :: st) Φ) : T E k cu su ws pc l (.long y :: .long x :: st) Φ := by
  subst hn
  intro p L e s m args below meth c A Q H locs ls hC hE hA hP hD hS hl hF
  exact lv_lor hC.1 hC.2.1 hd (kk p L e s m args below meth c A Q H locs ls hC hE hA hP hD hS hl hF)
theorem tj_lshl {x : Int64} {y : Int32} {n : Nat} (hn : pc + 1 = n) (hd : decode k.2.1 pc = .ok (.lshl, 1))  (kk : T E k cu su ws n l (.long (x <<< (y.toInt64 &&& 63)) :: st) Φ) : T E k cu su ws pc l (.int y :: .long x :: st) Φ := by
  subst hn
  intro p L e s m args below meth c A Q H locs ls hC hE hA hP hD hS hl hF
  exact lv_lshl hC.1 hC.2.1 hd rfl (kk p L e s m args below meth c A Q H locs ls hC hE hA hP hD hS hl hF)
theorem tj_lshr {x : Int64} {y : Int32} {n : Nat} (hn : pc + 1 = n) (hd : decode k.2.1 pc = .ok (.lshr, 1))  (kk : T E k cu su ws n l (.long (x >>> (y.toInt64 &&& 63)) :: st) Φ) : T E k cu su ws pc l (.int y :: .long x :: st) Φ := by
  subst hn
  intro p L e s m args below meth c A Q H locs ls hC hE hA hP hD hS hl hF
  exact lv_lshr hC.1 hC.2.1 hd rfl (kk p L e s m args below meth c A Q H locs ls hC hE hA hP hD hS hl hF)
theorem tj_lushr {x : Int64} {y : Int32} {n : Nat} (hn : pc + 1 = n) (hd : decode k.2.1 pc = .ok (.lushr, 1))  (kk : T E k cu su ws n l (.long ((x.toUInt64 >>> (y.toInt64.toUInt64 &&& Int64.toUInt64 63)).toInt64) :: st) Φ) : T E k cu su ws pc l (.int y :: .long x :: st) Φ := by
  subst hn
  intro p L e s m args below meth c A Q H locs ls hC hE hA hP hD hS hl hF
  exact lv_lushr hC.1 hC.2.1 hd rfl (kk p L e s m args below meth c A Q H locs ls hC hE hA hP hD hS hl hF)
theorem tj_i2l {x : Int32} {n : Nat} (hn : pc + 1 = n) (hd : decode k.2.1 pc = .ok (.i2l, 1))  (kk : T E k cu su ws n l (.long x.toInt64 :: st) Φ) : T E k cu su ws pc l (.int x :: st) Φ := by
  subst hn
  intro p L e s m args below meth c A Q H locs ls hC hE hA hP hD hS hl hF
  exact lv_i2l hC.1 hC.2.1 hd rfl (kk p L e s m args below meth c A Q H locs ls hC hE hA hP hD hS hl hF)
theorem tj_l2i {x : Int64} {n : Nat} (hn : pc + 1 = n) (hd : decode k.2.1 pc = .ok (.l2i, 1))  (kk : T E k cu su ws n l (.int x.toInt32 :: st) Φ) : T E k cu su ws pc l (.long x :: st) Φ := by
  subst hn
  intro p L e s m args below meth c A Q H locs ls hC hE hA hP hD hS hl hF
  exact lv_l2i hC.1 hC.2.1 hd rfl (kk p L e s m args below meth c A Q H locs ls hC hE hA hP hD hS hl hF)
theorem tj_i2b {x : Int32} {n : Nat} (hn : pc + 1 = n) (hd : decode k.2.1 pc = .ok (.i2b, 1))  (kk : T E k cu su ws n l (.int x.toInt8.toInt32 :: st) Φ) : T E k cu su ws pc l (.int x :: st) Φ := by
  subst hn
  intro p L e s m args below meth c A Q H locs ls hC hE hA hP hD hS hl hF
  exact lv_i2b hC.1 hC.2.1 hd rfl (kk p L e s m args below meth c A Q H locs ls hC hE hA hP hD hS hl hF)
theorem tj_i2s {x : Int32} {n : Nat} (hn : pc + 1 = n) (hd : decode k.2.1 pc = .ok (.i2s, 1))  (kk : T E k cu su ws n l (.int x.toInt16.toInt32 :: st) Φ) : T E k cu su ws pc l (.int x :: st) Φ := by
  subst hn
  intro p L e s m args below meth c A Q H locs ls hC hE hA hP hD hS hl hF
  exact lv_i2s hC.1 hC.2.1 hd rfl (kk p L e s m args below meth c A Q H locs ls hC hE hA hP hD hS hl hF)
theorem tj_i2c {x : Int32} {n : Nat} (hn : pc + 1 = n) (hd : decode k.2.1 pc = .ok (.i2c, 1))  (kk : T E k cu su ws n l (.int (x.toUInt32 % 65536).toInt32 :: st) Φ) : T E k cu su ws pc l (.int x :: st) Φ := by
  subst hn
  intro p L e s m args below meth c A Q H locs ls hC hE hA hP hD hS hl hF
  exact lv_i2c hC.1 hC.2.1 hd rfl (kk p L e s m args below meth c A Q H locs ls hC hE hA hP hD hS hl hF)
theorem tj_lcmp {x y : Int64} {n : Nat} (hn : pc + 1 = n) (hd : decode k.2.1 pc = .ok (.lcmp, 1))  (kk : T E k cu su ws n l (.int (lg_cmp x y) :: st) Φ) : T E k cu su ws pc l (.long y :: .long x :: st) Φ := by
  subst hn
  intro p L e s m args below meth c A Q H locs ls hC hE hA hP hD hS hl hF
  exact W.lcmp hC.1 hC.2.1 hd (kk p L e s m args below meth c A Q H locs ls hC hE hA hP hD hS hl hF)
theorem tj_dup {v : Value} {n : Nat} (hn : pc + 1 = n) (hd : decode k.2.1 pc = .ok (.dup, 1)) (hv : v.category = 1) (kk : T E k cu su ws n l (v :: v :: st) Φ) : T E k cu su ws pc l (v :: st) Φ := by
  subst hn
  intro p L e s m args below meth c A Q H locs ls hC hE hA hP hD hS hl hF
  exact lv_dup hC.1 hC.2.1 hd hv (kk p L e s m args below meth c A Q H locs ls hC hE hA hP hD hS hl hF)
theorem tj_pop {v : Value} {n : Nat} (hn : pc + 1 = n) (hd : decode k.2.1 pc = .ok (.pop, 1)) (hv : v.category = 1) (kk : T E k cu su ws n l (st) Φ) : T E k cu su ws pc l (v :: st) Φ := by
  subst hn
  intro p L e s m args below meth c A Q H locs ls hC hE hA hP hD hS hl hF
  exact lv_pop hC.1 hC.2.1 hd hv (kk p L e s m args below meth c A Q H locs ls hC hE hA hP hD hS hl hF)
theorem tj_dup2 {v u : Value} {n : Nat} (hn : pc + 1 = n) (hd : decode k.2.1 pc = .ok (.dup2, 1)) (hv : v.category = 1) (hu : u.category = 1) (kk : T E k cu su ws n l (v :: u :: v :: u :: st) Φ) : T E k cu su ws pc l (v :: u :: st) Φ := by
  subst hn
  intro p L e s m args below meth c A Q H locs ls hC hE hA hP hD hS hl hF
  exact lv_dup2_11 hC.1 hC.2.1 hd hv hu (kk p L e s m args below meth c A Q H locs ls hC hE hA hP hD hS hl hF)
theorem tj_ldc {v : Int32} {j : Nat} {n : Nat} (hn : pc + 2 = n) (hd : decode k.2.1 pc = .ok (.ldc j, 2)) (hc : Cond.constant k.1.cls j v ∈ TB) (kk : T E k cu su ws n l (.int v :: st) Φ) : T E k cu su ws pc l (st) Φ := by
  subst hn
  intro p L e s m args below meth c A Q H locs ls hC hE hA hP hD hS hl hF
  exact lv_ldc hC.1 hC.2.1 hC.2.2.2.1 (hC.2.2.2.2.1 _ hc) hd (kk p L e s m args below meth c A Q H locs ls hC hE hA hP hD hS hl hF)
theorem tj_ldcw {v : Int32} {j : Nat} {n : Nat} (hn : pc + 3 = n) (hd : decode k.2.1 pc = .ok (.ldc_w j, 3)) (hc : Cond.constant k.1.cls j v ∈ TB) (kk : T E k cu su ws n l (.int v :: st) Φ) : T E k cu su ws pc l (st) Φ := by
  subst hn
  intro p L e s m args below meth c A Q H locs ls hC hE hA hP hD hS hl hF
  exact lv_ldcw hC.1 hC.2.1 hC.2.2.2.1 (hC.2.2.2.2.1 _ hc) hd (kk p L e s m args below meth c A Q H locs ls hC hE hA hP hD hS hl hF)
theorem tj_ldc2 {v : Int64} {j : Nat} {n : Nat} (hn : pc + 3 = n) (hd : decode k.2.1 pc = .ok (.ldc2_w j, 3)) (hc : Cond.constantLong k.1.cls j v ∈ TB) (kk : T E k cu su ws n l (.long v :: st) Φ) : T E k cu su ws pc l (st) Φ := by
  subst hn
  intro p L e s m args below meth c A Q H locs ls hC hE hA hP hD hS hl hF
  exact lv_ldc2 hC.1 hC.2.1 hC.2.2.2.1 (hC.2.2.2.2.1 _ hc) hd (kk p L e s m args below meth c A Q H locs ls hC hE hA hP hD hS hl hF)
theorem tj_ldcS {i j : Nat} {n : Nat} (hn : pc + 2 = n) (hd : decode k.2.1 pc = .ok (.ldc j, 2)) (hi : i < 4) (hj : ixJS.getD i 0 = j) (hk : k.1.cls = RX4) (kk : T E k cu su ws n l (.ref (E.2.2.1 i) :: st) Φ) : T E k cu su ws pc l (st) Φ := by
  subst hn
  intro p L e s m args below meth c A Q H locs ls hC hE hA hP hD hS hl hF
  exact by subst hj; exact va_ldcS hC.1 hC.2.1 (hk ▸ hC.2.2.2.1) (hE.2.2.1 i hi) hd (kk p L e s m args below meth c A Q H locs ls hC hE hA hP hD hS hl hF)
theorem tj_if_eq {x : Int32} {off : Int} {n tgt : Nat} (hn : pc + 3 = n) (ht : (pc : Int) + off = (tgt : Int)) (hd : decode k.2.1 pc = .ok (.ifCond .eq off, 3)) (kt : x = 0 → T E k cu su ws tgt l st Φ) (kf : ¬ (x = 0) → T E k cu su ws n l st Φ) : T E k cu su ws pc l (.int x :: st) Φ := by
  subst hn
  intro p L e s m args below meth c A Q H locs ls hC hE hA hP hD hS hl hF
  exact lv_if_eq hC.1 hC.2.1 hd ht (fun h9 => kt h9 p L e s m args below meth c A Q H locs ls hC hE hA hP hD hS hl hF) (fun h9 => kf h9 p L e s m args below meth c A Q H locs ls hC hE hA hP hD hS hl hF)
theorem tj_icmp_eq {x y : Int32} {off : Int} {n tgt : Nat} (hn : pc + 3 = n) (ht : (pc : Int) + off = (tgt : Int)) (hd : decode k.2.1 pc = .ok (.if_icmp .eq off, 3)) (kt : x = y → T E k cu su ws tgt l st Φ) (kf : ¬ (x = y) → T E k cu su ws n l st Φ) : T E k cu su ws pc l (.int y :: .int x :: st) Φ := by
  subst hn
  intro p L e s m args below meth c A Q H locs ls hC hE hA hP hD hS hl hF
  exact lv_icmp_eq hC.1 hC.2.1 hd ht (fun h9 => kt h9 p L e s m args below meth c A Q H locs ls hC hE hA hP hD hS hl hF) (fun h9 => kf h9 p L e s m args below meth c A Q H locs ls hC hE hA hP hD hS hl hF)
theorem tj_if_ne {x : Int32} {off : Int} {n tgt : Nat} (hn : pc + 3 = n) (ht : (pc : Int) + off = (tgt : Int)) (hd : decode k.2.1 pc = .ok (.ifCond .ne off, 3)) (kt : ¬ x = 0 → T E k cu su ws tgt l st Φ) (kf : x = 0 → T E k cu su ws n l st Φ) : T E k cu su ws pc l (.int x :: st) Φ := by
  subst hn
  intro p L e s m args below meth c A Q H locs ls hC hE hA hP hD hS hl hF
  exact lv_if_ne hC.1 hC.2.1 hd ht (fun h9 => kt h9 p L e s m args below meth c A Q H locs ls hC hE hA hP hD hS hl hF) (fun h9 => kf h9 p L e s m args below meth c A Q H locs ls hC hE hA hP hD hS hl hF)
theorem tj_icmp_ne {x y : Int32} {off : Int} {n tgt : Nat} (hn : pc + 3 = n) (ht : (pc : Int) + off = (tgt : Int)) (hd : decode k.2.1 pc = .ok (.if_icmp .ne off, 3)) (kt : ¬ x = y → T E k cu su ws tgt l st Φ) (kf : x = y → T E k cu su ws n l st Φ) : T E k cu su ws pc l (.int y :: .int x :: st) Φ := by
  subst hn
  intro p L e s m args below meth c A Q H locs ls hC hE hA hP hD hS hl hF
  exact lv_icmp_ne hC.1 hC.2.1 hd ht (fun h9 => kt h9 p L e s m args below meth c A Q H locs ls hC hE hA hP hD hS hl hF) (fun h9 => kf h9 p L e s m args below meth c A Q H locs ls hC hE hA hP hD hS hl hF)
theorem tj_if_lt {x : Int32} {off : Int} {n tgt : Nat} (hn : pc + 3 = n) (ht : (pc : Int) + off = (tgt : Int)) (hd : decode k.2.1 pc = .ok (.ifCond .lt off, 3)) (kt : x < 0 → T E k cu su ws tgt l st Φ) (kf : ¬ (x < 0) → T E k cu su ws n l st Φ) : T E k cu su ws pc l (.int x :: st) Φ := by
  subst hn
  intro p L e s m args below meth c A Q H locs ls hC hE hA hP hD hS hl hF
  exact lv_if_lt hC.1 hC.2.1 hd ht (fun h9 => kt h9 p L e s m args below meth c A Q H locs ls hC hE hA hP hD hS hl hF) (fun h9 => kf h9 p L e s m args below meth c A Q H locs ls hC hE hA hP hD hS hl hF)
theorem tj_icmp_lt {x y : Int32} {off : Int} {n tgt : Nat} (hn : pc + 3 = n) (ht : (pc : Int) + off = (tgt : Int)) (hd : decode k.2.1 pc = .ok (.if_icmp .lt off, 3)) (kt : x < y → T E k cu su ws tgt l st Φ) (kf : ¬ (x < y) → T E k cu su ws n l st Φ) : T E k cu su ws pc l (.int y :: .int x :: st) Φ := by
  subst hn
  intro p L e s m args below meth c A Q H locs ls hC hE hA hP hD hS hl hF
  exact lv_icmp_lt hC.1 hC.2.1 hd ht (fun h9 => kt h9 p L e s m args below meth c A Q H locs ls hC hE hA hP hD hS hl hF) (fun h9 => kf h9 p L e s m args below meth c A Q H locs ls hC hE hA hP hD hS hl hF)
theorem tj_if_ge {x : Int32} {off : Int} {n tgt : Nat} (hn : pc + 3 = n) (ht : (pc : Int) + off = (tgt : Int)) (hd : decode k.2.1 pc = .ok (.ifCond .ge off, 3)) (kt : 0 ≤ x → T E k cu su ws tgt l st Φ) (kf : ¬ (0 ≤ x) → T E k cu su ws n l st Φ) : T E k cu su ws pc l (.int x :: st) Φ := by
  subst hn
  intro p L e s m args below meth c A Q H locs ls hC hE hA hP hD hS hl hF
  exact lv_if_ge hC.1 hC.2.1 hd ht (fun h9 => kt h9 p L e s m args below meth c A Q H locs ls hC hE hA hP hD hS hl hF) (fun h9 => kf h9 p L e s m args below meth c A Q H locs ls hC hE hA hP hD hS hl hF)
theorem tj_icmp_ge {x y : Int32} {off : Int} {n tgt : Nat} (hn : pc + 3 = n) (ht : (pc : Int) + off = (tgt : Int)) (hd : decode k.2.1 pc = .ok (.if_icmp .ge off, 3)) (kt : y ≤ x → T E k cu su ws tgt l st Φ) (kf : ¬ (y ≤ x) → T E k cu su ws n l st Φ) : T E k cu su ws pc l (.int y :: .int x :: st) Φ := by
  subst hn
  intro p L e s m args below meth c A Q H locs ls hC hE hA hP hD hS hl hF
  exact lv_icmp_ge hC.1 hC.2.1 hd ht (fun h9 => kt h9 p L e s m args below meth c A Q H locs ls hC hE hA hP hD hS hl hF) (fun h9 => kf h9 p L e s m args below meth c A Q H locs ls hC hE hA hP hD hS hl hF)
theorem tj_if_gt {x : Int32} {off : Int} {n tgt : Nat} (hn : pc + 3 = n) (ht : (pc : Int) + off = (tgt : Int)) (hd : decode k.2.1 pc = .ok (.ifCond .gt off, 3)) (kt : 0 < x → T E k cu su ws tgt l st Φ) (kf : ¬ (0 < x) → T E k cu su ws n l st Φ) : T E k cu su ws pc l (.int x :: st) Φ := by
  subst hn
  intro p L e s m args below meth c A Q H locs ls hC hE hA hP hD hS hl hF
  exact lv_if_gt hC.1 hC.2.1 hd ht (fun h9 => kt h9 p L e s m args below meth c A Q H locs ls hC hE hA hP hD hS hl hF) (fun h9 => kf h9 p L e s m args below meth c A Q H locs ls hC hE hA hP hD hS hl hF)
theorem tj_icmp_gt {x y : Int32} {off : Int} {n tgt : Nat} (hn : pc + 3 = n) (ht : (pc : Int) + off = (tgt : Int)) (hd : decode k.2.1 pc = .ok (.if_icmp .gt off, 3)) (kt : y < x → T E k cu su ws tgt l st Φ) (kf : ¬ (y < x) → T E k cu su ws n l st Φ) : T E k cu su ws pc l (.int y :: .int x :: st) Φ := by
  subst hn
  intro p L e s m args below meth c A Q H locs ls hC hE hA hP hD hS hl hF
  exact lv_icmp_gt hC.1 hC.2.1 hd ht (fun h9 => kt h9 p L e s m args below meth c A Q H locs ls hC hE hA hP hD hS hl hF) (fun h9 => kf h9 p L e s m args below meth c A Q H locs ls hC hE hA hP hD hS hl hF)
theorem tj_if_le {x : Int32} {off : Int} {n tgt : Nat} (hn : pc + 3 = n) (ht : (pc : Int) + off = (tgt : Int)) (hd : decode k.2.1 pc = .ok (.ifCond .le off, 3)) (kt : x ≤ 0 → T E k cu su ws tgt l st Φ) (kf : ¬ (x ≤ 0) → T E k cu su ws n l st Φ) : T E k cu su ws pc l (.int x :: st) Φ := by
  subst hn
  intro p L e s m args below meth c A Q H locs ls hC hE hA hP hD hS hl hF
  exact lv_if_le hC.1 hC.2.1 hd ht (fun h9 => kt h9 p L e s m args below meth c A Q H locs ls hC hE hA hP hD hS hl hF) (fun h9 => kf h9 p L e s m args below meth c A Q H locs ls hC hE hA hP hD hS hl hF)
theorem tj_icmp_le {x y : Int32} {off : Int} {n tgt : Nat} (hn : pc + 3 = n) (ht : (pc : Int) + off = (tgt : Int)) (hd : decode k.2.1 pc = .ok (.if_icmp .le off, 3)) (kt : x ≤ y → T E k cu su ws tgt l st Φ) (kf : ¬ (x ≤ y) → T E k cu su ws n l st Φ) : T E k cu su ws pc l (.int y :: .int x :: st) Φ := by
  subst hn
  intro p L e s m args below meth c A Q H locs ls hC hE hA hP hD hS hl hF
  exact lv_icmp_le hC.1 hC.2.1 hd ht (fun h9 => kt h9 p L e s m args below meth c A Q H locs ls hC hE hA hP hD hS hl hF) (fun h9 => kf h9 p L e s m args below meth c A Q H locs ls hC hE hA hP hD hS hl hF)
theorem tj_goto {off : Int} {tgt : Nat} (ht : (pc : Int) + off = (tgt : Int)) (hd : decode k.2.1 pc = .ok (.goto off, 3)) (kk : T E k cu su ws tgt l st Φ) : T E k cu su ws pc l st Φ := by
  intro p L e s m args below meth c A Q H locs ls hC hE hA hP hD hS hl hF
  exact lv_goto hC.1 hC.2.1 hd ht (kk p L e s m args below meth c A Q H locs ls hC hE hA hP hD hS hl hF)
theorem tj_lookup {x : Int32} {dflt : Int} {ps : Array (Int × Int)} {len : Nat} {off : Int} {tgt : Nat} (hd : decode k.2.1 pc = .ok (.lookupswitch dflt ps, len)) (hp : (ps.toList.zip (ps.toList.drop 1)).all (fun (a, next) => a.1 < next.1) = true) (ho : Op.lookupswitch.offset ps.toList dflt x.toInt = off) (ht : (pc : Int) + off = (tgt : Int)) (kk : T E k cu su ws tgt l st Φ) : T E k cu su ws pc l (.int x :: st) Φ := by
  intro p L e s m args below meth c A Q H locs ls hC hE hA hP hD hS hl hF
  exact lv_lookup hC.1 hC.2.1 hd hp ho ht (kk p L e s m args below meth c A Q H locs ls hC hE hA hP hD hS hl hF)
theorem tj_tableOut {x : Int32} {dflt lo hi : Int} {offs : Array Int} {len : Nat} {tgt : Nat} (hd : decode k.2.1 pc = .ok (.tableswitch dflt lo hi offs, len)) (h : x.toInt < lo ∨ hi < x.toInt) (ht : (pc : Int) + dflt = (tgt : Int)) (kk : T E k cu su ws tgt l st Φ) : T E k cu su ws pc l (.int x :: st) Φ := by
  intro p L e s m args below meth c A Q H locs ls hC hE hA hP hD hS hl hF
  exact lv_tableOut hC.1 hC.2.1 hd h ht (kk p L e s m args below meth c A Q H locs ls hC hE hA hP hD hS hl hF)
theorem tj_tableIn {x : Int32} {dflt lo hi : Int} {offs : Array Int} {len : Nat} {off : Int} {tgt : Nat} (hd : decode k.2.1 pc = .ok (.tableswitch dflt lo hi offs, len)) (h1 : ¬ x.toInt < lo) (h2 : ¬ hi < x.toInt) (ho : offs[(x.toInt - lo).toNat]? = some off) (ht : (pc : Int) + off = (tgt : Int)) (kk : T E k cu su ws tgt l st Φ) : T E k cu su ws pc l (.int x :: st) Φ := by
  intro p L e s m args below meth c A Q H locs ls hC hE hA hP hD hS hl hF
  exact lv_tableIn hC.1 hC.2.1 hd h1 h2 ho ht (kk p L e s m args below meth c A Q H locs ls hC hE hA hP hD hS hl hF)
theorem tj_ireturn {x : Int32} {ty : FieldType} (hd : decode k.2.1 pc = .ok (.ireturn, 1)) (hr : k.2.2.2.1 = some ty) (hx : narrow ty (.int x) = .int x) (hc : cu ≤ k.2.2.2.2.2.2.1) (hs : su ≤ k.2.2.2.2.2.2.2) (h : Φ (some (.int x)) ws) : T E k cu su ws pc l [.int x] Φ := by
  intro p L e s m args below meth c A Q H locs ls hC hE hA hP hD hS hl hF
  exact hF (some (.int x)) ws H locs ls cu su pc h hP hD hS hc hs ⟨ty, hr, hx, hd⟩
theorem tj_lreturn {x : Int64} (hd : decode k.2.1 pc = .ok (.lreturn, 1)) (hr : k.2.2.2.1 = some .long) (hc : cu ≤ k.2.2.2.2.2.2.1) (hs : su ≤ k.2.2.2.2.2.2.2) (h : Φ (some (.long x)) ws) : T E k cu su ws pc l [.long x] Φ := by
  intro p L e s m args below meth c A Q H locs ls hC hE hA hP hD hS hl hF
  exact hF (some (.long x)) ws H locs ls cu su pc h hP hD hS hc hs ⟨hr, hd⟩
theorem tj_return (hd : decode k.2.1 pc = .ok (.return_, 1)) (hr : k.2.2.2.1 = none) (hc : cu ≤ k.2.2.2.2.2.2.1) (hs : su ≤ k.2.2.2.2.2.2.2) (h : Φ none ws) : T E k cu su ws pc l [] Φ := by
  intro p L e s m args below meth c A Q H locs ls hC hE hA hP hD hS hl hF
  exact hF none ws H locs ls cu su pc h hP hD hS hc hs ⟨hr, hd⟩
/-- a class's table, as the rows of the kit want it -/
def ClsOk (ci : Nat) (C : String) (t : u_T) (N : Nat) (ty : Nat → FieldType) : Prop := vwCl[ci]? = some (C, t, N) ∧ (∀ w ∈ u_ws C t N, w ∈ TB) ∧ (∀ j, j < N → parseFieldDescriptor (t j).2.2.1 = some (ty j)) ∧ ∀ a, a < N → ∀ b, b < N → a ≠ b → (t a).2.1 ≠ (t b).2.1
theorem tj_getf {ci : Nat} {C : String} {t : u_T} {N : Nat} {ty : Nat → FieldType} (hcl : ClsOk ci C t N ty) {idx n a q : Nat} {fs : List Value} {v : Value} (hn : pc + 3 = n) (hd : decode k.2.1 pc = .ok (.getfield idx, 3)) (j : Nat) (hj : j < N) (hlk : Cond.fieldLink k.1.cls idx (t j).1 (t j).2.1 (t j).2.2.1 ∈ TB) (he : ws[q]? = some (a, .inr (ci, fs))) (hv : fs[j]? = some v) (kk : T E k cu su ws n l (v :: st) Φ) : T E k cu su ws pc l (.ref a :: st) Φ := by
  subst hn
  intro p L e s m args below meth c A Q H locs ls hC hE hA hP hD hS hl hF
  exact va_get hC.1 hC.2.1 hC.2.2.2.2.1 hcl.2.1 hC.2.2.2.1 hE.1 hP q he hcl.1 j hj (hC.2.2.2.2.1 _ hlk) (fun _ h => h) hv hd (kk p L e s m args below meth c A Q H locs ls hC hE hA hP hD hS hl hF)
theorem tj_putf {ci : Nat} {C : String} {t : u_T} {N : Nat} {ty : Nat → FieldType} (hcl : ClsOk ci C t N ty) {idx n a q : Nat} {fs : List Value} {v : Value} {ws' : va_W} (hn : pc + 3 = n) (hd : decode k.2.1 pc = .ok (.putfield idx, 3)) (j : Nat) (hj : j < N) (hlk : Cond.fieldLink k.1.cls idx (t j).1 (t j).2.1 (t j).2.2.1 ∈ TB) (hfin : (t j).2.2.2 = false) (hnr : narrow (ty j) v = v) (hft : fits (ty j) v = true) (he : ws[q]? = some (a, .inr (ci, fs))) (hlen : j < fs.length) (hw : ws.set q (a, .inr (ci, fs.set j v)) = ws') (kk : T E k cu su ws' n l st Φ) : T E k cu su ws pc l (v :: .ref a :: st) Φ := by
  subst hn
  subst hw
  intro p L e s m args below meth c A Q H locs ls hC hE hA hP hD hS hl hF
  exact va_put hC.1 hC.2.1 hC.2.2.2.2.1 hcl.2.1 ty hcl.2.2.1 hcl.2.2.2 hC.2.2.2.1 hE.1 hP hD hS q he hcl.1 j hj (hC.2.2.2.2.1 _ hlk) (fun _ h => h) hfin (hcl.2.2.1 j hj) hnr hft hlen hd (fun H1 locs1 hP1 hD1 hS1 => kk p L e s m args below meth c A Q H1 locs1 ls hC hE hA hP1 hD1 hS1 hl hF)
theorem tj_putF {ci : Nat} {C : String} {t : u_T} {N : Nat} {ty : Nat → FieldType} (hcl : ClsOk ci C t N ty) {idx n a q : Nat} {fs : List Value} {v : Value} {ws' : va_W} (hn : pc + 3 = n) (hd : decode k.2.1 pc = .ok (.putfield idx, 3)) (j : Nat) (hj : j < N) (hlk : Cond.fieldLink k.1.cls idx (t j).1 (t j).2.1 (t j).2.2.1 ∈ TB) (hfin : (t j).2.2.2 = true) (hini : k.1.name = "<init>") (hdecl : (t j).1 = k.1.cls) (hnr : narrow (ty j) v = v) (hft : fits (ty j) v = true) (he : ws[q]? = some (a, .inr (ci, fs))) (hlen : j < fs.length) (hw : ws.set q (a, .inr (ci, fs.set j v)) = ws') (kk : T E k cu su ws' n l st Φ) : T E k cu su ws pc l (v :: .ref a :: st) Φ := by
  subst hn
  subst hw
  intro p L e s m args below meth c A Q H locs ls hC hE hA hP hD hS hl hF
  exact va_putF hC.1 hC.2.1 hC.2.2.2.2.1 hcl.2.1 ty hcl.2.2.1 hcl.2.2.2 hC.2.2.2.1 hE.1 hP hD hS q he hcl.1 j hj (hC.2.2.2.2.1 _ hlk) (fun _ h => h) hfin (hC.2.2.2.2.2.2.2.trans hini) hdecl (hcl.2.2.1 j hj) hnr hft hlen hd (fun H1 locs1 hP1 hD1 hS1 => kk p L e s m args below meth c A Q H1 locs1 ls hC hE hA hP1 hD1 hS1 hl hF)
theorem tj_iald {n0 n a q : Nat} {f : Nat → Int32} {i : Int32} (hn : pc + 1 = n) (hd : decode k.2.1 pc = .ok (.iaload, 1)) (he : ws[q]? = some (a, .inl (E.2.1 0, n0, .inl f))) (hin : vp_in i n0) (kk : T E k cu su ws n l (.int (f i.toNatClampNeg) :: st) Φ) : T E k cu su ws pc l (.int i :: .ref a :: st) Φ := by
  subst hn
  intro p L e s m args below meth c A Q H locs ls hC hE hA hP hD hS hl hF
  exact va_iald hC.1 hC.2.1 hE.1 hP q 0 he rfl hin hd (kk p L e s m args below meth c A Q H locs ls hC hE hA hP hD hS hl hF)
theorem tj_zald {n0 n a q : Nat} {f : Nat → Int32} {i : Int32} (hn : pc + 1 = n) (hd : decode k.2.1 pc = .ok (.baload, 1)) (he : ws[q]? = some (a, .inl (E.2.1 1, n0, .inl f))) (hin : vp_in i n0) (kk : T E k cu su ws n l (.int (f i.toNatClampNeg) :: st) Φ) : T E k cu su ws pc l (.int i :: .ref a :: st) Φ := by
  subst hn
  intro p L e s m args below meth c A Q H locs ls hC hE hA hP hD hS hl hF
  exact va_zald hC.1 hC.2.1 hE.1 hP q 1 he rfl hin hd (kk p L e s m args below meth c A Q H locs ls hC hE hA hP hD hS hl hF)
theorem tj_iast {n0 n a q : Nat} {f : Nat → Int32} {i x : Int32} {ws' : va_W} (hn : pc + 1 = n) (hd : decode k.2.1 pc = .ok (.iastore, 1)) (he : ws[q]? = some (a, .inl (E.2.1 0, n0, .inl f))) (hin : vp_in i n0) (hw : ws.set q (a, .inl (E.2.1 0, n0, .inl (upd f i.toNatClampNeg (x)))) = ws') (kk : T E k cu su ws' n l st Φ) : T E k cu su ws pc l (.int x :: .int i :: .ref a :: st) Φ := by
  subst hn
  subst hw
  intro p L e s m args below meth c A Q H locs ls hC hE hA hP hD hS hl hF
  exact va_iast hC.1 hC.2.1 hE.1 hP hD hS q 0 he rfl hin hd (fun H1 locs1 hP1 hD1 hS1 => kk p L e s m args below meth c A Q H1 locs1 ls hC hE hA hP1 hD1 hS1 hl hF)
theorem tj_zast {n0 n a q : Nat} {f : Nat → Int32} {i x : Int32} {ws' : va_W} (hn : pc + 1 = n) (hd : decode k.2.1 pc = .ok (.bastore, 1)) (he : ws[q]? = some (a, .inl (E.2.1 1, n0, .inl f))) (hin : vp_in i n0) (hw : ws.set q (a, .inl (E.2.1 1, n0, .inl (upd f i.toNatClampNeg (vp_nar .boolean x)))) = ws') (kk : T E k cu su ws' n l st Φ) : T E k cu su ws pc l (.int x :: .int i :: .ref a :: st) Φ := by
  subst hn
  subst hw
  intro p L e s m args below meth c A Q H locs ls hC hE hA hP hD hS hl hF
  exact va_zast hC.1 hC.2.1 hE.1 hP hD hS q 1 he rfl hin hd (fun H1 locs1 hP1 hD1 hS1 => kk p L e s m args below meth c A Q H1 locs1 ls hC hE hA hP1 hD1 hS1 hl hF)
theorem tj_alen {tg n a q : Nat} {x : vp_A} {ty : FieldType} (hn : pc + 1 = n) (hd : decode k.2.1 pc = .ok (.arraylength, 1)) (he : ws[q]? = some (a, .inl (E.2.1 tg, x))) (ht : (tyL E.2.1)[tg]? = some (E.2.1 tg, ty)) (kk : T E k cu su ws n l (.int (Int32.ofNat x.1) :: st) Φ) : T E k cu su ws pc l (.ref a :: st) Φ := by
  subst hn
  intro p L e s m args below meth c A Q H locs ls hC hE hA hP hD hS hl hF
  exact va_alen hC.1 hC.2.1 hE.1 hP q tg he ht rfl hd (kk p L e s m args below meth c A Q H locs ls hC hE hA hP hD hS hl hF)
theorem tj_aald {tg n0 n a q : Nat} {f : Nat → Option Nat} {i : Int32} {ty : FieldType} (hn : pc + 1 = n) (hd : decode k.2.1 pc = .ok (.aaload, 1)) (he : ws[q]? = some (a, .inl (E.2.1 tg, n0, .inr (.inr (.inr (.inr f)))))) (ht : (tyL E.2.1)[tg]? = some (E.2.1 tg, ty)) (hty : ty.isReference = true) (hin : vp_in i n0) (kk : T E k cu su ws n l (va_rf (f i.toNatClampNeg) :: st) Φ) : T E k cu su ws pc l (.int i :: .ref a :: st) Φ := by
  subst hn
  intro p L e s m args below meth c A Q H locs ls hC hE hA hP hD hS hl hF
  have hlt : i.toNatClampNeg < n0 := Nat.not_le.mp fun q => hin (Or.inr q)
  exact W.aald (v := va_rf (f i.toNatClampNeg)) (ty := ty) hC.1 hC.2.1 (hP q _ he) ((hE.1.2 tg _ ht).1 n0 (fun j => va_rf (f j))) hty (fun q => by cases q) (by show ¬ (i < 0 ∨ (arrV _ _ _).slots.size ≤ _); rw [arrV_size]; exact hin) (by show (arrV _ _ _).slots[_]? = _; rw [arrV_read _ _ hlt]) rfl rfl hd (kk p L e s m args below meth c A Q H locs ls hC hE hA hP hD hS hl hF)
/-- the law's own script -/
theorem tj_sld {b L0 n : Nat} {xs : Nat → Int32} {i : Int32} (hsc : E.2.2.2.2 = some (b, L0, xs)) (hn : pc + 1 = n) (hd : decode k.2.1 pc = .ok (.iaload, 1)) (hin : vp_in i L0) (kk : T E k cu su ws n l (.int (xs i.toNatClampNeg) :: st) Φ) : T E k cu su ws pc l (.int i :: .ref b :: st) Φ := by
  subst hn
  intro p L e s m args below meth c A Q H locs ls hC hE hA hP hD hS hl hF
  have hx := hE.2.2.2.2.1
  rw [hsc] at hx
  exact va_sld hC.1 hC.2.1 hx.1 hx.2.1 hx.2.2 hS hin hd (kk p L e s m args below meth c A Q H locs ls hC hE hA hP hD hS hl hF)
theorem tj_slen {b L0 n : Nat} {xs : Nat → Int32} (hsc : E.2.2.2.2 = some (b, L0, xs)) (hn : pc + 1 = n) (hd : decode k.2.1 pc = .ok (.arraylength, 1)) (kk : T E k cu su ws n l (.int (Int32.ofNat L0) :: st) Φ) : T E k cu su ws pc l (.ref b :: st) Φ := by
  subst hn
  intro p L e s m args below meth c A Q H locs ls hC hE hA hP hD hS hl hF
  have hx := hE.2.2.2.2.1
  rw [hsc] at hx
  exact va_slen hC.1 hC.2.1 hx.1 hx.2.1 hx.2.2 hS hd (kk p L e s m args below meth c A Q H locs ls hC hE hA hP hD hS hl hF)
end TR
/-- a callee's end, over the whole world -/
def Qm (E : EV) (ws : va_W) (sz : Nat) (Φ : Option Value → va_W → Prop) : Array Value → State → Outcome → State → Prop := fun _ st oc t =>
  (∃ (r : Option Value) (ws' : va_W), oc = .returned r ∧ Φ r ws' ∧ va_P E.1 vwCl ws' t.heap ∧ va_D (va_A ws sz) ws') ∧ va_F (va_A ws sz) st t
def Pm (E : EV) (ws : va_W) (sz : Nat) (av : List Value) : Array Value → State → Prop := va_Pc av (fun U => U.heap.size = sz ∧ va_P E.1 vwCl ws U.heap ∧ va_D (fun _ => True) ws ∧ ExS E (va_A ws sz) U U.heap)
set_option maxHeartbeats 4000000 in
theorem met_of {E : EV} {k : MD} {ws : va_W} {av : List Value} {Φ : Option Value → va_W → Prop} (L : Launch) (sz : Nat) (hpl : plainName k.1.cls = true) (hlen : (lg_sl av).length ≤ k.2.2.1) (h : Tm E k ws av Φ) :
    Met L k.1 (md_ws k) (md_rm k) (Pm E ws sz av) (Qm E ws sz Φ) k.2.2.2.2.2.2.1 k.2.2.2.2.2.2.2 (va_A ws sz) := by
  refine Met.ofW (cc := k.2.1) (maxL := k.2.2.1) (ret := k.2.2.2.1) hpl rfl ?_
  intro p e s m args below meth c s₁ B hml hv
  obtain ⟨rfl, hsz, hP, hD0, hE⟩ := hv
  subst hsz
  have hts := atoms_spec (ws := md_ws k) B.pre
  have hx := B.exec
  have hb := B.bytes
  have hr := B.returns
  have hlocks := B.notSynchronized
  rw [lg_entry_eq]
  refine h p L e s m av.toArray below meth c (va_A ws s.heap.size) _ s.heap [] _ ⟨hx, hb, hml, findClass_of_methodNamed B.named, fun w hw => hts w (List.mem_cons_of_mem _ hw), hr, hlocks, (name_of_methodNamed B.named B.method).1⟩ hE (fun q h => Or.inr h) hP hD0.self va_S.rf (lv_entry av hlen) ?_
  intro r ws' H' locs' ls' cu' su' pc' hΦ hP' hD' hS' hc hs hrt
  refine W.widen hc hs ?_
  match r, hrt with
  | none, hrt => exact W.vret hx hb (hr.trans hrt.1) (fun t ht hW => ⟨⟨none, ws', rfl, hΦ, by rw [ht]; exact hP', hD'⟩, hS'.F ht⟩) hS'.2.2 hrt.2
  | some (.int v), hrt =>
    obtain ⟨ty, h1, h2, h3⟩ := hrt
    exact W.zret (ty := ty) hx hb (hr.trans h1) h2 (fun t ht hW => ⟨⟨some (.int v), ws', rfl, hΦ, by rw [ht]; exact hP', hD'⟩, hS'.F ht⟩) hS'.2.2 h3
  | some (.long v), hrt => exact W.lret hx hb (hr.trans hrt.1) (fun t ht hW => ⟨⟨some (.long v), ws', rfl, hΦ, by rw [ht]; exact hP', hD'⟩, hS'.F ht⟩) hS'.2.2 hrt.2
theorem exs_call {E : EV} {A B : Nat → Prop} {s U : State} {H : Heap} {locs : List Loc} (h : ExS E A s s.heap) (hS : va_S A s.heap H locs) (hB : ∀ q, B q → A q) (hU : U.heap = H) (hW : s.WarmedH U.vm) : ExS E B U U.heap := by
  subst hU
  obtain ⟨h1, h2, h3, h4, h5, h6⟩ := h
  have hq : ∀ a : Nat, a < s.heap.size → ¬ A a → U.heap[a]? = s.heap[a]? := hS.2.1
  refine ⟨va_K.moved hW.alike h1, vk_S.moved hW.alike ((h2.kept hq).narrow hB), fun i hi => (h3 i hi).warm hW, va_Z.moved hW.alike ((h4.kept hq).narrow hB), ?_, h6.warm hW⟩
  revert h5
  cases E.2.2.2.2 with
  | none => exact fun _ => trivial
  | some x =>
    obtain ⟨b, L, xs⟩ := x
    rintro ⟨g1, g2, g3⟩
    exact ⟨va_X.moved hW.alike (g1.kept (hq b g2 g3)), Nat.lt_of_lt_of_le g2 hS.1, fun z => g3 (hB b z)⟩
theorem pm_blind {E : EV} {ws : va_W} {sz : Nat} {av : List Value} : FrameBlind (Pm E ws sz av) := by
  intro a U g mk h
  obtain ⟨h0, h1, h2, h3, h4, h5, h6, h7, h8, h9⟩ := h
  refine ⟨h0, h1, h2, h3, va_K.moved (u := U) (U := U.calling g mk a) (Vm.Alike.refl U.vm) h4, vk_S.moved (u := U) (U := U.calling g mk a) (Vm.Alike.refl U.vm) h5, fun i hi => (h6 i hi).same rfl, va_Z.moved (u := U) (U := U.calling g mk a) (Vm.Alike.refl U.vm) h7, ?_, h9.same rfl⟩
  revert h8
  cases E.2.2.2.2 with
  | none => exact fun _ => trivial
  | some x =>
    obtain ⟨b, L, xs⟩ := x
    rintro ⟨g1, g2, g3⟩
    exact ⟨va_X.moved (u := U) (U := U.calling g mk a) (Vm.Alike.refl U.vm) g1, g2, g3⟩
section WC
variable {p : Program} {L : Launch} {e : Env} {R : Room} {s : State} {m : MethodId} {args : Array Value} {below : List Frame} {meth : Method} {c : Code} {H : Heap} {locs : List Loc} {cells slots : Nat} {Q : State → Prop}
variable {pc : Nat} {ls : Array Slot} {rest st0 : List Value} {a : Array Value} {A0 : Nat → Prop} {mc ms : Nat}
theorem w_free {ws : va_W} (hD : va_D A0 ws) (hA : ∀ q, s.heap.size ≤ q → A0 q) (hS : va_S A0 s.heap H locs) : ∀ q, va_A ws H.size q → A0 q := by
  intro q h
  rcases h with ⟨k, x, h⟩ | h
  · exact hD.2 k (q, x) h
  · exact hA q (Nat.le_trans hS.1 h)
theorem w_call {E : EV} {ws : va_W} {Ψ : Option Value → va_W → Prop} (hr : va_Run p L e R s m args below meth c H locs cells slots mc ms (F0 m pc ls st0) rest (Qm E ws H.size Ψ a) (va_A ws H.size)) (hD : va_D A0 ws) (hA : ∀ q, s.heap.size ≤ q → A0 q) (hS : va_S A0 s.heap H locs)
    (kk : ∀ (r : Option Value) (ws' : va_W) (H1 : Heap) (locs1 : List Loc), Ψ r ws' → va_P E.1 vwCl ws' H1 → va_D A0 ws' → va_S A0 s.heap H1 locs1 → W p L e R s m args below meth c H1 locs1 (cells + mc) (slots + ms) Q (F0 m (pc + 3) ls (pushR r rest))) : W p L e R s m args below meth c H locs cells slots Q (F0 m pc ls st0) := by
  have hF := w_free hD hA hS
  intro T hT X
  obtain ⟨v, st₀, t, T', L1, h0, X', hL, e1, e2, ⟨⟨r, ws', hv, hp, hP', hD'⟩, hz, hk⟩, st⟩ := hr T hT X
  cases hv
  rw [h0] at hz hk
  have hkk := kk v ws' T'.heap (locs ++ L1) hp (by rw [e1]; exact hP') (hD'.weaken (fun _ q _ h => hF q.1 h))
    ⟨Nat.le_trans hS.1 (by rw [e1]; exact hz), fun q h1 h2 => by rw [e1, hk q (Nat.lt_of_lt_of_le h1 hS.1) (fun z => h2 (hF q z))]; exact hS.2.1 q h1 h2, fun q hq => by
      rcases List.mem_append.mp hq with h | h
      · exact hS.2.2 q h
      · exact hF _ (hL q h)⟩
  obtain ⟨t2, a1, b1⟩ := hkk T' rfl X'
  refine ⟨t2, st t2 ?_, b1⟩
  cases v <;> exact a1
end WC
/-- a method that may be called: its words are in the tables, its n parameters -/
def MokC (z : MD) (n : Nat) : Prop := Cond.code z.1 z.2.1 z.2.2.1 z.2.2.2.1 ∈ TB ∧ Cond.initialized z.1.cls ∈ TB ∧ plainName z.1.cls = true ∧ z.1.cls ≠ "java/lang/invoke/MethodHandle" ∧ z.1.cls ≠ "java/lang/invoke/VarHandle" ∧ (parseMethodDescriptor z.1.desc).map (fun d => d.parameters.length) = some n
def MokV (z : MD) (n : Nat) : Prop := MokC z n ∧ Cond.instanceMethod z.1 ∈ TB ∧ Cond.selects z.1.cls z.1 z.1 ∈ TB
def MokS (z : MD) (n : Nat) : Prop := MokC z n ∧ Cond.static z.1 ∈ TB
def MokI (z : MD) (n : Nat) : Prop := MokC z n ∧ Cond.instanceMethod z.1 ∈ TB ∧ z.1.name = "<init>" ∧ z.2.2.2.1 = none
/-- the callee's room fits the caller's -/
def RoomOk (k z : MD) (cu su : Nat) : Prop := (z.2.2.2.2.1 + 1 ≤ k.2.2.2.2.1 ∧ 8 + (z.2.2.1 + 11) + z.2.2.2.2.2.1 ≤ k.2.2.2.2.2.1) ∧ cu + z.2.2.2.2.2.2.1 ≤ k.2.2.2.2.2.2.1 ∧ su + z.2.2.2.2.2.2.2 ≤ k.2.2.2.2.2.2.2
theorem lw_good : ∀ w ∈ TB, (w.onTables && w.keeps) = true ∨ ∃ ty, w = .arrayClass ty := fun w hw => good_of_word (List.mem_filter.mp hw).2
theorem good_ws {z : MD} {n : Nat} (h : MokC z n) : GoodIn TB (md_ws z) := by
  intro w hw
  rcases List.mem_cons.mp hw with hw | hw
  · rw [hw]; exact ⟨h.1, lw_good _ h.1⟩
  · exact ⟨hw, lw_good _ hw⟩
section TC
variable {E : EV} {k z : MD} {cu su : Nat} {ws : va_W} {pc : Nat} {l : List (Nat × Value)} {st rest As : List Value} {Φ : Option Value → va_W → Prop}
theorem tj_callS {idx n np : Nat} (hn : pc + 3 = n) (hd : decode k.2.1 pc = .ok (.invokestatic idx, 3)) (hst : st = As.reverse ++ rest) (hlk : Cond.methodLink k.1.cls idx z.1 ∈ TB) (hok : MokS z np) (hnp : As.length = np) (hR : RoomOk k z cu su) (hlen : (lg_sl As).length ≤ z.2.2.1) (hcat : (rest.map fun v => v.category).sum ≤ 8)
    (hm : Tm E z ws As (fun r ws' => T E k (cu + z.2.2.2.2.2.2.1) (su + z.2.2.2.2.2.2.2) ws' n l (pushR r rest) Φ)) : T E k cu su ws pc l st Φ := by
  subst hn
  subst hst
  intro p L e s m args below meth c A Q H locs ls hC hE hA hP hD hS hl hF
  have hts := hC.2.2.2.2.1
  refine w_call (va_runS (As := As) (rest := rest) (ws := md_ws z) (rm := md_rm z) (bytes := z.2.1) (maxL := z.2.2.1) (ret := z.2.2.2.1) ⟨hC.1, hC.2.1, hC.2.2.1, hC.2.2.2.1, hts⟩ (met_of L H.size hok.1.2.2.1 hlen hm) ⟨callB_of np hts (good_ws hok.1) rfl rfl rfl (hts _ hok.1.2.1) (hts _ hlk) hok.1.2.2.2 hR.1, hts _ hok.2⟩ ⟨pm_blind, fun U hU hW => ⟨rfl, by rw [hU], by rw [hU]; exact hP, hD.weaken (fun _ _ _ _ => trivial), exs_call hE hS (w_free hD hA hS) hU hW⟩⟩ rfl hnp hl.1 rfl (lv_room hcat) hd hR.2) hD hA hS
    (fun r ws' H1 locs1 hΨ hP1 hD1 hS1 => hΨ p L e s m args below meth c A Q H1 locs1 ls hC hE hA hP1 hD1 hS1 hl hF)
theorem tj_callV {idx n np a q ci : Nat} {fs : List Value} {r0 : vw_C} (hn : pc + 3 = n) (hd : decode k.2.1 pc = .ok (.invokevirtual idx, 3)) (hst : st = As.reverse ++ .ref a :: rest) (hlk : Cond.methodLink k.1.cls idx z.1 ∈ TB) (hok : MokV z np) (hnp : As.length = np) (hR : RoomOk k z cu su) (hlen : (lg_sl (.ref a :: As)).length ≤ z.2.2.1) (hcat : (rest.map fun v => v.category).sum ≤ 8)
    (he : ws[q]? = some (a, .inr (ci, fs))) (hc : vwCl[ci]? = some r0) (hcn : r0.1 = z.1.cls) (hm : Tm E z ws (.ref a :: As) (fun r ws' => T E k (cu + z.2.2.2.2.2.2.1) (su + z.2.2.2.2.2.2.2) ws' n l (pushR r rest) Φ)) : T E k cu su ws pc l st Φ := by
  subst hn
  subst hst
  intro p L e s m args below meth c A Q H locs ls hC hE hA hP hD hS hl hF
  have hts := hC.2.2.2.2.1
  refine w_call (va_runV (As := As) (rest := rest) (C := z.1.cls) (ws := md_ws z) (rm := md_rm z) (bytes := z.2.1) (maxL := z.2.2.1) (ret := z.2.2.2.1) ⟨hC.1, hC.2.1, hC.2.2.1, hC.2.2.2.1, hts⟩ (met_of L H.size hok.1.2.2.1 hlen hm) ⟨callB_of np hts (good_ws hok.1) rfl rfl rfl (hts _ hok.1.2.1) (hts _ hlk) hok.1.2.2.2 hR.1, hts _ hok.2.1, hts _ hok.2.2⟩ ⟨pm_blind, by rw [← hcn]; exact va_recv hE.1 hP hc he, fun U hU hW => ⟨rfl, by rw [hU], by rw [hU]; exact hP, hD.weaken (fun _ _ _ _ => trivial), exs_call hE hS (w_free hD hA hS) hU hW⟩⟩ rfl hnp hl.1 rfl (lv_room hcat) hd hR.2) hD hA hS
    (fun r ws' H1 locs1 hΨ hP1 hD1 hS1 => hΨ p L e s m args below meth c A Q H1 locs1 ls hC hE hA hP1 hD1 hS1 hl hF)
theorem tj_callI {idx n np a : Nat} (hn : pc + 3 = n) (hd : decode k.2.1 pc = .ok (.invokespecial idx, 3)) (hst : st = As.reverse ++ .ref a :: rest) (hlk : Cond.methodLink k.1.cls idx z.1 ∈ TB) (hok : MokI z np) (hnp : As.length = np) (hR : RoomOk k z cu su) (hlen : (lg_sl (.ref a :: As)).length ≤ z.2.2.1) (hcat : (rest.map fun v => v.category).sum ≤ 8)
    (hm : Tm E z ws (.ref a :: As) (fun r ws' => T E k (cu + z.2.2.2.2.2.2.1) (su + z.2.2.2.2.2.2.2) ws' n l (pushR r rest) Φ)) : T E k cu su ws pc l st Φ := by
  subst hn
  subst hst
  intro p L e s m args below meth c A Q H locs ls hC hE hA hP hD hS hl hF
  have hts := hC.2.2.2.2.1
  refine w_call (va_runI (As := As) (rest := rest) (ws := md_ws z) (rm := md_rm z) (bytes := z.2.1) (maxL := z.2.2.1) ⟨hC.1, hC.2.1, hC.2.2.1, hC.2.2.2.1, hts⟩ (met_of L H.size hok.1.2.2.1 hlen hm) ⟨callB_of np hts (good_ws hok.1) (by unfold md_ws; rw [hok.2.2.2]) rfl rfl (hts _ hok.1.2.1) (hts _ hlk) hok.1.2.2.2 hR.1, hok.2.2.1, hts _ hok.2.1⟩ ⟨pm_blind, fun U hU hW => ⟨rfl, by rw [hU], by rw [hU]; exact hP, hD.weaken (fun _ _ _ _ => trivial), exs_call hE hS (w_free hD hA hS) hU hW⟩⟩ rfl hnp hl.1 rfl (lv_room hcat) hd hR.2) hD hA hS
    (fun r ws' H1 locs1 hΨ hP1 hD1 hS1 => hΨ p L e s m args below meth c A Q H1 locs1 ls hC hE hA hP1 hD1 hS1 hl hF)
theorem tj_callSN {idx n np : Nat} (hn : pc + 3 = n) (hd : decode k.2.1 pc = .ok (.invokestatic idx, 3)) (hst : st = As.reverse ++ rest) (hlk : (k.1.cls, idx, z.1) ∈ nestL) (hok : MokS z np) (hnp : As.length = np) (hR : RoomOk k z cu su) (hlen : (lg_sl As).length ≤ z.2.2.1) (hcat : (rest.map fun v => v.category).sum ≤ 8)
    (hm : Tm E z ws As (fun r ws' => T E k (cu + z.2.2.2.2.2.2.1) (su + z.2.2.2.2.2.2.2) ws' n l (pushR r rest) Φ)) : T E k cu su ws pc l st Φ := by
  subst hn
  subst hst
  intro p L e s m args below meth c A Q H locs ls hC hE hA hP hD hS hl hF
  have hts := hC.2.2.2.2.1
  refine w_call (va_runSN (As := As) (rest := rest) (ws := md_ws z) (rm := md_rm z) (bytes := z.2.1) (maxL := z.2.2.1) (ret := z.2.2.2.1) (host := "HouseTwins") ⟨hC.1, hC.2.1, hC.2.2.1, hC.2.2.2.1, hts⟩ (met_of L H.size hok.1.2.2.1 hlen hm) ⟨va_cnB np hts (good_ws hok.1) rfl rfl rfl (hE.2.2.2.2.2.1 _ hlk) (hts _ hok.1.2.1) hok.1.2.2.2 hR.1, hts _ hok.2, trivial⟩ ⟨pm_blind, fun U hU hW => ⟨rfl, by rw [hU], by rw [hU]; exact hP, hD.weaken (fun _ _ _ _ => trivial), exs_call hE hS (w_free hD hA hS) hU hW⟩⟩ rfl hnp hl.1 rfl (lv_room hcat) hd hR.2) hD hA hS
    (fun r ws' H1 locs1 hΨ hP1 hD1 hS1 => hΨ p L e s m args below meth c A Q H1 locs1 ls hC hE hA hP1 hD1 hS1 hl hF)
theorem tj_callIN {idx n np a : Nat} (hn : pc + 3 = n) (hd : decode k.2.1 pc = .ok (.invokespecial idx, 3)) (hst : st = As.reverse ++ .ref a :: rest) (hlk : (k.1.cls, idx, z.1) ∈ nestL) (hok : MokI z np) (hnp : As.length = np) (hR : RoomOk k z cu su) (hlen : (lg_sl (.ref a :: As)).length ≤ z.2.2.1) (hcat : (rest.map fun v => v.category).sum ≤ 8)
    (hm : Tm E z ws (.ref a :: As) (fun r ws' => T E k (cu + z.2.2.2.2.2.2.1) (su + z.2.2.2.2.2.2.2) ws' n l (pushR r rest) Φ)) : T E k cu su ws pc l st Φ := by
  subst hn
  subst hst
  intro p L e s m args below meth c A Q H locs ls hC hE hA hP hD hS hl hF
  have hts := hC.2.2.2.2.1
  refine w_call (va_runIN (As := As) (rest := rest) (ws := md_ws z) (rm := md_rm z) (bytes := z.2.1) (maxL := z.2.2.1) (host := "HouseTwins") ⟨hC.1, hC.2.1, hC.2.2.1, hC.2.2.2.1, hts⟩ (met_of L H.size hok.1.2.2.1 hlen hm) ⟨va_cnB np hts (good_ws hok.1) (by unfold md_ws; rw [hok.2.2.2]) rfl rfl (hE.2.2.2.2.2.1 _ hlk) (hts _ hok.1.2.1) hok.1.2.2.2 hR.1, hok.2.2.1, hts _ hok.2.1⟩ ⟨pm_blind, fun U hU hW => ⟨rfl, by rw [hU], by rw [hU]; exact hP, hD.weaken (fun _ _ _ _ => trivial), exs_call hE hS (w_free hD hA hS) hU hW⟩⟩ rfl hnp hl.1 rfl (lv_room hcat) hd hR.2) hD hA hS
    (fun r ws' H1 locs1 hΨ hP1 hD1 hS1 => hΨ p L e s m args below meth c A Q H1 locs1 ls hC hE hA hP1 hD1 hS1 hl hF)
end TC
end
