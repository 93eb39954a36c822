section
-- ===== PART A: goes FIRST, ahead of the names: the tables' words, and 'selects' of the private methods out of them =====
/-- a private method of a class that the tables say can be made, by its rows of tables_1 -/
def lw_okq (q : MethodName × Nat) : Prop := (q.1.cls ≠ "java/lang/invoke/MethodHandle" ∧ q.1.cls ≠ "java/lang/invoke/VarHandle") ∧ Cond.instantiable q.1.cls q.2 ∈ tables_1 ∧ Cond.privateMethod q.1 ∈ tables_1 ∧ Cond.instanceMethod q.1 ∈ tables_1
theorem lw_p0 : lw_okq (⟨"VillageBoard", "putOnTape", "(I)V"⟩, 16) := ⟨⟨by decide +kernel, by decide +kernel⟩, List.mem_of_getElem? (i := 24) (by decide +kernel), List.mem_of_getElem? (i := 290) (by decide +kernel), List.mem_of_getElem? (i := 291) (by decide +kernel)⟩
theorem lw_p1 : lw_okq (⟨"VillageBoard$Position", "moveByStyle", "(LVillageBoard$Land;)I"⟩, 6) := ⟨⟨by decide +kernel, by decide +kernel⟩, List.mem_of_getElem? (i := 153) (by decide +kernel), List.mem_of_getElem? (i := 335) (by decide +kernel), List.mem_of_getElem? (i := 336) (by decide +kernel)⟩
theorem lw_p2 : lw_okq (⟨"VillageBoard$Land", "mayTake", "(IIII)Z"⟩, 10) := ⟨⟨by decide +kernel, by decide +kernel⟩, List.mem_of_getElem? (i := 38) (by decide +kernel), List.mem_of_getElem? (i := 352) (by decide +kernel), List.mem_of_getElem? (i := 353) (by decide +kernel)⟩
theorem lw_p3 : lw_okq (⟨"VillageBoard", "keepsTreaty", "(I)Z"⟩, 16) := ⟨⟨by decide +kernel, by decide +kernel⟩, List.mem_of_getElem? (i := 24) (by decide +kernel), List.mem_of_getElem? (i := 416) (by decide +kernel), List.mem_of_getElem? (i := 417) (by decide +kernel)⟩
theorem lw_p4 : lw_okq (⟨"VillageBoard", "leadAfter", "(III)I"⟩, 16) := ⟨⟨by decide +kernel, by decide +kernel⟩, List.mem_of_getElem? (i := 24) (by decide +kernel), List.mem_of_getElem? (i := 420) (by decide +kernel), List.mem_of_getElem? (i := 421) (by decide +kernel)⟩
theorem lw_p5 : lw_okq (⟨"VillageBoard", "forkedBy", "(II)I"⟩, 16) := ⟨⟨by decide +kernel, by decide +kernel⟩, List.mem_of_getElem? (i := 24) (by decide +kernel), List.mem_of_getElem? (i := 450) (by decide +kernel), List.mem_of_getElem? (i := 451) (by decide +kernel)⟩
theorem lw_p6 : lw_okq (⟨"java/lang/Throwable", "fillInStackTrace", "(I)Ljava/lang/Throwable;"⟩, 6) := ⟨⟨by decide +kernel, by decide +kernel⟩, List.mem_of_getElem? (i := 529) (by decide +kernel), List.mem_of_getElem? (i := 527) (by decide +kernel), List.mem_of_getElem? (i := 528) (by decide +kernel)⟩
theorem lw_p7 : lw_okq (⟨"VillageBoard$Reader", "nextToken", "()V"⟩, 8) := ⟨⟨by decide +kernel, by decide +kernel⟩, List.mem_of_getElem? (i := 32) (by decide +kernel), List.mem_of_getElem? (i := 572) (by decide +kernel), List.mem_of_getElem? (i := 573) (by decide +kernel)⟩
theorem lw_p8 : lw_okq (⟨"VillageBoard$Reader", "byteAt", "(I)I"⟩, 8) := ⟨⟨by decide +kernel, by decide +kernel⟩, List.mem_of_getElem? (i := 32) (by decide +kernel), List.mem_of_getElem? (i := 576) (by decide +kernel), List.mem_of_getElem? (i := 577) (by decide +kernel)⟩
theorem lw_p9 : lw_okq (⟨"VillageBoard$Reader", "readLine", "()Z"⟩, 8) := ⟨⟨by decide +kernel, by decide +kernel⟩, List.mem_of_getElem? (i := 32) (by decide +kernel), List.mem_of_getElem? (i := 583) (by decide +kernel), List.mem_of_getElem? (i := 584) (by decide +kernel)⟩
theorem lw_p10 : lw_okq (⟨"VillageBoard$Reader", "isWord", "(Ljava/lang/String;)Z"⟩, 8) := ⟨⟨by decide +kernel, by decide +kernel⟩, List.mem_of_getElem? (i := 32) (by decide +kernel), List.mem_of_getElem? (i := 588) (by decide +kernel), List.mem_of_getElem? (i := 589) (by decide +kernel)⟩
theorem lw_p11 : lw_okq (⟨"VillageBoard$Reader", "readVillage", "(I)Z"⟩, 8) := ⟨⟨by decide +kernel, by decide +kernel⟩, List.mem_of_getElem? (i := 32) (by decide +kernel), List.mem_of_getElem? (i := 640) (by decide +kernel), List.mem_of_getElem? (i := 641) (by decide +kernel)⟩
theorem lw_p12 : lw_okq (⟨"VillageBoard$Reader", "refuse", "(I)Z"⟩, 8) := ⟨⟨by decide +kernel, by decide +kernel⟩, List.mem_of_getElem? (i := 32) (by decide +kernel), List.mem_of_getElem? (i := 644) (by decide +kernel), List.mem_of_getElem? (i := 645) (by decide +kernel)⟩
theorem lw_p13 : lw_okq (⟨"VillageBoard$Reader", "readNumber", "(I)I"⟩, 8) := ⟨⟨by decide +kernel, by decide +kernel⟩, List.mem_of_getElem? (i := 32) (by decide +kernel), List.mem_of_getElem? (i := 648) (by decide +kernel), List.mem_of_getElem? (i := 649) (by decide +kernel)⟩
theorem lw_p14 : lw_okq (⟨"VillageBoard$Reader", "readRoad", "()Z"⟩, 8) := ⟨⟨by decide +kernel, by decide +kernel⟩, List.mem_of_getElem? (i := 32) (by decide +kernel), List.mem_of_getElem? (i := 659) (by decide +kernel), List.mem_of_getElem? (i := 660) (by decide +kernel)⟩
theorem lw_p15 : lw_okq (⟨"VillageBoard$Reader", "readRule", "(I)Z"⟩, 8) := ⟨⟨by decide +kernel, by decide +kernel⟩, List.mem_of_getElem? (i := 32) (by decide +kernel), List.mem_of_getElem? (i := 669) (by decide +kernel), List.mem_of_getElem? (i := 670) (by decide +kernel)⟩
def lw_privs_1 : List (MethodName × Nat) := [(⟨"VillageBoard", "putOnTape", "(I)V"⟩, 16), (⟨"VillageBoard$Position", "moveByStyle", "(LVillageBoard$Land;)I"⟩, 6), (⟨"VillageBoard$Land", "mayTake", "(IIII)Z"⟩, 10), (⟨"VillageBoard", "keepsTreaty", "(I)Z"⟩, 16), (⟨"VillageBoard", "leadAfter", "(III)I"⟩, 16), (⟨"VillageBoard", "forkedBy", "(II)I"⟩, 16), (⟨"java/lang/Throwable", "fillInStackTrace", "(I)Ljava/lang/Throwable;"⟩, 6), (⟨"VillageBoard$Reader", "nextToken", "()V"⟩, 8), (⟨"VillageBoard$Reader", "byteAt", "(I)I"⟩, 8), (⟨"VillageBoard$Reader", "readLine", "()Z"⟩, 8), (⟨"VillageBoard$Reader", "isWord", "(Ljava/lang/String;)Z"⟩, 8), (⟨"VillageBoard$Reader", "readVillage", "(I)Z"⟩, 8), (⟨"VillageBoard$Reader", "refuse", "(I)Z"⟩, 8), (⟨"VillageBoard$Reader", "readNumber", "(I)I"⟩, 8), (⟨"VillageBoard$Reader", "readRoad", "()Z"⟩, 8), (⟨"VillageBoard$Reader", "readRule", "(I)Z"⟩, 8)]
theorem lw_r1 : ∀ q ∈ lw_privs_1, lw_okq q := List.forall_mem_cons.mpr ⟨lw_p0, List.forall_mem_cons.mpr ⟨lw_p1, List.forall_mem_cons.mpr ⟨lw_p2, List.forall_mem_cons.mpr ⟨lw_p3, List.forall_mem_cons.mpr ⟨lw_p4, List.forall_mem_cons.mpr ⟨lw_p5, List.forall_mem_cons.mpr ⟨lw_p6, List.forall_mem_cons.mpr ⟨lw_p7, List.forall_mem_cons.mpr ⟨lw_p8, List.forall_mem_cons.mpr ⟨lw_p9, List.forall_mem_cons.mpr ⟨lw_p10, List.forall_mem_cons.mpr ⟨lw_p11, List.forall_mem_cons.mpr ⟨lw_p12, List.forall_mem_cons.mpr ⟨lw_p13, List.forall_mem_cons.mpr ⟨lw_p14, List.forall_mem_cons.mpr ⟨lw_p15, fun _ h => absurd h List.not_mem_nil⟩⟩⟩⟩⟩⟩⟩⟩⟩⟩⟩⟩⟩⟩⟩⟩
theorem lw_p16 : lw_okq (⟨"VillageBoard$Reader", "readLevel", "(II)Z"⟩, 8) := ⟨⟨by decide +kernel, by decide +kernel⟩, List.mem_of_getElem? (i := 32) (by decide +kernel), List.mem_of_getElem? (i := 673) (by decide +kernel), List.mem_of_getElem? (i := 674) (by decide +kernel)⟩
theorem lw_p17 : lw_okq (⟨"VillageBoard$Reader", "readNot", "(II)Z"⟩, 8) := ⟨⟨by decide +kernel, by decide +kernel⟩, List.mem_of_getElem? (i := 32) (by decide +kernel), List.mem_of_getElem? (i := 677) (by decide +kernel), List.mem_of_getElem? (i := 678) (by decide +kernel)⟩
theorem lw_p18 : lw_okq (⟨"VillageBoard$Reader", "joint", "(I)I"⟩, 8) := ⟨⟨by decide +kernel, by decide +kernel⟩, List.mem_of_getElem? (i := 32) (by decide +kernel), List.mem_of_getElem? (i := 682) (by decide +kernel), List.mem_of_getElem? (i := 683) (by decide +kernel)⟩
theorem lw_p19 : lw_okq (⟨"VillageBoard$Rules", "put", "(I)V"⟩, 6) := ⟨⟨by decide +kernel, by decide +kernel⟩, List.mem_of_getElem? (i := 44) (by decide +kernel), List.mem_of_getElem? (i := 692) (by decide +kernel), List.mem_of_getElem? (i := 693) (by decide +kernel)⟩
theorem lw_p20 : lw_okq (⟨"VillageBoard$Reader", "readPart", "(I)Z"⟩, 8) := ⟨⟨by decide +kernel, by decide +kernel⟩, List.mem_of_getElem? (i := 32) (by decide +kernel), List.mem_of_getElem? (i := 700) (by decide +kernel), List.mem_of_getElem? (i := 701) (by decide +kernel)⟩
theorem lw_p21 : lw_okq (⟨"VillageBoard$Reader", "canBegin", "()Z"⟩, 8) := ⟨⟨by decide +kernel, by decide +kernel⟩, List.mem_of_getElem? (i := 32) (by decide +kernel), List.mem_of_getElem? (i := 704) (by decide +kernel), List.mem_of_getElem? (i := 705) (by decide +kernel)⟩
theorem lw_p22 : lw_okq (⟨"VillageBoard$Reader", "valueOfWord", "()I"⟩, 8) := ⟨⟨by decide +kernel, by decide +kernel⟩, List.mem_of_getElem? (i := 32) (by decide +kernel), List.mem_of_getElem? (i := 708) (by decide +kernel), List.mem_of_getElem? (i := 709) (by decide +kernel)⟩
theorem lw_p23 : lw_okq (⟨"VillageBoard", "needVillage", "(I)V"⟩, 16) := ⟨⟨by decide +kernel, by decide +kernel⟩, List.mem_of_getElem? (i := 24) (by decide +kernel), List.mem_of_getElem? (i := 771) (by decide +kernel), List.mem_of_getElem? (i := 772) (by decide +kernel)⟩
theorem lw_p24 : lw_okq (⟨"VillageBoard", "needSide", "(I)V"⟩, 16) := ⟨⟨by decide +kernel, by decide +kernel⟩, List.mem_of_getElem? (i := 24) (by decide +kernel), List.mem_of_getElem? (i := 789) (by decide +kernel), List.mem_of_getElem? (i := 790) (by decide +kernel)⟩
theorem lw_p25 : lw_okq (⟨"VillageBoard", "pinnedOf", "(I)I"⟩, 16) := ⟨⟨by decide +kernel, by decide +kernel⟩, List.mem_of_getElem? (i := 24) (by decide +kernel), List.mem_of_getElem? (i := 794) (by decide +kernel), List.mem_of_getElem? (i := 795) (by decide +kernel)⟩
theorem lw_p26 : lw_okq (⟨"VillageBoard", "hangingOn", "(I)I"⟩, 16) := ⟨⟨by decide +kernel, by decide +kernel⟩, List.mem_of_getElem? (i := 24) (by decide +kernel), List.mem_of_getElem? (i := 798) (by decide +kernel), List.mem_of_getElem? (i := 799) (by decide +kernel)⟩
theorem lw_p27 : lw_okq (⟨"VillageBoard", "targetsFrom", "(I)I"⟩, 16) := ⟨⟨by decide +kernel, by decide +kernel⟩, List.mem_of_getElem? (i := 24) (by decide +kernel), List.mem_of_getElem? (i := 818) (by decide +kernel), List.mem_of_getElem? (i := 819) (by decide +kernel)⟩
theorem lw_p28 : lw_okq (⟨"VillageBoard", "mayMoveInTurn", "(II)Z"⟩, 16) := ⟨⟨by decide +kernel, by decide +kernel⟩, List.mem_of_getElem? (i := 24) (by decide +kernel), List.mem_of_getElem? (i := 830) (by decide +kernel), List.mem_of_getElem? (i := 831) (by decide +kernel)⟩
theorem lw_p29 : lw_okq (⟨"VillageBoard", "isStyle", "(I)Z"⟩, 16) := ⟨⟨by decide +kernel, by decide +kernel⟩, List.mem_of_getElem? (i := 24) (by decide +kernel), List.mem_of_getElem? (i := 849) (by decide +kernel), List.mem_of_getElem? (i := 850) (by decide +kernel)⟩
theorem lw_p30 : lw_okq (⟨"VillageBoard", "leadIn", "(II)I"⟩, 16) := ⟨⟨by decide +kernel, by decide +kernel⟩, List.mem_of_getElem? (i := 24) (by decide +kernel), List.mem_of_getElem? (i := 869) (by decide +kernel), List.mem_of_getElem? (i := 870) (by decide +kernel)⟩
theorem lw_p31 : lw_okq (⟨"VillageBoard", "bestMove", "(I)I"⟩, 16) := ⟨⟨by decide +kernel, by decide +kernel⟩, List.mem_of_getElem? (i := 24) (by decide +kernel), List.mem_of_getElem? (i := 873) (by decide +kernel), List.mem_of_getElem? (i := 874) (by decide +kernel)⟩
def lw_privs_2 : List (MethodName × Nat) := [(⟨"VillageBoard$Reader", "readLevel", "(II)Z"⟩, 8), (⟨"VillageBoard$Reader", "readNot", "(II)Z"⟩, 8), (⟨"VillageBoard$Reader", "joint", "(I)I"⟩, 8), (⟨"VillageBoard$Rules", "put", "(I)V"⟩, 6), (⟨"VillageBoard$Reader", "readPart", "(I)Z"⟩, 8), (⟨"VillageBoard$Reader", "canBegin", "()Z"⟩, 8), (⟨"VillageBoard$Reader", "valueOfWord", "()I"⟩, 8), (⟨"VillageBoard", "needVillage", "(I)V"⟩, 16), (⟨"VillageBoard", "needSide", "(I)V"⟩, 16), (⟨"VillageBoard", "pinnedOf", "(I)I"⟩, 16), (⟨"VillageBoard", "hangingOn", "(I)I"⟩, 16), (⟨"VillageBoard", "targetsFrom", "(I)I"⟩, 16), (⟨"VillageBoard", "mayMoveInTurn", "(II)Z"⟩, 16), (⟨"VillageBoard", "isStyle", "(I)Z"⟩, 16), (⟨"VillageBoard", "leadIn", "(II)I"⟩, 16), (⟨"VillageBoard", "bestMove", "(I)I"⟩, 16)]
theorem lw_r2 : ∀ q ∈ lw_privs_2, lw_okq q := List.forall_mem_cons.mpr ⟨lw_p16, List.forall_mem_cons.mpr ⟨lw_p17, List.forall_mem_cons.mpr ⟨lw_p18, List.forall_mem_cons.mpr ⟨lw_p19, List.forall_mem_cons.mpr ⟨lw_p20, List.forall_mem_cons.mpr ⟨lw_p21, List.forall_mem_cons.mpr ⟨lw_p22, List.forall_mem_cons.mpr ⟨lw_p23, List.forall_mem_cons.mpr ⟨lw_p24, List.forall_mem_cons.mpr ⟨lw_p25, List.forall_mem_cons.mpr ⟨lw_p26, List.forall_mem_cons.mpr ⟨lw_p27, List.forall_mem_cons.mpr ⟨lw_p28, List.forall_mem_cons.mpr ⟨lw_p29, List.forall_mem_cons.mpr ⟨lw_p30, List.forall_mem_cons.mpr ⟨lw_p31, fun _ h => absurd h List.not_mem_nil⟩⟩⟩⟩⟩⟩⟩⟩⟩⟩⟩⟩⟩⟩⟩⟩
theorem lw_p32 : lw_okq (⟨"VillageBoard", "leastThatWins", "(I)J"⟩, 16) := ⟨⟨by decide +kernel, by decide +kernel⟩, List.mem_of_getElem? (i := 24) (by decide +kernel), List.mem_of_getElem? (i := 926) (by decide +kernel), List.mem_of_getElem? (i := 927) (by decide +kernel)⟩
theorem lw_p33 : lw_okq (⟨"VillageBoard", "styleGives", "(I)I"⟩, 16) := ⟨⟨by decide +kernel, by decide +kernel⟩, List.mem_of_getElem? (i := 24) (by decide +kernel), List.mem_of_getElem? (i := 930) (by decide +kernel), List.mem_of_getElem? (i := 931) (by decide +kernel)⟩
theorem lw_p34 : lw_okq (⟨"VillageBoard$Couples", "put", "(II)V"⟩, 3) := ⟨⟨by decide +kernel, by decide +kernel⟩, List.mem_of_getElem? (i := 219) (by decide +kernel), List.mem_of_getElem? (i := 974) (by decide +kernel), List.mem_of_getElem? (i := 975) (by decide +kernel)⟩
theorem lw_p35 : lw_okq (⟨"VillageBoard", "playGame", "(III)V"⟩, 16) := ⟨⟨by decide +kernel, by decide +kernel⟩, List.mem_of_getElem? (i := 24) (by decide +kernel), List.mem_of_getElem? (i := 1003) (by decide +kernel), List.mem_of_getElem? (i := 1004) (by decide +kernel)⟩
theorem lw_p36 : lw_okq (⟨"VillageBoard", "rests", "(I)Z"⟩, 16) := ⟨⟨by decide +kernel, by decide +kernel⟩, List.mem_of_getElem? (i := 24) (by decide +kernel), List.mem_of_getElem? (i := 1007) (by decide +kernel), List.mem_of_getElem? (i := 1008) (by decide +kernel)⟩
theorem lw_p37 : lw_okq (⟨"VillageBoardModel", "lays", "(I)V"⟩, 55) := ⟨⟨by decide +kernel, by decide +kernel⟩, List.mem_of_getElem? (i := 1087) (by decide +kernel), List.mem_of_getElem? (i := 1268) (by decide +kernel), List.mem_of_getElem? (i := 1269) (by decide +kernel)⟩
theorem lw_p38 : lw_okq (⟨"VillageBoardModel", "right", "(ZI)Z"⟩, 55) := ⟨⟨by decide +kernel, by decide +kernel⟩, List.mem_of_getElem? (i := 1087) (by decide +kernel), List.mem_of_getElem? (i := 1276) (by decide +kernel), List.mem_of_getElem? (i := 1277) (by decide +kernel)⟩
theorem lw_p39 : lw_okq (⟨"VillageBoardModel", "goes", "()V"⟩, 55) := ⟨⟨by decide +kernel, by decide +kernel⟩, List.mem_of_getElem? (i := 1087) (by decide +kernel), List.mem_of_getElem? (i := 1280) (by decide +kernel), List.mem_of_getElem? (i := 1281) (by decide +kernel)⟩
theorem lw_p40 : lw_okq (⟨"VillageBoardModel", "byteAt", "(I)I"⟩, 55) := ⟨⟨by decide +kernel, by decide +kernel⟩, List.mem_of_getElem? (i := 1087) (by decide +kernel), List.mem_of_getElem? (i := 1284) (by decide +kernel), List.mem_of_getElem? (i := 1285) (by decide +kernel)⟩
theorem lw_p41 : lw_okq (⟨"VillageBoardModel", "isGood", "()Z"⟩, 55) := ⟨⟨by decide +kernel, by decide +kernel⟩, List.mem_of_getElem? (i := 1087) (by decide +kernel), List.mem_of_getElem? (i := 1294) (by decide +kernel), List.mem_of_getElem? (i := 1295) (by decide +kernel)⟩
theorem lw_p42 : lw_okq (⟨"VillageBoardModel", "line", "()V"⟩, 55) := ⟨⟨by decide +kernel, by decide +kernel⟩, List.mem_of_getElem? (i := 1087) (by decide +kernel), List.mem_of_getElem? (i := 1298) (by decide +kernel), List.mem_of_getElem? (i := 1299) (by decide +kernel)⟩
theorem lw_p43 : lw_okq (⟨"VillageBoardModel", "knownWord", "()I"⟩, 55) := ⟨⟨by decide +kernel, by decide +kernel⟩, List.mem_of_getElem? (i := 1087) (by decide +kernel), List.mem_of_getElem? (i := 1302) (by decide +kernel), List.mem_of_getElem? (i := 1303) (by decide +kernel)⟩
theorem lw_p44 : lw_okq (⟨"VillageBoardModel", "readsVillage", "(I)V"⟩, 55) := ⟨⟨by decide +kernel, by decide +kernel⟩, List.mem_of_getElem? (i := 1087) (by decide +kernel), List.mem_of_getElem? (i := 1313) (by decide +kernel), List.mem_of_getElem? (i := 1314) (by decide +kernel)⟩
theorem lw_p45 : lw_okq (⟨"VillageBoardModel", "wrong", "(I)V"⟩, 55) := ⟨⟨by decide +kernel, by decide +kernel⟩, List.mem_of_getElem? (i := 1087) (by decide +kernel), List.mem_of_getElem? (i := 1317) (by decide +kernel), List.mem_of_getElem? (i := 1318) (by decide +kernel)⟩
theorem lw_p46 : lw_okq (⟨"VillageBoardModel", "number", "(II)I"⟩, 55) := ⟨⟨by decide +kernel, by decide +kernel⟩, List.mem_of_getElem? (i := 1087) (by decide +kernel), List.mem_of_getElem? (i := 1321) (by decide +kernel), List.mem_of_getElem? (i := 1322) (by decide +kernel)⟩
theorem lw_p47 : lw_okq (⟨"VillageBoardModel", "readsRoad", "()V"⟩, 55) := ⟨⟨by decide +kernel, by decide +kernel⟩, List.mem_of_getElem? (i := 1087) (by decide +kernel), List.mem_of_getElem? (i := 1325) (by decide +kernel), List.mem_of_getElem? (i := 1326) (by decide +kernel)⟩
def lw_privs_3 : List (MethodName × Nat) := [(⟨"VillageBoard", "leastThatWins", "(I)J"⟩, 16), (⟨"VillageBoard", "styleGives", "(I)I"⟩, 16), (⟨"VillageBoard$Couples", "put", "(II)V"⟩, 3), (⟨"VillageBoard", "playGame", "(III)V"⟩, 16), (⟨"VillageBoard", "rests", "(I)Z"⟩, 16), (⟨"VillageBoardModel", "lays", "(I)V"⟩, 55), (⟨"VillageBoardModel", "right", "(ZI)Z"⟩, 55), (⟨"VillageBoardModel", "goes", "()V"⟩, 55), (⟨"VillageBoardModel", "byteAt", "(I)I"⟩, 55), (⟨"VillageBoardModel", "isGood", "()Z"⟩, 55), (⟨"VillageBoardModel", "line", "()V"⟩, 55), (⟨"VillageBoardModel", "knownWord", "()I"⟩, 55), (⟨"VillageBoardModel", "readsVillage", "(I)V"⟩, 55), (⟨"VillageBoardModel", "wrong", "(I)V"⟩, 55), (⟨"VillageBoardModel", "number", "(II)I"⟩, 55), (⟨"VillageBoardModel", "readsRoad", "()V"⟩, 55)]
theorem lw_r3 : ∀ q ∈ lw_privs_3, lw_okq q := List.forall_mem_cons.mpr ⟨lw_p32, List.forall_mem_cons.mpr ⟨lw_p33, List.forall_mem_cons.mpr ⟨lw_p34, List.forall_mem_cons.mpr ⟨lw_p35, List.forall_mem_cons.mpr ⟨lw_p36, List.forall_mem_cons.mpr ⟨lw_p37, List.forall_mem_cons.mpr ⟨lw_p38, List.forall_mem_cons.mpr ⟨lw_p39, List.forall_mem_cons.mpr ⟨lw_p40, List.forall_mem_cons.mpr ⟨lw_p41, List.forall_mem_cons.mpr ⟨lw_p42, List.forall_mem_cons.mpr ⟨lw_p43, List.forall_mem_cons.mpr ⟨lw_p44, List.forall_mem_cons.mpr ⟨lw_p45, List.forall_mem_cons.mpr ⟨lw_p46, List.forall_mem_cons.mpr ⟨lw_p47, fun _ h => absurd h List.not_mem_nil⟩⟩⟩⟩⟩⟩⟩⟩⟩⟩⟩⟩⟩⟩⟩⟩
theorem lw_p48 : lw_okq (⟨"VillageBoardModel", "amongHere", "(I)Z"⟩, 55) := ⟨⟨by decide +kernel, by decide +kernel⟩, List.mem_of_getElem? (i := 1087) (by decide +kernel), List.mem_of_getElem? (i := 1329) (by decide +kernel), List.mem_of_getElem? (i := 1330) (by decide +kernel)⟩
theorem lw_p49 : lw_okq (⟨"VillageBoardModel", "expression", "()V"⟩, 55) := ⟨⟨by decide +kernel, by decide +kernel⟩, List.mem_of_getElem? (i := 1087) (by decide +kernel), List.mem_of_getElem? (i := 1333) (by decide +kernel), List.mem_of_getElem? (i := 1334) (by decide +kernel)⟩
theorem lw_p50 : lw_okq (⟨"VillageBoardModel", "deeper", "()V"⟩, 55) := ⟨⟨by decide +kernel, by decide +kernel⟩, List.mem_of_getElem? (i := 1087) (by decide +kernel), List.mem_of_getElem? (i := 1337) (by decide +kernel), List.mem_of_getElem? (i := 1338) (by decide +kernel)⟩
theorem lw_p51 : lw_okq (⟨"VillageBoardModel", "isSign", "(I)Z"⟩, 55) := ⟨⟨by decide +kernel, by decide +kernel⟩, List.mem_of_getElem? (i := 1087) (by decide +kernel), List.mem_of_getElem? (i := 1341) (by decide +kernel), List.mem_of_getElem? (i := 1342) (by decide +kernel)⟩
theorem lw_p52 : lw_okq (⟨"VillageBoardModel", "operand", "(Z)V"⟩, 55) := ⟨⟨by decide +kernel, by decide +kernel⟩, List.mem_of_getElem? (i := 1087) (by decide +kernel), List.mem_of_getElem? (i := 1345) (by decide +kernel), List.mem_of_getElem? (i := 1346) (by decide +kernel)⟩
theorem lw_p53 : lw_okq (⟨"VillageBoardModel", "waitsFor", "(I)V"⟩, 55) := ⟨⟨by decide +kernel, by decide +kernel⟩, List.mem_of_getElem? (i := 1087) (by decide +kernel), List.mem_of_getElem? (i := 1349) (by decide +kernel), List.mem_of_getElem? (i := 1350) (by decide +kernel)⟩
theorem lw_p54 : lw_okq (⟨"VillageBoardModel", "part", "()V"⟩, 55) := ⟨⟨by decide +kernel, by decide +kernel⟩, List.mem_of_getElem? (i := 1087) (by decide +kernel), List.mem_of_getElem? (i := 1353) (by decide +kernel), List.mem_of_getElem? (i := 1354) (by decide +kernel)⟩
theorem lw_p55 : lw_okq (⟨"VillageBoardModel", "puts", "(I)V"⟩, 55) := ⟨⟨by decide +kernel, by decide +kernel⟩, List.mem_of_getElem? (i := 1087) (by decide +kernel), List.mem_of_getElem? (i := 1357) (by decide +kernel), List.mem_of_getElem? (i := 1358) (by decide +kernel)⟩
theorem lw_p56 : lw_okq (⟨"VillageBoardModel", "drops", "(I)V"⟩, 55) := ⟨⟨by decide +kernel, by decide +kernel⟩, List.mem_of_getElem? (i := 1087) (by decide +kernel), List.mem_of_getElem? (i := 1361) (by decide +kernel), List.mem_of_getElem? (i := 1362) (by decide +kernel)⟩
theorem lw_p57 : lw_okq (⟨"VillageBoardModel", "isOpened", "()Z"⟩, 55) := ⟨⟨by decide +kernel, by decide +kernel⟩, List.mem_of_getElem? (i := 1087) (by decide +kernel), List.mem_of_getElem? (i := 1371) (by decide +kernel), List.mem_of_getElem? (i := 1372) (by decide +kernel)⟩
theorem lw_p58 : lw_okq (⟨"VillageBoardModel", "closes", "()V"⟩, 55) := ⟨⟨by decide +kernel, by decide +kernel⟩, List.mem_of_getElem? (i := 1087) (by decide +kernel), List.mem_of_getElem? (i := 1375) (by decide +kernel), List.mem_of_getElem? (i := 1376) (by decide +kernel)⟩
theorem lw_p59 : lw_okq (⟨"VillageBoardModel", "need", "(Z)V"⟩, 55) := ⟨⟨by decide +kernel, by decide +kernel⟩, List.mem_of_getElem? (i := 1087) (by decide +kernel), List.mem_of_getElem? (i := 1379) (by decide +kernel), List.mem_of_getElem? (i := 1380) (by decide +kernel)⟩
theorem lw_p60 : lw_okq (⟨"VillageBoardModel", "copies", "([I[I)V"⟩, 55) := ⟨⟨by decide +kernel, by decide +kernel⟩, List.mem_of_getElem? (i := 1087) (by decide +kernel), List.mem_of_getElem? (i := 1383) (by decide +kernel), List.mem_of_getElem? (i := 1384) (by decide +kernel)⟩
theorem lw_p61 : lw_okq (⟨"VillageBoardModel", "stonesOf", "(II)I"⟩, 55) := ⟨⟨by decide +kernel, by decide +kernel⟩, List.mem_of_getElem? (i := 1087) (by decide +kernel), List.mem_of_getElem? (i := 1402) (by decide +kernel), List.mem_of_getElem? (i := 1403) (by decide +kernel)⟩
theorem lw_p62 : lw_okq (⟨"VillageBoardModel", "flagsOf", "(II)I"⟩, 55) := ⟨⟨by decide +kernel, by decide +kernel⟩, List.mem_of_getElem? (i := 1087) (by decide +kernel), List.mem_of_getElem? (i := 1406) (by decide +kernel), List.mem_of_getElem? (i := 1407) (by decide +kernel)⟩
theorem lw_p63 : lw_okq (⟨"VillageBoardModel", "isVillage", "(I)Z"⟩, 55) := ⟨⟨by decide +kernel, by decide +kernel⟩, List.mem_of_getElem? (i := 1087) (by decide +kernel), List.mem_of_getElem? (i := 1414) (by decide +kernel), List.mem_of_getElem? (i := 1415) (by decide +kernel)⟩
def lw_privs_4 : List (MethodName × Nat) := [(⟨"VillageBoardModel", "amongHere", "(I)Z"⟩, 55), (⟨"VillageBoardModel", "expression", "()V"⟩, 55), (⟨"VillageBoardModel", "deeper", "()V"⟩, 55), (⟨"VillageBoardModel", "isSign", "(I)Z"⟩, 55), (⟨"VillageBoardModel", "operand", "(Z)V"⟩, 55), (⟨"VillageBoardModel", "waitsFor", "(I)V"⟩, 55), (⟨"VillageBoardModel", "part", "()V"⟩, 55), (⟨"VillageBoardModel", "puts", "(I)V"⟩, 55), (⟨"VillageBoardModel", "drops", "(I)V"⟩, 55), (⟨"VillageBoardModel", "isOpened", "()Z"⟩, 55), (⟨"VillageBoardModel", "closes", "()V"⟩, 55), (⟨"VillageBoardModel", "need", "(Z)V"⟩, 55), (⟨"VillageBoardModel", "copies", "([I[I)V"⟩, 55), (⟨"VillageBoardModel", "stonesOf", "(II)I"⟩, 55), (⟨"VillageBoardModel", "flagsOf", "(II)I"⟩, 55), (⟨"VillageBoardModel", "isVillage", "(I)Z"⟩, 55)]
theorem lw_r4 : ∀ q ∈ lw_privs_4, lw_okq q := List.forall_mem_cons.mpr ⟨lw_p48, List.forall_mem_cons.mpr ⟨lw_p49, List.forall_mem_cons.mpr ⟨lw_p50, List.forall_mem_cons.mpr ⟨lw_p51, List.forall_mem_cons.mpr ⟨lw_p52, List.forall_mem_cons.mpr ⟨lw_p53, List.forall_mem_cons.mpr ⟨lw_p54, List.forall_mem_cons.mpr ⟨lw_p55, List.forall_mem_cons.mpr ⟨lw_p56, List.forall_mem_cons.mpr ⟨lw_p57, List.forall_mem_cons.mpr ⟨lw_p58, List.forall_mem_cons.mpr ⟨lw_p59, List.forall_mem_cons.mpr ⟨lw_p60, List.forall_mem_cons.mpr ⟨lw_p61, List.forall_mem_cons.mpr ⟨lw_p62, List.forall_mem_cons.mpr ⟨lw_p63, fun _ h => absurd h List.not_mem_nil⟩⟩⟩⟩⟩⟩⟩⟩⟩⟩⟩⟩⟩⟩⟩⟩
theorem lw_p64 : lw_okq (⟨"VillageBoardModel", "isWhat", "(II)Z"⟩, 55) := ⟨⟨by decide +kernel, by decide +kernel⟩, List.mem_of_getElem? (i := 1087) (by decide +kernel), List.mem_of_getElem? (i := 1418) (by decide +kernel), List.mem_of_getElem? (i := 1419) (by decide +kernel)⟩
theorem lw_p65 : lw_okq (⟨"VillageBoardModel", "roadsOf", "(I)I"⟩, 55) := ⟨⟨by decide +kernel, by decide +kernel⟩, List.mem_of_getElem? (i := 1087) (by decide +kernel), List.mem_of_getElem? (i := 1422) (by decide +kernel), List.mem_of_getElem? (i := 1423) (by decide +kernel)⟩
theorem lw_p66 : lw_okq (⟨"VillageBoardModel", "isSide", "(I)Z"⟩, 55) := ⟨⟨by decide +kernel, by decide +kernel⟩, List.mem_of_getElem? (i := 1087) (by decide +kernel), List.mem_of_getElem? (i := 1430) (by decide +kernel), List.mem_of_getElem? (i := 1431) (by decide +kernel)⟩
theorem lw_p67 : lw_okq (⟨"VillageBoardModel", "prised", "(II)I"⟩, 55) := ⟨⟨by decide +kernel, by decide +kernel⟩, List.mem_of_getElem? (i := 1087) (by decide +kernel), List.mem_of_getElem? (i := 1434) (by decide +kernel), List.mem_of_getElem? (i := 1435) (by decide +kernel)⟩
theorem lw_p68 : lw_okq (⟨"VillageBoardModel", "isTaken", "(II)Z"⟩, 55) := ⟨⟨by decide +kernel, by decide +kernel⟩, List.mem_of_getElem? (i := 1087) (by decide +kernel), List.mem_of_getElem? (i := 1438) (by decide +kernel), List.mem_of_getElem? (i := 1439) (by decide +kernel)⟩
theorem lw_p69 : lw_okq (⟨"VillageBoardModel", "mayGo", "(III)Z"⟩, 55) := ⟨⟨by decide +kernel, by decide +kernel⟩, List.mem_of_getElem? (i := 1087) (by decide +kernel), List.mem_of_getElem? (i := 1442) (by decide +kernel), List.mem_of_getElem? (i := 1443) (by decide +kernel)⟩
theorem lw_p70 : lw_okq (⟨"VillageBoardModel", "tells", "(III)V"⟩, 55) := ⟨⟨by decide +kernel, by decide +kernel⟩, List.mem_of_getElem? (i := 1087) (by decide +kernel), List.mem_of_getElem? (i := 1446) (by decide +kernel), List.mem_of_getElem? (i := 1447) (by decide +kernel)⟩
theorem lw_p71 : lw_okq (⟨"VillageBoardModel", "near", "(IIII)I"⟩, 55) := ⟨⟨by decide +kernel, by decide +kernel⟩, List.mem_of_getElem? (i := 1087) (by decide +kernel), List.mem_of_getElem? (i := 1450) (by decide +kernel), List.mem_of_getElem? (i := 1451) (by decide +kernel)⟩
theorem lw_p72 : lw_okq (⟨"VillageBoardModel", "reckons", "(I)I"⟩, 55) := ⟨⟨by decide +kernel, by decide +kernel⟩, List.mem_of_getElem? (i := 1087) (by decide +kernel), List.mem_of_getElem? (i := 1454) (by decide +kernel), List.mem_of_getElem? (i := 1455) (by decide +kernel)⟩
theorem lw_p73 : lw_okq (⟨"VillageBoardModel", "pinned", "(I)I"⟩, 55) := ⟨⟨by decide +kernel, by decide +kernel⟩, List.mem_of_getElem? (i := 1087) (by decide +kernel), List.mem_of_getElem? (i := 1461) (by decide +kernel), List.mem_of_getElem? (i := 1462) (by decide +kernel)⟩
theorem lw_p74 : lw_okq (⟨"VillageBoardModel", "hanging", "(I)I"⟩, 55) := ⟨⟨by decide +kernel, by decide +kernel⟩, List.mem_of_getElem? (i := 1087) (by decide +kernel), List.mem_of_getElem? (i := 1465) (by decide +kernel), List.mem_of_getElem? (i := 1466) (by decide +kernel)⟩
theorem lw_p75 : lw_okq (⟨"VillageBoardModel", "movesOf", "(II)I"⟩, 55) := ⟨⟨by decide +kernel, by decide +kernel⟩, List.mem_of_getElem? (i := 1087) (by decide +kernel), List.mem_of_getElem? (i := 1469) (by decide +kernel), List.mem_of_getElem? (i := 1470) (by decide +kernel)⟩
theorem lw_p76 : lw_okq (⟨"VillageBoardModel", "mayDo", "(III)Z"⟩, 55) := ⟨⟨by decide +kernel, by decide +kernel⟩, List.mem_of_getElem? (i := 1087) (by decide +kernel), List.mem_of_getElem? (i := 1473) (by decide +kernel), List.mem_of_getElem? (i := 1474) (by decide +kernel)⟩
theorem lw_p77 : lw_okq (⟨"VillageBoardModel", "worthOf", "(II)I"⟩, 55) := ⟨⟨by decide +kernel, by decide +kernel⟩, List.mem_of_getElem? (i := 1087) (by decide +kernel), List.mem_of_getElem? (i := 1477) (by decide +kernel), List.mem_of_getElem? (i := 1478) (by decide +kernel)⟩
theorem lw_p78 : lw_okq (⟨"VillageBoardModel", "refuses", "(I)I"⟩, 55) := ⟨⟨by decide +kernel, by decide +kernel⟩, List.mem_of_getElem? (i := 1087) (by decide +kernel), List.mem_of_getElem? (i := 1493) (by decide +kernel), List.mem_of_getElem? (i := 1494) (by decide +kernel)⟩
theorem lw_p79 : lw_okq (⟨"VillageBoardModel", "keeps", "()V"⟩, 55) := ⟨⟨by decide +kernel, by decide +kernel⟩, List.mem_of_getElem? (i := 1087) (by decide +kernel), List.mem_of_getElem? (i := 1497) (by decide +kernel), List.mem_of_getElem? (i := 1498) (by decide +kernel)⟩
def lw_privs_5 : List (MethodName × Nat) := [(⟨"VillageBoardModel", "isWhat", "(II)Z"⟩, 55), (⟨"VillageBoardModel", "roadsOf", "(I)I"⟩, 55), (⟨"VillageBoardModel", "isSide", "(I)Z"⟩, 55), (⟨"VillageBoardModel", "prised", "(II)I"⟩, 55), (⟨"VillageBoardModel", "isTaken", "(II)Z"⟩, 55), (⟨"VillageBoardModel", "mayGo", "(III)Z"⟩, 55), (⟨"VillageBoardModel", "tells", "(III)V"⟩, 55), (⟨"VillageBoardModel", "near", "(IIII)I"⟩, 55), (⟨"VillageBoardModel", "reckons", "(I)I"⟩, 55), (⟨"VillageBoardModel", "pinned", "(I)I"⟩, 55), (⟨"VillageBoardModel", "hanging", "(I)I"⟩, 55), (⟨"VillageBoardModel", "movesOf", "(II)I"⟩, 55), (⟨"VillageBoardModel", "mayDo", "(III)Z"⟩, 55), (⟨"VillageBoardModel", "worthOf", "(II)I"⟩, 55), (⟨"VillageBoardModel", "refuses", "(I)I"⟩, 55), (⟨"VillageBoardModel", "keeps", "()V"⟩, 55)]
theorem lw_r5 : ∀ q ∈ lw_privs_5, lw_okq q := List.forall_mem_cons.mpr ⟨lw_p64, List.forall_mem_cons.mpr ⟨lw_p65, List.forall_mem_cons.mpr ⟨lw_p66, List.forall_mem_cons.mpr ⟨lw_p67, List.forall_mem_cons.mpr ⟨lw_p68, List.forall_mem_cons.mpr ⟨lw_p69, List.forall_mem_cons.mpr ⟨lw_p70, List.forall_mem_cons.mpr ⟨lw_p71, List.forall_mem_cons.mpr ⟨lw_p72, List.forall_mem_cons.mpr ⟨lw_p73, List.forall_mem_cons.mpr ⟨lw_p74, List.forall_mem_cons.mpr ⟨lw_p75, List.forall_mem_cons.mpr ⟨lw_p76, List.forall_mem_cons.mpr ⟨lw_p77, List.forall_mem_cons.mpr ⟨lw_p78, List.forall_mem_cons.mpr ⟨lw_p79, fun _ h => absurd h List.not_mem_nil⟩⟩⟩⟩⟩⟩⟩⟩⟩⟩⟩⟩⟩⟩⟩⟩
theorem lw_p80 : lw_okq (⟨"VillageBoardModel", "does", "(II)V"⟩, 55) := ⟨⟨by decide +kernel, by decide +kernel⟩, List.mem_of_getElem? (i := 1087) (by decide +kernel), List.mem_of_getElem? (i := 1501) (by decide +kernel), List.mem_of_getElem? (i := 1502) (by decide +kernel)⟩
theorem lw_p81 : lw_okq (⟨"VillageBoardModel", "brings", "(III)V"⟩, 55) := ⟨⟨by decide +kernel, by decide +kernel⟩, List.mem_of_getElem? (i := 1087) (by decide +kernel), List.mem_of_getElem? (i := 1505) (by decide +kernel), List.mem_of_getElem? (i := 1506) (by decide +kernel)⟩
theorem lw_p82 : lw_okq (⟨"VillageBoardModel", "byItsStyle", "(I)I"⟩, 55) := ⟨⟨by decide +kernel, by decide +kernel⟩, List.mem_of_getElem? (i := 1087) (by decide +kernel), List.mem_of_getElem? (i := 1525) (by decide +kernel), List.mem_of_getElem? (i := 1526) (by decide +kernel)⟩
theorem lw_p83 : lw_okq (⟨"VillageBoardModel", "byStyle", "(II)I"⟩, 55) := ⟨⟨by decide +kernel, by decide +kernel⟩, List.mem_of_getElem? (i := 1087) (by decide +kernel), List.mem_of_getElem? (i := 1529) (by decide +kernel), List.mem_of_getElem? (i := 1530) (by decide +kernel)⟩
theorem lw_p84 : lw_okq (⟨"VillageBoardModel", "scoreFor", "(II)I"⟩, 55) := ⟨⟨by decide +kernel, by decide +kernel⟩, List.mem_of_getElem? (i := 1087) (by decide +kernel), List.mem_of_getElem? (i := 1541) (by decide +kernel), List.mem_of_getElem? (i := 1542) (by decide +kernel)⟩
theorem lw_p85 : lw_okq (⟨"VillageBoardModel", "lookOne", "(I)I"⟩, 55) := ⟨⟨by decide +kernel, by decide +kernel⟩, List.mem_of_getElem? (i := 1087) (by decide +kernel), List.mem_of_getElem? (i := 1545) (by decide +kernel), List.mem_of_getElem? (i := 1546) (by decide +kernel)⟩
theorem lw_p86 : lw_okq (⟨"VillageBoardModel", "lays0", "(II)V"⟩, 55) := ⟨⟨by decide +kernel, by decide +kernel⟩, List.mem_of_getElem? (i := 1087) (by decide +kernel), List.mem_of_getElem? (i := 1549) (by decide +kernel), List.mem_of_getElem? (i := 1550) (by decide +kernel)⟩
theorem lw_p87 : lw_okq (⟨"VillageBoardModel", "lookTwo", "(I)I"⟩, 55) := ⟨⟨by decide +kernel, by decide +kernel⟩, List.mem_of_getElem? (i := 1087) (by decide +kernel), List.mem_of_getElem? (i := 1553) (by decide +kernel), List.mem_of_getElem? (i := 1554) (by decide +kernel)⟩
theorem lw_p88 : lw_okq (⟨"VillageBoardModel", "lookThree", "(I)I"⟩, 55) := ⟨⟨by decide +kernel, by decide +kernel⟩, List.mem_of_getElem? (i := 1087) (by decide +kernel), List.mem_of_getElem? (i := 1557) (by decide +kernel), List.mem_of_getElem? (i := 1558) (by decide +kernel)⟩
theorem lw_p89 : lw_okq (⟨"VillageBoardModel", "winsAtOnce", "(I)Z"⟩, 55) := ⟨⟨by decide +kernel, by decide +kernel⟩, List.mem_of_getElem? (i := 1087) (by decide +kernel), List.mem_of_getElem? (i := 1568) (by decide +kernel), List.mem_of_getElem? (i := 1569) (by decide +kernel)⟩
theorem lw_p90 : lw_okq (⟨"VillageBoardModel", "winsByAll", "(I)Z"⟩, 55) := ⟨⟨by decide +kernel, by decide +kernel⟩, List.mem_of_getElem? (i := 1087) (by decide +kernel), List.mem_of_getElem? (i := 1572) (by decide +kernel), List.mem_of_getElem? (i := 1573) (by decide +kernel)⟩
theorem lw_p91 : lw_okq (⟨"VillageBoardModel", "walks", "(I)V"⟩, 55) := ⟨⟨by decide +kernel, by decide +kernel⟩, List.mem_of_getElem? (i := 1087) (by decide +kernel), List.mem_of_getElem? (i := 1580) (by decide +kernel), List.mem_of_getElem? (i := 1581) (by decide +kernel)⟩
theorem lw_p92 : lw_okq (⟨"VillageBoardModel", "fitting", "()I"⟩, 55) := ⟨⟨by decide +kernel, by decide +kernel⟩, List.mem_of_getElem? (i := 1087) (by decide +kernel), List.mem_of_getElem? (i := 1621) (by decide +kernel), List.mem_of_getElem? (i := 1622) (by decide +kernel)⟩
theorem lw_p93 : lw_okq (⟨"VillageBoardModel", "answered", "(II)I"⟩, 55) := ⟨⟨by decide +kernel, by decide +kernel⟩, List.mem_of_getElem? (i := 1087) (by decide +kernel), List.mem_of_getElem? (i := 1636) (by decide +kernel), List.mem_of_getElem? (i := 1637) (by decide +kernel)⟩
theorem lw_p94 : lw_okq (⟨"VillageBoardModel", "richer", "(III)I"⟩, 55) := ⟨⟨by decide +kernel, by decide +kernel⟩, List.mem_of_getElem? (i := 1087) (by decide +kernel), List.mem_of_getElem? (i := 1644) (by decide +kernel), List.mem_of_getElem? (i := 1645) (by decide +kernel)⟩
theorem lw_p95 : lw_okq (⟨"VillageBoardModel", "draw", "(I)I"⟩, 55) := ⟨⟨by decide +kernel, by decide +kernel⟩, List.mem_of_getElem? (i := 1087) (by decide +kernel), List.mem_of_getElem? (i := 1652) (by decide +kernel), List.mem_of_getElem? (i := 1653) (by decide +kernel)⟩
def lw_privs_6 : List (MethodName × Nat) := [(⟨"VillageBoardModel", "does", "(II)V"⟩, 55), (⟨"VillageBoardModel", "brings", "(III)V"⟩, 55), (⟨"VillageBoardModel", "byItsStyle", "(I)I"⟩, 55), (⟨"VillageBoardModel", "byStyle", "(II)I"⟩, 55), (⟨"VillageBoardModel", "scoreFor", "(II)I"⟩, 55), (⟨"VillageBoardModel", "lookOne", "(I)I"⟩, 55), (⟨"VillageBoardModel", "lays0", "(II)V"⟩, 55), (⟨"VillageBoardModel", "lookTwo", "(I)I"⟩, 55), (⟨"VillageBoardModel", "lookThree", "(I)I"⟩, 55), (⟨"VillageBoardModel", "winsAtOnce", "(I)Z"⟩, 55), (⟨"VillageBoardModel", "winsByAll", "(I)Z"⟩, 55), (⟨"VillageBoardModel", "walks", "(I)V"⟩, 55), (⟨"VillageBoardModel", "fitting", "()I"⟩, 55), (⟨"VillageBoardModel", "answered", "(II)I"⟩, 55), (⟨"VillageBoardModel", "richer", "(III)I"⟩, 55), (⟨"VillageBoardModel", "draw", "(I)I"⟩, 55)]
theorem lw_r6 : ∀ q ∈ lw_privs_6, lw_okq q := List.forall_mem_cons.mpr ⟨lw_p80, List.forall_mem_cons.mpr ⟨lw_p81, List.forall_mem_cons.mpr ⟨lw_p82, List.forall_mem_cons.mpr ⟨lw_p83, List.forall_mem_cons.mpr ⟨lw_p84, List.forall_mem_cons.mpr ⟨lw_p85, List.forall_mem_cons.mpr ⟨lw_p86, List.forall_mem_cons.mpr ⟨lw_p87, List.forall_mem_cons.mpr ⟨lw_p88, List.forall_mem_cons.mpr ⟨lw_p89, List.forall_mem_cons.mpr ⟨lw_p90, List.forall_mem_cons.mpr ⟨lw_p91, List.forall_mem_cons.mpr ⟨lw_p92, List.forall_mem_cons.mpr ⟨lw_p93, List.forall_mem_cons.mpr ⟨lw_p94, List.forall_mem_cons.mpr ⟨lw_p95, fun _ h => absurd h List.not_mem_nil⟩⟩⟩⟩⟩⟩⟩⟩⟩⟩⟩⟩⟩⟩⟩⟩
theorem lw_p96 : lw_okq (⟨"VillageBoardModel", "moveOf", "(II)I"⟩, 55) := ⟨⟨by decide +kernel, by decide +kernel⟩, List.mem_of_getElem? (i := 1087) (by decide +kernel), List.mem_of_getElem? (i := 1657) (by decide +kernel), List.mem_of_getElem? (i := 1658) (by decide +kernel)⟩
def lw_privs_7 : List (MethodName × Nat) := [(⟨"VillageBoardModel", "moveOf", "(II)I"⟩, 55)]
theorem lw_r7 : ∀ q ∈ lw_privs_7, lw_okq q := List.forall_mem_cons.mpr ⟨lw_p96, fun _ h => absurd h List.not_mem_nil⟩
def lw_privs : List (MethodName × Nat) := lw_privs_1 ++ (lw_privs_2 ++ (lw_privs_3 ++ (lw_privs_4 ++ (lw_privs_5 ++ (lw_privs_6 ++ (lw_privs_7))))))
def lw_tbl : List Cond := k2_sels lw_privs ++ tables_1
theorem lw_privs_ok : ∀ q ∈ lw_privs, lw_okq q := by
  show ∀ q ∈ lw_privs_1 ++ (lw_privs_2 ++ (lw_privs_3 ++ (lw_privs_4 ++ (lw_privs_5 ++ (lw_privs_6 ++ (lw_privs_7)))))), lw_okq q
  exact List.forall_mem_append.mpr ⟨lw_r1, List.forall_mem_append.mpr ⟨lw_r2, List.forall_mem_append.mpr ⟨lw_r3, List.forall_mem_append.mpr ⟨lw_r4, List.forall_mem_append.mpr ⟨lw_r5, List.forall_mem_append.mpr ⟨lw_r6, lw_r7⟩⟩⟩⟩⟩⟩
-- ===== end of PART A; then your names; then what follows =====
/-! ===== BEGIN words of one list among another's, by their places ===== -/
theorem goodIn_r {big : List Cond} (ws : List Cond) (ps : List Nat) (hp : ws = ps.filterMap (fun i => big[i]?)) (h : ws.all goodWord = true) : GoodIn big ws := by
  intro w hw
  have h1 := List.all_eq_true.mp h w hw
  rw [hp] at hw
  obtain ⟨i, -, hi⟩ := List.mem_filterMap.mp hw
  have hm : w ∈ big := by first | exact List.mem_of_getElem? hi | exact List.getElem?_mem hi
  exact ⟨hm, good_of_word h1⟩
theorem goodIn_app {big a b : List Cond} (ha : GoodIn big a) (hb : GoodIn big b) : GoodIn big (a ++ b) := fun w h => (List.mem_append.mp h).elim (ha w) (hb w)
theorem goodIn_ca {big a b : List Cond} {c : Cond} (ha : GoodIn big (c :: a)) (hb : GoodIn big b) : GoodIn big (c :: (a ++ b)) := fun w h => (List.mem_cons.mp h).elim (fun e => ha w (List.mem_cons.mpr (Or.inl e))) (fun h => (List.mem_append.mp h).elim (fun h => ha w (List.mem_cons.mpr (Or.inr h))) (hb w))
theorem goodIn_sub {big ws : List Cond} (hm : ∀ w ∈ ws, w ∈ big) (h : ws.all goodWord = true) : GoodIn big ws := fun w hw => ⟨hm w hw, good_of_word (List.all_eq_true.mp h w hw)⟩
/-! ===== END ===== -/

/-! ===== BEGIN exceptions that leave a method, and their catching by the caller (launches without stack traces) ===== -/
section VXA
/-! The laws vx_back, vx_callV, vx_callS, vx_callSW, vx_throw0, vx_throwS follow proofs of the library, with one case more: JvmDerived/Free/Laws.lean (Back.of_free), Shelf42/LK1.lean (callV, callS), Shelf/KitTraced.lean (throwNew0V, throwNewS). -/
/-- where a method has thrown q: the class by its name, the cell, what was written, the world -/
def vx_T (XC : String → State → State → Prop) (st : State) (q : Addr) (t : State) (mc ms : Nat) (free : Addr → Prop) : Prop :=
  ∃ (E : String) (ce : Cell) (L : List Loc), XC E st t ∧ t.heap[q]? = some ce ∧ ce.vm = .none ∧ st.vm.findClass E = some ce.cls ∧ st.WarmedH t.vm ∧ st.sameButNew ({ t with vm := st.vm } : State) L mc ms ∧ ∀ z ∈ L, free z.base
def vx_Q (Qc : Array Value → State → Outcome → State → Prop) (XC : String → State → State → Prop) (mc ms : Nat) (free : Addr → Prop) : Array Value → State → Outcome → State → Prop := fun a st o t =>
  (Qc a st o t ∧ ∃ L, FrameEnd st o t L mc ms ∧ ∀ q ∈ L, free q.base) ∨ ∃ q, o = .threw q ∧ vx_T XC st q t mc ms free
/-- a callee that returns or throws -/
def vx_Met (l : Launch) (y : MethodName) (ws : List Cond) (rm : Room) (Pc : Array Value → State → Prop) (Qc : Array Value → State → Outcome → State → Prop) (XC : String → State → State → Prop) (mc ms : Nat) (free : Addr → Prop) : Prop :=
  MetFree l y (headSpec ws rm) Pc (fun _ _ _ _ _ => True) (vx_Q Qc XC mc ms free)
def vx_Post (XC : String → State → State → Prop) (mc ms : Nat) (free : Addr → Prop) : Pt → Array Value → Addr → Pt → Prop := fun A a q B =>
  ∃ (g : JFrame) (mk : MethodId) (t : State) (L : List Loc) (E : String) (ce : Cell), B.U.heap = t.heap ∧ B.U.vm = t.vm ∧ XC E (A.U.calling g mk a) t ∧ t.heap[q]? = some ce ∧ ce.vm = .none ∧ A.U.vm.findClass E = some ce.cls ∧ B.locs = A.locs ++ L ∧ (∀ z ∈ L, free z.base) ∧ B.cells = A.cells + mc ∧ B.slots = A.slots + ms
def vx_Back (l : Launch) (R : Room) (p : Program) (e : Env) (below : List Frame) (s : State) (sargs : Array Value) (y : MethodName) (len W9 : Nat)
    (Pre : Pt → Array Value → Prop) (Post : Pt → Array Value → Option Value → Pt → Prop) (PostX : Pt → Array Value → Addr → Pt → Prop) : Prop :=
  ∀ (m : MethodId) (meth : Method) (c : Code) (A : Pt) (g : JFrame) (ig : Instr) (mk : MethodId) (a : Array Value),
    Stand p l e R s m sargs below meth c A.U A.locs A.cells A.slots → g.method = m → g.locals.size = c.maxLocals → decode c.code g.pc = .ok (ig, len) →
    2 * g.monitorRoom + (g.stack.map fun v => v.category).sum ≤ W9 → A.U.methodNamed? y = some mk → Pre A a →
    (∃ (v : Option Value) (B : Pt), Stand p l e R s m sargs below meth c B.U B.locs B.cells B.slots ∧ Post A a v B ∧
      Steps p.tables e below (doInvoke e (A.U.setTop g) [] mk a).1 (B.U.setTop { g with pc := g.pc + len, stack := v.toList ++ g.stack })) ∨
    (∃ (q : Addr) (B : Pt), Stand p l e R s m sargs below meth c B.U B.locs B.cells B.slots ∧ PostX A a q B ∧
      Steps p.tables e below (doInvoke e (A.U.setTop g) [] mk a).1 ((B.U.setTop g).pushFrame (.throwing q)))
section Payer
variable {l : Launch} {R : Room} {p : Program} {e : Env} {below : List Frame} {s : State} {sargs : Array Value} {y : MethodName} {len W9 : Nat}
theorem vx_back {ws : List Cond} {rm : Room} {Pc : Array Value → State → Prop} {Qc : Array Value → State → Outcome → State → Prop} {XC : String → State → State → Prop} {mc ms : Nat} {free : Addr → Prop} {bytes : ByteArray} {maxL : Nat} {ret : Option FieldType}
    (hM : vx_Met l y ws rm Pc Qc XC mc ms free) (hblind : FrameBlind Pc) (hrc : rm.cells = mc) (hrs : rm.slots = ms)
    (hframes : rm.frames + 1 ≤ R.frames) (hlocals : W9 + (maxL + 11) + rm.locals ≤ R.locals)
    (hws : ∀ w ∈ ws, ∀ a' U, s.WarmedH U.vm → w.before a' U = true) (hcode : Cond.code y bytes maxL ret ∈ ws) (hinit : ∀ a' U, s.WarmedH U.vm → (Cond.initialized y.cls).before a' U = true) :
    vx_Back l R p e below s sargs y len W9 (PreOf R mc ms Pc) (PostOf Qc mc ms free) (vx_Post XC mc ms free) := by
  intro m meth c A g ig mk a X hg hsize hdg hW hn hp
  have h1 : (headSpec ws rm).pre.before a A.U = true := atoms_intro fun w hw => hws w hw _ _ X.warmed
  have h2 : (Cond.code y bytes maxL ret).before a A.U = true := hws _ hcode _ _ X.warmed
  have h3 : (Cond.initialized y.cls).before a A.U = true := hinit _ _ X.warmed
  have h4 : A.cells + (headSpec ws rm).room.cells ≤ R.cells := by rw [show (headSpec ws rm).room.cells = mc from hrc]; exact hp.1
  have h5 : A.slots + (headSpec ws rm).room.slots ≤ R.slots := by rw [show (headSpec ws rm).room.slots = ms from hrs]; exact hp.2.1
  have hPc : Pc a (A.U.calling g mk a) := hblind _ _ _ _ hp.2.2
  obtain ⟨U, Ls, c0, s0⟩ := A
  dsimp only [Pt.U, Pt.locs, Pt.cells, Pt.slots] at h1 h2 h3 h4 h5 X hn hPc ⊢
  obtain ⟨methY, cY, hmY, hcY, -, hlY, -, -, -, -⟩ := Cond.code_spec hn h2
  obtain ⟨kY, hkY, -⟩ := className_of_methodNamed hn
  have hinitY : kY.init = .initialized := Cond.initialized_spec (findClass_of_methodNamed hn) hkY h3
  have h : At U g.method c below := by rw [hg]; exact X.here
  have hlocals9 : W9 + (maxL + 11) + (headSpec ws rm).room.locals ≤ R.locals := hlocals
  have happ : (headSpec ws rm).appliesLoose y e.platform (U.calling g mk a) = true :=
    Spec.appliesLoose_calling (g := g) h hdg hn hkY hinitY
      (X.room_calling (g := g) (R' := (headSpec ws rm).room) hsize hmY hcY hframes (by rw [hlY]; omega) h4 h5) h1
  obtain ⟨mid, hmid⟩ := h.above
  have hfr : (U.setTop g).frames = (.java g :: mid) ++ below := by rw [State.frames_setTop' g h.top, hmid]; rfl
  obtain ⟨o, s₂, hsteps, -, hend, hq⟩ := Steps.callFree hM p X.admits X.cas X.clock (acts := []) hfr happ hPc trivial
  have hq' : vx_Q Qc XC mc ms free a (U.calling g mk a) o s₂ := hq
  rw [State.frames_setTop' g h.top] at hend
  obtain ⟨g₀, hg0⟩ := Option.isSome_iff_exists.mp h.top
  obtain ⟨r, hr⟩ := State.topJava?_eq_some.mp hg0
  have hr' : (({ U with heap := s₂.heap, slotsUsed := s₂.slotsUsed } : State).setVm s₂.vm).frames = .java g₀ :: r := hr
  rcases hq' with ⟨hqc, L, hfe, hL⟩ | ⟨q, rfl, E, ce, L, hx, hce, hcv, hcl, hW₂, hsm, hL⟩
  · obtain ⟨⟨v, rfl⟩, hW₂, e2, q2, q3, q4, q5, q6⟩ := id hfe
    have e3 : s₂ = ({ (U.calling g mk a).setFrames s₂.frames with heap := s₂.heap, slotsUsed := s₂.slotsUsed } : State).setVm s₂.vm := by
      have : s₂ = ({ s₂ with vm := (U.calling g mk a).vm } : State).setVm s₂.vm := rfl
      rw [e2] at this
      exact this
    obtain ⟨c₂, i₂, len₂, hc₂, hd₂, hf₂⟩ := hend
    have hW' : U.WarmedH s₂.vm := hW₂
    have hcc : c₂ = c := by
      have h1 : s₂.code? g.method = U.code? g.method := by
        rw [State.code?_eq, State.code?_eq, hW'.alike.method?]
      exact Option.some.inj (hc₂.symm.trans (h1.trans h.code))
    subst hcc
    have hlen : len₂ = len := by rw [hdg] at hd₂; cases hd₂; rfl
    subst hlen
    have hs₂ : s₂ = (({ U with heap := s₂.heap, slotsUsed := s₂.slotsUsed } : State).setVm s₂.vm).setTop { g with pc := g.pc + len₂, stack := v.toList ++ g.stack } := by
      refine e3.trans ?_
      rw [hf₂, State.calling_eq h.top, State.setFrames_setFrames, State.setTop_of_frames _ hr', hr]
      rfl
    have hsame : U.sameButNew ({ U with heap := s₂.heap, slotsUsed := s₂.slotsUsed } : State) L mc ms := by
      refine ⟨?_, q2, q3, q4, q5, q6⟩
      obtain ⟨t, ht, -⟩ := State.frames_cons hr
      show ({ U with heap := s₂.heap, slotsUsed := s₂.slotsUsed } : State) = { U.setFrames U.frames with heap := s₂.heap, slotsUsed := s₂.slotsUsed }
      rw [State.setFrames_self ht]
    subst hg
    refine Or.inl ⟨v, ⟨(({ U with heap := s₂.heap, slotsUsed := s₂.slotsUsed } : State).setVm s₂.vm), Ls ++ L, c0 + mc, s0 + ms⟩,
      ⟨X.admits, X.cas, X.clock, X.frames, X.room, X.hears, X.method, X.code, (X.here.setHeapUsed s₂.heap s₂.slotsUsed).setVm hW'.alike, X.tail, State.WarmedH.trans X.warmed hW', X.limits, X.bytes, X.same.trans (hsame.setVm s.vm)⟩,
      ⟨g, mk, s₂, L, rfl, rfl, hqc, rfl, hL, rfl, rfl⟩, ?_⟩
    show Steps p.tables e below _ ((({ U with heap := s₂.heap, slotsUsed := s₂.slotsUsed } : State).setVm s₂.vm).setTop { g with pc := g.pc + len₂, stack := v.toList ++ g.stack })
    rw [← hs₂]
    exact hsteps
  · obtain ⟨e2, q2, q3, q4, q5, q6⟩ := id hsm
    have e3 : s₂ = ({ (U.calling g mk a).setFrames s₂.frames with heap := s₂.heap, slotsUsed := s₂.slotsUsed } : State).setVm s₂.vm := by
      have : s₂ = ({ s₂ with vm := (U.calling g mk a).vm } : State).setVm s₂.vm := rfl
      rw [e2] at this
      exact this
    have hf₂ : s₂.frames = .throwing q :: .java g :: U.frames.tail := hend
    have hW' : U.WarmedH s₂.vm := hW₂
    have hs₂ : s₂ = ((({ U with heap := s₂.heap, slotsUsed := s₂.slotsUsed } : State).setVm s₂.vm).setTop g).pushFrame (.throwing q) := by
      refine e3.trans ?_
      rw [hf₂, State.calling_eq h.top, State.setFrames_setFrames, State.pushFrame, State.frames_setTop _ hr', State.setTop_of_frames _ hr', State.setFrames_setFrames, hr]
      rfl
    have hsame : U.sameButNew ({ U with heap := s₂.heap, slotsUsed := s₂.slotsUsed } : State) L mc ms := by
      refine ⟨?_, q2, q3, q4, q5, q6⟩
      obtain ⟨t, ht, -⟩ := State.frames_cons hr
      show ({ U with heap := s₂.heap, slotsUsed := s₂.slotsUsed } : State) = { U.setFrames U.frames with heap := s₂.heap, slotsUsed := s₂.slotsUsed }
      rw [State.setFrames_self ht]
    subst hg
    refine Or.inr ⟨q, ⟨(({ U with heap := s₂.heap, slotsUsed := s₂.slotsUsed } : State).setVm s₂.vm), Ls ++ L, c0 + mc, s0 + ms⟩,
      ⟨X.admits, X.cas, X.clock, X.frames, X.room, X.hears, X.method, X.code, (X.here.setHeapUsed s₂.heap s₂.slotsUsed).setVm hW'.alike, X.tail, State.WarmedH.trans X.warmed hW', X.limits, X.bytes, X.same.trans (hsame.setVm s.vm)⟩,
      ⟨g, mk, s₂, L, E, ce, rfl, rfl, hx, hce, hcv, hcl, rfl, hL, rfl, rfl⟩, ?_⟩
    show Steps p.tables e below _ (((({ U with heap := s₂.heap, slotsUsed := s₂.slotsUsed } : State).setVm s₂.vm).setTop g).pushFrame (.throwing q))
    rw [← hs₂]
    exact hsteps
end Payer
section Calls
variable {p : Program} {l : Launch} {e : Env} {R : Room} {s : State} {m : MethodId} {args : Array Value} {below : List Frame} {meth : Method} {c : Code} {T : State} {locs : List Loc} {cells slots : Nat}
theorem vx_callV (X : Stand p l e R s m args below meth c T locs cells slots) (hexec : p.tables.exec = Jvm.exec) {own C : String} {index : Nat} {y : MethodName} {bytes : ByteArray} {maxL : Nat} {ret : Option FieldType}
    (hown : s.vm.findClass own = some m.cls) (hlink : (Cond.methodLink own index y).before args s = true) (hinst : (Cond.instanceMethod y).before args s = true) (hsel : (Cond.selects C y y).before args s = true)
    (hcode : (Cond.code y bytes maxL ret).before args s = true) (hy : y.cls ≠ "java/lang/invoke/MethodHandle" ∧ y.cls ≠ "java/lang/invoke/VarHandle")
    {W9 : Nat} {Pre : Pt → Array Value → Prop} {Post : Pt → Array Value → Option Value → Pt → Prop} {PostX : Pt → Array Value → Addr → Pt → Prop} (hK : vx_Back l R p e below s args y 3 W9 Pre Post PostX)
    {b : Addr} {cellB : Cell} (hcell : T.heap[b]? = some cellB) (hobj : cellB.vm.isStatics = false) (hcls : s.vm.findClass C = some cellB.cls)
    {g : JFrame} (hg : g.method = m) (hsize : g.locals.size = c.maxLocals) {argsL rest : List Value} (hlen : ∀ sig, parseMethodDescriptor y.desc = some sig → argsL.length = sig.parameters.length)
    (hstack : g.stack = argsL.reverse ++ .ref b :: rest) (hW : 2 * g.monitorRoom + (rest.map fun v => v.category).sum ≤ W9) (hdg : decode c.code g.pc = .ok (.invokevirtual index, 3))
    (hpre : ∀ vm₁, s.WarmedH vm₁ → Pre ⟨T.setVm vm₁, locs, cells, slots⟩ (Value.ref b :: argsL).toArray) :
    (∃ (v : Option Value) (vm₁ : Vm) (B : Pt), s.WarmedH vm₁ ∧ Stand p l e R s m args below meth c B.U B.locs B.cells B.slots ∧ Post ⟨T.setVm vm₁, locs, cells, slots⟩ (Value.ref b :: argsL).toArray v B ∧
      ∀ target, Steps p.tables e below (B.U.setTop { g with pc := g.pc + 3, stack := v.toList ++ rest }) target → Steps p.tables e below (T.setTop g) target) ∨
    (∃ (q : Addr) (vm₁ : Vm) (B : Pt), s.WarmedH vm₁ ∧ Stand p l e R s m args below meth c B.U B.locs B.cells B.slots ∧ PostX ⟨T.setVm vm₁, locs, cells, slots⟩ (Value.ref b :: argsL).toArray q B ∧
      Steps p.tables e below (T.setTop g) ((B.U.setTop { g with stack := rest }).pushFrame (.throwing q))) := by
  obtain ⟨mk, methM, hnamed, hmethM, hstM, habM⟩ := Cond.instanceMethod_spec hinst
  obtain ⟨methM', cM, hmethM', -, -, -, -, -, -, hsigM⟩ := Cond.code_spec hnamed hcode
  cases hmethM.symm.trans hmethM'
  obtain ⟨c2, r2, m2, q1, q2, q3, q4, kP, hkP, hkPi⟩ := Cond.selects_spec hsel
  cases hcls.symm.trans q1
  cases (State.methodFound?_of_named hnamed hy).symm.trans q2
  cases hnamed.symm.trans q3
  have hselP : selectMethod e.platform s.vm cellB.cls mk = .method mk := by rw [Launch.admits_selectMethod X.admits]; exact q4
  obtain ⟨vm₁, X₁, hstep₁⟩ := X.invokevirtual hexec hown hlink hnamed hmethM hstM hkP hkPi hy (a := b) (cell := cellB) hcell
    (fun z h => by rw [h] at hobj; cases hobj) hselP hmethM habM hkP hkPi (g := g) hg (argsL := argsL) (rest := rest) (hlen _ hsigM) hstack hdg
  rcases hK m meth c ⟨T.setVm vm₁, locs, cells, slots⟩ { g with stack := rest } (.invokevirtual index) mk (Value.ref b :: argsL).toArray X₁ hg hsize hdg hW (X₁.named hnamed) (hpre vm₁ X₁.warmed) with ⟨v, B, X', hpost, hsteps⟩ | ⟨q, B, X', hpost, hsteps⟩
  · exact Or.inl ⟨v, vm₁, B, X₁.warmed, X', hpost, fun target h => hstep₁ _ fun acts => by rw [doInvoke_state]; exact hsteps.trans h⟩
  · exact Or.inr ⟨q, vm₁, B, X₁.warmed, X', hpost, hstep₁ _ fun acts => by rw [doInvoke_state]; exact hsteps⟩
theorem vx_callS (X : Stand p l e R s m args below meth c T locs cells slots) (hexec : p.tables.exec = Jvm.exec) {own : String} {index : Nat} {y : MethodName} {bytes : ByteArray} {maxL : Nat} {ret : Option FieldType}
    (hown : s.vm.findClass own = some m.cls) (hlink : (Cond.methodLink own index y).before args s = true) (hstat : (Cond.static y).before args s = true) (hinit : (Cond.initialized y.cls).before args s = true)
    (hcode : (Cond.code y bytes maxL ret).before args s = true) (hy : y.cls ≠ "java/lang/invoke/MethodHandle" ∧ y.cls ≠ "java/lang/invoke/VarHandle")
    {W9 : Nat} {Pre : Pt → Array Value → Prop} {Post : Pt → Array Value → Option Value → Pt → Prop} {PostX : Pt → Array Value → Addr → Pt → Prop} (hK : vx_Back l R p e below s args y 3 W9 Pre Post PostX)
    {g : JFrame} (hg : g.method = m) (hsize : g.locals.size = c.maxLocals) {argsL rest : List Value} (hlen : ∀ sig, parseMethodDescriptor y.desc = some sig → argsL.length = sig.parameters.length)
    (hstack : g.stack = argsL.reverse ++ rest) (hW : 2 * g.monitorRoom + (rest.map fun v => v.category).sum ≤ W9) (hdg : decode c.code g.pc = .ok (.invokestatic index, 3))
    (hpre : ∀ vm₁, s.WarmedH vm₁ → Pre ⟨T.setVm vm₁, locs, cells, slots⟩ argsL.toArray) :
    (∃ (v : Option Value) (vm₁ : Vm) (B : Pt), s.WarmedH vm₁ ∧ Stand p l e R s m args below meth c B.U B.locs B.cells B.slots ∧ Post ⟨T.setVm vm₁, locs, cells, slots⟩ argsL.toArray v B ∧
      ∀ target, Steps p.tables e below (B.U.setTop { g with pc := g.pc + 3, stack := v.toList ++ rest }) target → Steps p.tables e below (T.setTop g) target) ∨
    (∃ (q : Addr) (vm₁ : Vm) (B : Pt), s.WarmedH vm₁ ∧ Stand p l e R s m args below meth c B.U B.locs B.cells B.slots ∧ PostX ⟨T.setVm vm₁, locs, cells, slots⟩ argsL.toArray q B ∧
      Steps p.tables e below (T.setTop g) ((B.U.setTop { g with stack := rest }).pushFrame (.throwing q))) := by
  obtain ⟨mk, hnamed⟩ := Cond.code_named hcode
  obtain ⟨methM, cM, hmethM, -, -, -, -, -, -, hsigM⟩ := Cond.code_spec hnamed hcode
  have hstatic : methM.isStatic = true := Cond.static_spec hnamed hmethM hstat
  obtain ⟨kP, hkP, -⟩ := className_of_methodNamed hnamed
  have hinitP : kP.init = .initialized := Cond.initialized_spec (findClass_of_methodNamed hnamed) hkP hinit
  obtain ⟨vm₁, X₁, hstep₁⟩ := X.invokestatic hexec hown hlink hnamed hmethM hstatic hkP hinitP hy (g := g) hg (argsL := argsL) (rest := rest) (hlen _ hsigM) hstack hdg
  rcases hK m meth c ⟨T.setVm vm₁, locs, cells, slots⟩ { g with stack := rest } (.invokestatic index) mk argsL.toArray X₁ hg hsize hdg hW (X₁.named hnamed) (hpre vm₁ X₁.warmed) with ⟨v, B, X', hpost, hsteps⟩ | ⟨q, B, X', hpost, hsteps⟩
  · exact Or.inl ⟨v, vm₁, B, X₁.warmed, X', hpost, fun target h => hstep₁ _ fun acts => by rw [doInvoke_state]; exact hsteps.trans h⟩
  · exact Or.inr ⟨q, vm₁, B, X₁.warmed, X', hpost, hstep₁ _ fun acts => by rw [doInvoke_state]; exact hsteps⟩
end Calls
theorem vx_cls {s : State} {T : State} {vm₁ : Vm} {E : String} {k : ClassId} (hW : s.WarmedH vm₁) (h : (T.setVm vm₁).vm.findClass E = some k) : s.vm.findClass E = some k := by
  have h1 : vm₁.findClass E = some k := h
  rw [hW.alike.findClass] at h1
  exact h1
/-- the method's frame g, with q thrown over it -/
def vx_W (p : Program) (l : Launch) (e : Env) (R : Room) (s : State) (m : MethodId) (args : Array Value) (below : List Frame) (meth : Method) (c : Code) (H : Heap) (locs : List Loc) (cells slots : Nat) (Q : State → Prop) (g : JFrame) (q : Addr) : Prop :=
  ∀ T : State, T.heap = H → Stand p l e R s m args below meth c T locs cells slots → ∃ t, Steps p.tables e below ((T.setTop g).pushFrame (.throwing q)) t ∧ Q t
def vx_Run (p : Program) (l : Launch) (e : Env) (R : Room) (s : State) (m : MethodId) (args : Array Value) (below : List Frame) (meth : Method) (c : Code) (H : Heap) (locs : List Loc) (cells slots mc ms : Nat) (g : JFrame) (rest : List Value) (Qa : State → Outcome → State → Prop) (XC : String → State → State → Prop) (free : Addr → Prop) : Prop :=
  ∀ T : State, T.heap = H → Stand p l e R s m args below meth c T locs cells slots →
    (∃ (v : Option Value) (st₀ t T' : State) (L : List Loc), st₀.heap = H ∧ Stand p l e R s m args below meth c T' (locs ++ L) (cells + mc) (slots + ms) ∧ (∀ q ∈ L, free q.base) ∧ T'.heap = t.heap ∧ T'.vm = t.vm ∧ Qa st₀ (.returned v) t ∧
      Goes p e below T g T' { g with pc := g.pc + 3, stack := v.toList ++ rest }) ∨
    (∃ (q : Addr) (st₀ t T' : State) (L : List Loc) (E : String) (ce : Cell), st₀.heap = H ∧ Stand p l e R s m args below meth c T' (locs ++ L) (cells + mc) (slots + ms) ∧ (∀ z ∈ L, free z.base) ∧ T'.heap = t.heap ∧ T'.vm = t.vm ∧ XC E st₀ t ∧ t.heap[q]? = some ce ∧ ce.vm = .none ∧ s.vm.findClass E = some ce.cls ∧
      Steps p.tables e below (T.setTop g) ((T'.setTop { g with stack := rest }).pushFrame (.throwing q)))
def vx_X {S : Type} (px : S → Prop) (B : String → S → State → Prop) (A : Nat → Prop) : String → State → State → Prop := fun E st t => ∃ u : S, px u ∧ B E u t ∧ va_F A st t
section Runs
variable {p : Program} {l : Launch} {e : Env} {R : Room} {s : State} {m : MethodId} {args : Array Value} {below : List Frame} {meth : Method} {c : Code} {H : Heap} {locs : List Loc} {cells slots : Nat}
variable {y : MethodName} {bytes cc : ByteArray} {maxL nL mc ms n index : Nat} {ret : Option FieldType} {ws : List Cond} {rm : Room} {Pc : Array Value → State → Prop} {Qc : Array Value → State → Outcome → State → Prop} {XC : String → State → State → Prop} {free : Addr → Prop} {Ts : List Cond} {own C : String} {b : Addr} {As rest : List Value} {g : JFrame}
theorem vx_callBack (cb : CallB R s args own index y bytes maxL ret ws rm mc ms n) (hM : vx_Met l y ws rm Pc Qc XC mc ms free) (hbl : FrameBlind Pc) : vx_Back l R p e below s args y 3 8 (PreOf R mc ms Pc) (PostOf Qc mc ms free) (vx_Post XC mc ms free) := by
  obtain ⟨hrc, hrs, hfr, hlo, hws, hcw, -, hini, -⟩ := cb
  exact vx_back (bytes := bytes) (maxL := maxL) (ret := ret) hM hbl hrc hrs hfr hlo hws hcw (fun a' U hW => word_at hW (Or.inl (by first | rfl | simp [Cond.onTables, Cond.keeps, Cond.steady])) hini)
theorem vx_runV (S : CallFix p m c cc nL s args Ts own) (hM : vx_Met l y ws rm Pc Qc XC mc ms free) (cw : CallW R s args own C index y bytes maxL ret ws rm mc ms n) (hp : PreV s H C b Pc As)
    (hg : g.method = m) (hn : As.length = n) (hsize : g.locals.size = nL) (hstack : g.stack = As.reverse ++ .ref b :: rest) (hW : 2 * g.monitorRoom + (rest.map fun v => v.category).sum ≤ 8) (hdg : decode cc g.pc = .ok (.invokevirtual index, 3)) (hf : cells + mc ≤ R.cells ∧ slots + ms ≤ R.slots) :
    vx_Run p l e R s m args below meth c H locs cells slots mc ms g rest (Qc (Value.ref b :: As).toArray) XC free := by
  have hK : vx_Back l R p e below s args y 3 8 (PreOf R mc ms Pc) (PostOf Qc mc ms free) (vx_Post XC mc ms free) := vx_callBack cw.1 hM hp.1
  obtain ⟨⟨-, -, -, -, -, -, hcode, -, hy, hlen, hl⟩, hin, hse⟩ := cw
  obtain ⟨hx, hb, hml, ho, -⟩ := S
  obtain ⟨-, ⟨cellB, hcB, hoB, hclB⟩, hPc⟩ := hp
  intro T hT X
  rcases vx_callV X hx (C := C) (bytes := bytes) (maxL := maxL) (ret := ret) ho hl hin hse hcode hy hK (by rw [hT]; exact hcB) hoB hclB hg (hsize.trans hml.symm) (argsL := As) (rest := rest) (fun sig h => hn.trans (hlen sig h)) hstack hW (by rw [hb]; exact hdg)
    (fun vm₁ hW₁ => ⟨hf.1, hf.2, hPc (T.setVm vm₁) hT hW₁⟩) with ⟨v, vm₁, ⟨U', l2, c2, s2⟩, hW₁, X', ⟨g', mk, t, L, e1, e2, hq, h1, hL, h2, h3⟩, st⟩ | ⟨q, vm₁, ⟨U', l2, c2, s2⟩, hW₁, X', ⟨g', mk, t, L, E, ce, e1, e2, hq, hce, hcv, hcl, h1, hL, h2, h3⟩, st⟩
  · dsimp only [Pt.U, Pt.locs, Pt.cells, Pt.slots] at X' e1 e2 h1 h2 h3 st
    subst h1; subst h2; subst h3
    exact Or.inl ⟨v, (T.setVm vm₁).calling g' mk (Value.ref b :: As).toArray, t, U', L, hT, X', hL, e1, e2, hq, st⟩
  · dsimp only [Pt.U, Pt.locs, Pt.cells, Pt.slots] at X' e1 e2 h1 h2 h3 st hcl
    subst h1; subst h2; subst h3
    exact Or.inr ⟨q, (T.setVm vm₁).calling g' mk (Value.ref b :: As).toArray, t, U', L, E, ce, hT, X', hL, e1, e2, hq, hce, hcv, vx_cls hW₁ hcl, st⟩
theorem vx_runS (S : CallFix p m c cc nL s args Ts own) (hM : vx_Met l y ws rm Pc Qc XC mc ms free) (cw : CallB R s args own index y bytes maxL ret ws rm mc ms n ∧ (Cond.static y).before args s = true) (hp : PreS s H Pc As)
    (hg : g.method = m) (hn : As.length = n) (hsize : g.locals.size = nL) (hstack : g.stack = As.reverse ++ rest) (hW : 2 * g.monitorRoom + (rest.map fun v => v.category).sum ≤ 8) (hdg : decode cc g.pc = .ok (.invokestatic index, 3)) (hf : cells + mc ≤ R.cells ∧ slots + ms ≤ R.slots) :
    vx_Run p l e R s m args below meth c H locs cells slots mc ms g rest (Qc As.toArray) XC free := by
  have hK : vx_Back l R p e below s args y 3 8 (PreOf R mc ms Pc) (PostOf Qc mc ms free) (vx_Post XC mc ms free) := vx_callBack cw.1 hM hp.1
  obtain ⟨⟨-, -, -, -, -, -, hcode, hini, hy, hlen, hl⟩, hstt⟩ := cw
  obtain ⟨hx, hb, hml, ho, -⟩ := S
  intro T hT X
  rcases vx_callS X hx (bytes := bytes) (maxL := maxL) (ret := ret) ho hl hstt hini hcode hy hK hg (hsize.trans hml.symm) (argsL := As) (rest := rest) (fun sig h => hn.trans (hlen sig h)) hstack hW (by rw [hb]; exact hdg)
    (fun vm₁ hW₁ => ⟨hf.1, hf.2, hp.2 (T.setVm vm₁) hT hW₁⟩) with ⟨v, vm₁, ⟨U', l2, c2, s2⟩, hW₁, X', ⟨g', mk, t, L, e1, e2, hq, h1, hL, h2, h3⟩, st⟩ | ⟨q, vm₁, ⟨U', l2, c2, s2⟩, hW₁, X', ⟨g', mk, t, L, E, ce, e1, e2, hq, hce, hcv, hcl, h1, hL, h2, h3⟩, st⟩
  · dsimp only [Pt.U, Pt.locs, Pt.cells, Pt.slots] at X' e1 e2 h1 h2 h3 st
    subst h1; subst h2; subst h3
    exact Or.inl ⟨v, (T.setVm vm₁).calling g' mk As.toArray, t, U', L, hT, X', hL, e1, e2, hq, st⟩
  · dsimp only [Pt.U, Pt.locs, Pt.cells, Pt.slots] at X' e1 e2 h1 h2 h3 st hcl
    subst h1; subst h2; subst h3
    exact Or.inr ⟨q, (T.setVm vm₁).calling g' mk As.toArray, t, U', L, E, ce, hT, X', hL, e1, e2, hq, hce, hcv, vx_cls hW₁ hcl, st⟩
end Runs
section Rows
variable {p : Program} {l : Launch} {e : Env} {R : Room} {s : State} {m : MethodId} {args : Array Value} {below : List Frame} {meth : Method} {c : Code} {H : Heap} {locs : List Loc} {cells slots : Nat} {Q : State → Prop}
variable {mc ms : Nat} {free : Addr → Prop} {A0 A1 : Nat → Prop} {H0 : Heap} {a : Array Value} {pc : Nat} {ls : Array Slot} {st0 rest : List Value}
theorem vx_keep {st₀ t T' : State} {L : List Loc} (h0 : st₀.heap = H) (e1 : T'.heap = t.heap) (hS : va_S A0 H0 H locs) (hA : ∀ q, q < H.size → A1 q → A0 q) (hf : ∀ q, free q → A0 q) (hL : ∀ q ∈ L, free q.base) (hF : va_F A1 st₀ t) :
    H.size ≤ T'.heap.size ∧ (∀ q : Nat, q < H.size → ¬ A1 q → T'.heap[q]? = H[q]?) ∧ va_S A0 H0 T'.heap (locs ++ L) := by
  obtain ⟨hz, hk⟩ := hF
  rw [h0] at hz hk
  exact ⟨by rw [e1]; exact hz, fun q h1 h2 => by rw [e1]; exact hk q h1 h2,
    ⟨Nat.le_trans hS.1 (by rw [e1]; exact hz), fun q h1 h2 => by rw [e1, hk q (Nat.lt_of_lt_of_le h1 hS.1) (fun z => h2 (hA q (Nat.lt_of_lt_of_le h1 hS.1) z))]; exact hS.2.1 q h1 h2, fun q hq => by
      rcases List.mem_append.mp hq with h | h
      · exact hS.2.2 q h
      · exact hf _ (hL q h)⟩⟩
theorem vx_calli {S SX : Type} {post : Int32 → S → Prop} {px : SX → Prop} {B : S → State → Prop} {BX : String → SX → State → Prop} {AX : Nat → Prop} (hr : vx_Run p l e R s m args below meth c H locs cells slots mc ms (F0 m pc ls st0) rest (va_Qi post B A1 a) (vx_X px BX AX) free) (hS : va_S A0 H0 H locs) (hA : ∀ q, q < H.size → A1 q → A0 q) (hf : ∀ q, free q → A0 q) (hAX : ∀ q, q < H.size → AX q → A0 q)
    (kx : ∀ (E : String) (ce : Cell) (q9 : Addr) (u : SX) (t : State) (H1 : Heap) (locs1 : List Loc), t.heap = H1 → s.vm.Alike t.vm → px u → BX E u t → H.size ≤ H1.size → (∀ q : Nat, q < H.size → ¬ AX q → H1[q]? = H[q]?) → va_S A0 H0 H1 locs1 → H1[q9]? = some ce → ce.vm = .none → s.vm.findClass E = some ce.cls → vx_W p l e R s m args below meth c H1 locs1 (cells + mc) (slots + ms) Q (F0 m pc ls rest) q9)
    (kk : ∀ (r : Int32) (u : S) (t : State) (H1 : Heap) (locs1 : List Loc), t.heap = H1 → s.vm.Alike t.vm → post r u → B u t → H.size ≤ H1.size → (∀ q : Nat, q < H.size → ¬ A1 q → H1[q]? = H[q]?) → va_S A0 H0 H1 locs1 → W p l e R s m args below meth c H1 locs1 (cells + mc) (slots + ms) Q (F0 m (pc + 3) ls (.int r :: rest))) : W p l e R s m args below meth c H locs cells slots Q (F0 m pc ls st0) := by
  intro T hT X
  rcases hr T hT X with ⟨v, st₀, t, T', L, h0, X', hL, e1, e2, ⟨⟨r, u, hv, hp, hb⟩, hF⟩, st⟩ | ⟨q, st₀, t, T', L, E, ce, h0, X', hL, e1, e2, ⟨u, hp, hb, hF⟩, hce, hcv, hcl, st⟩
  · cases hv
    obtain ⟨k1, k2, k3⟩ := vx_keep h0 e1 hS hA hf hL hF
    obtain ⟨t2, a1, b1⟩ := kk r u t T'.heap (locs ++ L) e1.symm (by rw [← e2]; exact X'.warmed.alike) hp hb k1 k2 k3 T' rfl X'
    exact ⟨t2, st t2 a1, b1⟩
  · obtain ⟨k1, k2, k3⟩ := vx_keep h0 e1 hS hAX hf hL hF
    obtain ⟨t2, a1, b1⟩ := kx E ce q u t T'.heap (locs ++ L) e1.symm (by rw [← e2]; exact X'.warmed.alike) hp hb k1 k2 k3 (by rw [e1]; exact hce) hcv hcl T' rfl X'
    exact ⟨t2, st.trans a1, b1⟩
theorem vx_calll {S SX : Type} {post : Int64 → S → Prop} {px : SX → Prop} {B : S → State → Prop} {BX : String → SX → State → Prop} {AX : Nat → Prop} (hr : vx_Run p l e R s m args below meth c H locs cells slots mc ms (F0 m pc ls st0) rest (va_Ql post B A1 a) (vx_X px BX AX) free) (hS : va_S A0 H0 H locs) (hA : ∀ q, q < H.size → A1 q → A0 q) (hf : ∀ q, free q → A0 q) (hAX : ∀ q, q < H.size → AX q → A0 q)
    (kx : ∀ (E : String) (ce : Cell) (q9 : Addr) (u : SX) (t : State) (H1 : Heap) (locs1 : List Loc), t.heap = H1 → s.vm.Alike t.vm → px u → BX E u t → H.size ≤ H1.size → (∀ q : Nat, q < H.size → ¬ AX q → H1[q]? = H[q]?) → va_S A0 H0 H1 locs1 → H1[q9]? = some ce → ce.vm = .none → s.vm.findClass E = some ce.cls → vx_W p l e R s m args below meth c H1 locs1 (cells + mc) (slots + ms) Q (F0 m pc ls rest) q9)
    (kk : ∀ (r : Int64) (u : S) (t : State) (H1 : Heap) (locs1 : List Loc), t.heap = H1 → s.vm.Alike t.vm → post r u → B u t → H.size ≤ H1.size → (∀ q : Nat, q < H.size → ¬ A1 q → H1[q]? = H[q]?) → va_S A0 H0 H1 locs1 → W p l e R s m args below meth c H1 locs1 (cells + mc) (slots + ms) Q (F0 m (pc + 3) ls (.long r :: rest))) : W p l e R s m args below meth c H locs cells slots Q (F0 m pc ls st0) := by
  intro T hT X
  rcases hr T hT X with ⟨v, st₀, t, T', L, h0, X', hL, e1, e2, ⟨⟨r, u, hv, hp, hb⟩, hF⟩, st⟩ | ⟨q, st₀, t, T', L, E, ce, h0, X', hL, e1, e2, ⟨u, hp, hb, hF⟩, hce, hcv, hcl, st⟩
  · cases hv
    obtain ⟨k1, k2, k3⟩ := vx_keep h0 e1 hS hA hf hL hF
    obtain ⟨t2, a1, b1⟩ := kk r u t T'.heap (locs ++ L) e1.symm (by rw [← e2]; exact X'.warmed.alike) hp hb k1 k2 k3 T' rfl X'
    exact ⟨t2, st t2 a1, b1⟩
  · obtain ⟨k1, k2, k3⟩ := vx_keep h0 e1 hS hAX hf hL hF
    obtain ⟨t2, a1, b1⟩ := kx E ce q u t T'.heap (locs ++ L) e1.symm (by rw [← e2]; exact X'.warmed.alike) hp hb k1 k2 k3 (by rw [e1]; exact hce) hcv hcl T' rfl X'
    exact ⟨t2, st.trans a1, b1⟩
theorem vx_callf {S SX : Type} {post : UInt32 → S → Prop} {px : SX → Prop} {B : S → State → Prop} {BX : String → SX → State → Prop} {AX : Nat → Prop} (hr : vx_Run p l e R s m args below meth c H locs cells slots mc ms (F0 m pc ls st0) rest (va_Qf post B A1 a) (vx_X px BX AX) free) (hS : va_S A0 H0 H locs) (hA : ∀ q, q < H.size → A1 q → A0 q) (hf : ∀ q, free q → A0 q) (hAX : ∀ q, q < H.size → AX q → A0 q)
    (kx : ∀ (E : String) (ce : Cell) (q9 : Addr) (u : SX) (t : State) (H1 : Heap) (locs1 : List Loc), t.heap = H1 → s.vm.Alike t.vm → px u → BX E u t → H.size ≤ H1.size → (∀ q : Nat, q < H.size → ¬ AX q → H1[q]? = H[q]?) → va_S A0 H0 H1 locs1 → H1[q9]? = some ce → ce.vm = .none → s.vm.findClass E = some ce.cls → vx_W p l e R s m args below meth c H1 locs1 (cells + mc) (slots + ms) Q (F0 m pc ls rest) q9)
    (kk : ∀ (r : UInt32) (u : S) (t : State) (H1 : Heap) (locs1 : List Loc), t.heap = H1 → s.vm.Alike t.vm → post r u → B u t → H.size ≤ H1.size → (∀ q : Nat, q < H.size → ¬ A1 q → H1[q]? = H[q]?) → va_S A0 H0 H1 locs1 → W p l e R s m args below meth c H1 locs1 (cells + mc) (slots + ms) Q (F0 m (pc + 3) ls (.float r :: rest))) : W p l e R s m args below meth c H locs cells slots Q (F0 m pc ls st0) := by
  intro T hT X
  rcases hr T hT X with ⟨v, st₀, t, T', L, h0, X', hL, e1, e2, ⟨⟨r, u, hv, hp, hb⟩, hF⟩, st⟩ | ⟨q, st₀, t, T', L, E, ce, h0, X', hL, e1, e2, ⟨u, hp, hb, hF⟩, hce, hcv, hcl, st⟩
  · cases hv
    obtain ⟨k1, k2, k3⟩ := vx_keep h0 e1 hS hA hf hL hF
    obtain ⟨t2, a1, b1⟩ := kk r u t T'.heap (locs ++ L) e1.symm (by rw [← e2]; exact X'.warmed.alike) hp hb k1 k2 k3 T' rfl X'
    exact ⟨t2, st t2 a1, b1⟩
  · obtain ⟨k1, k2, k3⟩ := vx_keep h0 e1 hS hAX hf hL hF
    obtain ⟨t2, a1, b1⟩ := kx E ce q u t T'.heap (locs ++ L) e1.symm (by rw [← e2]; exact X'.warmed.alike) hp hb k1 k2 k3 (by rw [e1]; exact hce) hcv hcl T' rfl X'
    exact ⟨t2, st.trans a1, b1⟩
theorem vx_calld {S SX : Type} {post : UInt64 → S → Prop} {px : SX → Prop} {B : S → State → Prop} {BX : String → SX → State → Prop} {AX : Nat → Prop} (hr : vx_Run p l e R s m args below meth c H locs cells slots mc ms (F0 m pc ls st0) rest (va_Qd post B A1 a) (vx_X px BX AX) free) (hS : va_S A0 H0 H locs) (hA : ∀ q, q < H.size → A1 q → A0 q) (hf : ∀ q, free q → A0 q) (hAX : ∀ q, q < H.size → AX q → A0 q)
    (kx : ∀ (E : String) (ce : Cell) (q9 : Addr) (u : SX) (t : State) (H1 : Heap) (locs1 : List Loc), t.heap = H1 → s.vm.Alike t.vm → px u → BX E u t → H.size ≤ H1.size → (∀ q : Nat, q < H.size → ¬ AX q → H1[q]? = H[q]?) → va_S A0 H0 H1 locs1 → H1[q9]? = some ce → ce.vm = .none → s.vm.findClass E = some ce.cls → vx_W p l e R s m args below meth c H1 locs1 (cells + mc) (slots + ms) Q (F0 m pc ls rest) q9)
    (kk : ∀ (r : UInt64) (u : S) (t : State) (H1 : Heap) (locs1 : List Loc), t.heap = H1 → s.vm.Alike t.vm → post r u → B u t → H.size ≤ H1.size → (∀ q : Nat, q < H.size → ¬ A1 q → H1[q]? = H[q]?) → va_S A0 H0 H1 locs1 → W p l e R s m args below meth c H1 locs1 (cells + mc) (slots + ms) Q (F0 m (pc + 3) ls (.double r :: rest))) : W p l e R s m args below meth c H locs cells slots Q (F0 m pc ls st0) := by
  intro T hT X
  rcases hr T hT X with ⟨v, st₀, t, T', L, h0, X', hL, e1, e2, ⟨⟨r, u, hv, hp, hb⟩, hF⟩, st⟩ | ⟨q, st₀, t, T', L, E, ce, h0, X', hL, e1, e2, ⟨u, hp, hb, hF⟩, hce, hcv, hcl, st⟩
  · cases hv
    obtain ⟨k1, k2, k3⟩ := vx_keep h0 e1 hS hA hf hL hF
    obtain ⟨t2, a1, b1⟩ := kk r u t T'.heap (locs ++ L) e1.symm (by rw [← e2]; exact X'.warmed.alike) hp hb k1 k2 k3 T' rfl X'
    exact ⟨t2, st t2 a1, b1⟩
  · obtain ⟨k1, k2, k3⟩ := vx_keep h0 e1 hS hAX hf hL hF
    obtain ⟨t2, a1, b1⟩ := kx E ce q u t T'.heap (locs ++ L) e1.symm (by rw [← e2]; exact X'.warmed.alike) hp hb k1 k2 k3 (by rw [e1]; exact hce) hcv hcl T' rfl X'
    exact ⟨t2, st.trans a1, b1⟩
theorem vx_callv {S SX : Type} {post : S → Prop} {px : SX → Prop} {B : S → State → Prop} {BX : String → SX → State → Prop} {AX : Nat → Prop} (hr : vx_Run p l e R s m args below meth c H locs cells slots mc ms (F0 m pc ls st0) rest (va_Qv post B A1 a) (vx_X px BX AX) free) (hS : va_S A0 H0 H locs) (hA : ∀ q, q < H.size → A1 q → A0 q) (hf : ∀ q, free q → A0 q) (hAX : ∀ q, q < H.size → AX q → A0 q)
    (kx : ∀ (E : String) (ce : Cell) (q9 : Addr) (u : SX) (t : State) (H1 : Heap) (locs1 : List Loc), t.heap = H1 → s.vm.Alike t.vm → px u → BX E u t → H.size ≤ H1.size → (∀ q : Nat, q < H.size → ¬ AX q → H1[q]? = H[q]?) → va_S A0 H0 H1 locs1 → H1[q9]? = some ce → ce.vm = .none → s.vm.findClass E = some ce.cls → vx_W p l e R s m args below meth c H1 locs1 (cells + mc) (slots + ms) Q (F0 m pc ls rest) q9)
    (kk : ∀ (u : S) (t : State) (H1 : Heap) (locs1 : List Loc), t.heap = H1 → s.vm.Alike t.vm → post u → B u t → H.size ≤ H1.size → (∀ q : Nat, q < H.size → ¬ A1 q → H1[q]? = H[q]?) → va_S A0 H0 H1 locs1 → W p l e R s m args below meth c H1 locs1 (cells + mc) (slots + ms) Q (F0 m (pc + 3) ls (rest))) : W p l e R s m args below meth c H locs cells slots Q (F0 m pc ls st0) := by
  intro T hT X
  rcases hr T hT X with ⟨v, st₀, t, T', L, h0, X', hL, e1, e2, ⟨⟨u, hv, hp, hb⟩, hF⟩, st⟩ | ⟨q, st₀, t, T', L, E, ce, h0, X', hL, e1, e2, ⟨u, hp, hb, hF⟩, hce, hcv, hcl, st⟩
  · cases hv
    obtain ⟨k1, k2, k3⟩ := vx_keep h0 e1 hS hA hf hL hF
    obtain ⟨t2, a1, b1⟩ := kk u t T'.heap (locs ++ L) e1.symm (by rw [← e2]; exact X'.warmed.alike) hp hb k1 k2 k3 T' rfl X'
    exact ⟨t2, st t2 a1, b1⟩
  · obtain ⟨k1, k2, k3⟩ := vx_keep h0 e1 hS hAX hf hL hF
    obtain ⟨t2, a1, b1⟩ := kx E ce q u t T'.heap (locs ++ L) e1.symm (by rw [← e2]; exact X'.warmed.alike) hp hb k1 k2 k3 (by rw [e1]; exact hce) hcv hcl T' rfl X'
    exact ⟨t2, st.trans a1, b1⟩
end Rows
section Ends
variable {p : Program} {l : Launch} {e : Env} {R : Room} {s : State} {m : MethodId} {args : Array Value} {below : List Frame} {meth : Method} {c : Code} {H : Heap} {locs : List Loc} {cells slots : Nat} {Q : State → Prop}
variable {mc ms : Nat} {free : Addr → Prop} {A0 A1 : Nat → Prop} {H0 : Heap} {a : Array Value} {ls : Array Slot} {st0 rest : List Value}
variable {Qc : Array Value → State → Outcome → State → Prop} {XC : String → State → State → Prop}
/-- what a body that may throw owes at its end -/
def vx_MQ (below : List Frame) (Qc : Array Value → State → Outcome → State → Prop) (XC : String → State → State → Prop) (a : Array Value) (s : State) (mc ms : Nat) (free : Addr → Prop) : State → Prop := fun t =>
  ∃ o, t.status = .running ∧ Ended t below o ∧ vx_Q Qc XC mc ms free a s o t
theorem vx_ret {g : JFrame} {mc ms : Nat} (k : W p l e R s m args below meth c H locs cells slots (MQ below Qc args s mc ms free) g) : W p l e R s m args below meth c H locs cells slots (vx_MQ below Qc XC args s mc ms free) g := by
  intro T hT X
  obtain ⟨t, a1, o, b1, b2, b3, b4⟩ := k T hT X
  exact ⟨t, a1, o, b1, b2, Or.inl ⟨b3, b4⟩⟩
/-- not caught here: it goes on to the caller -/
theorem vx_widen {g : JFrame} {q : Addr} {k n : Nat} (h1 : cells ≤ k) (h2 : slots ≤ n) (kk : vx_W p l e R s m args below meth c H locs k n Q g q) : vx_W p l e R s m args below meth c H locs cells slots Q g q := fun T hT X => kk T hT (stand_widen X h1 h2)
theorem vx_out {pc : Nat} {E : String} {ce : Cell} {q : Addr} {mc ms : Nat} (hout : ∀ x ∈ c.exceptionTable.toList, covers x pc = false) (hlocks : meth.locks = false) (hcell : H[q]? = some ce) (hv : ce.vm = .none) (hcl : s.vm.findClass E = some ce.cls)
    (hx : ∀ t : State, t.heap = H → s.vm.Alike t.vm → XC E s t) (hf : ∀ z ∈ locs, free z.base) (hc : cells ≤ mc) (hs : slots ≤ ms) :
    vx_W p l e R s m args below meth c H locs cells slots (vx_MQ below Qc XC args s mc ms free) (F0 m pc ls rest) q := by
  intro T hT X
  obtain ⟨st1, hrun, hend, hW, hsm⟩ := X.leaveThrown q (g := F0 m pc ls rest) rfl rfl rfl hout hlocks
  have hcell9 : (T.setFrames (.throwing q :: below)).heap[q]? = some ce := by
    show T.heap[q]? = some ce
    rw [hT]; exact hcell
  exact ⟨_, st1, .threw q, hrun, hend, Or.inr ⟨q, rfl, E, ce, locs, hx _ hT hW.alike, hcell9, hv, hcl, hW, hsm.mono hc hs, hf⟩⟩
theorem vx_frame {U : State} {k n : Nat} (h : s.sameButNew ({ U with vm := s.vm } : State) locs k n) : s.heap.size ≤ U.heap.size ∧ ∀ q : Nat, q < s.heap.size → (∀ z ∈ locs, z.base ≠ q) → U.heap[q]? = s.heap[q]? := by
  obtain ⟨-, h2, -, -, -, h6⟩ := h
  refine ⟨h2, fun q hq hz => ?_⟩
  obtain ⟨c9, e1, e2, e3, e4⟩ := h6 q _ (Array.getElem?_eq_getElem hq)
  have hs : c9.slots = (s.heap[q]).slots := Array.ext_getElem? fun i => e4 i fun hm => hz _ hm rfl
  have h9 : c9 = s.heap[q] := by
    rw [hs] at e2
    exact e2
  have e5 : U.heap[q]? = some c9 := e1
  rw [e5, h9, Array.getElem?_eq_getElem hq]
/-- the words of a throw but the four that speak of the heap -/
def vx_no (w : Cond) : Bool := decide (w ≠ .isRef (.static Bundle.tN "UNASSIGNED_STACK" Bundle.steD)) && decide (w ≠ .isRef (.static Bundle.tN "SUPPRESSED_SENTINEL" Bundle.listD)) && decide (w ≠ .laysStatic Bundle.tN "UNASSIGNED_STACK" Bundle.steD) && decide (w ≠ .laysStatic Bundle.tN "SUPPRESSED_SENTINEL" Bundle.listD)
def vx_at0 (own : String) (ic : Nat) (X : String) (names : List String) : List Cond := (Bundle.ownAtoms0 own ic X names).filter vx_no
def vx_atS (own : String) (ic : Nat) (X : String) (names : List String) : List Cond := (Bundle.ownAtoms own ic X names).filter vx_no
/-- a word that the tables alone decide, or a good one -/
def vx_ot (w : Cond) : Bool := w.onTables || goodWord w
theorem vx_ot_at {args a' : Array Value} {s U : State} {w : Cond} (hW : s.WarmedH U.vm) (hvm : s.vm = U.vm) (hg : vx_ot w = true) (h : w.before args s = true) : w.before a' U = true := by
  simp only [vx_ot, Bool.or_eq_true] at hg
  rcases hg with hg | hg
  · exact va_tabs hg hvm h
  · exact word_at hW (good_of_word hg) h
/-- a list's words: the good ones out of the method's own list, the others by premises of their own -/
theorem vx_hat {args : Array Value} {s : State} {L B : List Cond} (h1 : ∀ w ∈ L.filter goodWord, w.before args s = true) (h2 : ∀ w ∈ L.filter (fun w => !goodWord w), w ∈ B) (h3 : ∀ w ∈ B, w.before args s = true) : ∀ w ∈ L, w.before args s = true := by
  intro w hw
  by_cases g : goodWord w = true
  · exact h1 w (List.mem_filter.mpr ⟨hw, g⟩)
  · refine h3 w (h2 w (List.mem_filter.mpr ⟨hw, ?_⟩))
    show (!goodWord w) = true
    cases hgw : goodWord w
    · rfl
    · exact absurd hgw g
theorem vx_c {args : Array Value} {s : State} {w : Cond} {B : List Cond} (h : w.before args s = true) (t : ∀ w ∈ B, w.before args s = true) : ∀ w' ∈ w :: B, w'.before args s = true := fun w' h' => (List.mem_cons.mp h').elim (fun e => by rw [e]; exact h) (t w')
theorem vx_n {args : Array Value} {s : State} : ∀ w ∈ ([] : List Cond), w.before args s = true := fun _ h => nomatch h
theorem vx_own {args : Array Value} {s : State} {L : List Cond} (h1 : ∀ w ∈ L.filter vx_no, w.before args s = true)
    (hU : (Cond.isRef (.static Bundle.tN "UNASSIGNED_STACK" Bundle.steD)).before args s = true) (hN : (Cond.isRef (.static Bundle.tN "SUPPRESSED_SENTINEL" Bundle.listD)).before args s = true)
    (lU : (Cond.laysStatic Bundle.tN "UNASSIGNED_STACK" Bundle.steD).before args s = true) (lN : (Cond.laysStatic Bundle.tN "SUPPRESSED_SENTINEL" Bundle.listD).before args s = true) : ∀ w ∈ L, w.before args s = true := by
  intro w hw
  by_cases e1 : w = .isRef (.static Bundle.tN "UNASSIGNED_STACK" Bundle.steD)
  · rw [e1]; exact hU
  · by_cases e2 : w = .isRef (.static Bundle.tN "SUPPRESSED_SENTINEL" Bundle.listD)
    · rw [e2]; exact hN
    · by_cases e3 : w = .laysStatic Bundle.tN "UNASSIGNED_STACK" Bundle.steD
      · rw [e3]; exact lU
      · by_cases e4 : w = .laysStatic Bundle.tN "SUPPRESSED_SENTINEL" Bundle.listD
        · rw [e4]; exact lN
        · exact h1 w (List.mem_filter.mpr ⟨hw, by unfold vx_no; rw [decide_eq_true e1, decide_eq_true e2, decide_eq_true e3, decide_eq_true e4]; rfl⟩)
/-- where a static field lies, its class's statics cell in H -/
def vx_L (C n d : String) (A : Nat → Prop) (U : State) (H : Heap) : Prop := ∃ (c : ClassId) (k : Class) (i : Nat) (f : Field) (a : Nat) (cell : Cell), U.vm.findClass C = some c ∧ U.fieldFound? C n d = some (c, k, i, f) ∧ f.isStatic = true ∧ k.statics = some a ∧ H[a]? = some cell ∧ cell.vm.isStatics = true ∧ cell.cls = c ∧ f.slot < cell.slots.size ∧ k.staticTypes[f.slot]? = some f.type ∧ ¬ A a
theorem vx_L.moved {C n d : String} {A : Nat → Prop} {u U : State} {H : Heap} (hvm : u.vm.Alike U.vm) (h : vx_L C n d A u H) : vx_L C n d A U H := by
  obtain ⟨c, k, i, f, a, cell, h1, h2, h3, h4, h5, h6, h7, h8, h9, h10⟩ := h
  obtain ⟨k', hi', he⟩ := State.fieldFound?_setVm hvm h2
  exact ⟨c, k', i, f, a, cell, by rw [hvm.findClass]; exact h1, hi', h3, by rw [he]; exact h4, h5, h6, h7, h8, by rw [he]; exact h9, h10⟩
theorem vx_L.kept {C n d : String} {A : Nat → Prop} {U : State} {H H1 : Heap} (h : vx_L C n d A U H) (hq : ∀ a : Nat, a < H.size → ¬ A a → H1[a]? = H[a]?) : vx_L C n d A U H1 := by
  obtain ⟨c, k, i, f, a, cell, h1, h2, h3, h4, h5, h6, h7, h8, h9, h10⟩ := h
  exact ⟨c, k, i, f, a, cell, h1, h2, h3, h4, by rw [hq a (Array.getElem?_eq_some_iff.mp h5).1 h10]; exact h5, h6, h7, h8, h9, h10⟩
theorem vx_L.narrow {C n d : String} {A B : Nat → Prop} {U : State} {H : Heap} (h : vx_L C n d A U H) (hAB : ∀ q, B q → A q) : vx_L C n d B U H := by
  obtain ⟨c, k, i, f, a, cell, h1, h2, h3, h4, h5, h6, h7, h8, h9, h10⟩ := h
  exact ⟨c, k, i, f, a, cell, h1, h2, h3, h4, h5, h6, h7, h8, h9, fun z => h10 (hAB _ z)⟩
theorem vx_L.word {C n d : String} {A : Nat → Prop} {s : State} {args : Array Value} (h : vx_L C n d A s s.heap) : (Cond.laysStatic C n d).before args s = true := by
  obtain ⟨c, k, i, f, a, cell, h1, h2, h3, h4, h5, h6, h7, h8, h9, -⟩ := h
  show (Cond.laysStatic C n d).holds args s none s [] = true
  exact Cond.laysStatic_of h1 h2 h3 h4 h5 h6 h7 h8 h9
/-- .. and what it holds: null or some reference -/
def vx_Zq (C n d : String) (A : Nat → Prop) (U : State) (H : Heap) : Prop := va_Zq C n d A U H ∧ vx_L C n d A U H
theorem vx_Zq.moved {C n d : String} {A : Nat → Prop} {u U : State} {H : Heap} (hvm : u.vm.Alike U.vm) (h : vx_Zq C n d A u H) : vx_Zq C n d A U H := ⟨va_Zq.moved hvm h.1, vx_L.moved hvm h.2⟩
theorem vx_Zq.kept {C n d : String} {A : Nat → Prop} {U : State} {H H1 : Heap} (h : vx_Zq C n d A U H) (hq : ∀ a : Nat, a < H.size → ¬ A a → H1[a]? = H[a]?) : vx_Zq C n d A U H1 := ⟨va_Zq.kept h.1 hq, vx_L.kept h.2 hq⟩
theorem vx_Zq.narrow {C n d : String} {A B : Nat → Prop} {U : State} {H : Heap} (h : vx_Zq C n d A U H) (hAB : ∀ q, B q → A q) : vx_Zq C n d B U H := ⟨va_Zq.narrow h.1 hAB, vx_L.narrow h.2 hAB⟩
theorem vx_Zqof {args : Array Value} {s : State} {C n d : String} {A : Nat → Prop} (hl : (Cond.laysStatic C n d).before args s = true) (hini : (Cond.initialized C).before args s = true) (h : (Cond.isRef (.static C n d)).before args s = true) (hA : ∀ a : Nat, a < s.heap.size → ¬ A a) : vx_Zq C n d A s s.heap := by
  refine ⟨va_Zqof hl hini h hA, ?_⟩
  obtain ⟨c, k, i, f, a, cell, h1, h2, h3, h4, h5, h6, h7, h8, h9⟩ := Cond.laysStatic_spec hl
  exact ⟨c, k, i, f, a, cell, h1, h2, h3, h4, h5, h6, h7, h8, h9, hA a (Array.getElem?_eq_some_iff.mp h5).1⟩
theorem vx_isRef {C n d : String} {v : Value} {A : Nat → Prop} {s : State} {args : Array Value} (h : va_Z C n d v A s s.heap) (hv : v.isRef = true) : (Cond.isRef (.static C n d)).before args s = true := by
  obtain ⟨cf, kf, fi, f, a, cell, h1, h2, h3, h4, h5, h6, h7, -⟩ := h
  have he : (Term.static C n d).eval args s none [] s = some v := by
    simp [Term.eval, State.fieldNamed?, h1, h2, h4, h5, h6, h7]
  simp only [Cond.before, Cond.holds, Cond.value, he]
  cases v <;> simp_all [Value.isRef]
theorem vx_isRefq {C n d : String} {A : Nat → Prop} {s : State} {args : Array Value} (h : va_Zq C n d A s s.heap) : (Cond.isRef (.static C n d)).before args s = true := by
  rcases h with h | ⟨t, h⟩
  · exact vx_isRef h rfl
  · exact vx_isRef h rfl
/-- the same frame, seen from here: as if the method were called anew in this heap -/
theorem vx_rebase {T : State} (X : Stand p l e R s m args below meth c T locs cells slots) {R' : Room} (hf : R'.frames ≤ R.frames) (hl : R'.locals ≤ R.locals) (hc : cells + R'.cells ≤ R.cells) (hs : slots + R'.slots ≤ R.slots) :
    Stand p l e R' ((T.setVm s.vm).setFrames (.invoking m args :: below)) m args below meth c T [] 0 0 := by
  have htop : (T.setVm s.vm).topJava?.isSome := X.here.top
  have hF : ((T.setVm s.vm).setFrames (.invoking m args :: below)).frames = .invoking m args :: below := State.frames_setFrames _ (State.cur_lt_of_top htop)
  obtain ⟨g₀, hg0⟩ := Option.isSome_iff_exists.mp htop
  obtain ⟨r, hr⟩ := State.topJava?_eq_some.mp hg0
  have hl9 : e.platform.stackLimits (T.setVm s.vm).me = e.platform.stackLimits s.me := X.limits
  have hb9 : (T.setVm s.vm).me.stackBytes = s.me.stackBytes := X.bytes
  refine ⟨X.admits, X.cas, X.clock, hF, ?_, X.hears, X.method, X.code, X.here, X.tail, X.warmed, ?_, ?_, ?_⟩
  · have h := X.room
    have hU : ((T.setVm s.vm).setFrames (.invoking m args :: below)).localsInUse = s.localsInUse := by
      rw [State.localsInUse_invoking hF (meth := meth) (c := c) X.method X.code, State.localsInUse_invoking X.frames X.method X.code]
    simp only [State.hasRoom, Bool.and_eq_true, decide_eq_true_eq] at h ⊢
    obtain ⟨⟨⟨⟨h1, h2, h3, h4, h5, h6⟩, h7⟩, h8⟩, h9⟩ := h
    rw [X.frames, List.length_cons] at h2 h3
    have q1 := X.heapSize
    have q2 := X.used
    simp only [hF, hU, List.length_cons, State.stackLimits_setFrames, State.stackBytes_setFrames, hl9, hb9]
    refine ⟨⟨⟨⟨by omega, by omega, by omega, by omega, by omega, h6⟩, ?_⟩, ?_⟩, X.book⟩
    · show T.heap.size + R'.cells ≤ e.platform.maxCells
      omega
    · show T.slotsUsed + R'.slots ≤ e.platform.maxSlots
      omega
  · rw [State.stackLimits_setFrames]; rfl
  · rw [State.stackBytes_setFrames]; rfl
  · refine ⟨?_, Nat.le_refl _, Nat.le_refl _, ?_, ?_, fun a c9 h9 => ⟨c9, h9, rfl, rfl, fun _ _ => rfl⟩⟩
    · obtain ⟨t, ht, -⟩ := State.frames_cons hr
      show T.setVm s.vm = { ((T.setVm s.vm).setFrames (.invoking m args :: below)).setFrames (T.setVm s.vm).frames with heap := T.heap, slotsUsed := T.slotsUsed }
      rw [State.setFrames_setFrames, State.setFrames_self ht]
      rfl
    · show T.slotsUsed = T.slotsUsed + ((T.heap.toList.drop T.heap.size).map (·.slots.size)).sum
      rw [List.drop_eq_nil_of_le (Nat.le_of_eq Array.length_toList)]
      rfl
    · show ((T.heap.toList.drop T.heap.size).map (·.slots.size)).sum ≤ 0
      rw [List.drop_eq_nil_of_le (Nat.le_of_eq Array.length_toList)]
      exact Nat.le_refl _
/-- 'throw new E()': new; dup; invokespecial; athrow -/
theorem vx_throw0 {cc : ByteArray} {pc : Nat} (hexec : p.tables.exec = Jvm.exec) (hb : c.code = cc) (hl : l.stackTraces = false) {own cls : String} {names : List String} {ik ic mc ms : Nat} {A : Nat → Prop}
    (hown : s.vm.findClass own = some m.cls) (hcls : Bundle.fit cls = true) (hnames : ∀ n ∈ names, Bundle.fit n = true)
    (hk : (Cond.classLink own ik cls).before args s = true) (hini : (Cond.initialized cls).before args s = true) (hat : ∀ w ∈ vx_at0 own ic cls names, w.before args s = true)
    (hgood : ∀ w ∈ Cond.classLink own ik cls :: Cond.initialized cls :: vx_at0 own ic cls names, vx_ot w = true)
    (hU : vx_Zq Bundle.tN "UNASSIGNED_STACK" Bundle.steD A s s.heap) (hN : vx_Zq Bundle.tN "SUPPRESSED_SENTINEL" Bundle.listD A s s.heap) (hS : va_S A s.heap H locs) (hsize : ls.size = c.maxLocals)
    (d0 : decode cc pc = .ok (.new ik, 3)) (d3 : decode cc (pc + 3) = .ok (.dup, 1)) (d4 : decode cc (pc + 4) = .ok (.invokespecial ic, 3)) (d7 : decode cc (pc + 7) = .ok (.athrow, 1))
    (hout : ∀ x ∈ c.exceptionTable.toList, covers x (pc + 7) = false)
    (hRframes : names.length + 3 < R.frames) (hRlocals : (rest.map fun v => v.category).sum + (13 * (names.length + 1) + 42) ≤ R.locals) (hRcells : cells + 1 ≤ R.cells) (hRslots : slots + 6 ≤ R.slots) (hlocks : meth.locks = false)
    (hx : ∀ t : State, s.vm.Alike t.vm → H.size ≤ t.heap.size → (∀ q : Nat, q < H.size → t.heap[q]? = H[q]?) → XC cls s t)
    (hf : ∀ z ∈ locs, free z.base) (hc : cells + 1 ≤ mc) (hs : slots + 6 ≤ ms) :
    W p l e R s m args below meth c H locs cells slots (vx_MQ below Qc XC args s mc ms free) (F0 m pc ls rest) := by
  intro T hT X
  have htr : e.platform.stackTraces = false := (show e.platform.stackTraces = l.stackTraces by rw [X.admits.platform]).trans hl
  have Y := vx_rebase X (R' := { frames := R.frames, locals := R.locals, cells := 1, slots := 6 }) (Nat.le_refl _) (Nat.le_refl _) hRcells hRslots
  obtain ⟨s', hA⟩ : ∃ z, z = (T.setVm s.vm).setFrames (.invoking m args :: below) := ⟨_, rfl⟩
  rw [← hA] at Y
  have hvm : s'.vm = s.vm := by rw [hA]; rfl
  have hhp : s'.heap = H := by rw [hA]; exact hT
  have hW0 : s.WarmedH s'.vm := by rw [hvm]; exact State.WarmedH.refl s
  have hat' : ∀ w ∈ vx_at0 own ic cls names, w.before args s' = true := fun w hw => vx_ot_at hW0 hvm.symm (hgood w (List.mem_cons_of_mem _ (List.mem_cons_of_mem _ hw))) (hat w hw)
  have hk' : (Cond.classLink own ik cls).before args s' = true := vx_ot_at hW0 hvm.symm (hgood _ List.mem_cons_self) hk
  have hini' : (Cond.initialized cls).before args s' = true := vx_ot_at hW0 hvm.symm (hgood _ (List.mem_cons_of_mem _ List.mem_cons_self)) hini
  have hU' : vx_Zq Bundle.tN "UNASSIGNED_STACK" Bundle.steD A s' s'.heap := by rw [hhp]; exact vx_Zq.moved hW0.alike (hU.kept hS.2.1)
  have hN' : vx_Zq Bundle.tN "SUPPRESSED_SENTINEL" Bundle.listD A s' s'.heap := by rw [hhp]; exact vx_Zq.moved hW0.alike (hN.kept hS.2.1)
  have h : ∀ w ∈ Bundle.ownAtoms0 own ic cls names, w.before args s' = true := vx_own hat' (vx_isRefq hU'.1) (vx_isRefq hN'.1) hU'.2.word hN'.2.word
  have hown' : s'.vm.findClass own = some m.cls := by rw [hvm]; exact hown
  have hins : (Cond.instantiable cls 6).before args s' = true := h _ (by simp [Bundle.ownAtoms0])
  obtain ⟨vm₁, cX, kX, hfX, hkX, -, -, X₁, st1⟩ := Y.newCold hexec (own := own) (C := cls) (index := ik) (n := 6) hown' hk' hins hini'
    (g := F0 m pc ls rest) rfl (by rw [hb]; exact d0) (Nat.le_refl _) (Nat.le_refl _)
  generalize hT1 : (T.setVm vm₁).pushCell { cls := cX, slots := kX.instanceTypes.map defaultValue, vm := .none } = T1 at X₁ st1
  have hcat : (Value.ref T.heap.size).category = 1 := rfl
  have hcellA : T1.heap[T.heap.size]? = some (freshCell cX kX) := by rw [← hT1]; exact State.heap_pushCell_size _ _
  have d3' : decode c.code (pc + 3) = .ok (.dup, 1) := by rw [hb]; exact d3
  obtain ⟨U, hsteps, hrun, hend, hW, hsame, ce, hce, hO⟩ := X₁.ctorThrow0 hexec htr (own := own) (cls := cls) (names := names) (ic := ic) hown' hcls hnames h (fun x hx => nomatch hx) hfX hkX hcellA (by rw [hhp, hT]; exact Nat.le_refl _)
    (g := { method := m, pc := pc + 4, locals := ls, stack := .ref T.heap.size :: .ref T.heap.size :: rest, locked := none }) rfl hsize rfl rfl (rest := rest) rfl
    (by rw [hb]; exact d4) (by rw [hb]; exact d7) hout hRframes (by simp only [List.map_cons, List.sum_cons, hcat]; omega) hlocks
  obtain ⟨f1, f2⟩ := vx_frame hsame
  rw [hhp] at f1 f2
  have hWs : s.WarmedH U.vm := State.WarmedH.trans hW0 hW
  have hcl : s.vm.findClass cls = some ce.cls := by
    have h9 := hO.cls
    rw [hvm] at h9
    exact h9
  have hall : s.sameButNew ({ U with vm := s.vm } : State) locs mc ms := by
    subst hA
    obtain ⟨e1, e2⟩ := hsame
    rw [State.setFrames_setFrames] at e1
    have h2 : (T.setVm s.vm).sameButNew ({ U with vm := s.vm } : State) [] (0 + 1) (0 + 6) := ⟨e1, e2⟩
    have h3 := X.same.trans h2
    rw [List.append_nil] at h3
    exact h3.mono hc hs
  refine ⟨U, ?_, .threw T.heap.size, hrun, hend, Or.inr ⟨T.heap.size, rfl, cls, ce, locs, hx U hWs.alike f1 (fun q hq => f2 q hq (fun z hz => nomatch hz)), hce, hO.vm, hcl, hWs, hall, hf⟩⟩
  refine st1 _ ?_
  show Steps p.tables e below (T1.setTop { method := m, pc := pc + 3, locals := ls, stack := .ref T.heap.size :: rest, locked := none }) _
  jvm_step X₁.here [X₁.here.top, hexec, d3', Value.category]
  exact hsteps
/-- 'throw new E("text")': new; dup; ldc; invokespecial; athrow -/
theorem vx_throwS {cc : ByteArray} {pc : Nat} (hexec : p.tables.exec = Jvm.exec) (hb : c.code = cc) (hl : l.stackTraces = false) {own cls text : String} {names : List String} {ik is ic mc ms sa : Nat} {A : Nat → Prop}
    (hown : s.vm.findClass own = some m.cls) (hcls : Bundle.fit cls = true) (hnames : ∀ n ∈ names, Bundle.fit n = true)
    (hk : (Cond.classLink own ik cls).before args s = true) (hini : (Cond.initialized cls).before args s = true) (hstr : vk_R own is text sa s) (hat : ∀ w ∈ vx_atS own ic cls names, w.before args s = true)
    (hgood : ∀ w ∈ Cond.classLink own ik cls :: Cond.initialized cls :: vx_atS own ic cls names, vx_ot w = true)
    (hU : vx_Zq Bundle.tN "UNASSIGNED_STACK" Bundle.steD A s s.heap) (hN : vx_Zq Bundle.tN "SUPPRESSED_SENTINEL" Bundle.listD A s s.heap) (hS : va_S A s.heap H locs) (hsize : ls.size = c.maxLocals)
    (d0 : decode cc pc = .ok (.new ik, 3)) (d3 : decode cc (pc + 3) = .ok (.dup, 1)) (d4 : decode cc (pc + 4) = .ok (.ldc is, 2)) (d6 : decode cc (pc + 6) = .ok (.invokespecial ic, 3)) (d9 : decode cc (pc + 9) = .ok (.athrow, 1))
    (hout : ∀ x ∈ c.exceptionTable.toList, covers x (pc + 9) = false)
    (hRframes : names.length + 3 < R.frames) (hRlocals : (rest.map fun v => v.category).sum + (13 * (names.length + 1) + 43) ≤ R.locals) (hRcells : cells + 1 ≤ R.cells) (hRslots : slots + 6 ≤ R.slots) (hlocks : meth.locks = false)
    (hx : ∀ t : State, s.vm.Alike t.vm → H.size ≤ t.heap.size → (∀ q : Nat, q < H.size → t.heap[q]? = H[q]?) → XC cls s t)
    (hf : ∀ z ∈ locs, free z.base) (hc : cells + 1 ≤ mc) (hs : slots + 6 ≤ ms) :
    W p l e R s m args below meth c H locs cells slots (vx_MQ below Qc XC args s mc ms free) (F0 m pc ls rest) := by
  intro T hT X
  have htr : e.platform.stackTraces = false := (show e.platform.stackTraces = l.stackTraces by rw [X.admits.platform]).trans hl
  have Y := vx_rebase X (R' := { frames := R.frames, locals := R.locals, cells := 1, slots := 6 }) (Nat.le_refl _) (Nat.le_refl _) hRcells hRslots
  obtain ⟨s', hA⟩ : ∃ z, z = (T.setVm s.vm).setFrames (.invoking m args :: below) := ⟨_, rfl⟩
  rw [← hA] at Y
  have hvm : s'.vm = s.vm := by rw [hA]; rfl
  have hhp : s'.heap = H := by rw [hA]; exact hT
  have hW0 : s.WarmedH s'.vm := by rw [hvm]; exact State.WarmedH.refl s
  have hat' : ∀ w ∈ vx_atS own ic cls names, w.before args s' = true := fun w hw => vx_ot_at hW0 hvm.symm (hgood w (List.mem_cons_of_mem _ (List.mem_cons_of_mem _ hw))) (hat w hw)
  have hk' : (Cond.classLink own ik cls).before args s' = true := vx_ot_at hW0 hvm.symm (hgood _ List.mem_cons_self) hk
  have hini' : (Cond.initialized cls).before args s' = true := vx_ot_at hW0 hvm.symm (hgood _ (List.mem_cons_of_mem _ List.mem_cons_self)) hini
  have hU' : vx_Zq Bundle.tN "UNASSIGNED_STACK" Bundle.steD A s' s'.heap := by rw [hhp]; exact vx_Zq.moved hW0.alike (hU.kept hS.2.1)
  have hN' : vx_Zq Bundle.tN "SUPPRESSED_SENTINEL" Bundle.listD A s' s'.heap := by rw [hhp]; exact vx_Zq.moved hW0.alike (hN.kept hS.2.1)
  have h : ∀ w ∈ Bundle.ownAtoms own ic cls names, w.before args s' = true := vx_own hat' (vx_isRefq hU'.1) (vx_isRefq hN'.1) hU'.2.word hN'.2.word
  have hown' : s'.vm.findClass own = some m.cls := by rw [hvm]; exact hown
  have hins : (Cond.instantiable cls 6).before args s' = true := h _ (by simp [Bundle.ownAtoms])
  obtain ⟨vm₁, cX, kX, hfX, hkX, -, -, X₁, st1⟩ := Y.newCold hexec (own := own) (C := cls) (index := ik) (n := 6) hown' hk' hins hini'
    (g := F0 m pc ls rest) rfl (by rw [hb]; exact d0) (Nat.le_refl _) (Nat.le_refl _)
  generalize hT1 : (T.setVm vm₁).pushCell { cls := cX, slots := kX.instanceTypes.map defaultValue, vm := .none } = T1 at X₁ st1
  have hcat : (Value.ref T.heap.size).category = 1 := rfl
  have hcellA : T1.heap[T.heap.size]? = some (freshCell cX kX) := by rw [← hT1]; exact State.heap_pushCell_size _ _
  have d3' : decode c.code (pc + 3) = .ok (.dup, 1) := by rw [hb]; exact d3
  have d4' : decode c.code (pc + 4) = .ok (.ldc is, 2) := by rw [hb]; exact d4
  have hstr' : vk_R own is text sa s' := vk_R.warm hW0 hstr
  obtain ⟨U, hsteps, hrun, hend, hW, hsame, ce, hce, hO⟩ := X₁.ctorThrowS hexec htr (own := own) (cls := cls) (names := names) (ic := ic) hown' hcls hnames h (fun x hx => nomatch hx) hfX hkX hcellA (by rw [hhp, hT]; exact Nat.le_refl _) (msg := .ref sa) rfl
    (g := { method := m, pc := pc + 6, locals := ls, stack := .ref sa :: .ref T.heap.size :: .ref T.heap.size :: rest, locked := none }) rfl hsize rfl rfl (rest := rest) rfl
    (by rw [hb]; exact d6) (by rw [hb]; exact d9) hout hRframes (by simp only [List.map_cons, List.sum_cons, hcat]; omega) hlocks
  obtain ⟨f1, f2⟩ := vx_frame hsame
  rw [hhp] at f1 f2
  have hWs : s.WarmedH U.vm := State.WarmedH.trans hW0 hW
  have hcl : s.vm.findClass cls = some ce.cls := by
    have h9 := hO.cls
    rw [hvm] at h9
    exact h9
  have hall : s.sameButNew ({ U with vm := s.vm } : State) locs mc ms := by
    subst hA
    obtain ⟨e1, e2⟩ := hsame
    rw [State.setFrames_setFrames] at e1
    have h2 : (T.setVm s.vm).sameButNew ({ U with vm := s.vm } : State) [] (0 + 1) (0 + 6) := ⟨e1, e2⟩
    have h3 := X.same.trans h2
    rw [List.append_nil] at h3
    exact h3.mono hc hs
  refine ⟨U, ?_, .threw T.heap.size, hrun, hend, Or.inr ⟨T.heap.size, rfl, cls, ce, locs, hx U hWs.alike f1 (fun q hq => f2 q hq (fun z hz => nomatch hz)), hce, hO.vm, hcl, hWs, hall, hf⟩⟩
  refine st1 _ ?_
  show Steps p.tables e below (T1.setTop { method := m, pc := pc + 3, locals := ls, stack := .ref T.heap.size :: rest, locked := none }) _
  jvm_step X₁.here [X₁.here.top, hexec, d3', Value.category]
  exact X₁.ldcString hexec (own := own) (text := text) (index := is) (a := sa) hown' hstr'.1 hstr'.2
    (g := { method := m, pc := pc + 4, locals := ls, stack := .ref T.heap.size :: .ref T.heap.size :: rest, locked := none }) rfl d4' _ hsteps
/-- 'throw new E("text")', the text by a wide index -/
theorem vx_throwSW {cc : ByteArray} {pc : Nat} (hexec : p.tables.exec = Jvm.exec) (hb : c.code = cc) (hl : l.stackTraces = false) {own cls text : String} {names : List String} {ik is ic mc ms sa : Nat} {A : Nat → Prop}
    (hown : s.vm.findClass own = some m.cls) (hcls : Bundle.fit cls = true) (hnames : ∀ n ∈ names, Bundle.fit n = true)
    (hk : (Cond.classLink own ik cls).before args s = true) (hini : (Cond.initialized cls).before args s = true) (hstr : vk_R own is text sa s) (hat : ∀ w ∈ vx_atS own ic cls names, w.before args s = true)
    (hgood : ∀ w ∈ Cond.classLink own ik cls :: Cond.initialized cls :: vx_atS own ic cls names, vx_ot w = true)
    (hU : vx_Zq Bundle.tN "UNASSIGNED_STACK" Bundle.steD A s s.heap) (hN : vx_Zq Bundle.tN "SUPPRESSED_SENTINEL" Bundle.listD A s s.heap) (hS : va_S A s.heap H locs) (hsize : ls.size = c.maxLocals)
    (d0 : decode cc pc = .ok (.new ik, 3)) (d3 : decode cc (pc + 3) = .ok (.dup, 1)) (d4 : decode cc (pc + 4) = .ok (.ldc_w is, 3)) (d7 : decode cc (pc + 7) = .ok (.invokespecial ic, 3)) (d10 : decode cc (pc + 10) = .ok (.athrow, 1))
    (hout : ∀ x ∈ c.exceptionTable.toList, covers x (pc + 10) = false)
    (hRframes : names.length + 3 < R.frames) (hRlocals : (rest.map fun v => v.category).sum + (13 * (names.length + 1) + 43) ≤ R.locals) (hRcells : cells + 1 ≤ R.cells) (hRslots : slots + 6 ≤ R.slots) (hlocks : meth.locks = false)
    (hx : ∀ t : State, s.vm.Alike t.vm → H.size ≤ t.heap.size → (∀ q : Nat, q < H.size → t.heap[q]? = H[q]?) → XC cls s t)
    (hf : ∀ z ∈ locs, free z.base) (hc : cells + 1 ≤ mc) (hs : slots + 6 ≤ ms) :
    W p l e R s m args below meth c H locs cells slots (vx_MQ below Qc XC args s mc ms free) (F0 m pc ls rest) := by
  intro T hT X
  have htr : e.platform.stackTraces = false := (show e.platform.stackTraces = l.stackTraces by rw [X.admits.platform]).trans hl
  have Y := vx_rebase X (R' := { frames := R.frames, locals := R.locals, cells := 1, slots := 6 }) (Nat.le_refl _) (Nat.le_refl _) hRcells hRslots
  obtain ⟨s', hA⟩ : ∃ z, z = (T.setVm s.vm).setFrames (.invoking m args :: below) := ⟨_, rfl⟩
  rw [← hA] at Y
  have hvm : s'.vm = s.vm := by rw [hA]; rfl
  have hhp : s'.heap = H := by rw [hA]; exact hT
  have hW0 : s.WarmedH s'.vm := by rw [hvm]; exact State.WarmedH.refl s
  have hat' : ∀ w ∈ vx_atS own ic cls names, w.before args s' = true := fun w hw => vx_ot_at hW0 hvm.symm (hgood w (List.mem_cons_of_mem _ (List.mem_cons_of_mem _ hw))) (hat w hw)
  have hk' : (Cond.classLink own ik cls).before args s' = true := vx_ot_at hW0 hvm.symm (hgood _ List.mem_cons_self) hk
  have hini' : (Cond.initialized cls).before args s' = true := vx_ot_at hW0 hvm.symm (hgood _ (List.mem_cons_of_mem _ List.mem_cons_self)) hini
  have hU' : vx_Zq Bundle.tN "UNASSIGNED_STACK" Bundle.steD A s' s'.heap := by rw [hhp]; exact vx_Zq.moved hW0.alike (hU.kept hS.2.1)
  have hN' : vx_Zq Bundle.tN "SUPPRESSED_SENTINEL" Bundle.listD A s' s'.heap := by rw [hhp]; exact vx_Zq.moved hW0.alike (hN.kept hS.2.1)
  have h : ∀ w ∈ Bundle.ownAtoms own ic cls names, w.before args s' = true := vx_own hat' (vx_isRefq hU'.1) (vx_isRefq hN'.1) hU'.2.word hN'.2.word
  have hown' : s'.vm.findClass own = some m.cls := by rw [hvm]; exact hown
  have hins : (Cond.instantiable cls 6).before args s' = true := h _ (by simp [Bundle.ownAtoms])
  obtain ⟨vm₁, cX, kX, hfX, hkX, -, -, X₁, st1⟩ := Y.newCold hexec (own := own) (C := cls) (index := ik) (n := 6) hown' hk' hins hini'
    (g := F0 m pc ls rest) rfl (by rw [hb]; exact d0) (Nat.le_refl _) (Nat.le_refl _)
  generalize hT1 : (T.setVm vm₁).pushCell { cls := cX, slots := kX.instanceTypes.map defaultValue, vm := .none } = T1 at X₁ st1
  have hcat : (Value.ref T.heap.size).category = 1 := rfl
  have hcellA : T1.heap[T.heap.size]? = some (freshCell cX kX) := by rw [← hT1]; exact State.heap_pushCell_size _ _
  have d3' : decode c.code (pc + 3) = .ok (.dup, 1) := by rw [hb]; exact d3
  have d4' : decode c.code (pc + 4) = .ok (.ldc_w is, 3) := by rw [hb]; exact d4
  have hstr' : vk_R own is text sa s' := vk_R.warm hW0 hstr
  obtain ⟨U, hsteps, hrun, hend, hW, hsame, ce, hce, hO⟩ := X₁.ctorThrowS hexec htr (own := own) (cls := cls) (names := names) (ic := ic) hown' hcls hnames h (fun x hx => nomatch hx) hfX hkX hcellA (by rw [hhp, hT]; exact Nat.le_refl _) (msg := .ref sa) rfl
    (g := { method := m, pc := pc + 7, locals := ls, stack := .ref sa :: .ref T.heap.size :: .ref T.heap.size :: rest, locked := none }) rfl hsize rfl rfl (rest := rest) rfl
    (by rw [hb]; exact d7) (by rw [hb]; exact d10) hout hRframes (by simp only [List.map_cons, List.sum_cons, hcat]; omega) hlocks
  obtain ⟨f1, f2⟩ := vx_frame hsame
  rw [hhp] at f1 f2
  have hWs : s.WarmedH U.vm := State.WarmedH.trans hW0 hW
  have hcl : s.vm.findClass cls = some ce.cls := by
    have h9 := hO.cls
    rw [hvm] at h9
    exact h9
  have hall : s.sameButNew ({ U with vm := s.vm } : State) locs mc ms := by
    subst hA
    obtain ⟨e1, e2⟩ := hsame
    rw [State.setFrames_setFrames] at e1
    have h2 : (T.setVm s.vm).sameButNew ({ U with vm := s.vm } : State) [] (0 + 1) (0 + 6) := ⟨e1, e2⟩
    have h3 := X.same.trans h2
    rw [List.append_nil] at h3
    exact h3.mono hc hs
  refine ⟨U, ?_, .threw T.heap.size, hrun, hend, Or.inr ⟨T.heap.size, rfl, cls, ce, locs, hx U hWs.alike f1 (fun q hq => f2 q hq (fun z hz => nomatch hz)), hce, hO.vm, hcl, hWs, hall, hf⟩⟩
  refine st1 _ ?_
  show Steps p.tables e below (T1.setTop { method := m, pc := pc + 3, locals := ls, stack := .ref T.heap.size :: rest, locked := none }) _
  jvm_step X₁.here [X₁.here.top, hexec, d3', Value.category]
  exact X₁.ldcStringW hexec (own := own) (text := text) (index := is) (a := sa) hown' hstr'.1 hstr'.2
    (g := { method := m, pc := pc + 4, locals := ls, stack := .ref T.heap.size :: .ref T.heap.size :: rest, locked := none }) rfl d4' _ hsteps
end Ends
section Bodies
variable {l : Launch}
theorem vx_ofW {y : MethodName} {ws ws' : List Cond} {rm : Room} {Pc : Array Value → State → Prop} {Qc : Array Value → State → Outcome → State → Prop} {XC : String → State → State → Prop} {mc ms : Nat} {free : Addr → Prop} {cc : ByteArray} {maxL : Nat} {ret : Option FieldType}
    (hy : plainName y.cls = true) (hw : ws = Cond.code y cc maxL ret :: ws')
    (body : ∀ p e s m args below meth c s₁, BodyLoose p l y (headSpec ws rm) cc maxL ret e s m args below meth c s₁ → c.maxLocals = maxL → (∀ x ∈ c.exceptionTable.toList, False) → Pc args s →
      W p l e (headSpec ws rm).room s m args below meth c s.heap [] 0 0 (vx_MQ below Qc XC args s mc ms free) (entryFrame m args maxL)) : vx_Met l y ws rm Pc Qc XC mc ms free := by
  refine MetFree.of_bodyS (code := cc) (maxLocals := maxL) (ret := ret) hy ?_ ?_
  · intro args s m h hn
    obtain ⟨meth, c, h1, h2, h3, h4, h5, h6, -, -⟩ := Cond.code_spec hn (atoms_spec (ws := ws) h _ (by rw [hw]; exact List.mem_cons_self))
    exact ⟨meth, c, h1, h2, h3, h4, h5, h6⟩
  · intro p e s m args below meth c s₁ B hml hP _
    have hh0 : s₁.heap = s.heap := by rw [B.state]; rfl
    have ht : ∀ x ∈ c.exceptionTable.toList, False := by
      obtain ⟨meth9, c9, h1, h2, -, -, -, -, h7, -⟩ := Cond.code_spec B.named (atoms_spec (ws := ws) B.pre _ (by rw [hw]; exact List.mem_cons_self))
      cases Option.some.inj (h1.symm.trans B.method)
      cases Option.some.inj (h2.symm.trans (Stand.of_body B).code)
      intro x hx
      rw [Array.isEmpty_iff.mp h7] at hx
      cases hx
    obtain ⟨t, a1, o, b1, b2, b3⟩ := body p e s m args below meth c s₁ B hml ht hP s₁ hh0 (Stand.of_body B)
    exact ⟨t, o, a1, b1, b2, b3⟩
/-- the table of a body with handlers -/
theorem vx_table {p : Program} {x y : MethodName} {S : Spec} {cc bytes : ByteArray} {maxL maxL' : Nat} {ret ret' : Option FieldType} {e : Env} {s s₁ : State} {m : MethodId} {args : Array Value} {below : List Frame} {meth : Method} {c : Code} {hh : List (Nat × Nat × Nat × Nat)}
    (B : BodyLoose p l y S cc maxL ret e s m args below meth c s₁) (h : (Cond.codeWith y bytes maxL' ret' hh).before args s = true) : c.exceptionTable.toList = tableOf hh := by
  obtain ⟨m9, meth9, c9, hn9, h1, h2, -, -, h6, -⟩ := Cond.codeWith_spec h
  cases Option.some.inj (hn9.symm.trans B.named)
  cases Option.some.inj (h1.symm.trans B.method)
  cases Option.some.inj (h2.symm.trans (Stand.of_body B).code)
  rw [← h6, table_eq]
end Bodies
end VXA
/-! ===== END ===== -/
/-! ===== BEGIN a static call of a method with an exception table ===== -/
section VXS
variable {p : Program} {l : Launch} {e : Env} {R : Room} {s : State} {m : MethodId} {args : Array Value} {below : List Frame} {meth : Method} {c : Code} {T : State} {H : Heap} {locs : List Loc} {cells slots : Nat}
abbrev vx_CSW (R : Room) (s : State) (args : Array Value) (own : String) (index : Nat) (y : MethodName) (bytes : ByteArray) (maxL : Nat) (ret : Option FieldType) (hh : List (Nat × Nat × Nat × Nat)) (ws : List Cond) (rm : Room) (mc ms n : Nat) : Prop :=
  (rm.cells = mc ∧ rm.slots = ms ∧ rm.frames + 1 ≤ R.frames ∧ 8 + (maxL + 11) + rm.locals ≤ R.locals ∧ (∀ w ∈ ws, ∀ (a' : Array Value) (U : State), s.WarmedH U.vm → w.before a' U = true) ∧ Cond.codeWith y bytes maxL ret hh ∈ ws) ∧
  (Cond.codeWith y bytes maxL ret hh).before args s = true ∧ (Cond.initialized y.cls).before args s = true ∧ (y.cls ≠ "java/lang/invoke/MethodHandle" ∧ y.cls ≠ "java/lang/invoke/VarHandle") ∧
  (∀ sig, parseMethodDescriptor y.desc = some sig → n = sig.parameters.length) ∧ (Cond.methodLink own index y).before args s = true ∧ (Cond.static y).before args s = true
theorem vx_cwSW {own : String} {index maxL mc ms : Nat} {y : MethodName} {bytes : ByteArray} {ret : Option FieldType} {hh : List (Nat × Nat × Nat × Nat)} {Ts ws ws' : List Cond} {rm : Room} (n : Nat) (ht : ∀ w ∈ Ts, w.before args s = true) (hT : GoodIn Ts (va_wsS own index y ws)) (hw : ws = Cond.codeWith y bytes maxL ret hh :: ws') (hrc : rm.cells = mc) (hrs : rm.slots = ms)
    (hd : y.cls ≠ "java/lang/invoke/MethodHandle" ∧ y.cls ≠ "java/lang/invoke/VarHandle" ∧ (parseMethodDescriptor y.desc).map (fun d => d.parameters.length) = some n) (hR : rm.frames + 1 ≤ R.frames ∧ 8 + (maxL + 11) + rm.locals ≤ R.locals) :
    vx_CSW R s args own index y bytes maxL ret hh ws rm mc ms n := by
  have ok : ∀ w ∈ va_wsS own index y ws, w.before args s = true := fun w h => ht w (hT w h).1
  have hG : GoodIn Ts ws := fun w h => hT w (by unfold va_wsS; exact List.mem_append_right _ h)
  have hc : Cond.codeWith y bytes maxL ret hh ∈ ws := by rw [hw]; exact List.mem_cons_self
  refine ⟨⟨hrc, hrs, hR.1, hR.2, pay_in ht hG, hc⟩, ht _ (hG _ hc).1, ok _ (by simp [va_wsS]), ⟨hd.1, hd.2.1⟩, fun sig h => ?_, ok _ (by simp [va_wsS]), ok _ (by simp [va_wsS])⟩
  have h2 := hd.2.2
  rw [h] at h2
  exact (Option.some.inj h2).symm
theorem vx_callSW (X : Stand p l e R s m args below meth c T locs cells slots) (hexec : p.tables.exec = Jvm.exec) {own : String} {index : Nat} {y : MethodName} {bytes : ByteArray} {maxL : Nat} {ret : Option FieldType} {hh : List (Nat × Nat × Nat × Nat)}
    (hown : s.vm.findClass own = some m.cls) (hlink : (Cond.methodLink own index y).before args s = true) (hstat : (Cond.static y).before args s = true) (hinit : (Cond.initialized y.cls).before args s = true)
    (hcode : (Cond.codeWith y bytes maxL ret hh).before args s = true) (hy : y.cls ≠ "java/lang/invoke/MethodHandle" ∧ y.cls ≠ "java/lang/invoke/VarHandle")
    {W9 : Nat} {Pre : Pt → Array Value → Prop} {Post : Pt → Array Value → Option Value → Pt → Prop} (hK : Back l R p e below s args y 3 W9 Pre Post)
    {g : JFrame} (hg : g.method = m) (hsize : g.locals.size = c.maxLocals) {argsL rest : List Value} (hlen : ∀ sig, parseMethodDescriptor y.desc = some sig → argsL.length = sig.parameters.length)
    (hstack : g.stack = argsL.reverse ++ rest) (hW : 2 * g.monitorRoom + (rest.map fun v => v.category).sum ≤ W9) (hdg : decode c.code g.pc = .ok (.invokestatic index, 3))
    (hpre : ∀ vm₁, s.WarmedH vm₁ → Pre ⟨T.setVm vm₁, locs, cells, slots⟩ argsL.toArray) :
    ∃ (v : Option Value) (vm₁ : Vm) (B : Pt), s.WarmedH vm₁ ∧ Stand p l e R s m args below meth c B.U B.locs B.cells B.slots ∧ Post ⟨T.setVm vm₁, locs, cells, slots⟩ argsL.toArray v B ∧
      ∀ target, Steps p.tables e below (B.U.setTop { g with pc := g.pc + 3, stack := v.toList ++ rest }) target → Steps p.tables e below (T.setTop g) target := by
  obtain ⟨mk, methM, cM, hnamed, hmethM, -, -, -, -, -, -, hsigM⟩ := Cond.codeWith_spec hcode
  have hstatic : methM.isStatic = true := Cond.static_spec hnamed hmethM hstat
  obtain ⟨kP, hkP, -⟩ := className_of_methodNamed hnamed
  have hinitP : kP.init = .initialized := Cond.initialized_spec (findClass_of_methodNamed hnamed) hkP hinit
  obtain ⟨vm₁, X₁, hstep₁⟩ := X.invokestatic hexec hown hlink hnamed hmethM hstatic hkP hinitP hy (g := g) hg (argsL := argsL) (rest := rest) (hlen _ hsigM) hstack hdg
  obtain ⟨v, B, X', hpost, hsteps⟩ := hK m meth c ⟨T.setVm vm₁, locs, cells, slots⟩ { g with stack := rest } (.invokestatic index) mk argsL.toArray X₁ hg hsize hdg hW (X₁.named hnamed) (hpre vm₁ X₁.warmed)
  exact ⟨v, vm₁, B, X₁.warmed, X', hpost, fun target h => hstep₁ _ fun acts => by rw [doInvoke_state]; exact hsteps.trans h⟩
theorem vx_runSW {y : MethodName} {bytes cc : ByteArray} {maxL nL mc ms n index : Nat} {ret : Option FieldType} {hh : List (Nat × Nat × Nat × Nat)} {ws : List Cond} {rm : Room} {Pc : Array Value → State → Prop} {Qc : Array Value → State → Outcome → State → Prop} {free : Addr → Prop} {Ts : List Cond} {own : String} {As rest : List Value} {g : JFrame}
    (S : CallFix p m c cc nL s args Ts own) (hM : Met l y ws rm Pc Qc mc ms free) (cw : vx_CSW R s args own index y bytes maxL ret hh ws rm mc ms n) (hp : PreS s H Pc As)
    (hg : g.method = m) (hn : As.length = n) (hsize : g.locals.size = nL) (hstack : g.stack = As.reverse ++ rest) (hW : 2 * g.monitorRoom + (rest.map fun v => v.category).sum ≤ 8) (hdg : decode cc g.pc = .ok (.invokestatic index, 3)) (hf : cells + mc ≤ R.cells ∧ slots + ms ≤ R.slots) :
    va_Run p l e R s m args below meth c H locs cells slots mc ms g rest (Qc As.toArray) (free) := by
  obtain ⟨⟨hrc, hrs, hfr, hlo, hws, hcw⟩, hcode, hini, hy, hlen, hl, hstt⟩ := cw
  have hK : Back l R p e below s args y 3 8 (PreOf R mc ms Pc) (PostOf Qc mc ms free) := va_backW (hh := hh) (bytes := bytes) (maxL := maxL) (ret := ret) hM hp.1 hrc hrs hfr hlo hws hcw (fun a' U hW => word_at hW (Or.inl (by first | rfl | simp [Cond.onTables, Cond.keeps, Cond.steady])) hini)
  obtain ⟨hx, hb, hml, ho, -⟩ := S
  intro T hT X
  obtain ⟨v, vm₁, ⟨U', l2, c2, s2⟩, hW₁, X', ⟨g', mk, t, L, e1, e2, hq, h1, hL, h2, h3⟩, st⟩ := vx_callSW X hx (hh := hh) (bytes := bytes) (maxL := maxL) (ret := ret) ho hl hstt hini hcode hy hK hg (hsize.trans hml.symm) (argsL := As) (rest := rest) (fun sig h => hn.trans (hlen sig h)) hstack hW (by rw [hb]; exact hdg)
    (fun vm₁ hW₁ => ⟨hf.1, hf.2, hp.2 (T.setVm vm₁) hT hW₁⟩)
  dsimp only [Pt.U, Pt.locs, Pt.cells, Pt.slots] at X' e1 e2 h1 h2 h3 st
  subst h1; subst h2; subst h3
  exact ⟨v, (T.setVm vm₁).calling g' mk As.toArray, t, U', L, hT, X', hL, e1, e2, hq, st⟩
/-- a thing of a world lies in the heap -/
theorem vx_lt {D : va_G} {cl : List vw_C} {ws : va_W} {H1 : Heap} (h : va_P D cl ws H1) {k : Nat} {q : Nat × va_E} (hk : ws[k]? = some q) : q.1 < H1.size := (h k q hk).lt
end VXS
/-! ===== END ===== -/
/-! ===== BEGIN methods with a table of their own: called by a name, returning or throwing ===== -/
section VXH
/-! vx_backW, vx_callVX, vx_callSX, vx_callVW, vx_runVW, vx_runVX, vx_runSX, vx_ofWH follow the same proofs as their sisters above (Free/Laws.lean, Shelf42/LK1.lean); vx_outP calls Shelf42/NT130.lean (outThrough). -/
section
variable {l : Launch} {R : Room} {p : Program} {e : Env} {below : List Frame} {s : State} {sargs : Array Value} {y : MethodName} {len W9 : Nat}
theorem vx_backW {ws : List Cond} {rm : Room} {Pc : Array Value → State → Prop} {Qc : Array Value → State → Outcome → State → Prop} {XC : String → State → State → Prop} {mc ms : Nat} {free : Addr → Prop} {bytes : ByteArray} {maxL : Nat} {ret : Option FieldType} {hh : List (Nat × Nat × Nat × Nat)}
    (hM : vx_Met l y ws rm Pc Qc XC mc ms free) (hblind : FrameBlind Pc) (hrc : rm.cells = mc) (hrs : rm.slots = ms)
    (hframes : rm.frames + 1 ≤ R.frames) (hlocals : W9 + (maxL + 11) + rm.locals ≤ R.locals)
    (hws : ∀ w ∈ ws, ∀ a' U, s.WarmedH U.vm → w.before a' U = true) (hcode : Cond.codeWith y bytes maxL ret hh ∈ ws) (hinit : ∀ a' U, s.WarmedH U.vm → (Cond.initialized y.cls).before a' U = true) :
    vx_Back l R p e below s sargs y len W9 (PreOf R mc ms Pc) (PostOf Qc mc ms free) (vx_Post XC mc ms free) := by
  intro m meth c A g ig mk a X hg hsize hdg hW hn hp
  have h1 : (headSpec ws rm).pre.before a A.U = true := atoms_intro fun w hw => hws w hw _ _ X.warmed
  have h2 : (Cond.codeWith y bytes maxL ret hh).before a A.U = true := hws _ hcode _ _ X.warmed
  have h3 : (Cond.initialized y.cls).before a A.U = true := hinit _ _ X.warmed
  have h4 : A.cells + (headSpec ws rm).room.cells ≤ R.cells := by rw [show (headSpec ws rm).room.cells = mc from hrc]; exact hp.1
  have h5 : A.slots + (headSpec ws rm).room.slots ≤ R.slots := by rw [show (headSpec ws rm).room.slots = ms from hrs]; exact hp.2.1
  have hPc : Pc a (A.U.calling g mk a) := hblind _ _ _ _ hp.2.2
  obtain ⟨U, Ls, c0, s0⟩ := A
  dsimp only [Pt.U, Pt.locs, Pt.cells, Pt.slots] at h1 h2 h3 h4 h5 X hn hPc ⊢
  obtain ⟨m9, methY, cY, hn9, hmY, hcY, -, hlY, -⟩ := Cond.codeWith_spec h2
  cases Option.some.inj (hn9.symm.trans hn)
  obtain ⟨kY, hkY, -⟩ := className_of_methodNamed hn
  have hinitY : kY.init = .initialized := Cond.initialized_spec (findClass_of_methodNamed hn) hkY h3
  have h : At U g.method c below := by rw [hg]; exact X.here
  have hlocals9 : W9 + (maxL + 11) + (headSpec ws rm).room.locals ≤ R.locals := hlocals
  have happ : (headSpec ws rm).appliesLoose y e.platform (U.calling g mk a) = true :=
    Spec.appliesLoose_calling (g := g) h hdg hn hkY hinitY
      (X.room_calling (g := g) (R' := (headSpec ws rm).room) hsize hmY hcY hframes (by rw [hlY]; omega) h4 h5) h1
  obtain ⟨mid, hmid⟩ := h.above
  have hfr : (U.setTop g).frames = (.java g :: mid) ++ below := by rw [State.frames_setTop' g h.top, hmid]; rfl
  obtain ⟨o, s₂, hsteps, -, hend, hq⟩ := Steps.callFree hM p X.admits X.cas X.clock (acts := []) hfr happ hPc trivial
  have hq' : vx_Q Qc XC mc ms free a (U.calling g mk a) o s₂ := hq
  rw [State.frames_setTop' g h.top] at hend
  obtain ⟨g₀, hg0⟩ := Option.isSome_iff_exists.mp h.top
  obtain ⟨r, hr⟩ := State.topJava?_eq_some.mp hg0
  have hr' : (({ U with heap := s₂.heap, slotsUsed := s₂.slotsUsed } : State).setVm s₂.vm).frames = .java g₀ :: r := hr
  rcases hq' with ⟨hqc, L, hfe, hL⟩ | ⟨q, rfl, E, ce, L, hx, hce, hcv, hcl, hW₂, hsm, hL⟩
  · obtain ⟨⟨v, rfl⟩, hW₂, e2, q2, q3, q4, q5, q6⟩ := id hfe
    have e3 : s₂ = ({ (U.calling g mk a).setFrames s₂.frames with heap := s₂.heap, slotsUsed := s₂.slotsUsed } : State).setVm s₂.vm := by
      have : s₂ = ({ s₂ with vm := (U.calling g mk a).vm } : State).setVm s₂.vm := rfl
      rw [e2] at this
      exact this
    obtain ⟨c₂, i₂, len₂, hc₂, hd₂, hf₂⟩ := hend
    have hW' : U.WarmedH s₂.vm := hW₂
    have hcc : c₂ = c := by
      have h1 : s₂.code? g.method = U.code? g.method := by
        rw [State.code?_eq, State.code?_eq, hW'.alike.method?]
      exact Option.some.inj (hc₂.symm.trans (h1.trans h.code))
    subst hcc
    have hlen : len₂ = len := by rw [hdg] at hd₂; cases hd₂; rfl
    subst hlen
    have hs₂ : s₂ = (({ U with heap := s₂.heap, slotsUsed := s₂.slotsUsed } : State).setVm s₂.vm).setTop { g with pc := g.pc + len₂, stack := v.toList ++ g.stack } := by
      refine e3.trans ?_
      rw [hf₂, State.calling_eq h.top, State.setFrames_setFrames, State.setTop_of_frames _ hr', hr]
      rfl
    have hsame : U.sameButNew ({ U with heap := s₂.heap, slotsUsed := s₂.slotsUsed } : State) L mc ms := by
      refine ⟨?_, q2, q3, q4, q5, q6⟩
      obtain ⟨t, ht, -⟩ := State.frames_cons hr
      show ({ U with heap := s₂.heap, slotsUsed := s₂.slotsUsed } : State) = { U.setFrames U.frames with heap := s₂.heap, slotsUsed := s₂.slotsUsed }
      rw [State.setFrames_self ht]
    subst hg
    refine Or.inl ⟨v, ⟨(({ U with heap := s₂.heap, slotsUsed := s₂.slotsUsed } : State).setVm s₂.vm), Ls ++ L, c0 + mc, s0 + ms⟩,
      ⟨X.admits, X.cas, X.clock, X.frames, X.room, X.hears, X.method, X.code, (X.here.setHeapUsed s₂.heap s₂.slotsUsed).setVm hW'.alike, X.tail, State.WarmedH.trans X.warmed hW', X.limits, X.bytes, X.same.trans (hsame.setVm s.vm)⟩,
      ⟨g, mk, s₂, L, rfl, rfl, hqc, rfl, hL, rfl, rfl⟩, ?_⟩
    show Steps p.tables e below _ ((({ U with heap := s₂.heap, slotsUsed := s₂.slotsUsed } : State).setVm s₂.vm).setTop { g with pc := g.pc + len₂, stack := v.toList ++ g.stack })
    rw [← hs₂]
    exact hsteps
  · obtain ⟨e2, q2, q3, q4, q5, q6⟩ := id hsm
    have e3 : s₂ = ({ (U.calling g mk a).setFrames s₂.frames with heap := s₂.heap, slotsUsed := s₂.slotsUsed } : State).setVm s₂.vm := by
      have : s₂ = ({ s₂ with vm := (U.calling g mk a).vm } : State).setVm s₂.vm := rfl
      rw [e2] at this
      exact this
    have hf₂ : s₂.frames = .throwing q :: .java g :: U.frames.tail := hend
    have hW' : U.WarmedH s₂.vm := hW₂
    have hs₂ : s₂ = ((({ U with heap := s₂.heap, slotsUsed := s₂.slotsUsed } : State).setVm s₂.vm).setTop g).pushFrame (.throwing q) := by
      refine e3.trans ?_
      rw [hf₂, State.calling_eq h.top, State.setFrames_setFrames, State.pushFrame, State.frames_setTop _ hr', State.setTop_of_frames _ hr', State.setFrames_setFrames, hr]
      rfl
    have hsame : U.sameButNew ({ U with heap := s₂.heap, slotsUsed := s₂.slotsUsed } : State) L mc ms := by
      refine ⟨?_, q2, q3, q4, q5, q6⟩
      obtain ⟨t, ht, -⟩ := State.frames_cons hr
      show ({ U with heap := s₂.heap, slotsUsed := s₂.slotsUsed } : State) = { U.setFrames U.frames with heap := s₂.heap, slotsUsed := s₂.slotsUsed }
      rw [State.setFrames_self ht]
    subst hg
    refine Or.inr ⟨q, ⟨(({ U with heap := s₂.heap, slotsUsed := s₂.slotsUsed } : State).setVm s₂.vm), Ls ++ L, c0 + mc, s0 + ms⟩,
      ⟨X.admits, X.cas, X.clock, X.frames, X.room, X.hears, X.method, X.code, (X.here.setHeapUsed s₂.heap s₂.slotsUsed).setVm hW'.alike, X.tail, State.WarmedH.trans X.warmed hW', X.limits, X.bytes, X.same.trans (hsame.setVm s.vm)⟩,
      ⟨g, mk, s₂, L, E, ce, rfl, rfl, hx, hce, hcv, hcl, rfl, hL, rfl, rfl⟩, ?_⟩
    show Steps p.tables e below _ (((({ U with heap := s₂.heap, slotsUsed := s₂.slotsUsed } : State).setVm s₂.vm).setTop g).pushFrame (.throwing q))
    rw [← hs₂]
    exact hsteps
end
variable {p : Program} {l : Launch} {e : Env} {R : Room} {s : State} {m : MethodId} {args : Array Value} {below : List Frame} {meth : Method} {c : Code} {T : State} {H : Heap} {locs : List Loc} {cells slots : Nat}
theorem vx_callVX (X : Stand p l e R s m args below meth c T locs cells slots) (hexec : p.tables.exec = Jvm.exec) {own C : String} {index : Nat} {y : MethodName} {bytes : ByteArray} {maxL : Nat} {ret : Option FieldType} {hh : List (Nat × Nat × Nat × Nat)}
    (hown : s.vm.findClass own = some m.cls) (hlink : (Cond.methodLink own index y).before args s = true) (hinst : (Cond.instanceMethod y).before args s = true) (hsel : (Cond.selects C y y).before args s = true)
    (hcode : (Cond.codeWith y bytes maxL ret hh).before args s = true) (hy : y.cls ≠ "java/lang/invoke/MethodHandle" ∧ y.cls ≠ "java/lang/invoke/VarHandle")
    {W9 : Nat} {Pre : Pt → Array Value → Prop} {Post : Pt → Array Value → Option Value → Pt → Prop} {PostX : Pt → Array Value → Addr → Pt → Prop} (hK : vx_Back l R p e below s args y 3 W9 Pre Post PostX)
    {b : Addr} {cellB : Cell} (hcell : T.heap[b]? = some cellB) (hobj : cellB.vm.isStatics = false) (hcls : s.vm.findClass C = some cellB.cls)
    {g : JFrame} (hg : g.method = m) (hsize : g.locals.size = c.maxLocals) {argsL rest : List Value} (hlen : ∀ sig, parseMethodDescriptor y.desc = some sig → argsL.length = sig.parameters.length)
    (hstack : g.stack = argsL.reverse ++ .ref b :: rest) (hW : 2 * g.monitorRoom + (rest.map fun v => v.category).sum ≤ W9) (hdg : decode c.code g.pc = .ok (.invokevirtual index, 3))
    (hpre : ∀ vm₁, s.WarmedH vm₁ → Pre ⟨T.setVm vm₁, locs, cells, slots⟩ (Value.ref b :: argsL).toArray) :
    (∃ (v : Option Value) (vm₁ : Vm) (B : Pt), s.WarmedH vm₁ ∧ Stand p l e R s m args below meth c B.U B.locs B.cells B.slots ∧ Post ⟨T.setVm vm₁, locs, cells, slots⟩ (Value.ref b :: argsL).toArray v B ∧
      ∀ target, Steps p.tables e below (B.U.setTop { g with pc := g.pc + 3, stack := v.toList ++ rest }) target → Steps p.tables e below (T.setTop g) target) ∨
    (∃ (q : Addr) (vm₁ : Vm) (B : Pt), s.WarmedH vm₁ ∧ Stand p l e R s m args below meth c B.U B.locs B.cells B.slots ∧ PostX ⟨T.setVm vm₁, locs, cells, slots⟩ (Value.ref b :: argsL).toArray q B ∧
      Steps p.tables e below (T.setTop g) ((B.U.setTop { g with stack := rest }).pushFrame (.throwing q))) := by
  obtain ⟨mk, methM, hnamed, hmethM, hstM, habM⟩ := Cond.instanceMethod_spec hinst
  obtain ⟨m8, methM', cM, hn8, hmethM', -, -, -, -, -, -, hsigM⟩ := Cond.codeWith_spec hcode
  cases Option.some.inj (hn8.symm.trans hnamed)
  cases hmethM.symm.trans hmethM'
  obtain ⟨c2, r2, m2, q1, q2, q3, q4, kP, hkP, hkPi⟩ := Cond.selects_spec hsel
  cases hcls.symm.trans q1
  cases (State.methodFound?_of_named hnamed hy).symm.trans q2
  cases hnamed.symm.trans q3
  have hselP : selectMethod e.platform s.vm cellB.cls mk = .method mk := by rw [Launch.admits_selectMethod X.admits]; exact q4
  obtain ⟨vm₁, X₁, hstep₁⟩ := X.invokevirtual hexec hown hlink hnamed hmethM hstM hkP hkPi hy (a := b) (cell := cellB) hcell
    (fun z h => by rw [h] at hobj; cases hobj) hselP hmethM habM hkP hkPi (g := g) hg (argsL := argsL) (rest := rest) (hlen _ hsigM) hstack hdg
  rcases hK m meth c ⟨T.setVm vm₁, locs, cells, slots⟩ { g with stack := rest } (.invokevirtual index) mk (Value.ref b :: argsL).toArray X₁ hg hsize hdg hW (X₁.named hnamed) (hpre vm₁ X₁.warmed) with ⟨v, B, X', hpost, hsteps⟩ | ⟨q, B, X', hpost, hsteps⟩
  · exact Or.inl ⟨v, vm₁, B, X₁.warmed, X', hpost, fun target h => hstep₁ _ fun acts => by rw [doInvoke_state]; exact hsteps.trans h⟩
  · exact Or.inr ⟨q, vm₁, B, X₁.warmed, X', hpost, hstep₁ _ fun acts => by rw [doInvoke_state]; exact hsteps⟩
theorem vx_callSX (X : Stand p l e R s m args below meth c T locs cells slots) (hexec : p.tables.exec = Jvm.exec) {own : String} {index : Nat} {y : MethodName} {bytes : ByteArray} {maxL : Nat} {ret : Option FieldType} {hh : List (Nat × Nat × Nat × Nat)}
    (hown : s.vm.findClass own = some m.cls) (hlink : (Cond.methodLink own index y).before args s = true) (hstat : (Cond.static y).before args s = true) (hinit : (Cond.initialized y.cls).before args s = true)
    (hcode : (Cond.codeWith y bytes maxL ret hh).before args s = true) (hy : y.cls ≠ "java/lang/invoke/MethodHandle" ∧ y.cls ≠ "java/lang/invoke/VarHandle")
    {W9 : Nat} {Pre : Pt → Array Value → Prop} {Post : Pt → Array Value → Option Value → Pt → Prop} {PostX : Pt → Array Value → Addr → Pt → Prop} (hK : vx_Back l R p e below s args y 3 W9 Pre Post PostX)
    {g : JFrame} (hg : g.method = m) (hsize : g.locals.size = c.maxLocals) {argsL rest : List Value} (hlen : ∀ sig, parseMethodDescriptor y.desc = some sig → argsL.length = sig.parameters.length)
    (hstack : g.stack = argsL.reverse ++ rest) (hW : 2 * g.monitorRoom + (rest.map fun v => v.category).sum ≤ W9) (hdg : decode c.code g.pc = .ok (.invokestatic index, 3))
    (hpre : ∀ vm₁, s.WarmedH vm₁ → Pre ⟨T.setVm vm₁, locs, cells, slots⟩ argsL.toArray) :
    (∃ (v : Option Value) (vm₁ : Vm) (B : Pt), s.WarmedH vm₁ ∧ Stand p l e R s m args below meth c B.U B.locs B.cells B.slots ∧ Post ⟨T.setVm vm₁, locs, cells, slots⟩ argsL.toArray v B ∧
      ∀ target, Steps p.tables e below (B.U.setTop { g with pc := g.pc + 3, stack := v.toList ++ rest }) target → Steps p.tables e below (T.setTop g) target) ∨
    (∃ (q : Addr) (vm₁ : Vm) (B : Pt), s.WarmedH vm₁ ∧ Stand p l e R s m args below meth c B.U B.locs B.cells B.slots ∧ PostX ⟨T.setVm vm₁, locs, cells, slots⟩ argsL.toArray q B ∧
      Steps p.tables e below (T.setTop g) ((B.U.setTop { g with stack := rest }).pushFrame (.throwing q))) := by
  obtain ⟨mk, methM, cM, hnamed, hmethM, -, -, -, -, -, -, hsigM⟩ := Cond.codeWith_spec hcode
  have hstatic : methM.isStatic = true := Cond.static_spec hnamed hmethM hstat
  obtain ⟨kP, hkP, -⟩ := className_of_methodNamed hnamed
  have hinitP : kP.init = .initialized := Cond.initialized_spec (findClass_of_methodNamed hnamed) hkP hinit
  obtain ⟨vm₁, X₁, hstep₁⟩ := X.invokestatic hexec hown hlink hnamed hmethM hstatic hkP hinitP hy (g := g) hg (argsL := argsL) (rest := rest) (hlen _ hsigM) hstack hdg
  rcases hK m meth c ⟨T.setVm vm₁, locs, cells, slots⟩ { g with stack := rest } (.invokestatic index) mk argsL.toArray X₁ hg hsize hdg hW (X₁.named hnamed) (hpre vm₁ X₁.warmed) with ⟨v, B, X', hpost, hsteps⟩ | ⟨q, B, X', hpost, hsteps⟩
  · exact Or.inl ⟨v, vm₁, B, X₁.warmed, X', hpost, fun target h => hstep₁ _ fun acts => by rw [doInvoke_state]; exact hsteps.trans h⟩
  · exact Or.inr ⟨q, vm₁, B, X₁.warmed, X', hpost, hstep₁ _ fun acts => by rw [doInvoke_state]; exact hsteps⟩
theorem vx_callVW (X : Stand p l e R s m args below meth c T locs cells slots) (hexec : p.tables.exec = Jvm.exec) {own C : String} {index : Nat} {y : MethodName} {bytes : ByteArray} {maxL : Nat} {ret : Option FieldType} {hh : List (Nat × Nat × Nat × Nat)}
    (hown : s.vm.findClass own = some m.cls) (hlink : (Cond.methodLink own index y).before args s = true) (hinst : (Cond.instanceMethod y).before args s = true) (hsel : (Cond.selects C y y).before args s = true)
    (hcode : (Cond.codeWith y bytes maxL ret hh).before args s = true) (hy : y.cls ≠ "java/lang/invoke/MethodHandle" ∧ y.cls ≠ "java/lang/invoke/VarHandle")
    {W9 : Nat} {Pre : Pt → Array Value → Prop} {Post : Pt → Array Value → Option Value → Pt → Prop} (hK : Back l R p e below s args y 3 W9 Pre Post)
    {b : Addr} {cellB : Cell} (hcell : T.heap[b]? = some cellB) (hobj : cellB.vm.isStatics = false) (hcls : s.vm.findClass C = some cellB.cls)
    {g : JFrame} (hg : g.method = m) (hsize : g.locals.size = c.maxLocals) {argsL rest : List Value} (hlen : ∀ sig, parseMethodDescriptor y.desc = some sig → argsL.length = sig.parameters.length)
    (hstack : g.stack = argsL.reverse ++ .ref b :: rest) (hW : 2 * g.monitorRoom + (rest.map fun v => v.category).sum ≤ W9) (hdg : decode c.code g.pc = .ok (.invokevirtual index, 3))
    (hpre : ∀ vm₁, s.WarmedH vm₁ → Pre ⟨T.setVm vm₁, locs, cells, slots⟩ (Value.ref b :: argsL).toArray) :
    ∃ (v : Option Value) (vm₁ : Vm) (B : Pt), s.WarmedH vm₁ ∧ Stand p l e R s m args below meth c B.U B.locs B.cells B.slots ∧ Post ⟨T.setVm vm₁, locs, cells, slots⟩ (Value.ref b :: argsL).toArray v B ∧
      ∀ target, Steps p.tables e below (B.U.setTop { g with pc := g.pc + 3, stack := v.toList ++ rest }) target → Steps p.tables e below (T.setTop g) target := by
  obtain ⟨mk, methM, hnamed, hmethM, hstM, habM⟩ := Cond.instanceMethod_spec hinst
  obtain ⟨m8, methM', cM, hn8, hmethM', -, -, -, -, -, -, hsigM⟩ := Cond.codeWith_spec hcode
  cases Option.some.inj (hn8.symm.trans hnamed)
  cases hmethM.symm.trans hmethM'
  obtain ⟨c2, r2, m2, q1, q2, q3, q4, kP, hkP, hkPi⟩ := Cond.selects_spec hsel
  cases hcls.symm.trans q1
  cases (State.methodFound?_of_named hnamed hy).symm.trans q2
  cases hnamed.symm.trans q3
  have hselP : selectMethod e.platform s.vm cellB.cls mk = .method mk := by rw [Launch.admits_selectMethod X.admits]; exact q4
  obtain ⟨vm₁, X₁, hstep₁⟩ := X.invokevirtual hexec hown hlink hnamed hmethM hstM hkP hkPi hy (a := b) (cell := cellB) hcell
    (fun z h => by rw [h] at hobj; cases hobj) hselP hmethM habM hkP hkPi (g := g) hg (argsL := argsL) (rest := rest) (hlen _ hsigM) hstack hdg
  obtain ⟨v, B, X', hpost, hsteps⟩ := hK m meth c ⟨T.setVm vm₁, locs, cells, slots⟩ { g with stack := rest } (.invokevirtual index) mk (Value.ref b :: argsL).toArray X₁ hg hsize hdg hW (X₁.named hnamed) (hpre vm₁ X₁.warmed)
  exact ⟨v, vm₁, B, X₁.warmed, X', hpost, fun target h => hstep₁ _ fun acts => by rw [doInvoke_state]; exact hsteps.trans h⟩
abbrev vx_CVW (R : Room) (s : State) (args : Array Value) (own C : String) (index : Nat) (y : MethodName) (bytes : ByteArray) (maxL : Nat) (ret : Option FieldType) (hh : List (Nat × Nat × Nat × Nat)) (ws : List Cond) (rm : Room) (mc ms n : Nat) : Prop :=
  (rm.cells = mc ∧ rm.slots = ms ∧ rm.frames + 1 ≤ R.frames ∧ 8 + (maxL + 11) + rm.locals ≤ R.locals ∧ (∀ w ∈ ws, ∀ (a' : Array Value) (U : State), s.WarmedH U.vm → w.before a' U = true) ∧ Cond.codeWith y bytes maxL ret hh ∈ ws) ∧
  (Cond.codeWith y bytes maxL ret hh).before args s = true ∧ (Cond.initialized y.cls).before args s = true ∧ (y.cls ≠ "java/lang/invoke/MethodHandle" ∧ y.cls ≠ "java/lang/invoke/VarHandle") ∧
  (∀ sig, parseMethodDescriptor y.desc = some sig → n = sig.parameters.length) ∧ (Cond.methodLink own index y).before args s = true ∧ (Cond.instanceMethod y).before args s = true ∧ (Cond.selects C y y).before args s = true
theorem vx_cwVW {own C : String} {index maxL mc ms : Nat} {y : MethodName} {bytes : ByteArray} {ret : Option FieldType} {hh : List (Nat × Nat × Nat × Nat)} {Ts ws ws' : List Cond} {rm : Room} (n : Nat) (ht : ∀ w ∈ Ts, w.before args s = true) (hT : GoodIn Ts (wsV own index C y ws)) (hw : ws = Cond.codeWith y bytes maxL ret hh :: ws') (hrc : rm.cells = mc) (hrs : rm.slots = ms)
    (hd : y.cls = C ∧ y.cls ≠ "java/lang/invoke/MethodHandle" ∧ y.cls ≠ "java/lang/invoke/VarHandle" ∧ (parseMethodDescriptor y.desc).map (fun d => d.parameters.length) = some n) (hR : rm.frames + 1 ≤ R.frames ∧ 8 + (maxL + 11) + rm.locals ≤ R.locals) :
    vx_CVW R s args own C index y bytes maxL ret hh ws rm mc ms n := by
  obtain ⟨hC, hd⟩ := hd
  subst hC
  have ok : ∀ w ∈ wsV own index y.cls y ws, w.before args s = true := fun w h => ht w (hT w h).1
  have hG : GoodIn Ts ws := fun w h => hT w (by unfold wsV; exact List.mem_append_right _ h)
  have hc : Cond.codeWith y bytes maxL ret hh ∈ ws := by rw [hw]; exact List.mem_cons_self
  refine ⟨⟨hrc, hrs, hR.1, hR.2, pay_in ht hG, hc⟩, ht _ (hG _ hc).1, ok _ (by simp [wsV]), ⟨hd.1, hd.2.1⟩, fun sig h => ?_, ok _ (by simp [wsV]), ok _ (by simp [wsV]), ok _ (by simp [wsV])⟩
  have h2 := hd.2.2
  rw [h] at h2
  exact (Option.some.inj h2).symm
theorem vx_runVW {y : MethodName} {bytes cc : ByteArray} {maxL nL mc ms n index : Nat} {ret : Option FieldType} {hh : List (Nat × Nat × Nat × Nat)} {ws : List Cond} {rm : Room} {Pc : Array Value → State → Prop} {Qc : Array Value → State → Outcome → State → Prop} {free : Addr → Prop} {Ts : List Cond} {own C : String} {b : Addr} {As rest : List Value} {g : JFrame}
    (S : CallFix p m c cc nL s args Ts own) (hM : Met l y ws rm Pc Qc mc ms free) (cw : vx_CVW R s args own C index y bytes maxL ret hh ws rm mc ms n) (hp : PreV s H C b Pc As)
    (hg : g.method = m) (hn : As.length = n) (hsize : g.locals.size = nL) (hstack : g.stack = As.reverse ++ .ref b :: rest) (hW : 2 * g.monitorRoom + (rest.map fun v => v.category).sum ≤ 8) (hdg : decode cc g.pc = .ok (.invokevirtual index, 3)) (hf : cells + mc ≤ R.cells ∧ slots + ms ≤ R.slots) :
    va_Run p l e R s m args below meth c H locs cells slots mc ms g rest (Qc (Value.ref b :: As).toArray) free := by
  obtain ⟨⟨hrc, hrs, hfr, hlo, hws, hcw⟩, hcode, hini, hy, hlen, hl, hin, hse⟩ := cw
  have hK : Back l R p e below s args y 3 8 (PreOf R mc ms Pc) (PostOf Qc mc ms free) := va_backW (hh := hh) (bytes := bytes) (maxL := maxL) (ret := ret) hM hp.1 hrc hrs hfr hlo hws hcw (fun a' U hW => word_at hW (Or.inl (by first | rfl | simp [Cond.onTables, Cond.keeps, Cond.steady])) hini)
  obtain ⟨hx, hb, hml, ho, -⟩ := S
  obtain ⟨-, ⟨cellB, hcB, hoB, hclB⟩, hPc⟩ := hp
  intro T hT X
  obtain ⟨v, vm₁, ⟨U', l2, c2, s2⟩, hW₁, X', ⟨g', mk, t, L, e1, e2, hq, h1, hL, h2, h3⟩, st⟩ := vx_callVW X hx (C := C) (hh := hh) (bytes := bytes) (maxL := maxL) (ret := ret) ho hl hin hse hcode hy hK (by rw [hT]; exact hcB) hoB hclB hg (hsize.trans hml.symm) (argsL := As) (rest := rest) (fun sig h => hn.trans (hlen sig h)) hstack hW (by rw [hb]; exact hdg)
    (fun vm₁ hW₁ => ⟨hf.1, hf.2, hPc (T.setVm vm₁) hT hW₁⟩)
  dsimp only [Pt.U, Pt.locs, Pt.cells, Pt.slots] at X' e1 e2 h1 h2 h3 st
  subst h1; subst h2; subst h3
  exact ⟨v, (T.setVm vm₁).calling g' mk (Value.ref b :: As).toArray, t, U', L, hT, X', hL, e1, e2, hq, st⟩
section
variable {y : MethodName} {bytes cc : ByteArray} {maxL nL mc ms n index : Nat} {ret : Option FieldType} {ws : List Cond} {rm : Room} {Pc : Array Value → State → Prop} {Qc : Array Value → State → Outcome → State → Prop} {XC : String → State → State → Prop} {free : Addr → Prop} {Ts : List Cond} {own C : String} {b : Addr} {As rest : List Value} {g : JFrame}
theorem vx_runVX {hh : List (Nat × Nat × Nat × Nat)} (S : CallFix p m c cc nL s args Ts own) (hM : vx_Met l y ws rm Pc Qc XC mc ms free) (cw : vx_CVW R s args own C index y bytes maxL ret hh ws rm mc ms n) (hp : PreV s H C b Pc As)
    (hg : g.method = m) (hn : As.length = n) (hsize : g.locals.size = nL) (hstack : g.stack = As.reverse ++ .ref b :: rest) (hW : 2 * g.monitorRoom + (rest.map fun v => v.category).sum ≤ 8) (hdg : decode cc g.pc = .ok (.invokevirtual index, 3)) (hf : cells + mc ≤ R.cells ∧ slots + ms ≤ R.slots) :
    vx_Run p l e R s m args below meth c H locs cells slots mc ms g rest (Qc (Value.ref b :: As).toArray) XC free := by
  obtain ⟨⟨hrc, hrs, hfr, hlo, hws, hcw⟩, hcode, hini, hy, hlen, hl, hin, hse⟩ := cw
  have hK : vx_Back l R p e below s args y 3 8 (PreOf R mc ms Pc) (PostOf Qc mc ms free) (vx_Post XC mc ms free) := vx_backW (hh := hh) (bytes := bytes) (maxL := maxL) (ret := ret) hM hp.1 hrc hrs hfr hlo hws hcw (fun a' U hW => word_at hW (Or.inl (by first | rfl | simp [Cond.onTables, Cond.keeps, Cond.steady])) hini)
  obtain ⟨hx, hb, hml, ho, -⟩ := S
  obtain ⟨-, ⟨cellB, hcB, hoB, hclB⟩, hPc⟩ := hp
  intro T hT X
  rcases vx_callVX X hx (C := C) (hh := hh) (bytes := bytes) (maxL := maxL) (ret := ret) ho hl hin hse hcode hy hK (by rw [hT]; exact hcB) hoB hclB hg (hsize.trans hml.symm) (argsL := As) (rest := rest) (fun sig h => hn.trans (hlen sig h)) hstack hW (by rw [hb]; exact hdg)
    (fun vm₁ hW₁ => ⟨hf.1, hf.2, hPc (T.setVm vm₁) hT hW₁⟩) with ⟨v, vm₁, ⟨U', l2, c2, s2⟩, hW₁, X', ⟨g', mk, t, L, e1, e2, hq, h1, hL, h2, h3⟩, st⟩ | ⟨q, vm₁, ⟨U', l2, c2, s2⟩, hW₁, X', ⟨g', mk, t, L, E, ce, e1, e2, hq, hce, hcv, hcl, h1, hL, h2, h3⟩, st⟩
  · dsimp only [Pt.U, Pt.locs, Pt.cells, Pt.slots] at X' e1 e2 h1 h2 h3 st
    subst h1; subst h2; subst h3
    exact Or.inl ⟨v, (T.setVm vm₁).calling g' mk (Value.ref b :: As).toArray, t, U', L, hT, X', hL, e1, e2, hq, st⟩
  · dsimp only [Pt.U, Pt.locs, Pt.cells, Pt.slots] at X' e1 e2 h1 h2 h3 st hcl
    subst h1; subst h2; subst h3
    exact Or.inr ⟨q, (T.setVm vm₁).calling g' mk (Value.ref b :: As).toArray, t, U', L, E, ce, hT, X', hL, e1, e2, hq, hce, hcv, vx_cls hW₁ hcl, st⟩
theorem vx_runSX {hh : List (Nat × Nat × Nat × Nat)} (S : CallFix p m c cc nL s args Ts own) (hM : vx_Met l y ws rm Pc Qc XC mc ms free) (cw : vx_CSW R s args own index y bytes maxL ret hh ws rm mc ms n) (hp : PreS s H Pc As)
    (hg : g.method = m) (hn : As.length = n) (hsize : g.locals.size = nL) (hstack : g.stack = As.reverse ++ rest) (hW : 2 * g.monitorRoom + (rest.map fun v => v.category).sum ≤ 8) (hdg : decode cc g.pc = .ok (.invokestatic index, 3)) (hf : cells + mc ≤ R.cells ∧ slots + ms ≤ R.slots) :
    vx_Run p l e R s m args below meth c H locs cells slots mc ms g rest (Qc As.toArray) XC free := by
  obtain ⟨⟨hrc, hrs, hfr, hlo, hws, hcw⟩, hcode, hini, hy, hlen, hl, hstt⟩ := cw
  have hK : vx_Back l R p e below s args y 3 8 (PreOf R mc ms Pc) (PostOf Qc mc ms free) (vx_Post XC mc ms free) := vx_backW (hh := hh) (bytes := bytes) (maxL := maxL) (ret := ret) hM hp.1 hrc hrs hfr hlo hws hcw (fun a' U hW => word_at hW (Or.inl (by first | rfl | simp [Cond.onTables, Cond.keeps, Cond.steady])) hini)
  obtain ⟨hx, hb, hml, ho, -⟩ := S
  intro T hT X
  rcases vx_callSX X hx (hh := hh) (bytes := bytes) (maxL := maxL) (ret := ret) ho hl hstt hini hcode hy hK hg (hsize.trans hml.symm) (argsL := As) (rest := rest) (fun sig h => hn.trans (hlen sig h)) hstack hW (by rw [hb]; exact hdg)
    (fun vm₁ hW₁ => ⟨hf.1, hf.2, hp.2 (T.setVm vm₁) hT hW₁⟩) with ⟨v, vm₁, ⟨U', l2, c2, s2⟩, hW₁, X', ⟨g', mk, t, L, e1, e2, hq, h1, hL, h2, h3⟩, st⟩ | ⟨q, vm₁, ⟨U', l2, c2, s2⟩, hW₁, X', ⟨g', mk, t, L, E, ce, e1, e2, hq, hce, hcv, hcl, h1, hL, h2, h3⟩, st⟩
  · dsimp only [Pt.U, Pt.locs, Pt.cells, Pt.slots] at X' e1 e2 h1 h2 h3 st
    subst h1; subst h2; subst h3
    exact Or.inl ⟨v, (T.setVm vm₁).calling g' mk As.toArray, t, U', L, hT, X', hL, e1, e2, hq, st⟩
  · dsimp only [Pt.U, Pt.locs, Pt.cells, Pt.slots] at X' e1 e2 h1 h2 h3 st hcl
    subst h1; subst h2; subst h3
    exact Or.inr ⟨q, (T.setVm vm₁).calling g' mk As.toArray, t, U', L, E, ce, hT, X', hL, e1, e2, hq, hce, hcv, vx_cls hW₁ hcl, st⟩
end
end VXH
theorem vx_ofWH {l : Launch} {y : MethodName} {ws ws' : List Cond} {rm : Room} {Pc : Array Value → State → Prop} {Qc : Array Value → State → Outcome → State → Prop} {XC : String → State → State → Prop} {mc ms : Nat} {free : Addr → Prop} {cc : ByteArray} {maxL : Nat} {ret : Option FieldType} {hh : List (Nat × Nat × Nat × Nat)}
    (hy : plainName y.cls = true) (hw : ws = Cond.codeWith y cc maxL ret hh :: ws')
    (body : ∀ p e s m args below meth c s₁, BodyLoose p l y (headSpec ws rm) cc maxL ret e s m args below meth c s₁ → c.maxLocals = maxL → Pc args s →
      W p l e (headSpec ws rm).room s m args below meth c s.heap [] 0 0 (vx_MQ below Qc XC args s mc ms free) (entryFrame m args maxL)) : vx_Met l y ws rm Pc Qc XC mc ms free := by
  refine MetFree.of_bodyS (code := cc) (maxLocals := maxL) (ret := ret) hy ?_ ?_
  · intro args s m h hn
    obtain ⟨m9, meth, c, hn9, h1, h2, h3, h4, -, h5, h6, -⟩ := Cond.codeWith_spec (atoms_spec (ws := ws) h _ (by rw [hw]; exact List.mem_cons_self))
    cases hn.symm.trans hn9
    exact ⟨meth, c, h1, h2, h3, h4, h5, h6⟩
  · intro p e s m args below meth c s₁ B hml hP _
    have hh0 : s₁.heap = s.heap := by rw [B.state]; rfl
    obtain ⟨t, a1, o, b1, b2, b3⟩ := body p e s m args below meth c s₁ B hml hP s₁ hh0 (Stand.of_body B)
    exact ⟨t, o, a1, b1, b2, b3⟩
/-! ===== END ===== -/

def RX0 : String := "VillageBoard$Acts"
def TX0 : u_T := fun k => match k with
  | 0 => ("VillageBoard$Acts", "rows", "[I", true)
  | 1 => ("VillageBoard$Acts", "first", "I", false)
  | _ => ("VillageBoard$Acts", "kept", "I", false)
def tyX0 : Nat → FieldType := fun k => match k with
  | 0 => .array .int
  | 1 => .int
  | _ => .int
abbrev wsX00 : List Cond := u_ws RX0 TX0 3
theorem nmX0 : ∀ a, a < 3 → ∀ b, b < 3 → a ≠ b → (TX0 a).2.1 ≠ (TX0 b).2.1 := by decide +kernel
theorem tyX0_ok : ∀ k, k < 3 → parseFieldDescriptor (TX0 k).2.2.1 = some (tyX0 k) := by decide +kernel
abbrev cX0_init : ByteArray := prog_2_method_1_code
def yX0_init : MethodName := ⟨RX0, "<init>", "()V"⟩
abbrev cX0_clear : ByteArray := prog_2_method_2_code
def yX0_clear : MethodName := ⟨RX0, "clear", "()V"⟩
abbrev cX0_keep : ByteArray := prog_2_method_3_code
def yX0_keep : MethodName := ⟨RX0, "keep", "(LVillageBoard$Position;)V"⟩
abbrev cX0_bringBack : ByteArray := prog_2_method_4_code
def yX0_bringBack : MethodName := ⟨RX0, "bringBack", "(LVillageBoard$Position;)V"⟩
abbrev cX0_copyFrom : ByteArray := prog_2_method_5_code
def yX0_copyFrom : MethodName := ⟨RX0, "copyFrom", "(LVillageBoard$Acts;)V"⟩
def RX1 : String := "VillageBoard$Couples"
def TX1 : u_T := fun k => match k with
  | 0 => ("VillageBoard$Couples", "moves", "[I", true)
  | 1 => ("VillageBoard$Couples", "found", "I", false)
  | _ => ("VillageBoard$Couples", "first", "I", false)
def tyX1 : Nat → FieldType := fun k => match k with
  | 0 => .array .int
  | 1 => .int
  | _ => .int
abbrev wsX10 : List Cond := u_ws RX1 TX1 3
theorem nmX1 : ∀ a, a < 3 → ∀ b, b < 3 → a ≠ b → (TX1 a).2.1 ≠ (TX1 b).2.1 := by decide +kernel
theorem tyX1_ok : ∀ k, k < 3 → parseFieldDescriptor (TX1 k).2.2.1 = some (tyX1 k) := by decide +kernel
abbrev cX1_init : ByteArray := prog_3_method_1_code
def yX1_init : MethodName := ⟨RX1, "<init>", "()V"⟩
abbrev cX1_find : ByteArray := prog_3_method_2_code
def yX1_find : MethodName := ⟨RX1, "find", "(LVillageBoard$Land;LVillageBoard$Position;LVillageBoard$Position;LVillageBoard$Sightings;)V"⟩
abbrev cX1_put : ByteArray := prog_3_method_3_code
def yX1_put : MethodName := ⟨RX1, "put", "(II)V"⟩
abbrev cX1_unlikeOn : ByteArray := prog_3_method_4_code
def yX1_unlikeOn : MethodName := ⟨RX1, "unlikeOn", "(I)I"⟩
def RX2 : String := "VillageBoard$Foresight"
def TX2 : u_T := fun k => match k with
  | _ => ("", "", "", false)
def tyX2 : Nat → FieldType := fun k => match k with
  | _ => .int
abbrev wsX20 : List Cond := u_ws RX2 TX2 0
theorem nmX2 : ∀ a, a < 0 → ∀ b, b < 0 → a ≠ b → (TX2 a).2.1 ≠ (TX2 b).2.1 := by decide +kernel
theorem tyX2_ok : ∀ k, k < 0 → parseFieldDescriptor (TX2 k).2.2.1 = some (tyX2 k) := by decide +kernel
abbrev cX2_bestLead : ByteArray := prog_4_method_2_code
def yX2_bestLead : MethodName := ⟨RX2, "bestLead", "(LVillageBoard$Land;IIIIII)I"⟩
abbrev cX2_canForceWin : ByteArray := prog_4_method_3_code
def yX2_canForceWin : MethodName := ⟨RX2, "canForceWin", "(LVillageBoard$Land;IIII)Z"⟩
abbrev cX2_cannotEscape : ByteArray := prog_4_method_4_code
def yX2_cannotEscape : MethodName := ⟨RX2, "cannotEscape", "(LVillageBoard$Land;IIII)Z"⟩
def RX3 : String := "VillageBoard$Land"
def TX3 : u_T := fun k => match k with
  | 0 => ("VillageBoard$Land", "villages", "I", false)
  | 1 => ("VillageBoard$Land", "roads", "I", false)
  | 2 => ("VillageBoard$Land", "styleCount", "I", false)
  | 3 => ("VillageBoard$Land", "hasTakes", "Z", false)
  | 4 => ("VillageBoard$Land", "worth", "[I", true)
  | 5 => ("VillageBoard$Land", "fort", "[I", true)
  | 6 => ("VillageBoard$Land", "neighbours", "[I", true)
  | 7 => ("VillageBoard$Land", "firstStones", "[I", true)
  | 8 => ("VillageBoard$Land", "moves", "[I", true)
  | _ => ("VillageBoard$Land", "rules", "LVillageBoard$Rules;", true)
def tyX3 : Nat → FieldType := fun k => match k with
  | 0 => .int
  | 1 => .int
  | 2 => .int
  | 3 => .boolean
  | 4 => .array .int
  | 5 => .array .int
  | 6 => .array .int
  | 7 => .array .int
  | 8 => .array .int
  | _ => .object "VillageBoard$Rules"
abbrev wsX30 : List Cond := u_ws RX3 TX3 10
theorem nmX3 : ∀ a, a < 10 → ∀ b, b < 10 → a ≠ b → (TX3 a).2.1 ≠ (TX3 b).2.1 := by decide +kernel
theorem tyX3_ok : ∀ k, k < 10 → parseFieldDescriptor (TX3 k).2.2.1 = some (tyX3 k) := by decide +kernel
abbrev cX3_init : ByteArray := prog_5_method_1_code
def yX3_init : MethodName := ⟨RX3, "<init>", "()V"⟩
abbrev cX3_clear : ByteArray := prog_5_method_2_code
def yX3_clear : MethodName := ⟨RX3, "clear", "()V"⟩
abbrev cX3_addVillage : ByteArray := prog_5_method_3_code
def yX3_addVillage : MethodName := ⟨RX3, "addVillage", "(III)V"⟩
abbrev cX3_addRoad : ByteArray := prog_5_method_4_code
def yX3_addRoad : MethodName := ⟨RX3, "addRoad", "(II)V"⟩
abbrev cX3_addRule : ByteArray := prog_5_method_5_code
def yX3_addRule : MethodName := ⟨RX3, "addRule", "(II)V"⟩
abbrev cX3_without : ByteArray := prog_5_method_6_code
def yX3_without : MethodName := ⟨RX3, "without", "(I)I"⟩
abbrev cX3_worthOf : ByteArray := prog_5_method_7_code
def yX3_worthOf : MethodName := ⟨RX3, "worthOf", "(I)I"⟩
abbrev cX3_besideAnyOf : ByteArray := prog_5_method_8_code
def yX3_besideAnyOf : MethodName := ⟨RX3, "besideAnyOf", "(I)I"⟩
abbrev cX3_reachedWithin : ByteArray := prog_5_method_9_code
def yX3_reachedWithin : MethodName := ⟨RX3, "reachedWithin", "(II)I"⟩
abbrev cX3_lawfulTargets : ByteArray := prog_5_method_10_code
def yX3_lawfulTargets : MethodName := ⟨RX3, "lawfulTargets", "(IIII)I"⟩
abbrev cX3_mayTake : ByteArray := prog_5_method_11_code
def yX3_mayTake : MethodName := ⟨RX3, "mayTake", "(IIII)Z"⟩
abbrev cX3_gainOfMoveTo : ByteArray := prog_5_method_12_code
def yX3_gainOfMoveTo : MethodName := ⟨RX3, "gainOfMoveTo", "(III)I"⟩
abbrev cX3_takersOf : ByteArray := prog_5_method_13_code
def yX3_takersOf : MethodName := ⟨RX3, "takersOf", "(IIII)I"⟩
abbrev cX3_enPrise : ByteArray := prog_5_method_14_code
def yX3_enPrise : MethodName := ⟨RX3, "enPrise", "(III)I"⟩
abbrev cX3_listMoves : ByteArray := prog_5_method_15_code
def yX3_listMoves : MethodName := ⟨RX3, "listMoves", "(III)I"⟩
abbrev cX3_setValues : ByteArray := prog_5_method_16_code
def yX3_setValues : MethodName := ⟨RX3, "setValues", "(IIIII)V"⟩
def RX4 : String := "VillageBoard$Position"
def TX4 : u_T := fun k => match k with
  | 0 => ("VillageBoard$Position", "stones", "[I", true)
  | 1 => ("VillageBoard$Position", "flags", "[I", true)
  | 2 => ("VillageBoard$Position", "treasury", "[I", true)
  | 3 => ("VillageBoard$Position", "style", "[I", true)
  | 4 => ("VillageBoard$Position", "book", "[I", true)
  | _ => ("VillageBoard$Position", "evening", "I", false)
def tyX4 : Nat → FieldType := fun k => match k with
  | 0 => .array .int
  | 1 => .array .int
  | 2 => .array .int
  | 3 => .array .int
  | 4 => .array .int
  | _ => .int
abbrev wsX40 : List Cond := u_ws RX4 TX4 6
theorem nmX4 : ∀ a, a < 6 → ∀ b, b < 6 → a ≠ b → (TX4 a).2.1 ≠ (TX4 b).2.1 := by decide +kernel
theorem tyX4_ok : ∀ k, k < 6 → parseFieldDescriptor (TX4 k).2.2.1 = some (tyX4 k) := by decide +kernel
abbrev cX4_init : ByteArray := prog_6_method_1_code
def yX4_init : MethodName := ⟨RX4, "<init>", "()V"⟩
abbrev cX4_begin : ByteArray := prog_6_method_2_code
def yX4_begin : MethodName := ⟨RX4, "begin", "(LVillageBoard$Land;)V"⟩
abbrev cX4_copyFrom : ByteArray := prog_6_method_3_code
def yX4_copyFrom : MethodName := ⟨RX4, "copyFrom", "(LVillageBoard$Position;)V"⟩
abbrev cX4_save : ByteArray := prog_6_method_4_code
def yX4_save : MethodName := ⟨RX4, "save", "([II)V"⟩
abbrev cX4_load : ByteArray := prog_6_method_5_code
def yX4_load : MethodName := ⟨RX4, "load", "([II)V"⟩
abbrev cX4_turn : ByteArray := prog_6_method_6_code
def yX4_turn : MethodName := ⟨RX4, "turn", "()I"⟩
abbrev cX4_allStones : ByteArray := prog_6_method_7_code
def yX4_allStones : MethodName := ⟨RX4, "allStones", "()I"⟩
abbrev cX4_stoneIn : ByteArray := prog_6_method_8_code
def yX4_stoneIn : MethodName := ⟨RX4, "stoneIn", "(I)I"⟩
abbrev cX4_flagOf : ByteArray := prog_6_method_9_code
def yX4_flagOf : MethodName := ⟨RX4, "flagOf", "(I)I"⟩
abbrev cX4_bringStone : ByteArray := prog_6_method_10_code
def yX4_bringStone : MethodName := ⟨RX4, "bringStone", "(II)V"⟩
abbrev cX4_endEvening : ByteArray := prog_6_method_11_code
def yX4_endEvening : MethodName := ⟨RX4, "endEvening", "(LVillageBoard$Land;)V"⟩
abbrev cX4_playEvening : ByteArray := prog_6_method_12_code
def yX4_playEvening : MethodName := ⟨RX4, "playEvening", "(LVillageBoard$Land;)I"⟩
abbrev cX4_moveByStyle : ByteArray := prog_6_method_13_code
def yX4_moveByStyle : MethodName := ⟨RX4, "moveByStyle", "(LVillageBoard$Land;)I"⟩
abbrev cX4_drawEvening : ByteArray := prog_6_method_14_code
def yX4_drawEvening : MethodName := ⟨RX4, "drawEvening", "(LVillageBoard$Land;I)V"⟩
def RX5 : String := "VillageBoard$Reader"
def TX5 : u_T := fun k => match k with
  | 0 => ("VillageBoard$Reader", "text", "[I", false)
  | 1 => ("VillageBoard$Reader", "length", "I", false)
  | 2 => ("VillageBoard$Reader", "land", "LVillageBoard$Land;", false)
  | 3 => ("VillageBoard$Reader", "fault", "I", false)
  | 4 => ("VillageBoard$Reader", "tokenStart", "I", false)
  | 5 => ("VillageBoard$Reader", "tokenEnd", "I", false)
  | 6 => ("VillageBoard$Reader", "kind", "I", false)
  | _ => ("VillageBoard$Reader", "number", "I", false)
def tyX5 : Nat → FieldType := fun k => match k with
  | 0 => .array .int
  | 1 => .int
  | 2 => .object "VillageBoard$Land"
  | 3 => .int
  | 4 => .int
  | 5 => .int
  | 6 => .int
  | _ => .int
abbrev wsX50 : List Cond := u_ws RX5 TX5 8
theorem nmX5 : ∀ a, a < 8 → ∀ b, b < 8 → a ≠ b → (TX5 a).2.1 ≠ (TX5 b).2.1 := by decide +kernel
theorem tyX5_ok : ∀ k, k < 8 → parseFieldDescriptor (TX5 k).2.2.1 = some (tyX5 k) := by decide +kernel
abbrev cX5_init : ByteArray := prog_7_method_1_code
def yX5_init : MethodName := ⟨RX5, "<init>", "()V"⟩
abbrev cX5_read : ByteArray := prog_7_method_2_code
def yX5_read : MethodName := ⟨RX5, "read", "([II)I"⟩
abbrev cX5_handOver : ByteArray := prog_7_method_3_code
def yX5_handOver : MethodName := ⟨RX5, "handOver", "(LVillageBoard$Land;)LVillageBoard$Land;"⟩
abbrev cX5_refuse : ByteArray := prog_7_method_4_code
def yX5_refuse : MethodName := ⟨RX5, "refuse", "(I)Z"⟩
abbrev cX5_readLine : ByteArray := prog_7_method_5_code
def yX5_readLine : MethodName := ⟨RX5, "readLine", "()Z"⟩
abbrev cX5_readVillage : ByteArray := prog_7_method_6_code
def yX5_readVillage : MethodName := ⟨RX5, "readVillage", "(I)Z"⟩
abbrev cX5_readRoad : ByteArray := prog_7_method_7_code
def yX5_readRoad : MethodName := ⟨RX5, "readRoad", "()Z"⟩
abbrev cX5_readNumber : ByteArray := prog_7_method_8_code
def yX5_readNumber : MethodName := ⟨RX5, "readNumber", "(I)I"⟩
abbrev cX5_readRule : ByteArray := prog_7_method_9_code
def yX5_readRule : MethodName := ⟨RX5, "readRule", "(I)Z"⟩
abbrev cX5_readLevel : ByteArray := prog_7_method_10_code
def yX5_readLevel : MethodName := ⟨RX5, "readLevel", "(II)Z"⟩
abbrev cX5_readNot : ByteArray := prog_7_method_11_code
def yX5_readNot : MethodName := ⟨RX5, "readNot", "(II)Z"⟩
abbrev cX5_readPart : ByteArray := prog_7_method_12_code
def yX5_readPart : MethodName := ⟨RX5, "readPart", "(I)Z"⟩
abbrev cX5_canBegin : ByteArray := prog_7_method_13_code
def yX5_canBegin : MethodName := ⟨RX5, "canBegin", "()Z"⟩
abbrev cX5_joint : ByteArray := prog_7_method_14_code
def yX5_joint : MethodName := ⟨RX5, "joint", "(I)I"⟩
abbrev cX5_valueOfWord : ByteArray := prog_7_method_15_code
def yX5_valueOfWord : MethodName := ⟨RX5, "valueOfWord", "()I"⟩
abbrev cX5_isWord : ByteArray := prog_7_method_16_code
def yX5_isWord : MethodName := ⟨RX5, "isWord", "(Ljava/lang/String;)Z"⟩
abbrev cX5_nextToken : ByteArray := prog_7_method_17_code
def yX5_nextToken : MethodName := ⟨RX5, "nextToken", "()V"⟩
abbrev cX5_byteAt : ByteArray := prog_7_method_18_code
def yX5_byteAt : MethodName := ⟨RX5, "byteAt", "(I)I"⟩
abbrev cX5_kindOf : ByteArray := prog_7_method_19_code
def yX5_kindOf : MethodName := ⟨RX5, "kindOf", "(I)I"⟩
def RX6 : String := "VillageBoard$Rules"
def TX6 : u_T := fun k => match k with
  | 0 => ("VillageBoard$Rules", "code", "[I", true)
  | 1 => ("VillageBoard$Rules", "length", "I", false)
  | 2 => ("VillageBoard$Rules", "start", "[I", true)
  | 3 => ("VillageBoard$Rules", "end", "[I", true)
  | 4 => ("VillageBoard$Rules", "values", "[I", true)
  | _ => ("VillageBoard$Rules", "stack", "[I", true)
def tyX6 : Nat → FieldType := fun k => match k with
  | 0 => .array .int
  | 1 => .int
  | 2 => .array .int
  | 3 => .array .int
  | 4 => .array .int
  | _ => .array .int
abbrev wsX60 : List Cond := u_ws RX6 TX6 6
theorem nmX6 : ∀ a, a < 6 → ∀ b, b < 6 → a ≠ b → (TX6 a).2.1 ≠ (TX6 b).2.1 := by decide +kernel
theorem tyX6_ok : ∀ k, k < 6 → parseFieldDescriptor (TX6 k).2.2.1 = some (tyX6 k) := by decide +kernel
abbrev cX6_init : ByteArray := prog_8_method_1_code
def yX6_init : MethodName := ⟨RX6, "<init>", "()V"⟩
abbrev cX6_clear : ByteArray := prog_8_method_2_code
def yX6_clear : MethodName := ⟨RX6, "clear", "()V"⟩
abbrev cX6_addNumber : ByteArray := prog_8_method_3_code
def yX6_addNumber : MethodName := ⟨RX6, "addNumber", "(I)V"⟩
abbrev cX6_addSign : ByteArray := prog_8_method_4_code
def yX6_addSign : MethodName := ⟨RX6, "addSign", "(I)V"⟩
abbrev cX6_put : ByteArray := prog_8_method_5_code
def yX6_put : MethodName := ⟨RX6, "put", "(I)V"⟩
abbrev cX6_setRule : ByteArray := prog_8_method_6_code
def yX6_setRule : MethodName := ⟨RX6, "setRule", "(II)V"⟩
abbrev cX6_give : ByteArray := prog_8_method_7_code
def yX6_give : MethodName := ⟨RX6, "give", "(I)I"⟩
def RX7 : String := "VillageBoard$Sightings"
def TX7 : u_T := fun k => match k with
  | 0 => ("VillageBoard$Sightings", "evenings", "[I", true)
  | 1 => ("VillageBoard$Sightings", "moves", "[I", true)
  | _ => ("VillageBoard$Sightings", "kept", "I", false)
def tyX7 : Nat → FieldType := fun k => match k with
  | 0 => .array .int
  | 1 => .array .int
  | _ => .int
abbrev wsX70 : List Cond := u_ws RX7 TX7 3
theorem nmX7 : ∀ a, a < 3 → ∀ b, b < 3 → a ≠ b → (TX7 a).2.1 ≠ (TX7 b).2.1 := by decide +kernel
theorem tyX7_ok : ∀ k, k < 3 → parseFieldDescriptor (TX7 k).2.2.1 = some (tyX7 k) := by decide +kernel
abbrev cX7_init : ByteArray := prog_9_method_1_code
def yX7_init : MethodName := ⟨RX7, "<init>", "()V"⟩
abbrev cX7_clear : ByteArray := prog_9_method_2_code
def yX7_clear : MethodName := ⟨RX7, "clear", "()V"⟩
abbrev cX7_add : ByteArray := prog_9_method_3_code
def yX7_add : MethodName := ⟨RX7, "add", "(II)V"⟩
abbrev cX7_copyFrom : ByteArray := prog_9_method_4_code
def yX7_copyFrom : MethodName := ⟨RX7, "copyFrom", "(LVillageBoard$Sightings;)V"⟩
abbrev cX7_fit : ByteArray := prog_9_method_5_code
def yX7_fit : MethodName := ⟨RX7, "fit", "([II)Z"⟩
def RX8 : String := "VillageBoard"
def TX8 : u_T := fun k => match k with
  | 0 => ("VillageBoard", "tape", "[I", true)
  | 1 => ("VillageBoard", "tapeLength", "I", false)
  | 2 => ("VillageBoard", "faultPlace", "I", false)
  | 3 => ("VillageBoard", "refused", "[I", true)
  | 4 => ("VillageBoard", "reader", "LVillageBoard$Reader;", true)
  | 5 => ("VillageBoard", "land", "LVillageBoard$Land;", false)
  | 6 => ("VillageBoard", "now", "LVillageBoard$Position;", true)
  | 7 => ("VillageBoard", "later", "LVillageBoard$Position;", true)
  | 8 => ("VillageBoard", "acts", "LVillageBoard$Acts;", true)
  | 9 => ("VillageBoard", "sightings", "LVillageBoard$Sightings;", true)
  | 10 => ("VillageBoard", "hasImage", "Z", false)
  | 11 => ("VillageBoard", "imagePosition", "LVillageBoard$Position;", true)
  | 12 => ("VillageBoard", "imageActs", "LVillageBoard$Acts;", true)
  | 13 => ("VillageBoard", "imageSightings", "LVillageBoard$Sightings;", true)
  | 14 => ("VillageBoard", "couples", "LVillageBoard$Couples;", true)
  | _ => ("VillageBoard", "gains", "[I", true)
def tyX8 : Nat → FieldType := fun k => match k with
  | 0 => .array .int
  | 1 => .int
  | 2 => .int
  | 3 => .array .int
  | 4 => .object "VillageBoard$Reader"
  | 5 => .object "VillageBoard$Land"
  | 6 => .object "VillageBoard$Position"
  | 7 => .object "VillageBoard$Position"
  | 8 => .object "VillageBoard$Acts"
  | 9 => .object "VillageBoard$Sightings"
  | 10 => .boolean
  | 11 => .object "VillageBoard$Position"
  | 12 => .object "VillageBoard$Acts"
  | 13 => .object "VillageBoard$Sightings"
  | 14 => .object "VillageBoard$Couples"
  | _ => .array .int
abbrev wsX80 : List Cond := u_ws RX8 TX8 16
theorem nmX8 : ∀ a, a < 16 → ∀ b, b < 16 → a ≠ b → (TX8 a).2.1 ≠ (TX8 b).2.1 := by decide +kernel
theorem tyX8_ok : ∀ k, k < 16 → parseFieldDescriptor (TX8 k).2.2.1 = some (tyX8 k) := by decide +kernel
abbrev cX8_init : ByteArray := prog_1_method_1_code
def yX8_init : MethodName := ⟨RX8, "<init>", "()V"⟩
abbrev cX8_feed : ByteArray := prog_1_method_2_code
def yX8_feed : MethodName := ⟨RX8, "feed", "(IIIII)I"⟩
abbrev cX8_putOnTape : ByteArray := prog_1_method_3_code
def yX8_putOnTape : MethodName := ⟨RX8, "putOnTape", "(I)V"⟩
abbrev cX8_board : ByteArray := prog_1_method_4_code
def yX8_board : MethodName := ⟨RX8, "board", "(I)I"⟩
abbrev cX8_fault : ByteArray := prog_1_method_5_code
def yX8_fault : MethodName := ⟨RX8, "fault", "()I"⟩
abbrev cX8_count : ByteArray := prog_1_method_6_code
def yX8_count : MethodName := ⟨RX8, "count", "(I)I"⟩
abbrev cX8_village : ByteArray := prog_1_method_7_code
def yX8_village : MethodName := ⟨RX8, "village", "(II)I"⟩
abbrev cX8_side : ByteArray := prog_1_method_8_code
def yX8_side : MethodName := ⟨RX8, "side", "(II)I"⟩
abbrev cX8_road : ByteArray := prog_1_method_9_code
def yX8_road : MethodName := ⟨RX8, "road", "(II)Z"⟩
abbrev cX8_lawful : ByteArray := prog_1_method_10_code
def yX8_lawful : MethodName := ⟨RX8, "lawful", "(II)Z"⟩
abbrev cX8_move : ByteArray := prog_1_method_11_code
def yX8_move : MethodName := ⟨RX8, "move", "(II)I"⟩
abbrev cX8_pass : ByteArray := prog_1_method_12_code
def yX8_pass : MethodName := ⟨RX8, "pass", "()I"⟩
abbrev cX8_fly : ByteArray := prog_1_method_13_code
def yX8_fly : MethodName := ⟨RX8, "fly", "(II)Z"⟩
abbrev cX8_teach : ByteArray := prog_1_method_14_code
def yX8_teach : MethodName := ⟨RX8, "teach", "(II)I"⟩
abbrev cX8_play : ByteArray := prog_1_method_15_code
def yX8_play : MethodName := ⟨RX8, "play", "(I)I"⟩
abbrev cX8_undo : ByteArray := prog_1_method_16_code
def yX8_undo : MethodName := ⟨RX8, "undo", "()I"⟩
abbrev cX8_hangs : ByteArray := prog_1_method_17_code
def yX8_hangs : MethodName := ⟨RX8, "hangs", "(I)I"⟩
abbrev cX8_look : ByteArray := prog_1_method_18_code
def yX8_look : MethodName := ⟨RX8, "look", "(II)I"⟩
abbrev cX8_win : ByteArray := prog_1_method_19_code
def yX8_win : MethodName := ⟨RX8, "win", "()I"⟩
abbrev cX8_journey : ByteArray := prog_1_method_20_code
def yX8_journey : MethodName := ⟨RX8, "journey", "(II)I"⟩
abbrev cX8_played : ByteArray := prog_1_method_21_code
def yX8_played : MethodName := ⟨RX8, "played", "(I)I"⟩
abbrev cX8_turned : ByteArray := prog_1_method_22_code
def yX8_turned : MethodName := ⟨RX8, "turned", "(I)I"⟩
abbrev cX8_treasury : ByteArray := prog_1_method_23_code
def yX8_treasury : MethodName := ⟨RX8, "treasury", "(II)I"⟩
abbrev cX8_gift : ByteArray := prog_1_method_24_code
def yX8_gift : MethodName := ⟨RX8, "gift", "(II)I"⟩
abbrev cX8_plant : ByteArray := prog_1_method_25_code
def yX8_plant : MethodName := ⟨RX8, "plant", "(II)I"⟩
abbrev cX8_see : ByteArray := prog_1_method_26_code
def yX8_see : MethodName := ⟨RX8, "see", "(III)I"⟩
abbrev cX8_forget : ByteArray := prog_1_method_27_code
def yX8_forget : MethodName := ⟨RX8, "forget", "()V"⟩
abbrev cX8_styles : ByteArray := prog_1_method_28_code
def yX8_styles : MethodName := ⟨RX8, "styles", "(I)I"⟩
abbrev cX8_next : ByteArray := prog_1_method_29_code
def yX8_next : MethodName := ⟨RX8, "next", "(I)I"⟩
abbrev cX8_treaty : ByteArray := prog_1_method_30_code
def yX8_treaty : MethodName := ⟨RX8, "treaty", "()Z"⟩
abbrev cX8_keepsTreaty : ByteArray := prog_1_method_31_code
def yX8_keepsTreaty : MethodName := ⟨RX8, "keepsTreaty", "(I)Z"⟩
abbrev cX8_game : ByteArray := prog_1_method_32_code
def yX8_game : MethodName := ⟨RX8, "game", "(III)I"⟩
abbrev cX8_playGame : ByteArray := prog_1_method_33_code
def yX8_playGame : MethodName := ⟨RX8, "playGame", "(III)V"⟩
abbrev cX8_rests : ByteArray := prog_1_method_34_code
def yX8_rests : MethodName := ⟨RX8, "rests", "(I)Z"⟩
abbrev cX8_years : ByteArray := prog_1_method_35_code
def yX8_years : MethodName := ⟨RX8, "years", "(III)I"⟩
abbrev cX8_owes : ByteArray := prog_1_method_36_code
def yX8_owes : MethodName := ⟨RX8, "owes", "(I)I"⟩
abbrev cX8_front : ByteArray := prog_1_method_37_code
def yX8_front : MethodName := ⟨RX8, "front", "()I"⟩
abbrev cX8_parts : ByteArray := prog_1_method_38_code
def yX8_parts : MethodName := ⟨RX8, "parts", "(I)I"⟩
abbrev cX8_safe : ByteArray := prog_1_method_39_code
def yX8_safe : MethodName := ⟨RX8, "safe", "(I)I"⟩
abbrev cX8_reach : ByteArray := prog_1_method_40_code
def yX8_reach : MethodName := ⟨RX8, "reach", "(I)I"⟩
abbrev cX8_guard : ByteArray := prog_1_method_41_code
def yX8_guard : MethodName := ⟨RX8, "guard", "(I)I"⟩
abbrev cX8_key : ByteArray := prog_1_method_42_code
def yX8_key : MethodName := ⟨RX8, "key", "(I)I"⟩
abbrev cX8_fork : ByteArray := prog_1_method_43_code
def yX8_fork : MethodName := ⟨RX8, "fork", "()I"⟩
abbrev cX8_forkedBy : ByteArray := prog_1_method_44_code
def yX8_forkedBy : MethodName := ⟨RX8, "forkedBy", "(II)I"⟩
abbrev cX8_regret : ByteArray := prog_1_method_45_code
def yX8_regret : MethodName := ⟨RX8, "regret", "(II)I"⟩
abbrev cX8_whose : ByteArray := prog_1_method_46_code
def yX8_whose : MethodName := ⟨RX8, "whose", "(I)I"⟩
abbrev cX8_image : ByteArray := prog_1_method_47_code
def yX8_image : MethodName := ⟨RX8, "image", "()V"⟩
abbrev cX8_restore : ByteArray := prog_1_method_48_code
def yX8_restore : MethodName := ⟨RX8, "restore", "()Z"⟩
abbrev cX8_has : ByteArray := prog_1_method_49_code
def yX8_has : MethodName := ⟨RX8, "has", "(II)Z"⟩
abbrev cX8_needVillage : ByteArray := prog_1_method_50_code
def yX8_needVillage : MethodName := ⟨RX8, "needVillage", "(I)V"⟩
abbrev cX8_needSide : ByteArray := prog_1_method_51_code
def yX8_needSide : MethodName := ⟨RX8, "needSide", "(I)V"⟩
abbrev cX8_isStyle : ByteArray := prog_1_method_52_code
def yX8_isStyle : MethodName := ⟨RX8, "isStyle", "(I)Z"⟩
abbrev cX8_targetsFrom : ByteArray := prog_1_method_53_code
def yX8_targetsFrom : MethodName := ⟨RX8, "targetsFrom", "(I)I"⟩
abbrev cX8_mayMoveInTurn : ByteArray := prog_1_method_54_code
def yX8_mayMoveInTurn : MethodName := ⟨RX8, "mayMoveInTurn", "(II)Z"⟩
abbrev cX8_hangingOn : ByteArray := prog_1_method_55_code
def yX8_hangingOn : MethodName := ⟨RX8, "hangingOn", "(I)I"⟩
abbrev cX8_pinnedOf : ByteArray := prog_1_method_56_code
def yX8_pinnedOf : MethodName := ⟨RX8, "pinnedOf", "(I)I"⟩
abbrev cX8_leadIn : ByteArray := prog_1_method_57_code
def yX8_leadIn : MethodName := ⟨RX8, "leadIn", "(II)I"⟩
abbrev cX8_leadAfter : ByteArray := prog_1_method_58_code
def yX8_leadAfter : MethodName := ⟨RX8, "leadAfter", "(III)I"⟩
abbrev cX8_bestMove : ByteArray := prog_1_method_59_code
def yX8_bestMove : MethodName := ⟨RX8, "bestMove", "(I)I"⟩
abbrev cX8_styleGives : ByteArray := prog_1_method_60_code
def yX8_styleGives : MethodName := ⟨RX8, "styleGives", "(I)I"⟩
abbrev cX8_leastThatWins : ByteArray := prog_1_method_61_code
def yX8_leastThatWins : MethodName := ⟨RX8, "leastThatWins", "(I)J"⟩
def RX9 : String := "VillageBoardModel"
def TX9 : u_T := fun k => match k with
  | 0 => ("VillageBoardModel", "thrown", "I", false)
  | 1 => ("VillageBoardModel", "villages", "I", false)
  | 2 => ("VillageBoardModel", "roads", "I", false)
  | 3 => ("VillageBoardModel", "styles", "I", false)
  | 4 => ("VillageBoardModel", "takesAt", "I", false)
  | 5 => ("VillageBoardModel", "worth", "[I", true)
  | 6 => ("VillageBoardModel", "fort", "[I", true)
  | 7 => ("VillageBoardModel", "styleAt", "[I", true)
  | 8 => ("VillageBoardModel", "code", "[I", true)
  | 9 => ("VillageBoardModel", "isRoad", "[Z", true)
  | 10 => ("VillageBoardModel", "tape", "[I", true)
  | 11 => ("VillageBoardModel", "taped", "I", false)
  | 12 => ("VillageBoardModel", "faultKind", "I", false)
  | 13 => ("VillageBoardModel", "faultPlace", "I", false)
  | 14 => ("VillageBoardModel", "refused", "[I", true)
  | 15 => ("VillageBoardModel", "long1", "I", false)
  | 16 => ("VillageBoardModel", "next", "I", false)
  | 17 => ("VillageBoardModel", "sort", "I", false)
  | 18 => ("VillageBoardModel", "place", "I", false)
  | 19 => ("VillageBoardModel", "long0", "I", false)
  | 20 => ("VillageBoardModel", "value", "I", false)
  | 21 => ("VillageBoardModel", "sign", "I", false)
  | 22 => ("VillageBoardModel", "word", "J", false)
  | 23 => ("VillageBoardModel", "newVillages", "I", false)
  | 24 => ("VillageBoardModel", "newRoads", "I", false)
  | 25 => ("VillageBoardModel", "newStyles", "I", false)
  | 26 => ("VillageBoardModel", "newTakesAt", "I", false)
  | 27 => ("VillageBoardModel", "top", "I", false)
  | 28 => ("VillageBoardModel", "waiting", "I", false)
  | 29 => ("VillageBoardModel", "depth", "I", false)
  | 30 => ("VillageBoardModel", "newWorth", "[I", true)
  | 31 => ("VillageBoardModel", "newFort", "[I", true)
  | 32 => ("VillageBoardModel", "newStone", "[I", true)
  | 33 => ("VillageBoardModel", "newStyleAt", "[I", true)
  | 34 => ("VillageBoardModel", "readCode", "[I", true)
  | 35 => ("VillageBoardModel", "waits", "[I", true)
  | 36 => ("VillageBoardModel", "newRoad", "[Z", true)
  | 37 => ("VillageBoardModel", "tested", "[Z", true)
  | 38 => ("VillageBoardModel", "board", "[I", true)
  | 39 => ("VillageBoardModel", "ahead", "[I", true)
  | 40 => ("VillageBoardModel", "acts", "I", false)
  | 41 => ("VillageBoardModel", "told", "[I", true)
  | 42 => ("VillageBoardModel", "pile", "[I", true)
  | 43 => ("VillageBoardModel", "bestMove", "I", false)
  | 44 => ("VillageBoardModel", "steps", "[I", true)
  | 45 => ("VillageBoardModel", "seenMany", "I", false)
  | 46 => ("VillageBoardModel", "seen", "[I", true)
  | 47 => ("VillageBoardModel", "moves", "[I", true)
  | 48 => ("VillageBoardModel", "its", "I", false)
  | 49 => ("VillageBoardModel", "hasImage", "Z", false)
  | 50 => ("VillageBoardModel", "imageActs", "I", false)
  | 51 => ("VillageBoardModel", "imageSeen", "I", false)
  | 52 => ("VillageBoardModel", "imageRow", "[I", true)
  | 53 => ("VillageBoardModel", "imageAhead", "[I", true)
  | _ => ("VillageBoardModel", "imageSees", "[I", true)
def tyX9 : Nat → FieldType := fun k => match k with
  | 0 => .int
  | 1 => .int
  | 2 => .int
  | 3 => .int
  | 4 => .int
  | 5 => .array .int
  | 6 => .array .int
  | 7 => .array .int
  | 8 => .array .int
  | 9 => .array .boolean
  | 10 => .array .int
  | 11 => .int
  | 12 => .int
  | 13 => .int
  | 14 => .array .int
  | 15 => .int
  | 16 => .int
  | 17 => .int
  | 18 => .int
  | 19 => .int
  | 20 => .int
  | 21 => .int
  | 22 => .long
  | 23 => .int
  | 24 => .int
  | 25 => .int
  | 26 => .int
  | 27 => .int
  | 28 => .int
  | 29 => .int
  | 30 => .array .int
  | 31 => .array .int
  | 32 => .array .int
  | 33 => .array .int
  | 34 => .array .int
  | 35 => .array .int
  | 36 => .array .boolean
  | 37 => .array .boolean
  | 38 => .array .int
  | 39 => .array .int
  | 40 => .int
  | 41 => .array .int
  | 42 => .array .int
  | 43 => .int
  | 44 => .array .int
  | 45 => .int
  | 46 => .array .int
  | 47 => .array .int
  | 48 => .int
  | 49 => .boolean
  | 50 => .int
  | 51 => .int
  | 52 => .array .int
  | 53 => .array .int
  | _ => .array .int
abbrev wsX90 : List Cond := u_ws RX9 TX9 55
theorem nmX9 : ∀ a, a < 55 → ∀ b, b < 55 → a ≠ b → (TX9 a).2.1 ≠ (TX9 b).2.1 := by decide +kernel
theorem tyX9_ok : ∀ k, k < 55 → parseFieldDescriptor (TX9 k).2.2.1 = some (tyX9 k) := by decide +kernel
abbrev cX9_init : ByteArray := prog_11_method_1_code
def yX9_init : MethodName := ⟨RX9, "<init>", "()V"⟩
abbrev cX9_thrown : ByteArray := prog_11_method_2_code
def yX9_thrown : MethodName := ⟨RX9, "thrown", "()I"⟩
abbrev cX9_right : ByteArray := prog_11_method_3_code
def yX9_right : MethodName := ⟨RX9, "right", "(ZI)Z"⟩
abbrev cX9_within : ByteArray := prog_11_method_4_code
def yX9_within : MethodName := ⟨RX9, "within", "(III)Z"⟩
abbrev cX9_copies : ByteArray := prog_11_method_5_code
def yX9_copies : MethodName := ⟨RX9, "copies", "([I[I)V"⟩
abbrev cX9_bits : ByteArray := prog_11_method_6_code
def yX9_bits : MethodName := ⟨RX9, "bits", "(I)I"⟩
abbrev cX9_feed : ByteArray := prog_11_method_7_code
def yX9_feed : MethodName := ⟨RX9, "feed", "(IIIII)I"⟩
abbrev cX9_lays : ByteArray := prog_11_method_8_code
def yX9_lays : MethodName := ⟨RX9, "lays", "(I)V"⟩
abbrev cX9_byteAt : ByteArray := prog_11_method_9_code
def yX9_byteAt : MethodName := ⟨RX9, "byteAt", "(I)I"⟩
abbrev cX9_isLetter : ByteArray := prog_11_method_10_code
def yX9_isLetter : MethodName := ⟨RX9, "isLetter", "(I)Z"⟩
abbrev cX9_isDigit : ByteArray := prog_11_method_11_code
def yX9_isDigit : MethodName := ⟨RX9, "isDigit", "(I)Z"⟩
abbrev cX9_goes : ByteArray := prog_11_method_12_code
def yX9_goes : MethodName := ⟨RX9, "goes", "()V"⟩
abbrev cX9_spelled : ByteArray := prog_11_method_13_code
def yX9_spelled : MethodName := ⟨RX9, "spelled", "(IIIIIII)J"⟩
abbrev cX9_letters : ByteArray := prog_11_method_14_code
def yX9_letters : MethodName := ⟨RX9, "letters", "(I)J"⟩
abbrev cX9_knownWord : ByteArray := prog_11_method_15_code
def yX9_knownWord : MethodName := ⟨RX9, "knownWord", "()I"⟩
abbrev cX9_wrong : ByteArray := prog_11_method_16_code
def yX9_wrong : MethodName := ⟨RX9, "wrong", "(I)V"⟩
abbrev cX9_isGood : ByteArray := prog_11_method_17_code
def yX9_isGood : MethodName := ⟨RX9, "isGood", "()Z"⟩
abbrev cX9_isSign : ByteArray := prog_11_method_18_code
def yX9_isSign : MethodName := ⟨RX9, "isSign", "(I)Z"⟩
abbrev cX9_need : ByteArray := prog_11_method_19_code
def yX9_need : MethodName := ⟨RX9, "need", "(Z)V"⟩
abbrev cX9_number : ByteArray := prog_11_method_20_code
def yX9_number : MethodName := ⟨RX9, "number", "(II)I"⟩
abbrev cX9_amongHere : ByteArray := prog_11_method_21_code
def yX9_amongHere : MethodName := ⟨RX9, "amongHere", "(I)Z"⟩
abbrev cX9_puts : ByteArray := prog_11_method_22_code
def yX9_puts : MethodName := ⟨RX9, "puts", "(I)V"⟩
abbrev cX9_isOpen : ByteArray := prog_11_method_23_code
def yX9_isOpen : MethodName := ⟨RX9, "isOpen", "(I)Z"⟩
abbrev cX9_strength : ByteArray := prog_11_method_24_code
def yX9_strength : MethodName := ⟨RX9, "strength", "(I)I"⟩
abbrev cX9_drops : ByteArray := prog_11_method_25_code
def yX9_drops : MethodName := ⟨RX9, "drops", "(I)V"⟩
abbrev cX9_waitsFor : ByteArray := prog_11_method_26_code
def yX9_waitsFor : MethodName := ⟨RX9, "waitsFor", "(I)V"⟩
abbrev cX9_part : ByteArray := prog_11_method_27_code
def yX9_part : MethodName := ⟨RX9, "part", "()V"⟩
abbrev cX9_deeper : ByteArray := prog_11_method_28_code
def yX9_deeper : MethodName := ⟨RX9, "deeper", "()V"⟩
abbrev cX9_operand : ByteArray := prog_11_method_29_code
def yX9_operand : MethodName := ⟨RX9, "operand", "(Z)V"⟩
abbrev cX9_isOpened : ByteArray := prog_11_method_30_code
def yX9_isOpened : MethodName := ⟨RX9, "isOpened", "()Z"⟩
abbrev cX9_closes : ByteArray := prog_11_method_31_code
def yX9_closes : MethodName := ⟨RX9, "closes", "()V"⟩
abbrev cX9_expression : ByteArray := prog_11_method_32_code
def yX9_expression : MethodName := ⟨RX9, "expression", "()V"⟩
abbrev cX9_readsVillage : ByteArray := prog_11_method_33_code
def yX9_readsVillage : MethodName := ⟨RX9, "readsVillage", "(I)V"⟩
abbrev cX9_readsRoad : ByteArray := prog_11_method_34_code
def yX9_readsRoad : MethodName := ⟨RX9, "readsRoad", "()V"⟩
abbrev cX9_line : ByteArray := prog_11_method_35_code
def yX9_line : MethodName := ⟨RX9, "line", "()V"⟩
abbrev cX9_board : ByteArray := prog_11_method_36_code
def yX9_board : MethodName := ⟨RX9, "board", "(I)I"⟩
abbrev cX9_fault : ByteArray := prog_11_method_37_code
def yX9_fault : MethodName := ⟨RX9, "fault", "()I"⟩
abbrev cX9_keeps : ByteArray := prog_11_method_38_code
def yX9_keeps : MethodName := ⟨RX9, "keeps", "()V"⟩
abbrev cX9_refuses : ByteArray := prog_11_method_39_code
def yX9_refuses : MethodName := ⟨RX9, "refuses", "(I)I"⟩
abbrev cX9_undo : ByteArray := prog_11_method_40_code
def yX9_undo : MethodName := ⟨RX9, "undo", "()I"⟩
abbrev cX9_lays0 : ByteArray := prog_11_method_41_code
def yX9_lays0 : MethodName := ⟨RX9, "lays0", "(II)V"⟩
abbrev cX9_works : ByteArray := prog_11_method_42_code
def yX9_works : MethodName := ⟨RX9, "works", "(III)I"⟩
abbrev cX9_reckons : ByteArray := prog_11_method_43_code
def yX9_reckons : MethodName := ⟨RX9, "reckons", "(I)I"⟩
abbrev cX9_near : ByteArray := prog_11_method_44_code
def yX9_near : MethodName := ⟨RX9, "near", "(IIII)I"⟩
abbrev cX9_tells : ByteArray := prog_11_method_45_code
def yX9_tells : MethodName := ⟨RX9, "tells", "(III)V"⟩
abbrev cX9_mayGo : ByteArray := prog_11_method_46_code
def yX9_mayGo : MethodName := ⟨RX9, "mayGo", "(III)Z"⟩
abbrev cX9_mayDo : ByteArray := prog_11_method_47_code
def yX9_mayDo : MethodName := ⟨RX9, "mayDo", "(III)Z"⟩
abbrev cX9_brings : ByteArray := prog_11_method_48_code
def yX9_brings : MethodName := ⟨RX9, "brings", "(III)V"⟩
abbrev cX9_does : ByteArray := prog_11_method_49_code
def yX9_does : MethodName := ⟨RX9, "does", "(II)V"⟩
abbrev cX9_byStyle : ByteArray := prog_11_method_50_code
def yX9_byStyle : MethodName := ⟨RX9, "byStyle", "(II)I"⟩
abbrev cX9_byItsStyle : ByteArray := prog_11_method_51_code
def yX9_byItsStyle : MethodName := ⟨RX9, "byItsStyle", "(I)I"⟩
abbrev cX9_stonesOf : ByteArray := prog_11_method_52_code
def yX9_stonesOf : MethodName := ⟨RX9, "stonesOf", "(II)I"⟩
abbrev cX9_flagsOf : ByteArray := prog_11_method_53_code
def yX9_flagsOf : MethodName := ⟨RX9, "flagsOf", "(II)I"⟩
abbrev cX9_worthOf : ByteArray := prog_11_method_54_code
def yX9_worthOf : MethodName := ⟨RX9, "worthOf", "(II)I"⟩
abbrev cX9_isTaken : ByteArray := prog_11_method_55_code
def yX9_isTaken : MethodName := ⟨RX9, "isTaken", "(II)Z"⟩
abbrev cX9_prised : ByteArray := prog_11_method_56_code
def yX9_prised : MethodName := ⟨RX9, "prised", "(II)I"⟩
abbrev cX9_hanging : ByteArray := prog_11_method_57_code
def yX9_hanging : MethodName := ⟨RX9, "hanging", "(I)I"⟩
abbrev cX9_movesOf : ByteArray := prog_11_method_58_code
def yX9_movesOf : MethodName := ⟨RX9, "movesOf", "(II)I"⟩
abbrev cX9_count : ByteArray := prog_11_method_59_code
def yX9_count : MethodName := ⟨RX9, "count", "(I)I"⟩
abbrev cX9_isVillage : ByteArray := prog_11_method_60_code
def yX9_isVillage : MethodName := ⟨RX9, "isVillage", "(I)Z"⟩
abbrev cX9_isSide : ByteArray := prog_11_method_61_code
def yX9_isSide : MethodName := ⟨RX9, "isSide", "(I)Z"⟩
abbrev cX9_isWhat : ByteArray := prog_11_method_62_code
def yX9_isWhat : MethodName := ⟨RX9, "isWhat", "(II)Z"⟩
abbrev cX9_roadsOf : ByteArray := prog_11_method_63_code
def yX9_roadsOf : MethodName := ⟨RX9, "roadsOf", "(I)I"⟩
abbrev cX9_village : ByteArray := prog_11_method_64_code
def yX9_village : MethodName := ⟨RX9, "village", "(II)I"⟩
abbrev cX9_pinned : ByteArray := prog_11_method_65_code
def yX9_pinned : MethodName := ⟨RX9, "pinned", "(I)I"⟩
abbrev cX9_side : ByteArray := prog_11_method_66_code
def yX9_side : MethodName := ⟨RX9, "side", "(II)I"⟩
abbrev cX9_road : ByteArray := prog_11_method_67_code
def yX9_road : MethodName := ⟨RX9, "road", "(II)Z"⟩
abbrev cX9_lawful : ByteArray := prog_11_method_68_code
def yX9_lawful : MethodName := ⟨RX9, "lawful", "(II)Z"⟩
abbrev cX9_move : ByteArray := prog_11_method_69_code
def yX9_move : MethodName := ⟨RX9, "move", "(II)I"⟩
abbrev cX9_pass : ByteArray := prog_11_method_70_code
def yX9_pass : MethodName := ⟨RX9, "pass", "()I"⟩
abbrev cX9_fly : ByteArray := prog_11_method_71_code
def yX9_fly : MethodName := ⟨RX9, "fly", "(II)Z"⟩
abbrev cX9_teach : ByteArray := prog_11_method_72_code
def yX9_teach : MethodName := ⟨RX9, "teach", "(II)I"⟩
abbrev cX9_play : ByteArray := prog_11_method_73_code
def yX9_play : MethodName := ⟨RX9, "play", "(I)I"⟩
abbrev cX9_hangs : ByteArray := prog_11_method_74_code
def yX9_hangs : MethodName := ⟨RX9, "hangs", "(I)I"⟩
abbrev cX9_scoreFor : ByteArray := prog_11_method_75_code
def yX9_scoreFor : MethodName := ⟨RX9, "scoreFor", "(II)I"⟩
abbrev cX9_lookOne : ByteArray := prog_11_method_76_code
def yX9_lookOne : MethodName := ⟨RX9, "lookOne", "(I)I"⟩
abbrev cX9_lookTwo : ByteArray := prog_11_method_77_code
def yX9_lookTwo : MethodName := ⟨RX9, "lookTwo", "(I)I"⟩
abbrev cX9_lookThree : ByteArray := prog_11_method_78_code
def yX9_lookThree : MethodName := ⟨RX9, "lookThree", "(I)I"⟩
abbrev cX9_toldMove : ByteArray := prog_11_method_79_code
def yX9_toldMove : MethodName := ⟨RX9, "toldMove", "(I)I"⟩
abbrev cX9_look : ByteArray := prog_11_method_80_code
def yX9_look : MethodName := ⟨RX9, "look", "(II)I"⟩
abbrev cX9_winsAtOnce : ByteArray := prog_11_method_81_code
def yX9_winsAtOnce : MethodName := ⟨RX9, "winsAtOnce", "(I)Z"⟩
abbrev cX9_winsByAll : ByteArray := prog_11_method_82_code
def yX9_winsByAll : MethodName := ⟨RX9, "winsByAll", "(I)Z"⟩
abbrev cX9_win : ByteArray := prog_11_method_83_code
def yX9_win : MethodName := ⟨RX9, "win", "()I"⟩
abbrev cX9_walks : ByteArray := prog_11_method_84_code
def yX9_walks : MethodName := ⟨RX9, "walks", "(I)V"⟩
abbrev cX9_journey : ByteArray := prog_11_method_85_code
def yX9_journey : MethodName := ⟨RX9, "journey", "(II)I"⟩
abbrev cX9_reach : ByteArray := prog_11_method_86_code
def yX9_reach : MethodName := ⟨RX9, "reach", "(I)I"⟩
abbrev cX9_played : ByteArray := prog_11_method_87_code
def yX9_played : MethodName := ⟨RX9, "played", "(I)I"⟩
abbrev cX9_turned : ByteArray := prog_11_method_88_code
def yX9_turned : MethodName := ⟨RX9, "turned", "(I)I"⟩
abbrev cX9_treasury : ByteArray := prog_11_method_89_code
def yX9_treasury : MethodName := ⟨RX9, "treasury", "(II)I"⟩
abbrev cX9_gift : ByteArray := prog_11_method_90_code
def yX9_gift : MethodName := ⟨RX9, "gift", "(II)I"⟩
abbrev cX9_plant : ByteArray := prog_11_method_91_code
def yX9_plant : MethodName := ⟨RX9, "plant", "(II)I"⟩
abbrev cX9_see : ByteArray := prog_11_method_92_code
def yX9_see : MethodName := ⟨RX9, "see", "(III)I"⟩
abbrev cX9_forget : ByteArray := prog_11_method_93_code
def yX9_forget : MethodName := ⟨RX9, "forget", "()V"⟩
abbrev cX9_fitting : ByteArray := prog_11_method_94_code
def yX9_fitting : MethodName := ⟨RX9, "fitting", "()I"⟩
abbrev cX9_styles : ByteArray := prog_11_method_95_code
def yX9_styles : MethodName := ⟨RX9, "styles", "(I)I"⟩
abbrev cX9_next : ByteArray := prog_11_method_96_code
def yX9_next : MethodName := ⟨RX9, "next", "(I)I"⟩
abbrev cX9_answered : ByteArray := prog_11_method_97_code
def yX9_answered : MethodName := ⟨RX9, "answered", "(II)I"⟩
abbrev cX9_treaty : ByteArray := prog_11_method_98_code
def yX9_treaty : MethodName := ⟨RX9, "treaty", "()Z"⟩
abbrev cX9_richer : ByteArray := prog_11_method_99_code
def yX9_richer : MethodName := ⟨RX9, "richer", "(III)I"⟩
abbrev cX9_game : ByteArray := prog_11_method_100_code
def yX9_game : MethodName := ⟨RX9, "game", "(III)I"⟩
abbrev cX9_draw : ByteArray := prog_11_method_101_code
def yX9_draw : MethodName := ⟨RX9, "draw", "(I)I"⟩
abbrev cX9_moveOf : ByteArray := prog_11_method_102_code
def yX9_moveOf : MethodName := ⟨RX9, "moveOf", "(II)I"⟩
abbrev cX9_years : ByteArray := prog_11_method_103_code
def yX9_years : MethodName := ⟨RX9, "years", "(III)I"⟩
abbrev cX9_owes : ByteArray := prog_11_method_104_code
def yX9_owes : MethodName := ⟨RX9, "owes", "(I)I"⟩
abbrev cX9_front : ByteArray := prog_11_method_105_code
def yX9_front : MethodName := ⟨RX9, "front", "()I"⟩
abbrev cX9_parts : ByteArray := prog_11_method_106_code
def yX9_parts : MethodName := ⟨RX9, "parts", "(I)I"⟩
abbrev cX9_safe : ByteArray := prog_11_method_107_code
def yX9_safe : MethodName := ⟨RX9, "safe", "(I)I"⟩
abbrev cX9_guard : ByteArray := prog_11_method_108_code
def yX9_guard : MethodName := ⟨RX9, "guard", "(I)I"⟩
abbrev cX9_key : ByteArray := prog_11_method_109_code
def yX9_key : MethodName := ⟨RX9, "key", "(I)I"⟩
abbrev cX9_fork : ByteArray := prog_11_method_110_code
def yX9_fork : MethodName := ⟨RX9, "fork", "()I"⟩
abbrev cX9_regret : ByteArray := prog_11_method_111_code
def yX9_regret : MethodName := ⟨RX9, "regret", "(II)I"⟩
abbrev cX9_whose : ByteArray := prog_11_method_112_code
def yX9_whose : MethodName := ⟨RX9, "whose", "(I)I"⟩
abbrev cX9_image : ByteArray := prog_11_method_113_code
def yX9_image : MethodName := ⟨RX9, "image", "()V"⟩
abbrev cX9_restore : ByteArray := prog_11_method_114_code
def yX9_restore : MethodName := ⟨RX9, "restore", "()Z"⟩
def RJ6 : String := "java/lang/Integer"
abbrev cJ6_bitCount_0f7a4 : ByteArray := prog_17_method_49_code
def yJ6_bitCount_0f7a4 : MethodName := ⟨RJ6, "bitCount", "(I)I"⟩
def RJ9 : String := "java/lang/Math"
abbrev cJ9_max_7cf53 : ByteArray := prog_18_method_65_code
def yJ9_max_7cf53 : MethodName := ⟨RJ9, "max", "(II)I"⟩
abbrev cJ9_max_f86c9 : ByteArray := prog_18_method_66_code
def yJ9_max_f86c9 : MethodName := ⟨RJ9, "max", "(JJ)J"⟩
abbrev cJ9_min_7cf53 : ByteArray := prog_18_method_69_code
def yJ9_min_7cf53 : MethodName := ⟨RJ9, "min", "(II)I"⟩
def RJ0 : String := "java/lang/String"
abbrev cJ0_length_8abf5 : ByteArray := prog_20_method_54_code
def yJ0_length_8abf5 : MethodName := ⟨RJ0, "length", "()I"⟩
abbrev cJ0_charAt_5068e : ByteArray := prog_20_method_56_code
def yJ0_charAt_5068e : MethodName := ⟨RJ0, "charAt", "(I)C"⟩
abbrev cJ0_coder_7d493 : ByteArray := prog_20_method_152_code
def yJ0_coder_7d493 : MethodName := ⟨RJ0, "coder", "()B"⟩
abbrev cJ0_isLatin1_aae02 : ByteArray := prog_20_method_154_code
def yJ0_isLatin1_aae02 : MethodName := ⟨RJ0, "isLatin1", "()Z"⟩
abbrev cJ0_checkIndex_df160 : ByteArray := prog_20_method_155_code
def yJ0_checkIndex_df160 : MethodName := ⟨RJ0, "checkIndex", "(II)V"⟩
def RJ1 : String := "java/lang/StringLatin1"
abbrev cJ1_charAt_3b067 : ByteArray := prog_21_method_2_code
def yJ1_charAt_3b067 : MethodName := ⟨RJ1, "charAt", "([BI)C"⟩
def RJ2 : String := "java/lang/StringUTF16"
abbrev cJ2_getChar_3b067 : ByteArray := prog_22_method_5_code
def yJ2_getChar_3b067 : MethodName := ⟨RJ2, "getChar", "([BI)C"⟩
abbrev cJ2_length_9d52b : ByteArray := prog_22_method_6_code
def yJ2_length_9d52b : MethodName := ⟨RJ2, "length", "([B)I"⟩
abbrev cJ2_charAt_3b067 : ByteArray := prog_22_method_83_code
def yJ2_charAt_3b067 : MethodName := ⟨RJ2, "charAt", "([BI)C"⟩
abbrev cJ2_checkIndex_2214a : ByteArray := prog_22_method_91_code
def yJ2_checkIndex_2214a : MethodName := ⟨RJ2, "checkIndex", "(I[B)V"⟩
def RJ10 : String := "java/lang/System"
def RJ3 : String := "jdk/internal/util/Preconditions"
abbrev cJ3_checkIndex_8e157 : ByteArray := prog_28_method_11_code
def yJ3_checkIndex_8e157 : MethodName := ⟨RJ3, "checkIndex", "(IILjava/util/function/BiFunction;)I"⟩
def RL : String := "VillageBoardLaw"
abbrev cL_board : ByteArray := method_3_code
def yL_board : MethodName := ⟨RL, "board", "(LVillageBoard;I[J)I"⟩
abbrev cL_count : ByteArray := method_4_code
def yL_count : MethodName := ⟨RL, "count", "(LVillageBoard;I[J)I"⟩
abbrev cL_village : ByteArray := method_5_code
def yL_village : MethodName := ⟨RL, "village", "(LVillageBoard;II[J)I"⟩
abbrev cL_side : ByteArray := method_6_code
def yL_side : MethodName := ⟨RL, "side", "(LVillageBoard;II[J)I"⟩
abbrev cL_road : ByteArray := method_7_code
def yL_road : MethodName := ⟨RL, "road", "(LVillageBoard;II[J)I"⟩
abbrev cL_lawful : ByteArray := method_8_code
def yL_lawful : MethodName := ⟨RL, "lawful", "(LVillageBoard;II[J)I"⟩
abbrev cL_move : ByteArray := method_9_code
def yL_move : MethodName := ⟨RL, "move", "(LVillageBoard;II[J)I"⟩
abbrev cL_fly : ByteArray := method_10_code
def yL_fly : MethodName := ⟨RL, "fly", "(LVillageBoard;II[J)I"⟩
abbrev cL_teach : ByteArray := method_11_code
def yL_teach : MethodName := ⟨RL, "teach", "(LVillageBoard;II[J)I"⟩
abbrev cL_hangs : ByteArray := method_12_code
def yL_hangs : MethodName := ⟨RL, "hangs", "(LVillageBoard;I[J)I"⟩
abbrev cL_look : ByteArray := method_13_code
def yL_look : MethodName := ⟨RL, "look", "(LVillageBoard;II[J)I"⟩
abbrev cL_journey : ByteArray := method_14_code
def yL_journey : MethodName := ⟨RL, "journey", "(LVillageBoard;II[J)I"⟩
abbrev cL_played : ByteArray := method_15_code
def yL_played : MethodName := ⟨RL, "played", "(LVillageBoard;I[J)I"⟩
abbrev cL_turned : ByteArray := method_16_code
def yL_turned : MethodName := ⟨RL, "turned", "(LVillageBoard;I[J)I"⟩
abbrev cL_treasury : ByteArray := method_17_code
def yL_treasury : MethodName := ⟨RL, "treasury", "(LVillageBoard;II[J)I"⟩
abbrev cL_gift : ByteArray := method_18_code
def yL_gift : MethodName := ⟨RL, "gift", "(LVillageBoard;II[J)I"⟩
abbrev cL_plant : ByteArray := method_19_code
def yL_plant : MethodName := ⟨RL, "plant", "(LVillageBoard;II[J)I"⟩
abbrev cL_see : ByteArray := method_20_code
def yL_see : MethodName := ⟨RL, "see", "(LVillageBoard;III[J)I"⟩
abbrev cL_styles : ByteArray := method_21_code
def yL_styles : MethodName := ⟨RL, "styles", "(LVillageBoard;I[J)I"⟩
abbrev cL_next : ByteArray := method_22_code
def yL_next : MethodName := ⟨RL, "next", "(LVillageBoard;I[J)I"⟩
abbrev cL_game : ByteArray := method_23_code
def yL_game : MethodName := ⟨RL, "game", "(LVillageBoard;III[J)I"⟩
abbrev cL_years : ByteArray := method_24_code
def yL_years : MethodName := ⟨RL, "years", "(LVillageBoard;III[J)I"⟩
abbrev cL_owes : ByteArray := method_25_code
def yL_owes : MethodName := ⟨RL, "owes", "(LVillageBoard;I[J)I"⟩
abbrev cL_parts : ByteArray := method_26_code
def yL_parts : MethodName := ⟨RL, "parts", "(LVillageBoard;I[J)I"⟩
abbrev cL_safe : ByteArray := method_27_code
def yL_safe : MethodName := ⟨RL, "safe", "(LVillageBoard;I[J)I"⟩
abbrev cL_reach : ByteArray := method_28_code
def yL_reach : MethodName := ⟨RL, "reach", "(LVillageBoard;I[J)I"⟩
abbrev cL_guard : ByteArray := method_29_code
def yL_guard : MethodName := ⟨RL, "guard", "(LVillageBoard;I[J)I"⟩
abbrev cL_key : ByteArray := method_30_code
def yL_key : MethodName := ⟨RL, "key", "(LVillageBoard;I[J)I"⟩
abbrev cL_regret : ByteArray := method_31_code
def yL_regret : MethodName := ⟨RL, "regret", "(LVillageBoard;II[J)I"⟩
abbrev cL_whose : ByteArray := method_32_code
def yL_whose : MethodName := ⟨RL, "whose", "(LVillageBoard;I[J)I"⟩
abbrev cL_law : ByteArray := code
def yL_law : MethodName := ⟨RL, "law", "([I)Z"⟩
abbrev vwCl : List vw_C := [(RX0, TX0, 3), (RX1, TX1, 3), (RX3, TX3, 10), (RX4, TX4, 6), (RX5, TX5, 8), (RX6, TX6, 6), (RX7, TX7, 3), (RX8, TX8, 16), (RX9, TX9, 55)]
end
section
/-- an instruction, three numbers (what it is linked to), a constant -/
abbrev mm_I : Type := Instr × Nat × Nat × Nat × Int32
-- 0: java/lang/Integer.bitCount(I)I
def mB_0_0 : List mm_I := (.iload_n 0, 0, 0, 0, 0) :: (.iload_n 0, 0, 0, 0, 0) :: (.iconst 1, 0, 0, 0, 0) :: (.iushr, 0, 0, 0, 0) :: (.ldc_w 265, 0, 0, 459, 1431655765) :: (.iand, 0, 0, 0, 0) :: (.isub, 0, 0, 0, 0) :: (.istore_n 0, 0, 0, 0, 0) :: (.iload_n 0, 0, 0, 0, 0) :: (.ldc_w 266, 0, 0, 460, 858993459) :: (.iand, 0, 0, 0, 0) :: (.iload_n 0, 0, 0, 0, 0) :: (.iconst 2, 0, 0, 0, 0) :: (.iushr, 0, 0, 0, 0) :: (.ldc_w 266, 0, 0, 460, 858993459) :: (.iand, 0, 0, 0, 0) :: (.iadd, 0, 0, 0, 0) :: (.istore_n 0, 0, 0, 0, 0) :: (.iload_n 0, 0, 0, 0, 0) :: (.iload_n 0, 0, 0, 0, 0) :: (.iconst 4, 0, 0, 0, 0) :: (.iushr, 0, 0, 0, 0) :: (.iadd, 0, 0, 0, 0) :: (.ldc_w 267, 0, 0, 461, 252645135) :: (.iand, 0, 0, 0, 0) :: (.istore_n 0, 0, 0, 0, 0) :: (.iload_n 0, 0, 0, 0, 0) :: (.iload_n 0, 0, 0, 0, 0) :: (.bipush 8, 0, 0, 0, 0) :: (.iushr, 0, 0, 0, 0) :: (.iadd, 0, 0, 0, 0) :: (.istore_n 0, 0, 0, 0, 0) :: (.iload_n 0, 0, 0, 0, 0) :: (.iload_n 0, 0, 0, 0, 0) :: (.bipush 16, 0, 0, 0, 0) :: (.iushr, 0, 0, 0, 0) :: (.iadd, 0, 0, 0, 0) :: (.istore_n 0, 0, 0, 0, 0) :: (.iload_n 0, 0, 0, 0, 0) :: (.bipush 63, 0, 0, 0, 0) :: (.iand, 0, 0, 0, 0) :: (.ireturn, 0, 0, 0, 0) :: []
def mT_0 : List (Nat × List mm_I) := [(0, mB_0_0)]
-- 1: VillageBoard$Acts.<init>()V
def mB_1_0 : List mm_I := (.aload_n 0, 0, 0, 0, 0) :: (.invokespecial 3, 9000, 1, 0, 1) :: (.aload_n 0, 0, 0, 0, 0) :: (.sipush 1160, 0, 0, 0, 0) :: (.newarray .int, 0, 0, 0, 0) :: (.putfield 11, 0, 0, 0, 0) :: (.aload_n 0, 0, 0, 0, 0) :: (.iconst 0, 0, 0, 0, 0) :: (.putfield 17, 0, 1, 1, 0) :: (.aload_n 0, 0, 0, 0, 0) :: (.iconst 0, 0, 0, 0, 0) :: (.putfield 21, 0, 2, 2, 0) :: (.return_, 0, 0, 0, 0) :: []
def mT_1 : List (Nat × List mm_I) := [(0, mB_1_0)]
-- 2: VillageBoard$Acts.clear()V
def mB_2_0 : List mm_I := (.aload_n 0, 0, 0, 0, 0) :: (.iconst 0, 0, 0, 0, 0) :: (.putfield 17, 0, 1, 1, 0) :: (.aload_n 0, 0, 0, 0, 0) :: (.iconst 0, 0, 0, 0, 0) :: (.putfield 21, 0, 2, 2, 0) :: (.return_, 0, 0, 0, 0) :: []
def mT_2 : List (Nat × List mm_I) := [(0, mB_2_0)]
-- 3: VillageBoard$Acts.keep(LVillageBoard$Position;)V
def mB_3_58 : List mm_I := (.return_, 0, 0, 0, 0) :: []
def mB_3_45 : List mm_I := (.aload_n 0, 0, 0, 0, 0) :: (.aload_n 0, 0, 0, 0, 0) :: (.getfield 17, 0, 1, 1, 0) :: (.iconst 1, 0, 0, 0, 0) :: (.iadd, 0, 0, 0, 0) :: (.bipush 40, 0, 0, 0, 0) :: (.irem, 0, 0, 0, 0) :: (.putfield 17, 0, 1, 1, 0) :: mB_3_58
def mB_3_0 : List mm_I := (.aload_n 1, 0, 0, 0, 0) :: (.aload_n 0, 0, 0, 0, 0) :: (.getfield 11, 0, 0, 0, 0) :: (.aload_n 0, 0, 0, 0, 0) :: (.getfield 17, 0, 1, 1, 0) :: (.aload_n 0, 0, 0, 0, 0) :: (.getfield 21, 0, 2, 2, 0) :: (.iadd, 0, 0, 0, 0) :: (.bipush 40, 0, 0, 0, 0) :: (.irem, 0, 0, 0, 0) :: (.bipush 29, 0, 0, 0, 0) :: (.imul, 0, 0, 0, 0) :: (.invokevirtual 24, 32, 3, 1, 20) :: (.aload_n 0, 0, 0, 0, 0) :: (.getfield 21, 0, 2, 2, 0) :: (.bipush 40, 0, 0, 0, 0) :: (.if_icmp .ge 16, 45, 0, 0, 0) :: (.aload_n 0, 0, 0, 0, 0) :: (.dup, 0, 0, 0, 0) :: (.getfield 21, 0, 2, 2, 0) :: (.iconst 1, 0, 0, 0, 0) :: (.iadd, 0, 0, 0, 0) :: (.putfield 21, 0, 2, 2, 0) :: (.goto 16, 58, 0, 0, 0) :: []
def mT_3 : List (Nat × List mm_I) := [(0, mB_3_0), (45, mB_3_45), (58, mB_3_58)]
-- 4: VillageBoard$Acts.bringBack(LVillageBoard$Position;)V
def mB_4_40 : List mm_I := (.return_, 0, 0, 0, 0) :: []
def mB_4_0 : List mm_I := (.aload_n 0, 0, 0, 0, 0) :: (.getfield 21, 0, 2, 2, 0) :: (.ifCond .le 36, 40, 0, 0, 0) :: (.aload_n 0, 0, 0, 0, 0) :: (.dup, 0, 0, 0, 0) :: (.getfield 21, 0, 2, 2, 0) :: (.iconst 1, 0, 0, 0, 0) :: (.isub, 0, 0, 0, 0) :: (.putfield 21, 0, 2, 2, 0) :: (.aload_n 1, 0, 0, 0, 0) :: (.aload_n 0, 0, 0, 0, 0) :: (.getfield 11, 0, 0, 0, 0) :: (.aload_n 0, 0, 0, 0, 0) :: (.getfield 17, 0, 1, 1, 0) :: (.aload_n 0, 0, 0, 0, 0) :: (.getfield 21, 0, 2, 2, 0) :: (.iadd, 0, 0, 0, 0) :: (.bipush 40, 0, 0, 0, 0) :: (.irem, 0, 0, 0, 0) :: (.bipush 29, 0, 0, 0, 0) :: (.imul, 0, 0, 0, 0) :: (.invokevirtual 28, 33, 3, 2, 37) :: mB_4_40
def mT_4 : List (Nat × List mm_I) := [(0, mB_4_0), (40, mB_4_40)]
-- 5: VillageBoard$Acts.copyFrom(LVillageBoard$Acts;)V
def mB_5_0 : List mm_I := (.aload_n 1, 0, 0, 0, 0) :: (.getfield 11, 0, 0, 0, 0) :: (.iconst 0, 0, 0, 0, 0) :: (.aload_n 0, 0, 0, 0, 0) :: (.getfield 11, 0, 0, 0, 0) :: (.iconst 0, 0, 0, 0, 0) :: (.sipush 1160, 0, 0, 0, 0) :: (.invokestatic 31, 9003, 5, 3, 13) :: (.aload_n 0, 0, 0, 0, 0) :: (.aload_n 1, 0, 0, 0, 0) :: (.getfield 17, 0, 1, 1, 0) :: (.putfield 17, 0, 1, 1, 0) :: (.aload_n 0, 0, 0, 0, 0) :: (.aload_n 1, 0, 0, 0, 0) :: (.getfield 21, 0, 2, 2, 0) :: (.putfield 21, 0, 2, 2, 0) :: (.return_, 0, 0, 0, 0) :: []
def mT_5 : List (Nat × List mm_I) := [(0, mB_5_0)]
-- 6: VillageBoard$Couples.<init>()V
def mB_6_0 : List mm_I := (.aload_n 0, 0, 0, 0, 0) :: (.invokespecial 3, 9000, 1, 4, 1) :: (.aload_n 0, 0, 0, 0, 0) :: (.sipush 270, 0, 0, 0, 0) :: (.newarray .int, 0, 0, 0, 0) :: (.putfield 9, 1, 0, 3, 0) :: (.aload_n 0, 0, 0, 0, 0) :: (.iconst 0, 0, 0, 0, 0) :: (.putfield 15, 1, 1, 4, 0) :: (.aload_n 0, 0, 0, 0, 0) :: (.iconst (-1), 0, 0, 0, 0) :: (.putfield 19, 1, 2, 5, 0) :: (.return_, 0, 0, 0, 0) :: []
def mT_6 : List (Nat × List mm_I) := [(0, mB_6_0)]
-- 7: VillageBoard$Couples.find(LVillageBoard$Land;LVillageBoard$Position;LVillageBoard$Position;LVillageBoard$Sightings;)V
def mB_7_157 : List mm_I := (.return_, 0, 0, 0, 0) :: []
def mB_7_151 : List mm_I := (.iinc 5 1, 0, 0, 0, 0) :: (.goto (-141), 13, 0, 0, 0) :: []
def mB_7_145 : List mm_I := (.iinc 6 1, 0, 0, 0, 0) :: (.goto (-123), 25, 0, 0, 0) :: []
def mB_7_132 : List mm_I := (.putfield 19, 1, 2, 5, 0) :: (.aload_n 0, 0, 0, 0, 0) :: (.dup, 0, 0, 0, 0) :: (.getfield 15, 1, 1, 4, 0) :: (.iconst 1, 0, 0, 0, 0) :: (.iadd, 0, 0, 0, 0) :: (.putfield 15, 1, 1, 4, 0) :: mB_7_145
def mB_7_128 : List mm_I := (.aload_n 0, 0, 0, 0, 0) :: (.getfield 19, 1, 2, 5, 0) :: mB_7_132
def mB_7_90 : List mm_I := (.aload 4, 0, 0, 0, 0) :: (.aload_n 0, 0, 0, 0, 0) :: (.getfield 9, 1, 0, 3, 0) :: (.aload_n 0, 0, 0, 0, 0) :: (.getfield 15, 1, 1, 4, 0) :: (.bipush 30, 0, 0, 0, 0) :: (.imul, 0, 0, 0, 0) :: (.invokevirtual 44, 73, 3, 8, 103) :: (.ifCond .eq 39, 145, 0, 0, 0) :: (.aload_n 0, 0, 0, 0, 0) :: (.aload_n 0, 0, 0, 0, 0) :: (.getfield 15, 1, 1, 4, 0) :: (.ifCond .ne 14, 128, 0, 0, 0) :: (.bipush 10, 0, 0, 0, 0) :: (.iload 5, 0, 0, 0, 0) :: (.imul, 0, 0, 0, 0) :: (.iload 6, 0, 0, 0, 0) :: (.iadd, 0, 0, 0, 0) :: (.goto 7, 132, 0, 0, 0) :: []
def mB_7_58 : List mm_I := (.iload 7, 0, 0, 0, 0) :: (.bipush 30, 0, 0, 0, 0) :: (.if_icmp .ge 28, 90, 0, 0, 0) :: (.aload_n 0, 0, 0, 0, 0) :: (.aload_n 0, 0, 0, 0, 0) :: (.getfield 15, 1, 1, 4, 0) :: (.bipush 30, 0, 0, 0, 0) :: (.imul, 0, 0, 0, 0) :: (.iload 7, 0, 0, 0, 0) :: (.iadd, 0, 0, 0, 0) :: (.aload_n 3, 0, 0, 0, 0) :: (.aload_n 1, 0, 0, 0, 0) :: (.invokevirtual 36, 40, 2, 6, 78) :: (.invokevirtual 40, 8, 3, 7, 81) :: (.iinc 7 1, 0, 0, 0, 0) :: (.goto (-29), 58, 0, 0, 0) :: []
def mB_7_25 : List mm_I := (.iload 6, 0, 0, 0, 0) :: (.aload_n 1, 0, 0, 0, 0) :: (.getfield 22, 2, 2, 6, 0) :: (.if_icmp .ge 120, 151, 0, 0, 0) :: (.aload_n 3, 0, 0, 0, 0) :: (.aload_n 2, 0, 0, 0, 0) :: (.invokevirtual 27, 31, 2, 5, 36) :: (.aload_n 3, 0, 0, 0, 0) :: (.getfield 33, 3, 3, 7, 0) :: (.iconst 0, 0, 0, 0, 0) :: (.iload 5, 0, 0, 0, 0) :: (.iastore, 0, 0, 0, 0) :: (.aload_n 3, 0, 0, 0, 0) :: (.getfield 33, 3, 3, 7, 0) :: (.iconst 1, 0, 0, 0, 0) :: (.iload 6, 0, 0, 0, 0) :: (.iastore, 0, 0, 0, 0) :: (.iconst 0, 0, 0, 0, 0) :: (.istore 7, 0, 0, 0, 0) :: mB_7_58
def mB_7_13 : List mm_I := (.iload 5, 0, 0, 0, 0) :: (.aload_n 1, 0, 0, 0, 0) :: (.getfield 22, 2, 2, 6, 0) :: (.if_icmp .ge 138, 157, 0, 0, 0) :: (.iconst 0, 0, 0, 0, 0) :: (.istore 6, 0, 0, 0, 0) :: mB_7_25
def mB_7_0 : List mm_I := (.aload_n 0, 0, 0, 0, 0) :: (.iconst 0, 0, 0, 0, 0) :: (.putfield 15, 1, 1, 4, 0) :: (.aload_n 0, 0, 0, 0, 0) :: (.iconst (-1), 0, 0, 0, 0) :: (.putfield 19, 1, 2, 5, 0) :: (.iconst 0, 0, 0, 0, 0) :: (.istore 5, 0, 0, 0, 0) :: mB_7_13
def mT_7 : List (Nat × List mm_I) := [(0, mB_7_0), (13, mB_7_13), (25, mB_7_25), (58, mB_7_58), (90, mB_7_90), (128, mB_7_128), (132, mB_7_132), (145, mB_7_145), (151, mB_7_151), (157, mB_7_157)]
-- 8: VillageBoard$Couples.put(II)V
def mB_8_16 : List mm_I := (.return_, 0, 0, 0, 0) :: []
def mB_8_0 : List mm_I := (.iload_n 1, 0, 0, 0, 0) :: (.aload_n 0, 0, 0, 0, 0) :: (.getfield 9, 1, 0, 3, 0) :: (.arraylength, 0, 0, 0, 0) :: (.if_icmp .ge 10, 16, 0, 0, 0) :: (.aload_n 0, 0, 0, 0, 0) :: (.getfield 9, 1, 0, 3, 0) :: (.iload_n 1, 0, 0, 0, 0) :: (.iload_n 2, 0, 0, 0, 0) :: (.iastore, 0, 0, 0, 0) :: mB_8_16
def mT_8 : List (Nat × List mm_I) := [(0, mB_8_0), (16, mB_8_16)]
-- 9: VillageBoard$Couples.unlikeOn(I)I
def mB_9_85 : List mm_I := (.iload_n 2, 0, 0, 0, 0) :: (.ireturn, 0, 0, 0, 0) :: []
def mB_9_77 : List mm_I := (.iadd, 0, 0, 0, 0) :: (.istore_n 2, 0, 0, 0, 0) :: (.iinc 3 1, 0, 0, 0, 0) :: (.goto (-78), 4, 0, 0, 0) :: []
def mB_9_76 : List mm_I := (.iconst 1, 0, 0, 0, 0) :: mB_9_77
def mB_9_66 : List mm_I := (.iload_n 2, 0, 0, 0, 0) :: (.iload 4, 0, 0, 0, 0) :: (.ifCond .eq 7, 76, 0, 0, 0) :: (.iconst 0, 0, 0, 0, 0) :: (.goto 4, 77, 0, 0, 0) :: []
def mB_9_57 : List mm_I := (.ior, 0, 0, 0, 0) :: (.istore 4, 0, 0, 0, 0) :: (.iinc 5 1, 0, 0, 0, 0) :: (.goto (-45), 18, 0, 0, 0) :: []
def mB_9_56 : List mm_I := (.iconst 0, 0, 0, 0, 0) :: mB_9_57
def mB_9_18 : List mm_I := (.iload 5, 0, 0, 0, 0) :: (.iload_n 3, 0, 0, 0, 0) :: (.if_icmp .ge 45, 66, 0, 0, 0) :: (.iload 4, 0, 0, 0, 0) :: (.aload_n 0, 0, 0, 0, 0) :: (.getfield 9, 1, 0, 3, 0) :: (.iload 5, 0, 0, 0, 0) :: (.bipush 30, 0, 0, 0, 0) :: (.imul, 0, 0, 0, 0) :: (.iload_n 1, 0, 0, 0, 0) :: (.iadd, 0, 0, 0, 0) :: (.iaload, 0, 0, 0, 0) :: (.aload_n 0, 0, 0, 0, 0) :: (.getfield 9, 1, 0, 3, 0) :: (.iload_n 3, 0, 0, 0, 0) :: (.bipush 30, 0, 0, 0, 0) :: (.imul, 0, 0, 0, 0) :: (.iload_n 1, 0, 0, 0, 0) :: (.iadd, 0, 0, 0, 0) :: (.iaload, 0, 0, 0, 0) :: (.if_icmp .ne 7, 56, 0, 0, 0) :: (.iconst 1, 0, 0, 0, 0) :: (.goto 4, 57, 0, 0, 0) :: []
def mB_9_4 : List mm_I := (.iload_n 3, 0, 0, 0, 0) :: (.aload_n 0, 0, 0, 0, 0) :: (.getfield 15, 1, 1, 4, 0) :: (.if_icmp .ge 76, 85, 0, 0, 0) :: (.iconst 0, 0, 0, 0, 0) :: (.istore 4, 0, 0, 0, 0) :: (.iconst 0, 0, 0, 0, 0) :: (.istore 5, 0, 0, 0, 0) :: mB_9_18
def mB_9_0 : List mm_I := (.iconst 0, 0, 0, 0, 0) :: (.istore_n 2, 0, 0, 0, 0) :: (.iconst 0, 0, 0, 0, 0) :: (.istore_n 3, 0, 0, 0, 0) :: mB_9_4
def mT_9 : List (Nat × List mm_I) := [(0, mB_9_0), (4, mB_9_4), (18, mB_9_18), (56, mB_9_56), (57, mB_9_57), (66, mB_9_66), (76, mB_9_76), (77, mB_9_77), (85, mB_9_85)]
-- 10: VillageBoard$Foresight.bestLead(LVillageBoard$Land;IIIIII)I
def mB_10_204 : List mm_I := (.iload 7, 0, 0, 0, 0) :: (.ireturn, 0, 0, 0, 0) :: []
def mB_10_198 : List mm_I := (.iinc 9 1, 0, 0, 0, 0) :: (.goto (-153), 48, 0, 0, 0) :: []
def mB_10_192 : List mm_I := (.iinc 11 1, 0, 0, 0, 0) :: (.goto (-105), 90, 0, 0, 0) :: []
def mB_10_181 : List mm_I := (.istore 14, 0, 0, 0, 0) :: (.iload 7, 0, 0, 0, 0) :: (.iload 14, 0, 0, 0, 0) :: (.invokestatic 37, 9004, 2, 14, 187) :: (.istore 7, 0, 0, 0, 0) :: mB_10_192
def mB_10_149 : List mm_I := (.aload_n 0, 0, 0, 0, 0) :: (.iload_n 2, 0, 0, 0, 0) :: (.iload 12, 0, 0, 0, 0) :: (.iconst (-1), 0, 0, 0, 0) :: (.ixor, 0, 0, 0, 0) :: (.iand, 0, 0, 0, 0) :: (.iload 13, 0, 0, 0, 0) :: (.iload 4, 0, 0, 0, 0) :: (.iload 12, 0, 0, 0, 0) :: (.iconst (-1), 0, 0, 0, 0) :: (.ixor, 0, 0, 0, 0) :: (.iand, 0, 0, 0, 0) :: (.iload_n 3, 0, 0, 0, 0) :: (.iload 12, 0, 0, 0, 0) :: (.ior, 0, 0, 0, 0) :: (.iload 5, 0, 0, 0, 0) :: (.iconst 1, 0, 0, 0, 0) :: (.iadd, 0, 0, 0, 0) :: (.iload 6, 0, 0, 0, 0) :: (.iconst 1, 0, 0, 0, 0) :: (.isub, 0, 0, 0, 0) :: (.invokestatic 13, 10, 7, 10, 177) :: (.ineg, 0, 0, 0, 0) :: mB_10_181
def mB_10_90 : List mm_I := (.iload 11, 0, 0, 0, 0) :: (.aload_n 0, 0, 0, 0, 0) :: (.getfield 19, 2, 0, 8, 0) :: (.if_icmp .ge 102, 198, 0, 0, 0) :: (.iload 10, 0, 0, 0, 0) :: (.iload 11, 0, 0, 0, 0) :: (.invokestatic 23, 122, 2, 11, 103) :: (.ifCond .eq 86, 192, 0, 0, 0) :: (.iconst 1, 0, 0, 0, 0) :: (.iload 11, 0, 0, 0, 0) :: (.ishl, 0, 0, 0, 0) :: (.istore 12, 0, 0, 0, 0) :: (.iload_n 1, 0, 0, 0, 0) :: (.iconst 1, 0, 0, 0, 0) :: (.iload 9, 0, 0, 0, 0) :: (.ishl, 0, 0, 0, 0) :: (.iconst (-1), 0, 0, 0, 0) :: (.ixor, 0, 0, 0, 0) :: (.iand, 0, 0, 0, 0) :: (.iload 12, 0, 0, 0, 0) :: (.ior, 0, 0, 0, 0) :: (.istore 13, 0, 0, 0, 0) :: (.iload 6, 0, 0, 0, 0) :: (.iconst 1, 0, 0, 0, 0) :: (.if_icmp .ne 18, 149, 0, 0, 0) :: (.iload 8, 0, 0, 0, 0) :: (.aload_n 0, 0, 0, 0, 0) :: (.iload 11, 0, 0, 0, 0) :: (.iload_n 3, 0, 0, 0, 0) :: (.iload 4, 0, 0, 0, 0) :: (.invokevirtual 33, 24, 4, 13, 142) :: (.iadd, 0, 0, 0, 0) :: (.goto 35, 181, 0, 0, 0) :: []
def mB_10_85 : List mm_I := (.istore 10, 0, 0, 0, 0) :: (.iconst 0, 0, 0, 0, 0) :: (.istore 11, 0, 0, 0, 0) :: mB_10_90
def mB_10_84 : List mm_I := (.iconst 0, 0, 0, 0, 0) :: mB_10_85
def mB_10_48 : List mm_I := (.iload 9, 0, 0, 0, 0) :: (.aload_n 0, 0, 0, 0, 0) :: (.getfield 19, 2, 0, 8, 0) :: (.if_icmp .ge 150, 204, 0, 0, 0) :: (.iload 6, 0, 0, 0, 0) :: (.ifCond .le 145, 204, 0, 0, 0) :: (.iload_n 1, 0, 0, 0, 0) :: (.iload 9, 0, 0, 0, 0) :: (.invokestatic 23, 122, 2, 11, 65) :: (.ifCond .eq 16, 84, 0, 0, 0) :: (.aload_n 0, 0, 0, 0, 0) :: (.iload_n 1, 0, 0, 0, 0) :: (.iload_n 2, 0, 0, 0, 0) :: (.iload 9, 0, 0, 0, 0) :: (.iload 5, 0, 0, 0, 0) :: (.invokevirtual 29, 22, 5, 12, 78) :: (.goto 4, 85, 0, 0, 0) :: []
def mB_10_39 : List mm_I := (.istore 7, 0, 0, 0, 0) :: (.iload 7, 0, 0, 0, 0) :: (.istore 8, 0, 0, 0, 0) :: (.iconst 0, 0, 0, 0, 0) :: (.istore 9, 0, 0, 0, 0) :: mB_10_48
def mB_10_21 : List mm_I := (.aload_n 0, 0, 0, 0, 0) :: (.iload_n 2, 0, 0, 0, 0) :: (.iload_n 1, 0, 0, 0, 0) :: (.iload 4, 0, 0, 0, 0) :: (.iload_n 3, 0, 0, 0, 0) :: (.iload 5, 0, 0, 0, 0) :: (.iconst 1, 0, 0, 0, 0) :: (.iadd, 0, 0, 0, 0) :: (.iload 6, 0, 0, 0, 0) :: (.iconst 1, 0, 0, 0, 0) :: (.isub, 0, 0, 0, 0) :: (.invokestatic 13, 10, 7, 10, 35) :: (.ineg, 0, 0, 0, 0) :: mB_10_39
def mB_10_0 : List mm_I := (.iload 6, 0, 0, 0, 0) :: (.iconst 1, 0, 0, 0, 0) :: (.if_icmp .gt 18, 21, 0, 0, 0) :: (.aload_n 0, 0, 0, 0, 0) :: (.iload_n 3, 0, 0, 0, 0) :: (.invokevirtual 7, 19, 2, 9, 8) :: (.aload_n 0, 0, 0, 0, 0) :: (.iload 4, 0, 0, 0, 0) :: (.invokevirtual 7, 19, 2, 9, 14) :: (.isub, 0, 0, 0, 0) :: (.goto 21, 39, 0, 0, 0) :: []
def mT_10 : List (Nat × List mm_I) := [(0, mB_10_0), (21, mB_10_21), (39, mB_10_39), (48, mB_10_48), (84, mB_10_84), (85, mB_10_85), (90, mB_10_90), (149, mB_10_149), (181, mB_10_181), (192, mB_10_192), (198, mB_10_198), (204, mB_10_204)]
-- 11: VillageBoard$Foresight.canForceWin(LVillageBoard$Land;IIII)Z
def mB_11_126 : List mm_I := (.aload_n 0, 0, 0, 0, 0) :: (.iload_n 1, 0, 0, 0, 0) :: (.iload_n 2, 0, 0, 0, 0) :: (.iload_n 3, 0, 0, 0, 0) :: (.iconst 1, 0, 0, 0, 0) :: (.iadd, 0, 0, 0, 0) :: (.iload 4, 0, 0, 0, 0) :: (.iconst 1, 0, 0, 0, 0) :: (.isub, 0, 0, 0, 0) :: (.invokestatic 48, 12, 5, 16, 136) :: (.ireturn, 0, 0, 0, 0) :: []
def mB_11_120 : List mm_I := (.iinc 5 1, 0, 0, 0, 0) :: (.goto (-105), 18, 0, 0, 0) :: []
def mB_11_114 : List mm_I := (.iinc 7 1, 0, 0, 0, 0) :: (.goto (-63), 54, 0, 0, 0) :: []
def mB_11_54 : List mm_I := (.iload 7, 0, 0, 0, 0) :: (.aload_n 0, 0, 0, 0, 0) :: (.getfield 19, 2, 0, 8, 0) :: (.if_icmp .ge 60, 120, 0, 0, 0) :: (.iload_n 1, 0, 0, 0, 0) :: (.iconst 1, 0, 0, 0, 0) :: (.iload 5, 0, 0, 0, 0) :: (.ishl, 0, 0, 0, 0) :: (.iconst (-1), 0, 0, 0, 0) :: (.ixor, 0, 0, 0, 0) :: (.iand, 0, 0, 0, 0) :: (.iconst 1, 0, 0, 0, 0) :: (.iload 7, 0, 0, 0, 0) :: (.ishl, 0, 0, 0, 0) :: (.ior, 0, 0, 0, 0) :: (.istore 8, 0, 0, 0, 0) :: (.iload 6, 0, 0, 0, 0) :: (.iload 7, 0, 0, 0, 0) :: (.invokestatic 23, 122, 2, 11, 82) :: (.ifCond .eq 29, 114, 0, 0, 0) :: (.aload_n 0, 0, 0, 0, 0) :: (.iload 8, 0, 0, 0, 0) :: (.iload_n 2, 0, 0, 0, 0) :: (.iconst 1, 0, 0, 0, 0) :: (.iload 7, 0, 0, 0, 0) :: (.ishl, 0, 0, 0, 0) :: (.iconst (-1), 0, 0, 0, 0) :: (.ixor, 0, 0, 0, 0) :: (.iand, 0, 0, 0, 0) :: (.iload_n 3, 0, 0, 0, 0) :: (.iconst 1, 0, 0, 0, 0) :: (.iadd, 0, 0, 0, 0) :: (.iload 4, 0, 0, 0, 0) :: (.iconst 1, 0, 0, 0, 0) :: (.isub, 0, 0, 0, 0) :: (.invokestatic 48, 12, 5, 16, 106) :: (.ifCond .eq 5, 114, 0, 0, 0) :: (.iconst 1, 0, 0, 0, 0) :: (.ireturn, 0, 0, 0, 0) :: []
def mB_11_49 : List mm_I := (.istore 6, 0, 0, 0, 0) :: (.iconst 0, 0, 0, 0, 0) :: (.istore 7, 0, 0, 0, 0) :: mB_11_54
def mB_11_48 : List mm_I := (.iconst 0, 0, 0, 0, 0) :: mB_11_49
def mB_11_18 : List mm_I := (.iload 5, 0, 0, 0, 0) :: (.aload_n 0, 0, 0, 0, 0) :: (.getfield 19, 2, 0, 8, 0) :: (.if_icmp .ge 102, 126, 0, 0, 0) :: (.iload_n 1, 0, 0, 0, 0) :: (.iload 5, 0, 0, 0, 0) :: (.invokestatic 23, 122, 2, 11, 30) :: (.ifCond .eq 15, 48, 0, 0, 0) :: (.aload_n 0, 0, 0, 0, 0) :: (.iload_n 1, 0, 0, 0, 0) :: (.iload_n 2, 0, 0, 0, 0) :: (.iload 5, 0, 0, 0, 0) :: (.iload_n 3, 0, 0, 0, 0) :: (.invokevirtual 29, 22, 5, 12, 42) :: (.goto 4, 49, 0, 0, 0) :: []
def mB_11_15 : List mm_I := (.iconst 0, 0, 0, 0, 0) :: (.istore 5, 0, 0, 0, 0) :: mB_11_18
def mB_11_0 : List mm_I := (.iload_n 2, 0, 0, 0, 0) :: (.invokestatic 43, 0, 1, 15, 1) :: (.iload 4, 0, 0, 0, 0) :: (.iconst 1, 0, 0, 0, 0) :: (.iadd, 0, 0, 0, 0) :: (.iconst 2, 0, 0, 0, 0) :: (.idiv, 0, 0, 0, 0) :: (.if_icmp .le 5, 15, 0, 0, 0) :: (.iconst 0, 0, 0, 0, 0) :: (.ireturn, 0, 0, 0, 0) :: []
def mT_11 : List (Nat × List mm_I) := [(0, mB_11_0), (15, mB_11_15), (18, mB_11_18), (48, mB_11_48), (49, mB_11_49), (54, mB_11_54), (114, mB_11_114), (120, mB_11_120), (126, mB_11_126)]
-- 12: VillageBoard$Foresight.cannotEscape(LVillageBoard$Land;IIII)Z
def mB_12_141 : List mm_I := (.iconst 1, 0, 0, 0, 0) :: (.ireturn, 0, 0, 0, 0) :: []
def mB_12_135 : List mm_I := (.iinc 5 1, 0, 0, 0, 0) :: (.goto (-105), 33, 0, 0, 0) :: []
def mB_12_129 : List mm_I := (.iinc 7 1, 0, 0, 0, 0) :: (.goto (-63), 69, 0, 0, 0) :: []
def mB_12_69 : List mm_I := (.iload 7, 0, 0, 0, 0) :: (.aload_n 0, 0, 0, 0, 0) :: (.getfield 19, 2, 0, 8, 0) :: (.if_icmp .ge 60, 135, 0, 0, 0) :: (.iload_n 2, 0, 0, 0, 0) :: (.iconst 1, 0, 0, 0, 0) :: (.iload 5, 0, 0, 0, 0) :: (.ishl, 0, 0, 0, 0) :: (.iconst (-1), 0, 0, 0, 0) :: (.ixor, 0, 0, 0, 0) :: (.iand, 0, 0, 0, 0) :: (.iconst 1, 0, 0, 0, 0) :: (.iload 7, 0, 0, 0, 0) :: (.ishl, 0, 0, 0, 0) :: (.ior, 0, 0, 0, 0) :: (.istore 8, 0, 0, 0, 0) :: (.iload 6, 0, 0, 0, 0) :: (.iload 7, 0, 0, 0, 0) :: (.invokestatic 23, 122, 2, 11, 97) :: (.ifCond .eq 29, 129, 0, 0, 0) :: (.aload_n 0, 0, 0, 0, 0) :: (.iload_n 1, 0, 0, 0, 0) :: (.iconst 1, 0, 0, 0, 0) :: (.iload 7, 0, 0, 0, 0) :: (.ishl, 0, 0, 0, 0) :: (.iconst (-1), 0, 0, 0, 0) :: (.ixor, 0, 0, 0, 0) :: (.iand, 0, 0, 0, 0) :: (.iload 8, 0, 0, 0, 0) :: (.iload_n 3, 0, 0, 0, 0) :: (.iconst 1, 0, 0, 0, 0) :: (.iadd, 0, 0, 0, 0) :: (.iload 4, 0, 0, 0, 0) :: (.iconst 1, 0, 0, 0, 0) :: (.isub, 0, 0, 0, 0) :: (.invokestatic 52, 11, 5, 17, 121) :: (.ifCond .ne 5, 129, 0, 0, 0) :: (.iconst 0, 0, 0, 0, 0) :: (.ireturn, 0, 0, 0, 0) :: []
def mB_12_64 : List mm_I := (.istore 6, 0, 0, 0, 0) :: (.iconst 0, 0, 0, 0, 0) :: (.istore 7, 0, 0, 0, 0) :: mB_12_69
def mB_12_63 : List mm_I := (.iconst 0, 0, 0, 0, 0) :: mB_12_64
def mB_12_33 : List mm_I := (.iload 5, 0, 0, 0, 0) :: (.aload_n 0, 0, 0, 0, 0) :: (.getfield 19, 2, 0, 8, 0) :: (.if_icmp .ge 102, 141, 0, 0, 0) :: (.iload_n 2, 0, 0, 0, 0) :: (.iload 5, 0, 0, 0, 0) :: (.invokestatic 23, 122, 2, 11, 45) :: (.ifCond .eq 15, 63, 0, 0, 0) :: (.aload_n 0, 0, 0, 0, 0) :: (.iload_n 2, 0, 0, 0, 0) :: (.iload_n 1, 0, 0, 0, 0) :: (.iload 5, 0, 0, 0, 0) :: (.iload_n 3, 0, 0, 0, 0) :: (.invokevirtual 29, 22, 5, 12, 57) :: (.goto 4, 64, 0, 0, 0) :: []
def mB_12_30 : List mm_I := (.iconst 0, 0, 0, 0, 0) :: (.istore 5, 0, 0, 0, 0) :: mB_12_33
def mB_12_28 : List mm_I := (.iconst 0, 0, 0, 0, 0) :: (.ireturn, 0, 0, 0, 0) :: []
def mB_12_6 : List mm_I := (.iload 4, 0, 0, 0, 0) :: (.iconst 2, 0, 0, 0, 0) :: (.if_icmp .lt 19, 28, 0, 0, 0) :: (.aload_n 0, 0, 0, 0, 0) :: (.iload_n 1, 0, 0, 0, 0) :: (.iload_n 2, 0, 0, 0, 0) :: (.iload_n 3, 0, 0, 0, 0) :: (.iconst 1, 0, 0, 0, 0) :: (.iadd, 0, 0, 0, 0) :: (.iload 4, 0, 0, 0, 0) :: (.iconst 1, 0, 0, 0, 0) :: (.isub, 0, 0, 0, 0) :: (.invokestatic 52, 11, 5, 17, 22) :: (.ifCond .ne 5, 30, 0, 0, 0) :: mB_12_28
def mB_12_0 : List mm_I := (.iload_n 2, 0, 0, 0, 0) :: (.ifCond .ne 5, 6, 0, 0, 0) :: (.iconst 1, 0, 0, 0, 0) :: (.ireturn, 0, 0, 0, 0) :: []
def mT_12 : List (Nat × List mm_I) := [(0, mB_12_0), (6, mB_12_6), (28, mB_12_28), (30, mB_12_30), (33, mB_12_33), (63, mB_12_63), (64, mB_12_64), (69, mB_12_69), (129, mB_12_129), (135, mB_12_135), (141, mB_12_141)]
-- 13: VillageBoard$Land.<init>()V
def mB_13_0 : List mm_I := (.aload_n 0, 0, 0, 0, 0) :: (.invokespecial 3, 9000, 1, 18, 1) :: (.aload_n 0, 0, 0, 0, 0) :: (.iconst 0, 0, 0, 0, 0) :: (.putfield 9, 2, 0, 9, 0) :: (.aload_n 0, 0, 0, 0, 0) :: (.iconst 0, 0, 0, 0, 0) :: (.putfield 15, 2, 1, 10, 0) :: (.aload_n 0, 0, 0, 0, 0) :: (.iconst 0, 0, 0, 0, 0) :: (.putfield 18, 2, 2, 11, 0) :: (.aload_n 0, 0, 0, 0, 0) :: (.iconst 0, 0, 0, 0, 0) :: (.putfield 21, 2, 3, 12, 0) :: (.aload_n 0, 0, 0, 0, 0) :: (.bipush 10, 0, 0, 0, 0) :: (.newarray .int, 0, 0, 0, 0) :: (.putfield 25, 2, 4, 13, 0) :: (.aload_n 0, 0, 0, 0, 0) :: (.bipush 10, 0, 0, 0, 0) :: (.newarray .int, 0, 0, 0, 0) :: (.putfield 29, 2, 5, 14, 0) :: (.aload_n 0, 0, 0, 0, 0) :: (.bipush 10, 0, 0, 0, 0) :: (.newarray .int, 0, 0, 0, 0) :: (.putfield 32, 2, 6, 15, 0) :: (.aload_n 0, 0, 0, 0, 0) :: (.iconst 2, 0, 0, 0, 0) :: (.newarray .int, 0, 0, 0, 0) :: (.putfield 35, 2, 7, 16, 0) :: (.aload_n 0, 0, 0, 0, 0) :: (.bipush 36, 0, 0, 0, 0) :: (.newarray .int, 0, 0, 0, 0) :: (.putfield 38, 2, 8, 17, 0) :: (.aload_n 0, 0, 0, 0, 0) :: (.new 41, 5, 0, 140, 0) :: (.dup, 0, 0, 0, 0) :: (.invokespecial 43, 62, 1, 19, 68) :: (.putfield 44, 2, 9, 18, 0) :: (.return_, 0, 0, 0, 0) :: []
def mT_13 : List (Nat × List mm_I) := [(0, mB_13_0)]
-- 14: VillageBoard$Land.clear()V
def mB_14_0 : List mm_I := (.aload_n 0, 0, 0, 0, 0) :: (.iconst 0, 0, 0, 0, 0) :: (.putfield 9, 2, 0, 9, 0) :: (.aload_n 0, 0, 0, 0, 0) :: (.iconst 0, 0, 0, 0, 0) :: (.putfield 15, 2, 1, 10, 0) :: (.aload_n 0, 0, 0, 0, 0) :: (.iconst 0, 0, 0, 0, 0) :: (.putfield 18, 2, 2, 11, 0) :: (.aload_n 0, 0, 0, 0, 0) :: (.iconst 0, 0, 0, 0, 0) :: (.putfield 21, 2, 3, 12, 0) :: (.aload_n 0, 0, 0, 0, 0) :: (.getfield 35, 2, 7, 16, 0) :: (.iconst 0, 0, 0, 0, 0) :: (.iconst 0, 0, 0, 0, 0) :: (.iastore, 0, 0, 0, 0) :: (.aload_n 0, 0, 0, 0, 0) :: (.getfield 35, 2, 7, 16, 0) :: (.iconst 1, 0, 0, 0, 0) :: (.iconst 0, 0, 0, 0, 0) :: (.iastore, 0, 0, 0, 0) :: (.aload_n 0, 0, 0, 0, 0) :: (.getfield 44, 2, 9, 18, 0) :: (.invokevirtual 48, 63, 1, 20, 38) :: (.return_, 0, 0, 0, 0) :: []
def mT_14 : List (Nat × List mm_I) := [(0, mB_14_0)]
-- 15: VillageBoard$Land.addVillage(III)V
def mB_15_69 : List mm_I := (.return_, 0, 0, 0, 0) :: []
def mB_15_59 : List mm_I := (.aload_n 0, 0, 0, 0, 0) :: (.dup, 0, 0, 0, 0) :: (.getfield 9, 2, 0, 9, 0) :: (.iconst 1, 0, 0, 0, 0) :: (.iadd, 0, 0, 0, 0) :: (.putfield 9, 2, 0, 9, 0) :: mB_15_69
def mB_15_0 : List mm_I := (.aload_n 0, 0, 0, 0, 0) :: (.getfield 9, 2, 0, 9, 0) :: (.bipush 10, 0, 0, 0, 0) :: (.if_icmp .ge 63, 69, 0, 0, 0) :: (.aload_n 0, 0, 0, 0, 0) :: (.getfield 25, 2, 4, 13, 0) :: (.aload_n 0, 0, 0, 0, 0) :: (.getfield 9, 2, 0, 9, 0) :: (.iload_n 2, 0, 0, 0, 0) :: (.iastore, 0, 0, 0, 0) :: (.aload_n 0, 0, 0, 0, 0) :: (.getfield 29, 2, 5, 14, 0) :: (.aload_n 0, 0, 0, 0, 0) :: (.getfield 9, 2, 0, 9, 0) :: (.iload_n 3, 0, 0, 0, 0) :: (.iastore, 0, 0, 0, 0) :: (.aload_n 0, 0, 0, 0, 0) :: (.getfield 32, 2, 6, 15, 0) :: (.aload_n 0, 0, 0, 0, 0) :: (.getfield 9, 2, 0, 9, 0) :: (.iconst 0, 0, 0, 0, 0) :: (.iastore, 0, 0, 0, 0) :: (.iload_n 1, 0, 0, 0, 0) :: (.iconst 2, 0, 0, 0, 0) :: (.if_icmp .eq 18, 59, 0, 0, 0) :: (.aload_n 0, 0, 0, 0, 0) :: (.getfield 35, 2, 7, 16, 0) :: (.iload_n 1, 0, 0, 0, 0) :: (.dup2, 0, 0, 0, 0) :: (.iaload, 0, 0, 0, 0) :: (.iconst 1, 0, 0, 0, 0) :: (.aload_n 0, 0, 0, 0, 0) :: (.getfield 9, 2, 0, 9, 0) :: (.ishl, 0, 0, 0, 0) :: (.ior, 0, 0, 0, 0) :: (.iastore, 0, 0, 0, 0) :: mB_15_59
def mT_15 : List (Nat × List mm_I) := [(0, mB_15_0), (59, mB_15_59), (69, mB_15_69)]
-- 16: VillageBoard$Land.addRoad(II)V
def mB_16_50 : List mm_I := (.return_, 0, 0, 0, 0) :: []
def mB_16_0 : List mm_I := (.iload_n 1, 0, 0, 0, 0) :: (.aload_n 0, 0, 0, 0, 0) :: (.getfield 9, 2, 0, 9, 0) :: (.if_icmp .ge 45, 50, 0, 0, 0) :: (.iload_n 2, 0, 0, 0, 0) :: (.aload_n 0, 0, 0, 0, 0) :: (.getfield 9, 2, 0, 9, 0) :: (.if_icmp .ge 37, 50, 0, 0, 0) :: (.aload_n 0, 0, 0, 0, 0) :: (.getfield 32, 2, 6, 15, 0) :: (.iload_n 1, 0, 0, 0, 0) :: (.dup2, 0, 0, 0, 0) :: (.iaload, 0, 0, 0, 0) :: (.iconst 1, 0, 0, 0, 0) :: (.iload_n 2, 0, 0, 0, 0) :: (.ishl, 0, 0, 0, 0) :: (.ior, 0, 0, 0, 0) :: (.iastore, 0, 0, 0, 0) :: (.aload_n 0, 0, 0, 0, 0) :: (.getfield 32, 2, 6, 15, 0) :: (.iload_n 2, 0, 0, 0, 0) :: (.dup2, 0, 0, 0, 0) :: (.iaload, 0, 0, 0, 0) :: (.iconst 1, 0, 0, 0, 0) :: (.iload_n 1, 0, 0, 0, 0) :: (.ishl, 0, 0, 0, 0) :: (.ior, 0, 0, 0, 0) :: (.iastore, 0, 0, 0, 0) :: (.aload_n 0, 0, 0, 0, 0) :: (.dup, 0, 0, 0, 0) :: (.getfield 15, 2, 1, 10, 0) :: (.iconst 1, 0, 0, 0, 0) :: (.iadd, 0, 0, 0, 0) :: (.putfield 15, 2, 1, 10, 0) :: mB_16_50
def mT_16 : List (Nat × List mm_I) := [(0, mB_16_0), (50, mB_16_50)]
-- 17: VillageBoard$Land.addRule(II)V
def mB_17_23 : List mm_I := (.aload_n 0, 0, 0, 0, 0) :: (.getfield 44, 2, 9, 18, 0) :: (.iload_n 1, 0, 0, 0, 0) :: (.iload_n 2, 0, 0, 0, 0) :: (.invokevirtual 51, 67, 3, 21, 29) :: (.return_, 0, 0, 0, 0) :: []
def mB_17_13 : List mm_I := (.aload_n 0, 0, 0, 0, 0) :: (.dup, 0, 0, 0, 0) :: (.getfield 18, 2, 2, 11, 0) :: (.iconst 1, 0, 0, 0, 0) :: (.iadd, 0, 0, 0, 0) :: (.putfield 18, 2, 2, 11, 0) :: mB_17_23
def mB_17_0 : List mm_I := (.iload_n 1, 0, 0, 0, 0) :: (.iconst 3, 0, 0, 0, 0) :: (.if_icmp .ne 11, 13, 0, 0, 0) :: (.aload_n 0, 0, 0, 0, 0) :: (.iconst 1, 0, 0, 0, 0) :: (.putfield 21, 2, 3, 12, 0) :: (.goto 13, 23, 0, 0, 0) :: []
def mT_17 : List (Nat × List mm_I) := [(0, mB_17_0), (13, mB_17_13), (23, mB_17_23)]
-- 18: VillageBoard$Land.without(I)I
def mB_18_0 : List mm_I := (.iconst 1, 0, 0, 0, 0) :: (.aload_n 0, 0, 0, 0, 0) :: (.getfield 9, 2, 0, 9, 0) :: (.ishl, 0, 0, 0, 0) :: (.iconst 1, 0, 0, 0, 0) :: (.isub, 0, 0, 0, 0) :: (.iload_n 1, 0, 0, 0, 0) :: (.iconst (-1), 0, 0, 0, 0) :: (.ixor, 0, 0, 0, 0) :: (.iand, 0, 0, 0, 0) :: (.ireturn, 0, 0, 0, 0) :: []
def mT_18 : List (Nat × List mm_I) := [(0, mB_18_0)]
-- 19: VillageBoard$Land.worthOf(I)I
def mB_19_35 : List mm_I := (.iload_n 2, 0, 0, 0, 0) :: (.ireturn, 0, 0, 0, 0) :: []
def mB_19_29 : List mm_I := (.iinc 3 1, 0, 0, 0, 0) :: (.goto (-28), 4, 0, 0, 0) :: []
def mB_19_4 : List mm_I := (.iload_n 3, 0, 0, 0, 0) :: (.aload_n 0, 0, 0, 0, 0) :: (.getfield 9, 2, 0, 9, 0) :: (.if_icmp .ge 26, 35, 0, 0, 0) :: (.iload_n 1, 0, 0, 0, 0) :: (.iload_n 3, 0, 0, 0, 0) :: (.invokestatic 55, 122, 2, 22, 14) :: (.ifCond .eq 12, 29, 0, 0, 0) :: (.iload_n 2, 0, 0, 0, 0) :: (.aload_n 0, 0, 0, 0, 0) :: (.getfield 25, 2, 4, 13, 0) :: (.iload_n 3, 0, 0, 0, 0) :: (.iaload, 0, 0, 0, 0) :: (.iadd, 0, 0, 0, 0) :: (.istore_n 2, 0, 0, 0, 0) :: mB_19_29
def mB_19_0 : List mm_I := (.iconst 0, 0, 0, 0, 0) :: (.istore_n 2, 0, 0, 0, 0) :: (.iconst 0, 0, 0, 0, 0) :: (.istore_n 3, 0, 0, 0, 0) :: mB_19_4
def mT_19 : List (Nat × List mm_I) := [(0, mB_19_0), (4, mB_19_4), (29, mB_19_29), (35, mB_19_35)]
-- 20: VillageBoard$Land.besideAnyOf(I)I
def mB_20_35 : List mm_I := (.iload_n 2, 0, 0, 0, 0) :: (.ireturn, 0, 0, 0, 0) :: []
def mB_20_29 : List mm_I := (.iinc 3 1, 0, 0, 0, 0) :: (.goto (-28), 4, 0, 0, 0) :: []
def mB_20_4 : List mm_I := (.iload_n 3, 0, 0, 0, 0) :: (.aload_n 0, 0, 0, 0, 0) :: (.getfield 9, 2, 0, 9, 0) :: (.if_icmp .ge 26, 35, 0, 0, 0) :: (.iload_n 1, 0, 0, 0, 0) :: (.iload_n 3, 0, 0, 0, 0) :: (.invokestatic 55, 122, 2, 22, 14) :: (.ifCond .eq 12, 29, 0, 0, 0) :: (.iload_n 2, 0, 0, 0, 0) :: (.aload_n 0, 0, 0, 0, 0) :: (.getfield 32, 2, 6, 15, 0) :: (.iload_n 3, 0, 0, 0, 0) :: (.iaload, 0, 0, 0, 0) :: (.ior, 0, 0, 0, 0) :: (.istore_n 2, 0, 0, 0, 0) :: mB_20_29
def mB_20_0 : List mm_I := (.iconst 0, 0, 0, 0, 0) :: (.istore_n 2, 0, 0, 0, 0) :: (.iconst 0, 0, 0, 0, 0) :: (.istore_n 3, 0, 0, 0, 0) :: mB_20_4
def mT_20 : List (Nat × List mm_I) := [(0, mB_20_0), (4, mB_20_4), (29, mB_20_29), (35, mB_20_35)]
-- 21: VillageBoard$Land.reachedWithin(II)I
def mB_21_28 : List mm_I := (.iload_n 3, 0, 0, 0, 0) :: (.ireturn, 0, 0, 0, 0) :: []
def mB_21_5 : List mm_I := (.iload 4, 0, 0, 0, 0) :: (.bipush 10, 0, 0, 0, 0) :: (.if_icmp .ge 19, 28, 0, 0, 0) :: (.iload_n 3, 0, 0, 0, 0) :: (.aload_n 0, 0, 0, 0, 0) :: (.iload_n 3, 0, 0, 0, 0) :: (.invokevirtual 59, 20, 2, 23, 15) :: (.iload_n 1, 0, 0, 0, 0) :: (.iand, 0, 0, 0, 0) :: (.ior, 0, 0, 0, 0) :: (.istore_n 3, 0, 0, 0, 0) :: (.iinc 4 1, 0, 0, 0, 0) :: (.goto (-20), 5, 0, 0, 0) :: []
def mB_21_0 : List mm_I := (.iload_n 2, 0, 0, 0, 0) :: (.istore_n 3, 0, 0, 0, 0) :: (.iconst 0, 0, 0, 0, 0) :: (.istore 4, 0, 0, 0, 0) :: mB_21_5
def mT_21 : List (Nat × List mm_I) := [(0, mB_21_0), (5, mB_21_5), (28, mB_21_28)]
-- 22: VillageBoard$Land.lawfulTargets(IIII)I
def mB_22_86 : List mm_I := (.iload 5, 0, 0, 0, 0) :: (.ireturn, 0, 0, 0, 0) :: []
def mB_22_80 : List mm_I := (.iinc 7 1, 0, 0, 0, 0) :: (.goto (-54), 29, 0, 0, 0) :: []
def mB_22_29 : List mm_I := (.iload 7, 0, 0, 0, 0) :: (.aload_n 0, 0, 0, 0, 0) :: (.getfield 9, 2, 0, 9, 0) :: (.if_icmp .ge 51, 86, 0, 0, 0) :: (.iload 6, 0, 0, 0, 0) :: (.ifCond .eq 46, 86, 0, 0, 0) :: (.iload 6, 0, 0, 0, 0) :: (.iload 7, 0, 0, 0, 0) :: (.invokestatic 55, 122, 2, 22, 47) :: (.ifCond .eq 30, 80, 0, 0, 0) :: (.aload_n 0, 0, 0, 0, 0) :: (.iload_n 1, 0, 0, 0, 0) :: (.iload_n 2, 0, 0, 0, 0) :: (.bipush 100, 0, 0, 0, 0) :: (.iload_n 3, 0, 0, 0, 0) :: (.imul, 0, 0, 0, 0) :: (.iload 7, 0, 0, 0, 0) :: (.iadd, 0, 0, 0, 0) :: (.iload 4, 0, 0, 0, 0) :: (.invokevirtual 63, 23, 5, 24, 65) :: (.ifCond .eq 12, 80, 0, 0, 0) :: (.iload 5, 0, 0, 0, 0) :: (.iconst 1, 0, 0, 0, 0) :: (.iload 7, 0, 0, 0, 0) :: (.ishl, 0, 0, 0, 0) :: (.ior, 0, 0, 0, 0) :: (.istore 5, 0, 0, 0, 0) :: mB_22_80
def mB_22_0 : List mm_I := (.aload_n 0, 0, 0, 0, 0) :: (.getfield 32, 2, 6, 15, 0) :: (.iload_n 3, 0, 0, 0, 0) :: (.iaload, 0, 0, 0, 0) :: (.iload_n 1, 0, 0, 0, 0) :: (.iconst (-1), 0, 0, 0, 0) :: (.ixor, 0, 0, 0, 0) :: (.iand, 0, 0, 0, 0) :: (.iload_n 2, 0, 0, 0, 0) :: (.iconst (-1), 0, 0, 0, 0) :: (.ixor, 0, 0, 0, 0) :: (.iand, 0, 0, 0, 0) :: (.istore 5, 0, 0, 0, 0) :: (.aload_n 0, 0, 0, 0, 0) :: (.getfield 32, 2, 6, 15, 0) :: (.iload_n 3, 0, 0, 0, 0) :: (.iaload, 0, 0, 0, 0) :: (.iload_n 2, 0, 0, 0, 0) :: (.iand, 0, 0, 0, 0) :: (.istore 6, 0, 0, 0, 0) :: (.iconst 0, 0, 0, 0, 0) :: (.istore 7, 0, 0, 0, 0) :: mB_22_29
def mT_22 : List (Nat × List mm_I) := [(0, mB_22_0), (29, mB_22_29), (80, mB_22_80), (86, mB_22_86)]
-- 23: VillageBoard$Land.mayTake(IIII)Z
def mB_23_76 : List mm_I := (.ireturn, 0, 0, 0, 0) :: []
def mB_23_75 : List mm_I := (.iconst 0, 0, 0, 0, 0) :: mB_23_76
def mB_23_34 : List mm_I := (.aload_n 0, 0, 0, 0, 0) :: (.getfield 44, 2, 9, 18, 0) :: (.getfield 74, 5, 4, 19, 0) :: (.iconst 0, 0, 0, 0, 0) :: (.iaload, 0, 0, 0, 0) :: (.istore 5, 0, 0, 0, 0) :: (.iload 5, 0, 0, 0, 0) :: (.aload_n 0, 0, 0, 0, 0) :: (.getfield 44, 2, 9, 18, 0) :: (.getfield 74, 5, 4, 19, 0) :: (.iconst 1, 0, 0, 0, 0) :: (.iaload, 0, 0, 0, 0) :: (.aload_n 0, 0, 0, 0, 0) :: (.getfield 44, 2, 9, 18, 0) :: (.getfield 74, 5, 4, 19, 0) :: (.iconst 2, 0, 0, 0, 0) :: (.iaload, 0, 0, 0, 0) :: (.iadd, 0, 0, 0, 0) :: (.iconst 1, 0, 0, 0, 0) :: (.isub, 0, 0, 0, 0) :: (.if_icmp .le 7, 75, 0, 0, 0) :: (.iconst 1, 0, 0, 0, 0) :: (.goto 4, 76, 0, 0, 0) :: []
def mB_23_33 : List mm_I := (.ireturn, 0, 0, 0, 0) :: []
def mB_23_32 : List mm_I := (.iconst 0, 0, 0, 0, 0) :: mB_23_33
def mB_23_0 : List mm_I := (.aload_n 0, 0, 0, 0, 0) :: (.iload_n 1, 0, 0, 0, 0) :: (.iload_n 2, 0, 0, 0, 0) :: (.iload_n 1, 0, 0, 0, 0) :: (.iload_n 3, 0, 0, 0, 0) :: (.iload 4, 0, 0, 0, 0) :: (.invokevirtual 67, 28, 6, 25, 7) :: (.aload_n 0, 0, 0, 0, 0) :: (.getfield 21, 2, 3, 12, 0) :: (.ifCond .eq 20, 34, 0, 0, 0) :: (.aload_n 0, 0, 0, 0, 0) :: (.getfield 44, 2, 9, 18, 0) :: (.iconst 3, 0, 0, 0, 0) :: (.invokevirtual 71, 68, 2, 26, 22) :: (.ifCond .le 7, 32, 0, 0, 0) :: (.iconst 1, 0, 0, 0, 0) :: (.goto 4, 33, 0, 0, 0) :: []
def mT_23 : List (Nat × List mm_I) := [(0, mB_23_0), (32, mB_23_32), (33, mB_23_33), (34, mB_23_34), (75, mB_23_75), (76, mB_23_76)]
-- 24: VillageBoard$Land.gainOfMoveTo(III)I
def mB_24_37 : List mm_I := (.ireturn, 0, 0, 0, 0) :: []
def mB_24_31 : List mm_I := (.aload_n 0, 0, 0, 0, 0) :: (.getfield 25, 2, 4, 13, 0) :: (.iload_n 1, 0, 0, 0, 0) :: (.iaload, 0, 0, 0, 0) :: mB_24_37
def mB_24_12 : List mm_I := (.iload_n 3, 0, 0, 0, 0) :: (.iload_n 1, 0, 0, 0, 0) :: (.invokestatic 55, 122, 2, 22, 14) :: (.ifCond .eq 14, 31, 0, 0, 0) :: (.iconst 2, 0, 0, 0, 0) :: (.aload_n 0, 0, 0, 0, 0) :: (.getfield 25, 2, 4, 13, 0) :: (.iload_n 1, 0, 0, 0, 0) :: (.iaload, 0, 0, 0, 0) :: (.imul, 0, 0, 0, 0) :: (.goto 9, 37, 0, 0, 0) :: []
def mB_24_0 : List mm_I := (.iload_n 2, 0, 0, 0, 0) :: (.iload_n 1, 0, 0, 0, 0) :: (.invokestatic 55, 122, 2, 22, 2) :: (.ifCond .eq 7, 12, 0, 0, 0) :: (.iconst 0, 0, 0, 0, 0) :: (.goto 28, 37, 0, 0, 0) :: []
def mT_24 : List (Nat × List mm_I) := [(0, mB_24_0), (12, mB_24_12), (31, mB_24_31), (37, mB_24_37)]
-- 25: VillageBoard$Land.takersOf(IIII)I
def mB_25_68 : List mm_I := (.iload 5, 0, 0, 0, 0) :: (.ireturn, 0, 0, 0, 0) :: []
def mB_25_62 : List mm_I := (.iinc 7 1, 0, 0, 0, 0) :: (.goto (-49), 16, 0, 0, 0) :: []
def mB_25_16 : List mm_I := (.iload 7, 0, 0, 0, 0) :: (.aload_n 0, 0, 0, 0, 0) :: (.getfield 9, 2, 0, 9, 0) :: (.if_icmp .ge 46, 68, 0, 0, 0) :: (.iload 6, 0, 0, 0, 0) :: (.iload 7, 0, 0, 0, 0) :: (.invokestatic 55, 122, 2, 22, 29) :: (.ifCond .eq 30, 62, 0, 0, 0) :: (.aload_n 0, 0, 0, 0, 0) :: (.iload_n 2, 0, 0, 0, 0) :: (.iload_n 1, 0, 0, 0, 0) :: (.bipush 100, 0, 0, 0, 0) :: (.iload 7, 0, 0, 0, 0) :: (.imul, 0, 0, 0, 0) :: (.iload_n 3, 0, 0, 0, 0) :: (.iadd, 0, 0, 0, 0) :: (.iload 4, 0, 0, 0, 0) :: (.invokevirtual 63, 23, 5, 24, 47) :: (.ifCond .eq 12, 62, 0, 0, 0) :: (.iload 5, 0, 0, 0, 0) :: (.iconst 1, 0, 0, 0, 0) :: (.iload 7, 0, 0, 0, 0) :: (.ishl, 0, 0, 0, 0) :: (.ior, 0, 0, 0, 0) :: (.istore 5, 0, 0, 0, 0) :: mB_25_62
def mB_25_0 : List mm_I := (.iconst 0, 0, 0, 0, 0) :: (.istore 5, 0, 0, 0, 0) :: (.aload_n 0, 0, 0, 0, 0) :: (.getfield 32, 2, 6, 15, 0) :: (.iload_n 3, 0, 0, 0, 0) :: (.iaload, 0, 0, 0, 0) :: (.iload_n 2, 0, 0, 0, 0) :: (.iand, 0, 0, 0, 0) :: (.istore 6, 0, 0, 0, 0) :: (.iconst 0, 0, 0, 0, 0) :: (.istore 7, 0, 0, 0, 0) :: mB_25_16
def mT_25 : List (Nat × List mm_I) := [(0, mB_25_0), (16, mB_25_16), (62, mB_25_62), (68, mB_25_68)]
-- 26: VillageBoard$Land.enPrise(III)I
def mB_26_51 : List mm_I := (.iload 4, 0, 0, 0, 0) :: (.ireturn, 0, 0, 0, 0) :: []
def mB_26_45 : List mm_I := (.iinc 5 1, 0, 0, 0, 0) :: (.goto (-42), 6, 0, 0, 0) :: []
def mB_26_6 : List mm_I := (.iload 5, 0, 0, 0, 0) :: (.aload_n 0, 0, 0, 0, 0) :: (.getfield 9, 2, 0, 9, 0) :: (.if_icmp .ge 39, 51, 0, 0, 0) :: (.iload_n 1, 0, 0, 0, 0) :: (.iload 5, 0, 0, 0, 0) :: (.invokestatic 55, 122, 2, 22, 18) :: (.ifCond .eq 24, 45, 0, 0, 0) :: (.aload_n 0, 0, 0, 0, 0) :: (.iload_n 1, 0, 0, 0, 0) :: (.iload_n 2, 0, 0, 0, 0) :: (.iload 5, 0, 0, 0, 0) :: (.iload_n 3, 0, 0, 0, 0) :: (.invokevirtual 77, 25, 5, 27, 30) :: (.ifCond .eq 12, 45, 0, 0, 0) :: (.iload 4, 0, 0, 0, 0) :: (.iconst 1, 0, 0, 0, 0) :: (.iload 5, 0, 0, 0, 0) :: (.ishl, 0, 0, 0, 0) :: (.ior, 0, 0, 0, 0) :: (.istore 4, 0, 0, 0, 0) :: mB_26_45
def mB_26_0 : List mm_I := (.iconst 0, 0, 0, 0, 0) :: (.istore 4, 0, 0, 0, 0) :: (.iconst 0, 0, 0, 0, 0) :: (.istore 5, 0, 0, 0, 0) :: mB_26_6
def mT_26 : List (Nat × List mm_I) := [(0, mB_26_0), (6, mB_26_6), (45, mB_26_45), (51, mB_26_51)]
-- 27: VillageBoard$Land.listMoves(III)I
def mB_27_101 : List mm_I := (.iload 4, 0, 0, 0, 0) :: (.ireturn, 0, 0, 0, 0) :: []
def mB_27_95 : List mm_I := (.iinc 5 1, 0, 0, 0, 0) :: (.goto (-92), 6, 0, 0, 0) :: []
def mB_27_89 : List mm_I := (.iinc 7 1, 0, 0, 0, 0) :: (.goto (-50), 42, 0, 0, 0) :: []
def mB_27_42 : List mm_I := (.iload 7, 0, 0, 0, 0) :: (.aload_n 0, 0, 0, 0, 0) :: (.getfield 9, 2, 0, 9, 0) :: (.if_icmp .ge 47, 95, 0, 0, 0) :: (.iload 6, 0, 0, 0, 0) :: (.iload 7, 0, 0, 0, 0) :: (.invokestatic 55, 122, 2, 22, 55) :: (.ifCond .eq 31, 89, 0, 0, 0) :: (.iload 4, 0, 0, 0, 0) :: (.aload_n 0, 0, 0, 0, 0) :: (.getfield 38, 2, 8, 17, 0) :: (.arraylength, 0, 0, 0, 0) :: (.if_icmp .ge 21, 89, 0, 0, 0) :: (.aload_n 0, 0, 0, 0, 0) :: (.getfield 38, 2, 8, 17, 0) :: (.iload 4, 0, 0, 0, 0) :: (.bipush 100, 0, 0, 0, 0) :: (.iload 5, 0, 0, 0, 0) :: (.imul, 0, 0, 0, 0) :: (.iload 7, 0, 0, 0, 0) :: (.iadd, 0, 0, 0, 0) :: (.iastore, 0, 0, 0, 0) :: (.iinc 4 1, 0, 0, 0, 0) :: mB_27_89
def mB_27_37 : List mm_I := (.istore 6, 0, 0, 0, 0) :: (.iconst 0, 0, 0, 0, 0) :: (.istore 7, 0, 0, 0, 0) :: mB_27_42
def mB_27_36 : List mm_I := (.iconst 0, 0, 0, 0, 0) :: mB_27_37
def mB_27_6 : List mm_I := (.iload 5, 0, 0, 0, 0) :: (.aload_n 0, 0, 0, 0, 0) :: (.getfield 9, 2, 0, 9, 0) :: (.if_icmp .ge 89, 101, 0, 0, 0) :: (.iload_n 1, 0, 0, 0, 0) :: (.iload 5, 0, 0, 0, 0) :: (.invokestatic 55, 122, 2, 22, 18) :: (.ifCond .eq 15, 36, 0, 0, 0) :: (.aload_n 0, 0, 0, 0, 0) :: (.iload_n 1, 0, 0, 0, 0) :: (.iload_n 2, 0, 0, 0, 0) :: (.iload 5, 0, 0, 0, 0) :: (.iload_n 3, 0, 0, 0, 0) :: (.invokevirtual 81, 22, 5, 28, 30) :: (.goto 4, 37, 0, 0, 0) :: []
def mB_27_0 : List mm_I := (.iconst 0, 0, 0, 0, 0) :: (.istore 4, 0, 0, 0, 0) :: (.iconst 0, 0, 0, 0, 0) :: (.istore 5, 0, 0, 0, 0) :: mB_27_6
def mT_27 : List (Nat × List mm_I) := [(0, mB_27_0), (6, mB_27_6), (36, mB_27_36), (37, mB_27_37), (42, mB_27_42), (89, mB_27_89), (95, mB_27_95), (101, mB_27_101)]
-- 28: VillageBoard$Land.setValues(IIIII)V
def mB_28_39 : List mm_I := (.aload_n 0, 0, 0, 0, 0) :: (.getfield 32, 2, 6, 15, 0) :: (.iload 7, 0, 0, 0, 0) :: (.iaload, 0, 0, 0, 0) :: (.istore 8, 0, 0, 0, 0) :: (.aload_n 0, 0, 0, 0, 0) :: (.getfield 44, 2, 9, 18, 0) :: (.getfield 74, 5, 4, 19, 0) :: (.astore 9, 0, 0, 0, 0) :: (.aload 9, 0, 0, 0, 0) :: (.iconst 0, 0, 0, 0, 0) :: (.iload 8, 0, 0, 0, 0) :: (.iload_n 1, 0, 0, 0, 0) :: (.iand, 0, 0, 0, 0) :: (.iconst 1, 0, 0, 0, 0) :: (.iload 6, 0, 0, 0, 0) :: (.ishl, 0, 0, 0, 0) :: (.iconst (-1), 0, 0, 0, 0) :: (.ixor, 0, 0, 0, 0) :: (.iand, 0, 0, 0, 0) :: (.invokestatic 84, 0, 1, 29, 71) :: (.iastore, 0, 0, 0, 0) :: (.aload 9, 0, 0, 0, 0) :: (.iconst 1, 0, 0, 0, 0) :: (.iload 8, 0, 0, 0, 0) :: (.iload_n 2, 0, 0, 0, 0) :: (.iand, 0, 0, 0, 0) :: (.invokestatic 84, 0, 1, 29, 82) :: (.iastore, 0, 0, 0, 0) :: (.aload 9, 0, 0, 0, 0) :: (.iconst 2, 0, 0, 0, 0) :: (.aload_n 0, 0, 0, 0, 0) :: (.getfield 29, 2, 5, 14, 0) :: (.iload 7, 0, 0, 0, 0) :: (.iaload, 0, 0, 0, 0) :: (.iastore, 0, 0, 0, 0) :: (.aload 9, 0, 0, 0, 0) :: (.iconst 3, 0, 0, 0, 0) :: (.aload_n 0, 0, 0, 0, 0) :: (.getfield 25, 2, 4, 13, 0) :: (.iload 7, 0, 0, 0, 0) :: (.iaload, 0, 0, 0, 0) :: (.iastore, 0, 0, 0, 0) :: (.aload 9, 0, 0, 0, 0) :: (.iconst 4, 0, 0, 0, 0) :: (.aload_n 0, 0, 0, 0, 0) :: (.getfield 25, 2, 4, 13, 0) :: (.iload 6, 0, 0, 0, 0) :: (.iaload, 0, 0, 0, 0) :: (.iastore, 0, 0, 0, 0) :: (.aload 9, 0, 0, 0, 0) :: (.iconst 5, 0, 0, 0, 0) :: (.iload_n 2, 0, 0, 0, 0) :: (.iload 7, 0, 0, 0, 0) :: (.ishr, 0, 0, 0, 0) :: (.iconst 1, 0, 0, 0, 0) :: (.iand, 0, 0, 0, 0) :: (.iastore, 0, 0, 0, 0) :: (.aload 9, 0, 0, 0, 0) :: (.bipush 6, 0, 0, 0, 0) :: (.iconst 1, 0, 0, 0, 0) :: (.iload_n 3, 0, 0, 0, 0) :: (.iload 7, 0, 0, 0, 0) :: (.ishr, 0, 0, 0, 0) :: (.iconst 1, 0, 0, 0, 0) :: (.iand, 0, 0, 0, 0) :: (.isub, 0, 0, 0, 0) :: (.iastore, 0, 0, 0, 0) :: (.aload 9, 0, 0, 0, 0) :: (.bipush 7, 0, 0, 0, 0) :: (.iload 5, 0, 0, 0, 0) :: (.iastore, 0, 0, 0, 0) :: (.return_, 0, 0, 0, 0) :: []
def mB_28_38 : List mm_I := (.return_, 0, 0, 0, 0) :: []
def mB_28_0 : List mm_I := (.iload 4, 0, 0, 0, 0) :: (.bipush 100, 0, 0, 0, 0) :: (.idiv, 0, 0, 0, 0) :: (.istore 6, 0, 0, 0, 0) :: (.iload 4, 0, 0, 0, 0) :: (.bipush 100, 0, 0, 0, 0) :: (.irem, 0, 0, 0, 0) :: (.istore 7, 0, 0, 0, 0) :: (.iload 6, 0, 0, 0, 0) :: (.ifCond .lt 22, 38, 0, 0, 0) :: (.iload 6, 0, 0, 0, 0) :: (.bipush 10, 0, 0, 0, 0) :: (.if_icmp .ge 15, 38, 0, 0, 0) :: (.iload 7, 0, 0, 0, 0) :: (.ifCond .lt 10, 38, 0, 0, 0) :: (.iload 7, 0, 0, 0, 0) :: (.bipush 10, 0, 0, 0, 0) :: (.if_icmp .lt 4, 39, 0, 0, 0) :: mB_28_38
def mT_28 : List (Nat × List mm_I) := [(0, mB_28_0), (38, mB_28_38), (39, mB_28_39)]
-- 29: VillageBoard$Position.<init>()V
def mB_29_0 : List mm_I := (.aload_n 0, 0, 0, 0, 0) :: (.invokespecial 3, 9000, 1, 30, 1) :: (.aload_n 0, 0, 0, 0, 0) :: (.iconst 2, 0, 0, 0, 0) :: (.newarray .int, 0, 0, 0, 0) :: (.putfield 9, 3, 0, 20, 0) :: (.aload_n 0, 0, 0, 0, 0) :: (.iconst 2, 0, 0, 0, 0) :: (.newarray .int, 0, 0, 0, 0) :: (.putfield 15, 3, 1, 21, 0) :: (.aload_n 0, 0, 0, 0, 0) :: (.iconst 2, 0, 0, 0, 0) :: (.newarray .int, 0, 0, 0, 0) :: (.putfield 18, 3, 2, 22, 0) :: (.aload_n 0, 0, 0, 0, 0) :: (.iconst 2, 0, 0, 0, 0) :: (.newarray .int, 0, 0, 0, 0) :: (.dup, 0, 0, 0, 0) :: (.iconst 0, 0, 0, 0, 0) :: (.iconst (-1), 0, 0, 0, 0) :: (.iastore, 0, 0, 0, 0) :: (.dup, 0, 0, 0, 0) :: (.iconst 1, 0, 0, 0, 0) :: (.iconst (-1), 0, 0, 0, 0) :: (.iastore, 0, 0, 0, 0) :: (.putfield 21, 3, 3, 23, 0) :: (.aload_n 0, 0, 0, 0, 0) :: (.bipush 20, 0, 0, 0, 0) :: (.newarray .int, 0, 0, 0, 0) :: (.putfield 24, 3, 4, 24, 0) :: (.aload_n 0, 0, 0, 0, 0) :: (.iconst 0, 0, 0, 0, 0) :: (.putfield 27, 3, 5, 25, 0) :: (.return_, 0, 0, 0, 0) :: []
def mT_29 : List (Nat × List mm_I) := [(0, mB_29_0)]
-- 30: VillageBoard$Position.begin(LVillageBoard$Land;)V
def mB_30_81 : List mm_I := (.aload_n 0, 0, 0, 0, 0) :: (.iconst 0, 0, 0, 0, 0) :: (.putfield 27, 3, 5, 25, 0) :: (.return_, 0, 0, 0, 0) :: []
def mB_30_62 : List mm_I := (.iload_n 2, 0, 0, 0, 0) :: (.bipush 20, 0, 0, 0, 0) :: (.if_icmp .ge 16, 81, 0, 0, 0) :: (.aload_n 0, 0, 0, 0, 0) :: (.getfield 24, 3, 4, 24, 0) :: (.iload_n 2, 0, 0, 0, 0) :: (.iconst 0, 0, 0, 0, 0) :: (.iastore, 0, 0, 0, 0) :: (.iinc 2 1, 0, 0, 0, 0) :: (.goto (-16), 62, 0, 0, 0) :: []
def mB_30_60 : List mm_I := (.iconst 0, 0, 0, 0, 0) :: (.istore_n 2, 0, 0, 0, 0) :: mB_30_62
def mB_30_2 : List mm_I := (.iload_n 2, 0, 0, 0, 0) :: (.iconst 2, 0, 0, 0, 0) :: (.if_icmp .ge 56, 60, 0, 0, 0) :: (.aload_n 0, 0, 0, 0, 0) :: (.getfield 9, 3, 0, 20, 0) :: (.iload_n 2, 0, 0, 0, 0) :: (.aload_n 1, 0, 0, 0, 0) :: (.getfield 31, 2, 7, 26, 0) :: (.iload_n 2, 0, 0, 0, 0) :: (.iaload, 0, 0, 0, 0) :: (.iastore, 0, 0, 0, 0) :: (.aload_n 0, 0, 0, 0, 0) :: (.getfield 15, 3, 1, 21, 0) :: (.iload_n 2, 0, 0, 0, 0) :: (.aload_n 1, 0, 0, 0, 0) :: (.getfield 31, 2, 7, 26, 0) :: (.iload_n 2, 0, 0, 0, 0) :: (.iaload, 0, 0, 0, 0) :: (.iastore, 0, 0, 0, 0) :: (.aload_n 0, 0, 0, 0, 0) :: (.getfield 18, 3, 2, 22, 0) :: (.iload_n 2, 0, 0, 0, 0) :: (.iconst 0, 0, 0, 0, 0) :: (.iastore, 0, 0, 0, 0) :: (.aload_n 0, 0, 0, 0, 0) :: (.getfield 21, 3, 3, 23, 0) :: (.iload_n 2, 0, 0, 0, 0) :: (.iload_n 2, 0, 0, 0, 0) :: (.aload_n 1, 0, 0, 0, 0) :: (.getfield 36, 2, 2, 27, 0) :: (.iconst 1, 0, 0, 0, 0) :: (.isub, 0, 0, 0, 0) :: (.invokestatic 39, 9005, 2, 31, 50) :: (.iastore, 0, 0, 0, 0) :: (.iinc 2 1, 0, 0, 0, 0) :: (.goto (-55), 2, 0, 0, 0) :: []
def mB_30_0 : List mm_I := (.iconst 0, 0, 0, 0, 0) :: (.istore_n 2, 0, 0, 0, 0) :: mB_30_2
def mT_30 : List (Nat × List mm_I) := [(0, mB_30_0), (2, mB_30_2), (60, mB_30_60), (62, mB_30_62), (81, mB_30_81)]
-- 31: VillageBoard$Position.copyFrom(LVillageBoard$Position;)V
def mB_31_0 : List mm_I := (.aload_n 1, 0, 0, 0, 0) :: (.getfield 9, 3, 0, 20, 0) :: (.iconst 0, 0, 0, 0, 0) :: (.aload_n 0, 0, 0, 0, 0) :: (.getfield 9, 3, 0, 20, 0) :: (.iconst 0, 0, 0, 0, 0) :: (.iconst 2, 0, 0, 0, 0) :: (.invokestatic 45, 9003, 5, 32, 11) :: (.aload_n 1, 0, 0, 0, 0) :: (.getfield 15, 3, 1, 21, 0) :: (.iconst 0, 0, 0, 0, 0) :: (.aload_n 0, 0, 0, 0, 0) :: (.getfield 15, 3, 1, 21, 0) :: (.iconst 0, 0, 0, 0, 0) :: (.iconst 2, 0, 0, 0, 0) :: (.invokestatic 45, 9003, 5, 32, 25) :: (.aload_n 1, 0, 0, 0, 0) :: (.getfield 18, 3, 2, 22, 0) :: (.iconst 0, 0, 0, 0, 0) :: (.aload_n 0, 0, 0, 0, 0) :: (.getfield 18, 3, 2, 22, 0) :: (.iconst 0, 0, 0, 0, 0) :: (.iconst 2, 0, 0, 0, 0) :: (.invokestatic 45, 9003, 5, 32, 39) :: (.aload_n 1, 0, 0, 0, 0) :: (.getfield 21, 3, 3, 23, 0) :: (.iconst 0, 0, 0, 0, 0) :: (.aload_n 0, 0, 0, 0, 0) :: (.getfield 21, 3, 3, 23, 0) :: (.iconst 0, 0, 0, 0, 0) :: (.iconst 2, 0, 0, 0, 0) :: (.invokestatic 45, 9003, 5, 32, 53) :: (.aload_n 1, 0, 0, 0, 0) :: (.getfield 24, 3, 4, 24, 0) :: (.iconst 0, 0, 0, 0, 0) :: (.aload_n 0, 0, 0, 0, 0) :: (.getfield 24, 3, 4, 24, 0) :: (.iconst 0, 0, 0, 0, 0) :: (.bipush 20, 0, 0, 0, 0) :: (.invokestatic 45, 9003, 5, 32, 68) :: (.aload_n 0, 0, 0, 0, 0) :: (.aload_n 1, 0, 0, 0, 0) :: (.getfield 27, 3, 5, 25, 0) :: (.putfield 27, 3, 5, 25, 0) :: (.return_, 0, 0, 0, 0) :: []
def mT_31 : List (Nat × List mm_I) := [(0, mB_31_0)]
-- 32: VillageBoard$Position.save([II)V
def mB_32_14 : List mm_I := (.aload_n 0, 0, 0, 0, 0) :: (.getfield 9, 3, 0, 20, 0) :: (.iconst 0, 0, 0, 0, 0) :: (.aload_n 1, 0, 0, 0, 0) :: (.iload_n 2, 0, 0, 0, 0) :: (.iconst 2, 0, 0, 0, 0) :: (.invokestatic 45, 9003, 5, 32, 22) :: (.aload_n 0, 0, 0, 0, 0) :: (.getfield 15, 3, 1, 21, 0) :: (.iconst 0, 0, 0, 0, 0) :: (.aload_n 1, 0, 0, 0, 0) :: (.iload_n 2, 0, 0, 0, 0) :: (.iconst 2, 0, 0, 0, 0) :: (.iadd, 0, 0, 0, 0) :: (.iconst 2, 0, 0, 0, 0) :: (.invokestatic 45, 9003, 5, 32, 35) :: (.aload_n 0, 0, 0, 0, 0) :: (.getfield 18, 3, 2, 22, 0) :: (.iconst 0, 0, 0, 0, 0) :: (.aload_n 1, 0, 0, 0, 0) :: (.iload_n 2, 0, 0, 0, 0) :: (.iconst 4, 0, 0, 0, 0) :: (.iadd, 0, 0, 0, 0) :: (.iconst 2, 0, 0, 0, 0) :: (.invokestatic 45, 9003, 5, 32, 48) :: (.aload_n 0, 0, 0, 0, 0) :: (.getfield 21, 3, 3, 23, 0) :: (.iconst 0, 0, 0, 0, 0) :: (.aload_n 1, 0, 0, 0, 0) :: (.iload_n 2, 0, 0, 0, 0) :: (.bipush 6, 0, 0, 0, 0) :: (.iadd, 0, 0, 0, 0) :: (.iconst 2, 0, 0, 0, 0) :: (.invokestatic 45, 9003, 5, 32, 62) :: (.aload_n 1, 0, 0, 0, 0) :: (.iload_n 2, 0, 0, 0, 0) :: (.bipush 8, 0, 0, 0, 0) :: (.iadd, 0, 0, 0, 0) :: (.aload_n 0, 0, 0, 0, 0) :: (.getfield 27, 3, 5, 25, 0) :: (.iastore, 0, 0, 0, 0) :: (.aload_n 0, 0, 0, 0, 0) :: (.getfield 24, 3, 4, 24, 0) :: (.iconst 0, 0, 0, 0, 0) :: (.aload_n 1, 0, 0, 0, 0) :: (.iload_n 2, 0, 0, 0, 0) :: (.bipush 9, 0, 0, 0, 0) :: (.iadd, 0, 0, 0, 0) :: (.bipush 20, 0, 0, 0, 0) :: (.invokestatic 45, 9003, 5, 32, 87) :: (.return_, 0, 0, 0, 0) :: []
def mB_32_13 : List mm_I := (.return_, 0, 0, 0, 0) :: []
def mB_32_0 : List mm_I := (.iload_n 2, 0, 0, 0, 0) :: (.ifCond .lt 12, 13, 0, 0, 0) :: (.iload_n 2, 0, 0, 0, 0) :: (.aload_n 1, 0, 0, 0, 0) :: (.arraylength, 0, 0, 0, 0) :: (.bipush 29, 0, 0, 0, 0) :: (.isub, 0, 0, 0, 0) :: (.if_icmp .le 4, 14, 0, 0, 0) :: mB_32_13
def mT_32 : List (Nat × List mm_I) := [(0, mB_32_0), (13, mB_32_13), (14, mB_32_14)]
-- 33: VillageBoard$Position.load([II)V
def mB_33_14 : List mm_I := (.aload_n 1, 0, 0, 0, 0) :: (.iload_n 2, 0, 0, 0, 0) :: (.aload_n 0, 0, 0, 0, 0) :: (.getfield 9, 3, 0, 20, 0) :: (.iconst 0, 0, 0, 0, 0) :: (.iconst 2, 0, 0, 0, 0) :: (.invokestatic 45, 9003, 5, 32, 22) :: (.aload_n 1, 0, 0, 0, 0) :: (.iload_n 2, 0, 0, 0, 0) :: (.iconst 2, 0, 0, 0, 0) :: (.iadd, 0, 0, 0, 0) :: (.aload_n 0, 0, 0, 0, 0) :: (.getfield 15, 3, 1, 21, 0) :: (.iconst 0, 0, 0, 0, 0) :: (.iconst 2, 0, 0, 0, 0) :: (.invokestatic 45, 9003, 5, 32, 35) :: (.aload_n 1, 0, 0, 0, 0) :: (.iload_n 2, 0, 0, 0, 0) :: (.iconst 4, 0, 0, 0, 0) :: (.iadd, 0, 0, 0, 0) :: (.aload_n 0, 0, 0, 0, 0) :: (.getfield 18, 3, 2, 22, 0) :: (.iconst 0, 0, 0, 0, 0) :: (.iconst 2, 0, 0, 0, 0) :: (.invokestatic 45, 9003, 5, 32, 48) :: (.aload_n 1, 0, 0, 0, 0) :: (.iload_n 2, 0, 0, 0, 0) :: (.bipush 6, 0, 0, 0, 0) :: (.iadd, 0, 0, 0, 0) :: (.aload_n 0, 0, 0, 0, 0) :: (.getfield 21, 3, 3, 23, 0) :: (.iconst 0, 0, 0, 0, 0) :: (.iconst 2, 0, 0, 0, 0) :: (.invokestatic 45, 9003, 5, 32, 62) :: (.aload_n 0, 0, 0, 0, 0) :: (.aload_n 1, 0, 0, 0, 0) :: (.iload_n 2, 0, 0, 0, 0) :: (.bipush 8, 0, 0, 0, 0) :: (.iadd, 0, 0, 0, 0) :: (.iaload, 0, 0, 0, 0) :: (.putfield 27, 3, 5, 25, 0) :: (.aload_n 1, 0, 0, 0, 0) :: (.iload_n 2, 0, 0, 0, 0) :: (.bipush 9, 0, 0, 0, 0) :: (.iadd, 0, 0, 0, 0) :: (.aload_n 0, 0, 0, 0, 0) :: (.getfield 24, 3, 4, 24, 0) :: (.iconst 0, 0, 0, 0, 0) :: (.bipush 20, 0, 0, 0, 0) :: (.invokestatic 45, 9003, 5, 32, 87) :: (.return_, 0, 0, 0, 0) :: []
def mB_33_13 : List mm_I := (.return_, 0, 0, 0, 0) :: []
def mB_33_0 : List mm_I := (.iload_n 2, 0, 0, 0, 0) :: (.ifCond .lt 12, 13, 0, 0, 0) :: (.iload_n 2, 0, 0, 0, 0) :: (.aload_n 1, 0, 0, 0, 0) :: (.arraylength, 0, 0, 0, 0) :: (.bipush 29, 0, 0, 0, 0) :: (.isub, 0, 0, 0, 0) :: (.if_icmp .le 4, 14, 0, 0, 0) :: mB_33_13
def mT_33 : List (Nat × List mm_I) := [(0, mB_33_0), (13, mB_33_13), (14, mB_33_14)]
-- 34: VillageBoard$Position.turn()I
def mB_34_0 : List mm_I := (.aload_n 0, 0, 0, 0, 0) :: (.getfield 27, 3, 5, 25, 0) :: (.iconst 1, 0, 0, 0, 0) :: (.iand, 0, 0, 0, 0) :: (.ireturn, 0, 0, 0, 0) :: []
def mT_34 : List (Nat × List mm_I) := [(0, mB_34_0)]
-- 35: VillageBoard$Position.allStones()I
def mB_35_0 : List mm_I := (.aload_n 0, 0, 0, 0, 0) :: (.getfield 9, 3, 0, 20, 0) :: (.iconst 0, 0, 0, 0, 0) :: (.iaload, 0, 0, 0, 0) :: (.aload_n 0, 0, 0, 0, 0) :: (.getfield 9, 3, 0, 20, 0) :: (.iconst 1, 0, 0, 0, 0) :: (.iaload, 0, 0, 0, 0) :: (.ior, 0, 0, 0, 0) :: (.ireturn, 0, 0, 0, 0) :: []
def mT_35 : List (Nat × List mm_I) := [(0, mB_35_0)]
-- 36: VillageBoard$Position.stoneIn(I)I
def mB_36_35 : List mm_I := (.ireturn, 0, 0, 0, 0) :: []
def mB_36_34 : List mm_I := (.iconst 2, 0, 0, 0, 0) :: mB_36_35
def mB_36_17 : List mm_I := (.aload_n 0, 0, 0, 0, 0) :: (.getfield 9, 3, 0, 20, 0) :: (.iconst 1, 0, 0, 0, 0) :: (.iaload, 0, 0, 0, 0) :: (.iload_n 1, 0, 0, 0, 0) :: (.invokestatic 51, 122, 2, 33, 24) :: (.ifCond .eq 7, 34, 0, 0, 0) :: (.iconst 1, 0, 0, 0, 0) :: (.goto 4, 35, 0, 0, 0) :: []
def mB_36_0 : List mm_I := (.aload_n 0, 0, 0, 0, 0) :: (.getfield 9, 3, 0, 20, 0) :: (.iconst 0, 0, 0, 0, 0) :: (.iaload, 0, 0, 0, 0) :: (.iload_n 1, 0, 0, 0, 0) :: (.invokestatic 51, 122, 2, 33, 7) :: (.ifCond .eq 7, 17, 0, 0, 0) :: (.iconst 0, 0, 0, 0, 0) :: (.goto 21, 35, 0, 0, 0) :: []
def mT_36 : List (Nat × List mm_I) := [(0, mB_36_0), (17, mB_36_17), (34, mB_36_34), (35, mB_36_35)]
-- 37: VillageBoard$Position.flagOf(I)I
def mB_37_35 : List mm_I := (.ireturn, 0, 0, 0, 0) :: []
def mB_37_34 : List mm_I := (.iconst 2, 0, 0, 0, 0) :: mB_37_35
def mB_37_17 : List mm_I := (.aload_n 0, 0, 0, 0, 0) :: (.getfield 15, 3, 1, 21, 0) :: (.iconst 1, 0, 0, 0, 0) :: (.iaload, 0, 0, 0, 0) :: (.iload_n 1, 0, 0, 0, 0) :: (.invokestatic 51, 122, 2, 33, 24) :: (.ifCond .eq 7, 34, 0, 0, 0) :: (.iconst 1, 0, 0, 0, 0) :: (.goto 4, 35, 0, 0, 0) :: []
def mB_37_0 : List mm_I := (.aload_n 0, 0, 0, 0, 0) :: (.getfield 15, 3, 1, 21, 0) :: (.iconst 0, 0, 0, 0, 0) :: (.iaload, 0, 0, 0, 0) :: (.iload_n 1, 0, 0, 0, 0) :: (.invokestatic 51, 122, 2, 33, 7) :: (.ifCond .eq 7, 17, 0, 0, 0) :: (.iconst 0, 0, 0, 0, 0) :: (.goto 21, 35, 0, 0, 0) :: []
def mT_37 : List (Nat × List mm_I) := [(0, mB_37_0), (17, mB_37_17), (34, mB_37_34), (35, mB_37_35)]
-- 38: VillageBoard$Position.bringStone(II)V
def mB_38_0 : List mm_I := (.iconst 1, 0, 0, 0, 0) :: (.iload_n 2, 0, 0, 0, 0) :: (.bipush 100, 0, 0, 0, 0) :: (.irem, 0, 0, 0, 0) :: (.ishl, 0, 0, 0, 0) :: (.istore_n 3, 0, 0, 0, 0) :: (.aload_n 0, 0, 0, 0, 0) :: (.getfield 9, 3, 0, 20, 0) :: (.iload_n 1, 0, 0, 0, 0) :: (.aload_n 0, 0, 0, 0, 0) :: (.getfield 9, 3, 0, 20, 0) :: (.iload_n 1, 0, 0, 0, 0) :: (.iaload, 0, 0, 0, 0) :: (.iconst 1, 0, 0, 0, 0) :: (.iload_n 2, 0, 0, 0, 0) :: (.bipush 100, 0, 0, 0, 0) :: (.idiv, 0, 0, 0, 0) :: (.ishl, 0, 0, 0, 0) :: (.iconst (-1), 0, 0, 0, 0) :: (.ixor, 0, 0, 0, 0) :: (.iand, 0, 0, 0, 0) :: (.iload_n 3, 0, 0, 0, 0) :: (.ior, 0, 0, 0, 0) :: (.iastore, 0, 0, 0, 0) :: (.aload_n 0, 0, 0, 0, 0) :: (.getfield 9, 3, 0, 20, 0) :: (.iconst 1, 0, 0, 0, 0) :: (.iload_n 1, 0, 0, 0, 0) :: (.isub, 0, 0, 0, 0) :: (.dup2, 0, 0, 0, 0) :: (.iaload, 0, 0, 0, 0) :: (.iload_n 3, 0, 0, 0, 0) :: (.iconst (-1), 0, 0, 0, 0) :: (.ixor, 0, 0, 0, 0) :: (.iand, 0, 0, 0, 0) :: (.iastore, 0, 0, 0, 0) :: (.aload_n 0, 0, 0, 0, 0) :: (.getfield 15, 3, 1, 21, 0) :: (.iload_n 1, 0, 0, 0, 0) :: (.dup2, 0, 0, 0, 0) :: (.iaload, 0, 0, 0, 0) :: (.iload_n 3, 0, 0, 0, 0) :: (.ior, 0, 0, 0, 0) :: (.iastore, 0, 0, 0, 0) :: (.aload_n 0, 0, 0, 0, 0) :: (.getfield 15, 3, 1, 21, 0) :: (.iconst 1, 0, 0, 0, 0) :: (.iload_n 1, 0, 0, 0, 0) :: (.isub, 0, 0, 0, 0) :: (.dup2, 0, 0, 0, 0) :: (.iaload, 0, 0, 0, 0) :: (.iload_n 3, 0, 0, 0, 0) :: (.iconst (-1), 0, 0, 0, 0) :: (.ixor, 0, 0, 0, 0) :: (.iand, 0, 0, 0, 0) :: (.iastore, 0, 0, 0, 0) :: (.return_, 0, 0, 0, 0) :: []
def mT_38 : List (Nat × List mm_I) := [(0, mB_38_0)]
-- 39: VillageBoard$Position.endEvening(LVillageBoard$Land;)V
def mB_39_67 : List mm_I := (.aload_n 0, 0, 0, 0, 0) :: (.dup, 0, 0, 0, 0) :: (.getfield 27, 3, 5, 25, 0) :: (.iconst 1, 0, 0, 0, 0) :: (.iadd, 0, 0, 0, 0) :: (.putfield 27, 3, 5, 25, 0) :: (.return_, 0, 0, 0, 0) :: []
def mB_39_61 : List mm_I := (.iinc 2 1, 0, 0, 0, 0) :: (.goto (-62), 2, 0, 0, 0) :: []
def mB_39_2 : List mm_I := (.iload_n 2, 0, 0, 0, 0) :: (.aload_n 1, 0, 0, 0, 0) :: (.getfield 55, 2, 0, 28, 0) :: (.if_icmp .ge 60, 67, 0, 0, 0) :: (.aload_n 0, 0, 0, 0, 0) :: (.iload_n 2, 0, 0, 0, 0) :: (.invokevirtual 58, 37, 2, 34, 12) :: (.istore_n 3, 0, 0, 0, 0) :: (.iload_n 3, 0, 0, 0, 0) :: (.iconst 2, 0, 0, 0, 0) :: (.if_icmp .eq 43, 61, 0, 0, 0) :: (.aload_n 0, 0, 0, 0, 0) :: (.getfield 18, 3, 2, 22, 0) :: (.iload_n 3, 0, 0, 0, 0) :: (.sipush 9999, 0, 0, 0, 0) :: (.aload_n 0, 0, 0, 0, 0) :: (.getfield 18, 3, 2, 22, 0) :: (.iload_n 3, 0, 0, 0, 0) :: (.iaload, 0, 0, 0, 0) :: (.aload_n 1, 0, 0, 0, 0) :: (.getfield 62, 2, 4, 29, 0) :: (.iload_n 2, 0, 0, 0, 0) :: (.iaload, 0, 0, 0, 0) :: (.iadd, 0, 0, 0, 0) :: (.invokestatic 39, 9005, 2, 31, 42) :: (.iastore, 0, 0, 0, 0) :: (.aload_n 0, 0, 0, 0, 0) :: (.getfield 24, 3, 4, 24, 0) :: (.bipush 10, 0, 0, 0, 0) :: (.iload_n 3, 0, 0, 0, 0) :: (.imul, 0, 0, 0, 0) :: (.iload_n 2, 0, 0, 0, 0) :: (.iadd, 0, 0, 0, 0) :: (.dup2, 0, 0, 0, 0) :: (.iaload, 0, 0, 0, 0) :: (.iconst 1, 0, 0, 0, 0) :: (.iadd, 0, 0, 0, 0) :: (.iastore, 0, 0, 0, 0) :: mB_39_61
def mB_39_0 : List mm_I := (.iconst 0, 0, 0, 0, 0) :: (.istore_n 2, 0, 0, 0, 0) :: mB_39_2
def mT_39 : List (Nat × List mm_I) := [(0, mB_39_0), (2, mB_39_2), (61, mB_39_61), (67, mB_39_67)]
-- 40: VillageBoard$Position.playEvening(LVillageBoard$Land;)I
def mB_40_20 : List mm_I := (.aload_n 0, 0, 0, 0, 0) :: (.aload_n 1, 0, 0, 0, 0) :: (.invokevirtual 77, 39, 2, 38, 22) :: (.iload_n 2, 0, 0, 0, 0) :: (.ireturn, 0, 0, 0, 0) :: []
def mB_40_0 : List mm_I := (.aload_n 0, 0, 0, 0, 0) :: (.aload_n 1, 0, 0, 0, 0) :: (.invokevirtual 65, 41, 2, 35, 2) :: (.istore_n 2, 0, 0, 0, 0) :: (.iload_n 2, 0, 0, 0, 0) :: (.iconst (-1), 0, 0, 0, 0) :: (.if_icmp .eq 12, 20, 0, 0, 0) :: (.aload_n 0, 0, 0, 0, 0) :: (.aload_n 0, 0, 0, 0, 0) :: (.invokevirtual 69, 34, 1, 36, 13) :: (.iload_n 2, 0, 0, 0, 0) :: (.invokevirtual 73, 38, 3, 37, 17) :: mB_40_20
def mT_40 : List (Nat × List mm_I) := [(0, mB_40_0), (20, mB_40_20)]
-- 41: VillageBoard$Position.moveByStyle(LVillageBoard$Land;)I
def mB_41_134 : List mm_I := (.iload 5, 0, 0, 0, 0) :: (.ireturn, 0, 0, 0, 0) :: []
def mB_41_128 : List mm_I := (.iinc 8 1, 0, 0, 0, 0) :: (.goto (-67), 64, 0, 0, 0) :: []
def mB_41_64 : List mm_I := (.iload 8, 0, 0, 0, 0) :: (.iload 7, 0, 0, 0, 0) :: (.if_icmp .ge 66, 134, 0, 0, 0) :: (.aload_n 1, 0, 0, 0, 0) :: (.iload_n 2, 0, 0, 0, 0) :: (.iload_n 3, 0, 0, 0, 0) :: (.aload_n 0, 0, 0, 0, 0) :: (.getfield 15, 3, 1, 21, 0) :: (.aload_n 0, 0, 0, 0, 0) :: (.invokevirtual 69, 34, 1, 36, 79) :: (.iaload, 0, 0, 0, 0) :: (.aload_n 1, 0, 0, 0, 0) :: (.getfield 85, 2, 8, 30, 0) :: (.iload 8, 0, 0, 0, 0) :: (.iaload, 0, 0, 0, 0) :: (.aload_n 0, 0, 0, 0, 0) :: (.getfield 27, 3, 5, 25, 0) :: (.invokevirtual 88, 28, 6, 40, 94) :: (.aload_n 1, 0, 0, 0, 0) :: (.getfield 92, 2, 9, 31, 0) :: (.iload 4, 0, 0, 0, 0) :: (.invokevirtual 96, 68, 2, 41, 103) :: (.istore 9, 0, 0, 0, 0) :: (.iload 9, 0, 0, 0, 0) :: (.iload 6, 0, 0, 0, 0) :: (.if_icmp .le 16, 128, 0, 0, 0) :: (.iload 9, 0, 0, 0, 0) :: (.istore 6, 0, 0, 0, 0) :: (.aload_n 1, 0, 0, 0, 0) :: (.getfield 85, 2, 8, 30, 0) :: (.iload 8, 0, 0, 0, 0) :: (.iaload, 0, 0, 0, 0) :: (.istore 5, 0, 0, 0, 0) :: mB_41_128
def mB_41_59 : List mm_I := (.istore 7, 0, 0, 0, 0) :: (.iconst 0, 0, 0, 0, 0) :: (.istore 8, 0, 0, 0, 0) :: mB_41_64
def mB_41_49 : List mm_I := (.aload_n 1, 0, 0, 0, 0) :: (.iload_n 2, 0, 0, 0, 0) :: (.iload_n 3, 0, 0, 0, 0) :: (.aload_n 0, 0, 0, 0, 0) :: (.getfield 27, 3, 5, 25, 0) :: (.invokevirtual 81, 27, 4, 39, 56) :: mB_41_59
def mB_41_0 : List mm_I := (.aload_n 0, 0, 0, 0, 0) :: (.getfield 9, 3, 0, 20, 0) :: (.aload_n 0, 0, 0, 0, 0) :: (.invokevirtual 69, 34, 1, 36, 5) :: (.iaload, 0, 0, 0, 0) :: (.istore_n 2, 0, 0, 0, 0) :: (.aload_n 0, 0, 0, 0, 0) :: (.getfield 9, 3, 0, 20, 0) :: (.iconst 1, 0, 0, 0, 0) :: (.aload_n 0, 0, 0, 0, 0) :: (.invokevirtual 69, 34, 1, 36, 16) :: (.isub, 0, 0, 0, 0) :: (.iaload, 0, 0, 0, 0) :: (.istore_n 3, 0, 0, 0, 0) :: (.aload_n 0, 0, 0, 0, 0) :: (.getfield 21, 3, 3, 23, 0) :: (.aload_n 0, 0, 0, 0, 0) :: (.invokevirtual 69, 34, 1, 36, 27) :: (.iaload, 0, 0, 0, 0) :: (.istore 4, 0, 0, 0, 0) :: (.iconst (-1), 0, 0, 0, 0) :: (.istore 5, 0, 0, 0, 0) :: (.iconst 0, 0, 0, 0, 0) :: (.istore 6, 0, 0, 0, 0) :: (.iload 4, 0, 0, 0, 0) :: (.iconst (-1), 0, 0, 0, 0) :: (.if_icmp .ne 7, 49, 0, 0, 0) :: (.iconst 0, 0, 0, 0, 0) :: (.goto 13, 59, 0, 0, 0) :: []
def mT_41 : List (Nat × List mm_I) := [(0, mB_41_0), (49, mB_41_49), (59, mB_41_59), (64, mB_41_64), (128, mB_41_128), (134, mB_41_134)]
-- 42: VillageBoard$Position.drawEvening(LVillageBoard$Land;I)V
def mB_42_66 : List mm_I := (.aload_n 0, 0, 0, 0, 0) :: (.aload_n 1, 0, 0, 0, 0) :: (.invokevirtual 77, 39, 2, 38, 68) :: (.return_, 0, 0, 0, 0) :: []
def mB_42_0 : List mm_I := (.aload_n 1, 0, 0, 0, 0) :: (.aload_n 0, 0, 0, 0, 0) :: (.getfield 9, 3, 0, 20, 0) :: (.aload_n 0, 0, 0, 0, 0) :: (.invokevirtual 69, 34, 1, 36, 6) :: (.iaload, 0, 0, 0, 0) :: (.aload_n 0, 0, 0, 0, 0) :: (.getfield 9, 3, 0, 20, 0) :: (.iconst 1, 0, 0, 0, 0) :: (.aload_n 0, 0, 0, 0, 0) :: (.invokevirtual 69, 34, 1, 36, 16) :: (.isub, 0, 0, 0, 0) :: (.iaload, 0, 0, 0, 0) :: (.aload_n 0, 0, 0, 0, 0) :: (.getfield 27, 3, 5, 25, 0) :: (.invokevirtual 81, 27, 4, 39, 25) :: (.istore_n 3, 0, 0, 0, 0) :: (.iload_n 2, 0, 0, 0, 0) :: (.iconst 1, 0, 0, 0, 0) :: (.iload_n 3, 0, 0, 0, 0) :: (.iconst 1, 0, 0, 0, 0) :: (.iadd, 0, 0, 0, 0) :: (.invokestatic 101, 9004, 2, 42, 34) :: (.irem, 0, 0, 0, 0) :: (.istore 4, 0, 0, 0, 0) :: (.iload 4, 0, 0, 0, 0) :: (.ifCond .lt 24, 66, 0, 0, 0) :: (.iload 4, 0, 0, 0, 0) :: (.iload_n 3, 0, 0, 0, 0) :: (.if_icmp .ge 18, 66, 0, 0, 0) :: (.aload_n 0, 0, 0, 0, 0) :: (.aload_n 0, 0, 0, 0, 0) :: (.invokevirtual 69, 34, 1, 36, 53) :: (.aload_n 1, 0, 0, 0, 0) :: (.getfield 85, 2, 8, 30, 0) :: (.iload 4, 0, 0, 0, 0) :: (.iaload, 0, 0, 0, 0) :: (.invokevirtual 73, 38, 3, 37, 63) :: mB_42_66
def mT_42 : List (Nat × List mm_I) := [(0, mB_42_0), (66, mB_42_66)]
-- 43: VillageBoard$Reader.<init>()V
def mB_43_0 : List mm_I := (.aload_n 0, 0, 0, 0, 0) :: (.invokespecial 3, 9000, 1, 43, 1) :: (.aload_n 0, 0, 0, 0, 0) :: (.iconst 0, 0, 0, 0, 0) :: (.newarray .int, 0, 0, 0, 0) :: (.putfield 9, 4, 0, 32, 0) :: (.aload_n 0, 0, 0, 0, 0) :: (.iconst 0, 0, 0, 0, 0) :: (.putfield 15, 4, 1, 33, 0) :: (.aload_n 0, 0, 0, 0, 0) :: (.new 19, 2, 0, 134, 0) :: (.dup, 0, 0, 0, 0) :: (.invokespecial 21, 13, 1, 44, 21) :: (.putfield 22, 4, 2, 34, 0) :: (.aload_n 0, 0, 0, 0, 0) :: (.iconst 0, 0, 0, 0, 0) :: (.putfield 26, 4, 3, 35, 0) :: (.aload_n 0, 0, 0, 0, 0) :: (.iconst 0, 0, 0, 0, 0) :: (.putfield 29, 4, 4, 36, 0) :: (.aload_n 0, 0, 0, 0, 0) :: (.iconst 0, 0, 0, 0, 0) :: (.putfield 32, 4, 5, 37, 0) :: (.aload_n 0, 0, 0, 0, 0) :: (.iconst 0, 0, 0, 0, 0) :: (.putfield 35, 4, 6, 38, 0) :: (.aload_n 0, 0, 0, 0, 0) :: (.iconst 0, 0, 0, 0, 0) :: (.putfield 38, 4, 7, 39, 0) :: (.return_, 0, 0, 0, 0) :: []
def mT_43 : List (Nat × List mm_I) := [(0, mB_43_0)]
-- 44: VillageBoard$Reader.read([II)I
def mB_44_70 : List mm_I := (.iconst 0, 0, 0, 0, 0) :: (.ireturn, 0, 0, 0, 0) :: []
def mB_44_64 : List mm_I := (.iinc 3 1, 0, 0, 0, 0) :: (.goto (-29), 38, 0, 0, 0) :: []
def mB_44_38 : List mm_I := (.iload_n 3, 0, 0, 0, 0) :: (.sipush 700, 0, 0, 0, 0) :: (.if_icmp .ge 28, 70, 0, 0, 0) :: (.aload_n 0, 0, 0, 0, 0) :: (.getfield 35, 4, 6, 38, 0) :: (.ifCond .eq 21, 70, 0, 0, 0) :: (.aload_n 0, 0, 0, 0, 0) :: (.invokevirtual 53, 47, 1, 48, 53) :: (.ifCond .ne 8, 64, 0, 0, 0) :: (.aload_n 0, 0, 0, 0, 0) :: (.getfield 26, 4, 3, 35, 0) :: (.ireturn, 0, 0, 0, 0) :: []
def mB_44_0 : List mm_I := (.aload_n 0, 0, 0, 0, 0) :: (.aload_n 1, 0, 0, 0, 0) :: (.putfield 9, 4, 0, 32, 0) :: (.aload_n 0, 0, 0, 0, 0) :: (.iload_n 2, 0, 0, 0, 0) :: (.aload_n 1, 0, 0, 0, 0) :: (.arraylength, 0, 0, 0, 0) :: (.invokestatic 41, 9005, 2, 45, 9) :: (.putfield 15, 4, 1, 33, 0) :: (.aload_n 0, 0, 0, 0, 0) :: (.getfield 22, 4, 2, 34, 0) :: (.invokevirtual 47, 14, 1, 46, 19) :: (.aload_n 0, 0, 0, 0, 0) :: (.iconst 0, 0, 0, 0, 0) :: (.putfield 26, 4, 3, 35, 0) :: (.aload_n 0, 0, 0, 0, 0) :: (.iconst 0, 0, 0, 0, 0) :: (.putfield 32, 4, 5, 37, 0) :: (.aload_n 0, 0, 0, 0, 0) :: (.invokevirtual 50, 59, 1, 47, 33) :: (.iconst 0, 0, 0, 0, 0) :: (.istore_n 3, 0, 0, 0, 0) :: mB_44_38
def mT_44 : List (Nat × List mm_I) := [(0, mB_44_0), (38, mB_44_38), (64, mB_44_64), (70, mB_44_70)]
-- 45: VillageBoard$Reader.handOver(LVillageBoard$Land;)LVillageBoard$Land;
def mB_45_0 : List mm_I := (.aload_n 0, 0, 0, 0, 0) :: (.getfield 22, 4, 2, 34, 0) :: (.astore_n 2, 0, 0, 0, 0) :: (.aload_n 0, 0, 0, 0, 0) :: (.aload_n 1, 0, 0, 0, 0) :: (.putfield 22, 4, 2, 34, 0) :: (.aload_n 2, 0, 0, 0, 0) :: (.areturn, 0, 0, 0, 0) :: []
def mT_45 : List (Nat × List mm_I) := [(0, mB_45_0)]
-- 46: VillageBoard$Reader.refuse(I)Z
def mB_46_0 : List mm_I := (.aload_n 0, 0, 0, 0, 0) :: (.iload_n 1, 0, 0, 0, 0) :: (.putfield 26, 4, 3, 35, 0) :: (.iconst 0, 0, 0, 0, 0) :: (.ireturn, 0, 0, 0, 0) :: []
def mT_46 : List (Nat × List mm_I) := [(0, mB_46_0)]
-- 47: VillageBoard$Reader.readLine()Z
def mB_47_183 : List mm_I := (.iload_n 1, 0, 0, 0, 0) :: (.ireturn, 0, 0, 0, 0) :: []
def mB_47_175 : List mm_I := (.iload_n 1, 0, 0, 0, 0) :: (.ifCond .eq 7, 183, 0, 0, 0) :: (.aload_n 0, 0, 0, 0, 0) :: (.invokevirtual 50, 59, 1, 47, 180) :: mB_47_183
def mB_47_156 : List mm_I := (.iload_n 1, 0, 0, 0, 0) :: (.ifCond .eq 18, 175, 0, 0, 0) :: (.aload_n 0, 0, 0, 0, 0) :: (.getfield 35, 4, 6, 38, 0) :: (.bipush 59, 0, 0, 0, 0) :: (.if_icmp .eq 9, 175, 0, 0, 0) :: (.aload_n 0, 0, 0, 0, 0) :: (.iconst 1, 0, 0, 0, 0) :: (.invokevirtual 82, 46, 2, 52, 171) :: (.istore_n 1, 0, 0, 0, 0) :: mB_47_175
def mB_47_150 : List mm_I := (.aload_n 0, 0, 0, 0, 0) :: (.iconst 1, 0, 0, 0, 0) :: (.invokevirtual 82, 46, 2, 52, 152) :: (.istore_n 1, 0, 0, 0, 0) :: mB_47_156
def mB_47_146 : List mm_I := (.istore_n 1, 0, 0, 0, 0) :: (.goto 9, 156, 0, 0, 0) :: []
def mB_47_141 : List mm_I := (.aload_n 0, 0, 0, 0, 0) :: (.iconst 2, 0, 0, 0, 0) :: (.invokevirtual 82, 46, 2, 52, 143) :: mB_47_146
def mB_47_107 : List mm_I := (.aload_n 0, 0, 0, 0, 0) :: (.ldc 90, 1, 15, 823, 0) :: (.invokevirtual 59, 58, 2, 49, 110) :: (.ifCond .eq 37, 150, 0, 0, 0) :: (.aload_n 0, 0, 0, 0, 0) :: (.getfield 22, 4, 2, 34, 0) :: (.getfield 92, 2, 2, 41, 0) :: (.iconst 3, 0, 0, 0, 0) :: (.if_icmp .ge 17, 141, 0, 0, 0) :: (.aload_n 0, 0, 0, 0, 0) :: (.aload_n 0, 0, 0, 0, 0) :: (.getfield 22, 4, 2, 34, 0) :: (.getfield 92, 2, 2, 41, 0) :: (.invokevirtual 87, 51, 2, 53, 135) :: (.goto 8, 146, 0, 0, 0) :: []
def mB_47_103 : List mm_I := (.istore_n 1, 0, 0, 0, 0) :: (.goto 52, 156, 0, 0, 0) :: []
def mB_47_98 : List mm_I := (.aload_n 0, 0, 0, 0, 0) :: (.iconst 3, 0, 0, 0, 0) :: (.invokevirtual 87, 51, 2, 53, 100) :: mB_47_103
def mB_47_71 : List mm_I := (.aload_n 0, 0, 0, 0, 0) :: (.ldc 76, 1, 4, 764, 0) :: (.invokevirtual 59, 58, 2, 49, 74) :: (.ifCond .eq 30, 107, 0, 0, 0) :: (.aload_n 0, 0, 0, 0, 0) :: (.getfield 22, 4, 2, 34, 0) :: (.getfield 78, 2, 3, 40, 0) :: (.ifCond .eq 11, 98, 0, 0, 0) :: (.aload_n 0, 0, 0, 0, 0) :: (.iconst 5, 0, 0, 0, 0) :: (.invokevirtual 82, 46, 2, 52, 92) :: (.goto 8, 103, 0, 0, 0) :: []
def mB_47_54 : List mm_I := (.aload_n 0, 0, 0, 0, 0) :: (.ldc 71, 1, 3, 754, 0) :: (.invokevirtual 59, 58, 2, 49, 57) :: (.ifCond .eq 11, 71, 0, 0, 0) :: (.aload_n 0, 0, 0, 0, 0) :: (.invokevirtual 73, 49, 1, 51, 64) :: (.istore_n 1, 0, 0, 0, 0) :: (.goto 88, 156, 0, 0, 0) :: []
def mB_47_36 : List mm_I := (.aload_n 0, 0, 0, 0, 0) :: (.ldc 69, 1, 2, 753, 0) :: (.invokevirtual 59, 58, 2, 49, 39) :: (.ifCond .eq 12, 54, 0, 0, 0) :: (.aload_n 0, 0, 0, 0, 0) :: (.iconst 2, 0, 0, 0, 0) :: (.invokevirtual 63, 48, 2, 50, 47) :: (.istore_n 1, 0, 0, 0, 0) :: (.goto 105, 156, 0, 0, 0) :: []
def mB_47_18 : List mm_I := (.aload_n 0, 0, 0, 0, 0) :: (.ldc 67, 1, 1, 752, 0) :: (.invokevirtual 59, 58, 2, 49, 21) :: (.ifCond .eq 12, 36, 0, 0, 0) :: (.aload_n 0, 0, 0, 0, 0) :: (.iconst 1, 0, 0, 0, 0) :: (.invokevirtual 63, 48, 2, 50, 29) :: (.istore_n 1, 0, 0, 0, 0) :: (.goto 123, 156, 0, 0, 0) :: []
def mB_47_0 : List mm_I := (.aload_n 0, 0, 0, 0, 0) :: (.ldc 57, 1, 0, 683, 0) :: (.invokevirtual 59, 58, 2, 49, 3) :: (.ifCond .eq 12, 18, 0, 0, 0) :: (.aload_n 0, 0, 0, 0, 0) :: (.iconst 0, 0, 0, 0, 0) :: (.invokevirtual 63, 48, 2, 50, 11) :: (.istore_n 1, 0, 0, 0, 0) :: (.goto 141, 156, 0, 0, 0) :: []
def mT_47 : List (Nat × List mm_I) := [(0, mB_47_0), (18, mB_47_18), (36, mB_47_36), (54, mB_47_54), (71, mB_47_71), (98, mB_47_98), (103, mB_47_103), (107, mB_47_107), (141, mB_47_141), (146, mB_47_146), (150, mB_47_150), (156, mB_47_156), (175, mB_47_175), (183, mB_47_183)]
-- 48: VillageBoard$Reader.readVillage(I)Z
def mB_48_50 : List mm_I := (.aload_n 0, 0, 0, 0, 0) :: (.getfield 22, 4, 2, 34, 0) :: (.iload_n 1, 0, 0, 0, 0) :: (.iload_n 2, 0, 0, 0, 0) :: (.iload_n 3, 0, 0, 0, 0) :: (.invokevirtual 102, 15, 4, 55, 57) :: (.iconst 1, 0, 0, 0, 0) :: (.ireturn, 0, 0, 0, 0) :: []
def mB_48_36 : List mm_I := (.aload_n 0, 0, 0, 0, 0) :: (.bipush 9, 0, 0, 0, 0) :: (.invokevirtual 98, 50, 2, 54, 39) :: (.istore_n 3, 0, 0, 0, 0) :: (.iload_n 3, 0, 0, 0, 0) :: (.iconst (-1), 0, 0, 0, 0) :: (.if_icmp .ne 5, 50, 0, 0, 0) :: (.iconst 0, 0, 0, 0, 0) :: (.ireturn, 0, 0, 0, 0) :: []
def mB_48_18 : List mm_I := (.aload_n 0, 0, 0, 0, 0) :: (.invokevirtual 50, 59, 1, 47, 19) :: (.aload_n 0, 0, 0, 0, 0) :: (.bipush 20, 0, 0, 0, 0) :: (.invokevirtual 98, 50, 2, 54, 25) :: (.istore_n 2, 0, 0, 0, 0) :: (.iload_n 2, 0, 0, 0, 0) :: (.iconst (-1), 0, 0, 0, 0) :: (.if_icmp .ne 5, 36, 0, 0, 0) :: (.iconst 0, 0, 0, 0, 0) :: (.ireturn, 0, 0, 0, 0) :: []
def mB_48_0 : List mm_I := (.aload_n 0, 0, 0, 0, 0) :: (.getfield 22, 4, 2, 34, 0) :: (.getfield 95, 2, 0, 42, 0) :: (.bipush 10, 0, 0, 0, 0) :: (.if_icmp .lt 9, 18, 0, 0, 0) :: (.aload_n 0, 0, 0, 0, 0) :: (.iconst 2, 0, 0, 0, 0) :: (.invokevirtual 82, 46, 2, 52, 14) :: (.ireturn, 0, 0, 0, 0) :: []
def mT_48 : List (Nat × List mm_I) := [(0, mB_48_0), (18, mB_48_18), (36, mB_48_36), (50, mB_48_50)]
-- 49: VillageBoard$Reader.readRoad()Z
def mB_49_147 : List mm_I := (.aload_n 0, 0, 0, 0, 0) :: (.getfield 22, 4, 2, 34, 0) :: (.iload_n 1, 0, 0, 0, 0) :: (.iload_n 2, 0, 0, 0, 0) :: (.invokevirtual 116, 16, 3, 57, 153) :: (.iconst 1, 0, 0, 0, 0) :: (.ireturn, 0, 0, 0, 0) :: []
def mB_49_133 : List mm_I := (.aload_n 0, 0, 0, 0, 0) :: (.bipush 10, 0, 0, 0, 0) :: (.invokevirtual 98, 50, 2, 54, 136) :: (.istore_n 2, 0, 0, 0, 0) :: (.iload_n 2, 0, 0, 0, 0) :: (.iconst (-1), 0, 0, 0, 0) :: (.if_icmp .ne 5, 147, 0, 0, 0) :: (.iconst 0, 0, 0, 0, 0) :: (.ireturn, 0, 0, 0, 0) :: []
def mB_49_127 : List mm_I := (.aload_n 0, 0, 0, 0, 0) :: (.iconst 4, 0, 0, 0, 0) :: (.invokevirtual 82, 46, 2, 52, 129) :: (.ireturn, 0, 0, 0, 0) :: []
def mB_49_92 : List mm_I := (.aload_n 0, 0, 0, 0, 0) :: (.getfield 35, 4, 6, 38, 0) :: (.iconst 2, 0, 0, 0, 0) :: (.if_icmp .ne 36, 133, 0, 0, 0) :: (.aload_n 0, 0, 0, 0, 0) :: (.getfield 38, 4, 7, 39, 0) :: (.iload_n 1, 0, 0, 0, 0) :: (.if_icmp .eq 22, 127, 0, 0, 0) :: (.aload_n 0, 0, 0, 0, 0) :: (.getfield 22, 4, 2, 34, 0) :: (.getfield 109, 2, 6, 44, 0) :: (.iload_n 1, 0, 0, 0, 0) :: (.iaload, 0, 0, 0, 0) :: (.aload_n 0, 0, 0, 0, 0) :: (.getfield 38, 4, 7, 39, 0) :: (.invokestatic 112, 122, 2, 56, 121) :: (.ifCond .eq 9, 133, 0, 0, 0) :: mB_49_127
def mB_49_64 : List mm_I := (.aload_n 0, 0, 0, 0, 0) :: (.getfield 35, 4, 6, 38, 0) :: (.iconst 2, 0, 0, 0, 0) :: (.if_icmp .ne 23, 92, 0, 0, 0) :: (.aload_n 0, 0, 0, 0, 0) :: (.getfield 38, 4, 7, 39, 0) :: (.aload_n 0, 0, 0, 0, 0) :: (.getfield 22, 4, 2, 34, 0) :: (.getfield 95, 2, 0, 42, 0) :: (.if_icmp .lt 9, 92, 0, 0, 0) :: (.aload_n 0, 0, 0, 0, 0) :: (.iconst 3, 0, 0, 0, 0) :: (.invokevirtual 82, 46, 2, 52, 88) :: (.ireturn, 0, 0, 0, 0) :: []
def mB_49_50 : List mm_I := (.aload_n 0, 0, 0, 0, 0) :: (.bipush 10, 0, 0, 0, 0) :: (.invokevirtual 98, 50, 2, 54, 53) :: (.istore_n 1, 0, 0, 0, 0) :: (.iload_n 1, 0, 0, 0, 0) :: (.iconst (-1), 0, 0, 0, 0) :: (.if_icmp .ne 5, 64, 0, 0, 0) :: (.iconst 0, 0, 0, 0, 0) :: (.ireturn, 0, 0, 0, 0) :: []
def mB_49_18 : List mm_I := (.aload_n 0, 0, 0, 0, 0) :: (.invokevirtual 50, 59, 1, 47, 19) :: (.aload_n 0, 0, 0, 0, 0) :: (.getfield 35, 4, 6, 38, 0) :: (.iconst 2, 0, 0, 0, 0) :: (.if_icmp .ne 23, 50, 0, 0, 0) :: (.aload_n 0, 0, 0, 0, 0) :: (.getfield 38, 4, 7, 39, 0) :: (.aload_n 0, 0, 0, 0, 0) :: (.getfield 22, 4, 2, 34, 0) :: (.getfield 95, 2, 0, 42, 0) :: (.if_icmp .lt 9, 50, 0, 0, 0) :: (.aload_n 0, 0, 0, 0, 0) :: (.iconst 3, 0, 0, 0, 0) :: (.invokevirtual 82, 46, 2, 52, 46) :: (.ireturn, 0, 0, 0, 0) :: []
def mB_49_0 : List mm_I := (.aload_n 0, 0, 0, 0, 0) :: (.getfield 22, 4, 2, 34, 0) :: (.getfield 106, 2, 1, 43, 0) :: (.bipush 18, 0, 0, 0, 0) :: (.if_icmp .lt 9, 18, 0, 0, 0) :: (.aload_n 0, 0, 0, 0, 0) :: (.iconst 2, 0, 0, 0, 0) :: (.invokevirtual 82, 46, 2, 52, 14) :: (.ireturn, 0, 0, 0, 0) :: []
def mT_49 : List (Nat × List mm_I) := [(0, mB_49_0), (18, mB_49_18), (50, mB_49_50), (64, mB_49_64), (92, mB_49_92), (127, mB_49_127), (133, mB_49_133), (147, mB_49_147)]
-- 50: VillageBoard$Reader.readNumber(I)I
def mB_50_48 : List mm_I := (.aload_n 0, 0, 0, 0, 0) :: (.getfield 38, 4, 7, 39, 0) :: (.istore_n 2, 0, 0, 0, 0) :: (.aload_n 0, 0, 0, 0, 0) :: (.invokevirtual 50, 59, 1, 47, 54) :: (.iload_n 2, 0, 0, 0, 0) :: (.ireturn, 0, 0, 0, 0) :: []
def mB_50_40 : List mm_I := (.aload_n 0, 0, 0, 0, 0) :: (.iconst 2, 0, 0, 0, 0) :: (.invokevirtual 82, 46, 2, 52, 42) :: (.pop, 0, 0, 0, 0) :: (.iconst (-1), 0, 0, 0, 0) :: (.ireturn, 0, 0, 0, 0) :: []
def mB_50_24 : List mm_I := (.aload_n 0, 0, 0, 0, 0) :: (.getfield 35, 4, 6, 38, 0) :: (.iconst 3, 0, 0, 0, 0) :: (.if_icmp .eq 11, 40, 0, 0, 0) :: (.aload_n 0, 0, 0, 0, 0) :: (.getfield 38, 4, 7, 39, 0) :: (.iload_n 1, 0, 0, 0, 0) :: (.if_icmp .le 11, 48, 0, 0, 0) :: mB_50_40
def mB_50_0 : List mm_I := (.aload_n 0, 0, 0, 0, 0) :: (.getfield 35, 4, 6, 38, 0) :: (.iconst 2, 0, 0, 0, 0) :: (.if_icmp .eq 19, 24, 0, 0, 0) :: (.aload_n 0, 0, 0, 0, 0) :: (.getfield 35, 4, 6, 38, 0) :: (.iconst 3, 0, 0, 0, 0) :: (.if_icmp .eq 11, 24, 0, 0, 0) :: (.aload_n 0, 0, 0, 0, 0) :: (.iconst 1, 0, 0, 0, 0) :: (.invokevirtual 82, 46, 2, 52, 18) :: (.pop, 0, 0, 0, 0) :: (.iconst (-1), 0, 0, 0, 0) :: (.ireturn, 0, 0, 0, 0) :: []
def mT_50 : List (Nat × List mm_I) := [(0, mB_50_0), (24, mB_50_24), (40, mB_50_40), (48, mB_50_48)]
-- 51: VillageBoard$Reader.readRule(I)Z
def mB_51_26 : List mm_I := (.aload_n 0, 0, 0, 0, 0) :: (.getfield 22, 4, 2, 34, 0) :: (.iload_n 1, 0, 0, 0, 0) :: (.iload_n 2, 0, 0, 0, 0) :: (.invokevirtual 128, 17, 3, 59, 32) :: (.iconst 1, 0, 0, 0, 0) :: (.ireturn, 0, 0, 0, 0) :: []
def mB_51_0 : List mm_I := (.aload_n 0, 0, 0, 0, 0) :: (.invokevirtual 50, 59, 1, 47, 1) :: (.aload_n 0, 0, 0, 0, 0) :: (.getfield 22, 4, 2, 34, 0) :: (.getfield 120, 2, 9, 45, 0) :: (.getfield 124, 5, 1, 46, 0) :: (.istore_n 2, 0, 0, 0, 0) :: (.aload_n 0, 0, 0, 0, 0) :: (.iconst 0, 0, 0, 0, 0) :: (.iconst 0, 0, 0, 0, 0) :: (.invokevirtual 125, 52, 3, 58, 18) :: (.ifCond .ne 5, 26, 0, 0, 0) :: (.iconst 0, 0, 0, 0, 0) :: (.ireturn, 0, 0, 0, 0) :: []
def mT_51 : List (Nat × List mm_I) := [(0, mB_51_0), (26, mB_51_26)]
-- 52: VillageBoard$Reader.readLevel(II)Z
def mB_52_96 : List mm_I := (.iconst 1, 0, 0, 0, 0) :: (.ireturn, 0, 0, 0, 0) :: []
def mB_52_78 : List mm_I := (.aload_n 0, 0, 0, 0, 0) :: (.getfield 22, 4, 2, 34, 0) :: (.getfield 120, 2, 9, 45, 0) :: (.iload 4, 0, 0, 0, 0) :: (.invokevirtual 140, 65, 2, 63, 87) :: (.iinc 3 1, 0, 0, 0, 0) :: (.goto (-55), 38, 0, 0, 0) :: []
def mB_52_38 : List mm_I := (.iload_n 3, 0, 0, 0, 0) :: (.sipush 700, 0, 0, 0, 0) :: (.if_icmp .ge 54, 96, 0, 0, 0) :: (.aload_n 0, 0, 0, 0, 0) :: (.iload_n 1, 0, 0, 0, 0) :: (.invokevirtual 137, 56, 2, 62, 47) :: (.iconst (-1), 0, 0, 0, 0) :: (.if_icmp .eq 45, 96, 0, 0, 0) :: (.aload_n 0, 0, 0, 0, 0) :: (.iload_n 1, 0, 0, 0, 0) :: (.invokevirtual 137, 56, 2, 62, 56) :: (.istore 4, 0, 0, 0, 0) :: (.aload_n 0, 0, 0, 0, 0) :: (.invokevirtual 50, 59, 1, 47, 62) :: (.aload_n 0, 0, 0, 0, 0) :: (.iload_n 1, 0, 0, 0, 0) :: (.iconst 1, 0, 0, 0, 0) :: (.iadd, 0, 0, 0, 0) :: (.iload_n 2, 0, 0, 0, 0) :: (.invokevirtual 125, 52, 3, 58, 70) :: (.ifCond .ne 5, 78, 0, 0, 0) :: (.iconst 0, 0, 0, 0, 0) :: (.ireturn, 0, 0, 0, 0) :: []
def mB_52_36 : List mm_I := (.iconst 0, 0, 0, 0, 0) :: (.istore_n 3, 0, 0, 0, 0) :: mB_52_38
def mB_52_23 : List mm_I := (.aload_n 0, 0, 0, 0, 0) :: (.iload_n 1, 0, 0, 0, 0) :: (.iconst 1, 0, 0, 0, 0) :: (.iadd, 0, 0, 0, 0) :: (.iload_n 2, 0, 0, 0, 0) :: (.invokevirtual 125, 52, 3, 58, 28) :: (.ifCond .ne 5, 36, 0, 0, 0) :: (.iconst 0, 0, 0, 0, 0) :: (.ireturn, 0, 0, 0, 0) :: []
def mB_52_12 : List mm_I := (.iload_n 1, 0, 0, 0, 0) :: (.iconst 5, 0, 0, 0, 0) :: (.if_icmp .lt 9, 23, 0, 0, 0) :: (.aload_n 0, 0, 0, 0, 0) :: (.iload_n 2, 0, 0, 0, 0) :: (.invokevirtual 134, 54, 2, 61, 19) :: (.ireturn, 0, 0, 0, 0) :: []
def mB_52_0 : List mm_I := (.iload_n 1, 0, 0, 0, 0) :: (.iconst 2, 0, 0, 0, 0) :: (.if_icmp .ne 10, 12, 0, 0, 0) :: (.aload_n 0, 0, 0, 0, 0) :: (.iload_n 1, 0, 0, 0, 0) :: (.iload_n 2, 0, 0, 0, 0) :: (.invokevirtual 131, 53, 3, 60, 8) :: (.ireturn, 0, 0, 0, 0) :: []
def mT_52 : List (Nat × List mm_I) := [(0, mB_52_0), (12, mB_52_12), (23, mB_52_23), (36, mB_52_36), (38, mB_52_38), (78, mB_52_78), (96, mB_52_96)]
-- 53: VillageBoard$Reader.readNot(II)Z
def mB_53_141 : List mm_I := (.iconst 1, 0, 0, 0, 0) :: (.ireturn, 0, 0, 0, 0) :: []
def mB_53_106 : List mm_I := (.iload 5, 0, 0, 0, 0) :: (.iload_n 3, 0, 0, 0, 0) :: (.if_icmp .ge 32, 141, 0, 0, 0) :: (.aload_n 0, 0, 0, 0, 0) :: (.getfield 22, 4, 2, 34, 0) :: (.getfield 120, 2, 9, 45, 0) :: (.iconst 0, 0, 0, 0, 0) :: (.invokevirtual 146, 64, 2, 64, 120) :: (.aload_n 0, 0, 0, 0, 0) :: (.getfield 22, 4, 2, 34, 0) :: (.getfield 120, 2, 9, 45, 0) :: (.bipush 15, 0, 0, 0, 0) :: (.invokevirtual 140, 65, 2, 63, 132) :: (.iinc 5 1, 0, 0, 0, 0) :: (.goto (-32), 106, 0, 0, 0) :: []
def mB_53_103 : List mm_I := (.iconst 0, 0, 0, 0, 0) :: (.istore 5, 0, 0, 0, 0) :: mB_53_106
def mB_53_91 : List mm_I := (.aload_n 0, 0, 0, 0, 0) :: (.getfield 22, 4, 2, 34, 0) :: (.getfield 120, 2, 9, 45, 0) :: (.iload 4, 0, 0, 0, 0) :: (.invokevirtual 140, 65, 2, 63, 100) :: mB_53_103
def mB_53_61 : List mm_I := (.aload_n 0, 0, 0, 0, 0) :: (.iload_n 1, 0, 0, 0, 0) :: (.invokevirtual 137, 56, 2, 62, 63) :: (.istore 4, 0, 0, 0, 0) :: (.iload 4, 0, 0, 0, 0) :: (.iconst (-1), 0, 0, 0, 0) :: (.if_icmp .eq 32, 103, 0, 0, 0) :: (.aload_n 0, 0, 0, 0, 0) :: (.invokevirtual 50, 59, 1, 47, 75) :: (.aload_n 0, 0, 0, 0, 0) :: (.iload_n 1, 0, 0, 0, 0) :: (.iconst 1, 0, 0, 0, 0) :: (.iadd, 0, 0, 0, 0) :: (.iload_n 2, 0, 0, 0, 0) :: (.invokevirtual 125, 52, 3, 58, 83) :: (.ifCond .ne 5, 91, 0, 0, 0) :: (.iconst 0, 0, 0, 0, 0) :: (.ireturn, 0, 0, 0, 0) :: []
def mB_53_48 : List mm_I := (.aload_n 0, 0, 0, 0, 0) :: (.iload_n 1, 0, 0, 0, 0) :: (.iconst 1, 0, 0, 0, 0) :: (.iadd, 0, 0, 0, 0) :: (.iload_n 2, 0, 0, 0, 0) :: (.invokevirtual 125, 52, 3, 58, 53) :: (.ifCond .ne 5, 61, 0, 0, 0) :: (.iconst 0, 0, 0, 0, 0) :: (.ireturn, 0, 0, 0, 0) :: []
def mB_53_27 : List mm_I := (.iload_n 3, 0, 0, 0, 0) :: (.bipush 6, 0, 0, 0, 0) :: (.if_icmp .ne 18, 48, 0, 0, 0) :: (.aload_n 0, 0, 0, 0, 0) :: (.ldc 144, 1, 5, 777, 0) :: (.invokevirtual 59, 58, 2, 49, 36) :: (.ifCond .eq 9, 48, 0, 0, 0) :: (.aload_n 0, 0, 0, 0, 0) :: (.iconst 2, 0, 0, 0, 0) :: (.invokevirtual 82, 46, 2, 52, 44) :: (.ireturn, 0, 0, 0, 0) :: []
def mB_53_2 : List mm_I := (.iload_n 3, 0, 0, 0, 0) :: (.bipush 6, 0, 0, 0, 0) :: (.if_icmp .ge 22, 27, 0, 0, 0) :: (.aload_n 0, 0, 0, 0, 0) :: (.ldc 144, 1, 5, 777, 0) :: (.invokevirtual 59, 58, 2, 49, 11) :: (.ifCond .eq 13, 27, 0, 0, 0) :: (.aload_n 0, 0, 0, 0, 0) :: (.invokevirtual 50, 59, 1, 47, 18) :: (.iinc 3 1, 0, 0, 0, 0) :: (.goto (-22), 2, 0, 0, 0) :: []
def mB_53_0 : List mm_I := (.iconst 0, 0, 0, 0, 0) :: (.istore_n 3, 0, 0, 0, 0) :: mB_53_2
def mT_53 : List (Nat × List mm_I) := [(0, mB_53_0), (2, mB_53_2), (27, mB_53_27), (48, mB_53_48), (61, mB_53_61), (91, mB_53_91), (103, mB_53_103), (106, mB_53_106), (141, mB_53_141)]
-- 54: VillageBoard$Reader.readPart(I)Z
def mB_54_147 : List mm_I := (.aload_n 0, 0, 0, 0, 0) :: (.invokevirtual 50, 59, 1, 47, 148) :: (.iconst 1, 0, 0, 0, 0) :: (.ireturn, 0, 0, 0, 0) :: []
def mB_54_143 : List mm_I := (.invokevirtual 82, 46, 2, 52, 143) :: (.ireturn, 0, 0, 0, 0) :: []
def mB_54_142 : List mm_I := (.iconst 1, 0, 0, 0, 0) :: mB_54_143
def mB_54_129 : List mm_I := (.aload_n 0, 0, 0, 0, 0) :: (.aload_n 0, 0, 0, 0, 0) :: (.getfield 35, 4, 6, 38, 0) :: (.iconst 3, 0, 0, 0, 0) :: (.if_icmp .ne 7, 142, 0, 0, 0) :: (.iconst 2, 0, 0, 0, 0) :: (.goto 4, 143, 0, 0, 0) :: []
def mB_54_104 : List mm_I := (.aload_n 0, 0, 0, 0, 0) :: (.getfield 35, 4, 6, 38, 0) :: (.iconst 2, 0, 0, 0, 0) :: (.if_icmp .ne 20, 129, 0, 0, 0) :: (.aload_n 0, 0, 0, 0, 0) :: (.getfield 22, 4, 2, 34, 0) :: (.getfield 120, 2, 9, 45, 0) :: (.aload_n 0, 0, 0, 0, 0) :: (.getfield 38, 4, 7, 39, 0) :: (.invokevirtual 146, 64, 2, 64, 123) :: (.goto 21, 147, 0, 0, 0) :: []
def mB_54_90 : List mm_I := (.aload_n 0, 0, 0, 0, 0) :: (.getfield 22, 4, 2, 34, 0) :: (.getfield 120, 2, 9, 45, 0) :: (.iload_n 2, 0, 0, 0, 0) :: (.invokevirtual 140, 65, 2, 63, 98) :: (.goto 46, 147, 0, 0, 0) :: []
def mB_54_66 : List mm_I := (.aload_n 0, 0, 0, 0, 0) :: (.getfield 35, 4, 6, 38, 0) :: (.iconst 1, 0, 0, 0, 0) :: (.if_icmp .ne 33, 104, 0, 0, 0) :: (.aload_n 0, 0, 0, 0, 0) :: (.invokevirtual 152, 57, 1, 66, 75) :: (.istore_n 2, 0, 0, 0, 0) :: (.iload_n 2, 0, 0, 0, 0) :: (.iconst (-1), 0, 0, 0, 0) :: (.if_icmp .ne 9, 90, 0, 0, 0) :: (.aload_n 0, 0, 0, 0, 0) :: (.iconst 3, 0, 0, 0, 0) :: (.invokevirtual 82, 46, 2, 52, 86) :: (.ireturn, 0, 0, 0, 0) :: []
def mB_54_51 : List mm_I := (.aload_n 0, 0, 0, 0, 0) :: (.getfield 35, 4, 6, 38, 0) :: (.bipush 41, 0, 0, 0, 0) :: (.if_icmp .eq 90, 147, 0, 0, 0) :: (.aload_n 0, 0, 0, 0, 0) :: (.iconst 1, 0, 0, 0, 0) :: (.invokevirtual 82, 46, 2, 52, 62) :: (.ireturn, 0, 0, 0, 0) :: []
def mB_54_38 : List mm_I := (.aload_n 0, 0, 0, 0, 0) :: (.iconst 0, 0, 0, 0, 0) :: (.iload_n 1, 0, 0, 0, 0) :: (.iconst 1, 0, 0, 0, 0) :: (.iadd, 0, 0, 0, 0) :: (.invokevirtual 125, 52, 3, 58, 43) :: (.ifCond .ne 5, 51, 0, 0, 0) :: (.iconst 0, 0, 0, 0, 0) :: (.ireturn, 0, 0, 0, 0) :: []
def mB_54_34 : List mm_I := (.invokevirtual 82, 46, 2, 52, 34) :: (.ireturn, 0, 0, 0, 0) :: []
def mB_54_33 : List mm_I := (.iconst 1, 0, 0, 0, 0) :: mB_54_34
def mB_54_0 : List mm_I := (.aload_n 0, 0, 0, 0, 0) :: (.getfield 35, 4, 6, 38, 0) :: (.bipush 40, 0, 0, 0, 0) :: (.if_icmp .ne 60, 66, 0, 0, 0) :: (.aload_n 0, 0, 0, 0, 0) :: (.invokevirtual 50, 59, 1, 47, 10) :: (.iload_n 1, 0, 0, 0, 0) :: (.iconst 1, 0, 0, 0, 0) :: (.iadd, 0, 0, 0, 0) :: (.bipush 6, 0, 0, 0, 0) :: (.if_icmp .lt 20, 38, 0, 0, 0) :: (.aload_n 0, 0, 0, 0, 0) :: (.aload_n 0, 0, 0, 0, 0) :: (.invokevirtual 149, 55, 1, 65, 23) :: (.ifCond .eq 7, 33, 0, 0, 0) :: (.iconst 2, 0, 0, 0, 0) :: (.goto 4, 34, 0, 0, 0) :: []
def mT_54 : List (Nat × List mm_I) := [(0, mB_54_0), (33, mB_54_33), (34, mB_54_34), (38, mB_54_38), (51, mB_54_51), (66, mB_54_66), (90, mB_54_90), (104, mB_54_104), (129, mB_54_129), (142, mB_54_142), (143, mB_54_143), (147, mB_54_147)]
-- 55: VillageBoard$Reader.canBegin()Z
def mB_55_38 : List mm_I := (.ireturn, 0, 0, 0, 0) :: []
def mB_55_37 : List mm_I := (.iconst 0, 0, 0, 0, 0) :: mB_55_38
def mB_55_33 : List mm_I := (.iconst 1, 0, 0, 0, 0) :: (.goto 4, 38, 0, 0, 0) :: []
def mB_55_0 : List mm_I := (.aload_n 0, 0, 0, 0, 0) :: (.getfield 35, 4, 6, 38, 0) :: (.iconst 1, 0, 0, 0, 0) :: (.if_icmp .eq 28, 33, 0, 0, 0) :: (.aload_n 0, 0, 0, 0, 0) :: (.getfield 35, 4, 6, 38, 0) :: (.iconst 2, 0, 0, 0, 0) :: (.if_icmp .eq 20, 33, 0, 0, 0) :: (.aload_n 0, 0, 0, 0, 0) :: (.getfield 35, 4, 6, 38, 0) :: (.iconst 3, 0, 0, 0, 0) :: (.if_icmp .eq 12, 33, 0, 0, 0) :: (.aload_n 0, 0, 0, 0, 0) :: (.getfield 35, 4, 6, 38, 0) :: (.bipush 40, 0, 0, 0, 0) :: (.if_icmp .ne 7, 37, 0, 0, 0) :: mB_55_33
def mT_55 : List (Nat × List mm_I) := [(0, mB_55_0), (33, mB_55_33), (37, mB_55_37), (38, mB_55_38)]
-- 56: VillageBoard$Reader.joint(I)I
def mB_56_158 : List mm_I := (.iconst (-1), 0, 0, 0, 0) :: (.ireturn, 0, 0, 0, 0) :: []
def mB_56_157 : List mm_I := (.ireturn, 0, 0, 0, 0) :: []
def mB_56_156 : List mm_I := (.iconst (-1), 0, 0, 0, 0) :: mB_56_157
def mB_56_142 : List mm_I := (.aload_n 0, 0, 0, 0, 0) :: (.getfield 35, 4, 6, 38, 0) :: (.bipush 47, 0, 0, 0, 0) :: (.if_icmp .ne 8, 156, 0, 0, 0) :: (.bipush 13, 0, 0, 0, 0) :: (.goto 4, 157, 0, 0, 0) :: []
def mB_56_128 : List mm_I := (.aload_n 0, 0, 0, 0, 0) :: (.getfield 35, 4, 6, 38, 0) :: (.bipush 42, 0, 0, 0, 0) :: (.if_icmp .ne 8, 142, 0, 0, 0) :: (.bipush 12, 0, 0, 0, 0) :: (.goto 18, 157, 0, 0, 0) :: []
def mB_56_127 : List mm_I := (.ireturn, 0, 0, 0, 0) :: []
def mB_56_126 : List mm_I := (.iconst (-1), 0, 0, 0, 0) :: mB_56_127
def mB_56_112 : List mm_I := (.aload_n 0, 0, 0, 0, 0) :: (.getfield 35, 4, 6, 38, 0) :: (.bipush 45, 0, 0, 0, 0) :: (.if_icmp .ne 8, 126, 0, 0, 0) :: (.bipush 11, 0, 0, 0, 0) :: (.goto 4, 127, 0, 0, 0) :: []
def mB_56_98 : List mm_I := (.aload_n 0, 0, 0, 0, 0) :: (.getfield 35, 4, 6, 38, 0) :: (.bipush 43, 0, 0, 0, 0) :: (.if_icmp .ne 8, 112, 0, 0, 0) :: (.bipush 10, 0, 0, 0, 0) :: (.goto 18, 127, 0, 0, 0) :: []
def mB_56_97 : List mm_I := (.ireturn, 0, 0, 0, 0) :: []
def mB_56_96 : List mm_I := (.iconst (-1), 0, 0, 0, 0) :: mB_56_97
def mB_56_82 : List mm_I := (.aload_n 0, 0, 0, 0, 0) :: (.getfield 35, 4, 6, 38, 0) :: (.bipush 61, 0, 0, 0, 0) :: (.if_icmp .ne 8, 96, 0, 0, 0) :: (.bipush 15, 0, 0, 0, 0) :: (.goto 4, 97, 0, 0, 0) :: []
def mB_56_68 : List mm_I := (.aload_n 0, 0, 0, 0, 0) :: (.getfield 35, 4, 6, 38, 0) :: (.bipush 60, 0, 0, 0, 0) :: (.if_icmp .ne 8, 82, 0, 0, 0) :: (.bipush 14, 0, 0, 0, 0) :: (.goto 18, 97, 0, 0, 0) :: []
def mB_56_67 : List mm_I := (.ireturn, 0, 0, 0, 0) :: []
def mB_56_66 : List mm_I := (.iconst (-1), 0, 0, 0, 0) :: mB_56_67
def mB_56_52 : List mm_I := (.aload_n 0, 0, 0, 0, 0) :: (.ldc 158, 1, 7, 783, 0) :: (.invokevirtual 59, 58, 2, 49, 55) :: (.ifCond .eq 8, 66, 0, 0, 0) :: (.bipush 8, 0, 0, 0, 0) :: (.goto 4, 67, 0, 0, 0) :: []
def mB_56_51 : List mm_I := (.ireturn, 0, 0, 0, 0) :: []
def mB_56_50 : List mm_I := (.iconst (-1), 0, 0, 0, 0) :: mB_56_51
def mB_56_36 : List mm_I := (.aload_n 0, 0, 0, 0, 0) :: (.ldc 156, 1, 6, 782, 0) :: (.invokevirtual 59, 58, 2, 49, 39) :: (.ifCond .eq 8, 50, 0, 0, 0) :: (.bipush 9, 0, 0, 0, 0) :: (.goto 4, 51, 0, 0, 0) :: []
def mB_56_0 : List mm_I := (.iload_n 1, 0, 0, 0, 0) :: (.tableswitch 157 0 4 #[35, 51, 67, 97, 127], 1, 0, 0, 0) :: []
def mT_56 : List (Nat × List mm_I) := [(0, mB_56_0), (36, mB_56_36), (50, mB_56_50), (51, mB_56_51), (52, mB_56_52), (66, mB_56_66), (67, mB_56_67), (68, mB_56_68), (82, mB_56_82), (96, mB_56_96), (97, mB_56_97), (98, mB_56_98), (112, mB_56_112), (126, mB_56_126), (127, mB_56_127), (128, mB_56_128), (142, mB_56_142), (156, mB_56_156), (157, mB_56_157), (158, mB_56_158)]
-- 57: VillageBoard$Reader.valueOfWord()I
def mB_57_107 : List mm_I := (.ireturn, 0, 0, 0, 0) :: []
def mB_57_106 : List mm_I := (.iconst (-1), 0, 0, 0, 0) :: mB_57_107
def mB_57_92 : List mm_I := (.aload_n 0, 0, 0, 0, 0) :: (.ldc 172, 1, 14, 814, 0) :: (.invokevirtual 59, 58, 2, 49, 95) :: (.ifCond .eq 8, 106, 0, 0, 0) :: (.bipush 7, 0, 0, 0, 0) :: (.goto 4, 107, 0, 0, 0) :: []
def mB_57_78 : List mm_I := (.aload_n 0, 0, 0, 0, 0) :: (.ldc 170, 1, 13, 813, 0) :: (.invokevirtual 59, 58, 2, 49, 81) :: (.ifCond .eq 8, 92, 0, 0, 0) :: (.bipush 6, 0, 0, 0, 0) :: (.goto 18, 107, 0, 0, 0) :: []
def mB_57_65 : List mm_I := (.aload_n 0, 0, 0, 0, 0) :: (.ldc 76, 1, 4, 764, 0) :: (.invokevirtual 59, 58, 2, 49, 68) :: (.ifCond .eq 7, 78, 0, 0, 0) :: (.iconst 5, 0, 0, 0, 0) :: (.goto 32, 107, 0, 0, 0) :: []
def mB_57_52 : List mm_I := (.aload_n 0, 0, 0, 0, 0) :: (.ldc 168, 1, 12, 812, 0) :: (.invokevirtual 59, 58, 2, 49, 55) :: (.ifCond .eq 7, 65, 0, 0, 0) :: (.iconst 4, 0, 0, 0, 0) :: (.goto 45, 107, 0, 0, 0) :: []
def mB_57_39 : List mm_I := (.aload_n 0, 0, 0, 0, 0) :: (.ldc 166, 1, 11, 811, 0) :: (.invokevirtual 59, 58, 2, 49, 42) :: (.ifCond .eq 7, 52, 0, 0, 0) :: (.iconst 3, 0, 0, 0, 0) :: (.goto 58, 107, 0, 0, 0) :: []
def mB_57_26 : List mm_I := (.aload_n 0, 0, 0, 0, 0) :: (.ldc 164, 1, 10, 810, 0) :: (.invokevirtual 59, 58, 2, 49, 29) :: (.ifCond .eq 7, 39, 0, 0, 0) :: (.iconst 2, 0, 0, 0, 0) :: (.goto 71, 107, 0, 0, 0) :: []
def mB_57_13 : List mm_I := (.aload_n 0, 0, 0, 0, 0) :: (.ldc 162, 1, 9, 809, 0) :: (.invokevirtual 59, 58, 2, 49, 16) :: (.ifCond .eq 7, 26, 0, 0, 0) :: (.iconst 1, 0, 0, 0, 0) :: (.goto 84, 107, 0, 0, 0) :: []
def mB_57_0 : List mm_I := (.aload_n 0, 0, 0, 0, 0) :: (.ldc 160, 1, 8, 808, 0) :: (.invokevirtual 59, 58, 2, 49, 3) :: (.ifCond .eq 7, 13, 0, 0, 0) :: (.iconst 0, 0, 0, 0, 0) :: (.goto 97, 107, 0, 0, 0) :: []
def mT_57 : List (Nat × List mm_I) := [(0, mB_57_0), (13, mB_57_13), (26, mB_57_26), (39, mB_57_39), (52, mB_57_52), (65, mB_57_65), (78, mB_57_78), (92, mB_57_92), (106, mB_57_106), (107, mB_57_107)]
-- 58: VillageBoard$Reader.isWord(Ljava/lang/String;)Z
def mB_58_78 : List mm_I := (.iconst 1, 0, 0, 0, 0) :: (.ireturn, 0, 0, 0, 0) :: []
def mB_58_72 : List mm_I := (.iinc 2 1, 0, 0, 0, 0) :: (.goto (-47), 28, 0, 0, 0) :: []
def mB_58_70 : List mm_I := (.iconst 0, 0, 0, 0, 0) :: (.ireturn, 0, 0, 0, 0) :: []
def mB_58_28 : List mm_I := (.iload_n 2, 0, 0, 0, 0) :: (.aload_n 1, 0, 0, 0, 0) :: (.invokevirtual 174, 9001, 1, 67, 30) :: (.if_icmp .ge 45, 78, 0, 0, 0) :: (.aload_n 0, 0, 0, 0, 0) :: (.getfield 29, 4, 4, 36, 0) :: (.iload_n 2, 0, 0, 0, 0) :: (.iadd, 0, 0, 0, 0) :: (.istore_n 3, 0, 0, 0, 0) :: (.iload_n 3, 0, 0, 0, 0) :: (.ifCond .lt 26, 70, 0, 0, 0) :: (.iload_n 3, 0, 0, 0, 0) :: (.aload_n 0, 0, 0, 0, 0) :: (.getfield 9, 4, 0, 32, 0) :: (.arraylength, 0, 0, 0, 0) :: (.if_icmp .ge 17, 70, 0, 0, 0) :: (.aload_n 0, 0, 0, 0, 0) :: (.getfield 9, 4, 0, 32, 0) :: (.iload_n 3, 0, 0, 0, 0) :: (.iaload, 0, 0, 0, 0) :: (.aload_n 1, 0, 0, 0, 0) :: (.iload_n 2, 0, 0, 0, 0) :: (.invokevirtual 178, 9002, 2, 68, 64) :: (.if_icmp .eq 5, 72, 0, 0, 0) :: mB_58_70
def mB_58_26 : List mm_I := (.iconst 0, 0, 0, 0, 0) :: (.istore_n 2, 0, 0, 0, 0) :: mB_58_28
def mB_58_24 : List mm_I := (.iconst 0, 0, 0, 0, 0) :: (.ireturn, 0, 0, 0, 0) :: []
def mB_58_0 : List mm_I := (.aload_n 0, 0, 0, 0, 0) :: (.getfield 35, 4, 6, 38, 0) :: (.iconst 1, 0, 0, 0, 0) :: (.if_icmp .ne 19, 24, 0, 0, 0) :: (.aload_n 0, 0, 0, 0, 0) :: (.getfield 32, 4, 5, 37, 0) :: (.aload_n 0, 0, 0, 0, 0) :: (.getfield 29, 4, 4, 36, 0) :: (.isub, 0, 0, 0, 0) :: (.aload_n 1, 0, 0, 0, 0) :: (.invokevirtual 174, 9001, 1, 67, 18) :: (.if_icmp .eq 5, 26, 0, 0, 0) :: mB_58_24
def mT_58 : List (Nat × List mm_I) := [(0, mB_58_0), (24, mB_58_24), (26, mB_58_26), (28, mB_58_28), (70, mB_58_70), (72, mB_58_72), (78, mB_58_78)]
-- 59: VillageBoard$Reader.nextToken()V
def mB_59_226 : List mm_I := (.return_, 0, 0, 0, 0) :: []
def mB_59_200 : List mm_I := (.aload_n 0, 0, 0, 0, 0) :: (.getfield 35, 4, 6, 38, 0) :: (.iconst 2, 0, 0, 0, 0) :: (.if_icmp .ne 21, 226, 0, 0, 0) :: (.aload_n 0, 0, 0, 0, 0) :: (.getfield 32, 4, 5, 37, 0) :: (.aload_n 0, 0, 0, 0, 0) :: (.getfield 29, 4, 4, 36, 0) :: (.isub, 0, 0, 0, 0) :: (.iconst 4, 0, 0, 0, 0) :: (.if_icmp .le 8, 226, 0, 0, 0) :: (.aload_n 0, 0, 0, 0, 0) :: (.iconst 3, 0, 0, 0, 0) :: (.putfield 35, 4, 6, 38, 0) :: mB_59_226
def mB_59_179 : List mm_I := (.iload_n 1, 0, 0, 0, 0) :: (.ifCond .ne 20, 200, 0, 0, 0) :: (.aload_n 0, 0, 0, 0, 0) :: (.getfield 35, 4, 6, 38, 0) :: (.ifCond .eq 13, 200, 0, 0, 0) :: (.aload_n 0, 0, 0, 0, 0) :: (.dup, 0, 0, 0, 0) :: (.getfield 32, 4, 5, 37, 0) :: (.iconst 1, 0, 0, 0, 0) :: (.iadd, 0, 0, 0, 0) :: (.putfield 32, 4, 5, 37, 0) :: mB_59_200
def mB_59_111 : List mm_I := (.iload_n 2, 0, 0, 0, 0) :: (.sipush 700, 0, 0, 0, 0) :: (.if_icmp .ge 64, 179, 0, 0, 0) :: (.iload_n 1, 0, 0, 0, 0) :: (.ifCond .eq 60, 179, 0, 0, 0) :: (.aload_n 0, 0, 0, 0, 0) :: (.aload_n 0, 0, 0, 0, 0) :: (.getfield 32, 4, 5, 37, 0) :: (.invokevirtual 182, 60, 2, 69, 127) :: (.invokestatic 185, 61, 1, 70, 130) :: (.aload_n 0, 0, 0, 0, 0) :: (.getfield 35, 4, 6, 38, 0) :: (.if_icmp .ne 42, 179, 0, 0, 0) :: (.aload_n 0, 0, 0, 0, 0) :: (.bipush 10, 0, 0, 0, 0) :: (.aload_n 0, 0, 0, 0, 0) :: (.getfield 38, 4, 7, 39, 0) :: (.imul, 0, 0, 0, 0) :: (.aload_n 0, 0, 0, 0, 0) :: (.aload_n 0, 0, 0, 0, 0) :: (.getfield 32, 4, 5, 37, 0) :: (.invokevirtual 182, 60, 2, 69, 153) :: (.iadd, 0, 0, 0, 0) :: (.bipush 48, 0, 0, 0, 0) :: (.isub, 0, 0, 0, 0) :: (.putfield 38, 4, 7, 39, 0) :: (.aload_n 0, 0, 0, 0, 0) :: (.dup, 0, 0, 0, 0) :: (.getfield 32, 4, 5, 37, 0) :: (.iconst 1, 0, 0, 0, 0) :: (.iadd, 0, 0, 0, 0) :: (.putfield 32, 4, 5, 37, 0) :: (.iinc 2 1, 0, 0, 0, 0) :: (.goto (-65), 111, 0, 0, 0) :: []
def mB_59_108 : List mm_I := (.istore_n 1, 0, 0, 0, 0) :: (.iconst 0, 0, 0, 0, 0) :: (.istore_n 2, 0, 0, 0, 0) :: mB_59_111
def mB_59_107 : List mm_I := (.iconst 0, 0, 0, 0, 0) :: mB_59_108
def mB_59_103 : List mm_I := (.iconst 1, 0, 0, 0, 0) :: (.goto 4, 108, 0, 0, 0) :: []
def mB_59_59 : List mm_I := (.aload_n 0, 0, 0, 0, 0) :: (.aload_n 0, 0, 0, 0, 0) :: (.getfield 29, 4, 4, 36, 0) :: (.putfield 32, 4, 5, 37, 0) :: (.aload_n 0, 0, 0, 0, 0) :: (.aload_n 0, 0, 0, 0, 0) :: (.aload_n 0, 0, 0, 0, 0) :: (.getfield 29, 4, 4, 36, 0) :: (.invokevirtual 182, 60, 2, 69, 73) :: (.invokestatic 185, 61, 1, 70, 76) :: (.putfield 35, 4, 6, 38, 0) :: (.aload_n 0, 0, 0, 0, 0) :: (.iconst 0, 0, 0, 0, 0) :: (.putfield 38, 4, 7, 39, 0) :: (.aload_n 0, 0, 0, 0, 0) :: (.getfield 35, 4, 6, 38, 0) :: (.iconst 1, 0, 0, 0, 0) :: (.if_icmp .eq 11, 103, 0, 0, 0) :: (.aload_n 0, 0, 0, 0, 0) :: (.getfield 35, 4, 6, 38, 0) :: (.iconst 2, 0, 0, 0, 0) :: (.if_icmp .ne 7, 107, 0, 0, 0) :: mB_59_103
def mB_59_43 : List mm_I := (.aload_n 0, 0, 0, 0, 0) :: (.dup, 0, 0, 0, 0) :: (.getfield 29, 4, 4, 36, 0) :: (.iconst 1, 0, 0, 0, 0) :: (.iadd, 0, 0, 0, 0) :: (.putfield 29, 4, 4, 36, 0) :: (.iinc 1 1, 0, 0, 0, 0) :: (.goto (-46), 10, 0, 0, 0) :: []
def mB_59_10 : List mm_I := (.iload_n 1, 0, 0, 0, 0) :: (.sipush 700, 0, 0, 0, 0) :: (.if_icmp .ge 45, 59, 0, 0, 0) :: (.aload_n 0, 0, 0, 0, 0) :: (.aload_n 0, 0, 0, 0, 0) :: (.getfield 29, 4, 4, 36, 0) :: (.invokevirtual 182, 60, 2, 69, 22) :: (.bipush 32, 0, 0, 0, 0) :: (.if_icmp .eq 16, 43, 0, 0, 0) :: (.aload_n 0, 0, 0, 0, 0) :: (.aload_n 0, 0, 0, 0, 0) :: (.getfield 29, 4, 4, 36, 0) :: (.invokevirtual 182, 60, 2, 69, 35) :: (.bipush 10, 0, 0, 0, 0) :: (.if_icmp .ne 19, 59, 0, 0, 0) :: mB_59_43
def mB_59_0 : List mm_I := (.aload_n 0, 0, 0, 0, 0) :: (.aload_n 0, 0, 0, 0, 0) :: (.getfield 32, 4, 5, 37, 0) :: (.putfield 29, 4, 4, 36, 0) :: (.iconst 0, 0, 0, 0, 0) :: (.istore_n 1, 0, 0, 0, 0) :: mB_59_10
def mT_59 : List (Nat × List mm_I) := [(0, mB_59_0), (10, mB_59_10), (43, mB_59_43), (59, mB_59_59), (103, mB_59_103), (107, mB_59_107), (108, mB_59_108), (111, mB_59_111), (179, mB_59_179), (200, mB_59_200), (226, mB_59_226)]
-- 60: VillageBoard$Reader.byteAt(I)I
def mB_60_31 : List mm_I := (.ireturn, 0, 0, 0, 0) :: []
def mB_60_30 : List mm_I := (.iconst (-1), 0, 0, 0, 0) :: mB_60_31
def mB_60_0 : List mm_I := (.iload_n 1, 0, 0, 0, 0) :: (.ifCond .lt 29, 30, 0, 0, 0) :: (.iload_n 1, 0, 0, 0, 0) :: (.aload_n 0, 0, 0, 0, 0) :: (.getfield 15, 4, 1, 33, 0) :: (.if_icmp .ge 21, 30, 0, 0, 0) :: (.iload_n 1, 0, 0, 0, 0) :: (.aload_n 0, 0, 0, 0, 0) :: (.getfield 9, 4, 0, 32, 0) :: (.arraylength, 0, 0, 0, 0) :: (.if_icmp .ge 12, 30, 0, 0, 0) :: (.aload_n 0, 0, 0, 0, 0) :: (.getfield 9, 4, 0, 32, 0) :: (.iload_n 1, 0, 0, 0, 0) :: (.iaload, 0, 0, 0, 0) :: (.goto 4, 31, 0, 0, 0) :: []
def mT_60 : List (Nat × List mm_I) := [(0, mB_60_0), (30, mB_60_30), (31, mB_60_31)]
-- 61: VillageBoard$Reader.kindOf(I)I
def mB_61_124 : List mm_I := (.iconst 4, 0, 0, 0, 0) :: (.ireturn, 0, 0, 0, 0) :: []
def mB_61_122 : List mm_I := (.iload_n 0, 0, 0, 0, 0) :: (.ireturn, 0, 0, 0, 0) :: []
def mB_61_120 : List mm_I := (.iconst 0, 0, 0, 0, 0) :: (.ireturn, 0, 0, 0, 0) :: []
def mB_61_28 : List mm_I := (.iload_n 0, 0, 0, 0, 0) :: (.lookupswitch 95 #[(-1, 91), (40, 93), (41, 93), (42, 93), (43, 93), (45, 93), (47, 93), (59, 93), (60, 93), (61, 93)], 29, 0, 0, 0) :: []
def mB_61_14 : List mm_I := (.iload_n 0, 0, 0, 0, 0) :: (.bipush 48, 0, 0, 0, 0) :: (.if_icmp .lt 11, 28, 0, 0, 0) :: (.iload_n 0, 0, 0, 0, 0) :: (.bipush 57, 0, 0, 0, 0) :: (.if_icmp .gt 5, 28, 0, 0, 0) :: (.iconst 2, 0, 0, 0, 0) :: (.ireturn, 0, 0, 0, 0) :: []
def mB_61_0 : List mm_I := (.iload_n 0, 0, 0, 0, 0) :: (.bipush 97, 0, 0, 0, 0) :: (.if_icmp .lt 11, 14, 0, 0, 0) :: (.iload_n 0, 0, 0, 0, 0) :: (.bipush 122, 0, 0, 0, 0) :: (.if_icmp .gt 5, 14, 0, 0, 0) :: (.iconst 1, 0, 0, 0, 0) :: (.ireturn, 0, 0, 0, 0) :: []
def mT_61 : List (Nat × List mm_I) := [(0, mB_61_0), (14, mB_61_14), (28, mB_61_28), (120, mB_61_120), (122, mB_61_122), (124, mB_61_124)]
-- 62: VillageBoard$Rules.<init>()V
def mB_62_0 : List mm_I := (.aload_n 0, 0, 0, 0, 0) :: (.invokespecial 3, 9000, 1, 71, 1) :: (.aload_n 0, 0, 0, 0, 0) :: (.sipush 700, 0, 0, 0, 0) :: (.newarray .int, 0, 0, 0, 0) :: (.putfield 9, 5, 0, 47, 0) :: (.aload_n 0, 0, 0, 0, 0) :: (.iconst 0, 0, 0, 0, 0) :: (.putfield 15, 5, 1, 48, 0) :: (.aload_n 0, 0, 0, 0, 0) :: (.iconst 4, 0, 0, 0, 0) :: (.newarray .int, 0, 0, 0, 0) :: (.putfield 19, 5, 2, 49, 0) :: (.aload_n 0, 0, 0, 0, 0) :: (.iconst 4, 0, 0, 0, 0) :: (.newarray .int, 0, 0, 0, 0) :: (.putfield 22, 5, 3, 50, 0) :: (.aload_n 0, 0, 0, 0, 0) :: (.bipush 8, 0, 0, 0, 0) :: (.newarray .int, 0, 0, 0, 0) :: (.putfield 25, 5, 4, 51, 0) :: (.aload_n 0, 0, 0, 0, 0) :: (.bipush 64, 0, 0, 0, 0) :: (.newarray .int, 0, 0, 0, 0) :: (.putfield 28, 5, 5, 52, 0) :: (.return_, 0, 0, 0, 0) :: []
def mT_62 : List (Nat × List mm_I) := [(0, mB_62_0)]
-- 63: VillageBoard$Rules.clear()V
def mB_63_32 : List mm_I := (.return_, 0, 0, 0, 0) :: []
def mB_63_7 : List mm_I := (.iload_n 1, 0, 0, 0, 0) :: (.iconst 3, 0, 0, 0, 0) :: (.if_icmp .gt 23, 32, 0, 0, 0) :: (.aload_n 0, 0, 0, 0, 0) :: (.getfield 19, 5, 2, 49, 0) :: (.iload_n 1, 0, 0, 0, 0) :: (.iconst 0, 0, 0, 0, 0) :: (.iastore, 0, 0, 0, 0) :: (.aload_n 0, 0, 0, 0, 0) :: (.getfield 22, 5, 3, 50, 0) :: (.iload_n 1, 0, 0, 0, 0) :: (.iconst 0, 0, 0, 0, 0) :: (.iastore, 0, 0, 0, 0) :: (.iinc 1 1, 0, 0, 0, 0) :: (.goto (-22), 7, 0, 0, 0) :: []
def mB_63_0 : List mm_I := (.aload_n 0, 0, 0, 0, 0) :: (.iconst 0, 0, 0, 0, 0) :: (.putfield 15, 5, 1, 48, 0) :: (.iconst 0, 0, 0, 0, 0) :: (.istore_n 1, 0, 0, 0, 0) :: mB_63_7
def mT_63 : List (Nat × List mm_I) := [(0, mB_63_0), (7, mB_63_7), (32, mB_63_32)]
-- 64: VillageBoard$Rules.addNumber(I)V
def mB_64_0 : List mm_I := (.aload_n 0, 0, 0, 0, 0) :: (.iload_n 1, 0, 0, 0, 0) :: (.invokevirtual 31, 66, 2, 72, 2) :: (.return_, 0, 0, 0, 0) :: []
def mT_64 : List (Nat × List mm_I) := [(0, mB_64_0)]
-- 65: VillageBoard$Rules.addSign(I)V
def mB_65_0 : List mm_I := (.aload_n 0, 0, 0, 0, 0) :: (.iconst (-1), 0, 0, 0, 0) :: (.iload_n 1, 0, 0, 0, 0) :: (.isub, 0, 0, 0, 0) :: (.invokevirtual 31, 66, 2, 72, 4) :: (.return_, 0, 0, 0, 0) :: []
def mT_65 : List (Nat × List mm_I) := [(0, mB_65_0)]
-- 66: VillageBoard$Rules.put(I)V
def mB_66_30 : List mm_I := (.return_, 0, 0, 0, 0) :: []
def mB_66_0 : List mm_I := (.aload_n 0, 0, 0, 0, 0) :: (.getfield 15, 5, 1, 48, 0) :: (.sipush 700, 0, 0, 0, 0) :: (.if_icmp .ge 23, 30, 0, 0, 0) :: (.aload_n 0, 0, 0, 0, 0) :: (.getfield 9, 5, 0, 47, 0) :: (.aload_n 0, 0, 0, 0, 0) :: (.getfield 15, 5, 1, 48, 0) :: (.iload_n 1, 0, 0, 0, 0) :: (.iastore, 0, 0, 0, 0) :: (.aload_n 0, 0, 0, 0, 0) :: (.dup, 0, 0, 0, 0) :: (.getfield 15, 5, 1, 48, 0) :: (.iconst 1, 0, 0, 0, 0) :: (.iadd, 0, 0, 0, 0) :: (.putfield 15, 5, 1, 48, 0) :: mB_66_30
def mT_66 : List (Nat × List mm_I) := [(0, mB_66_0), (30, mB_66_30)]
-- 67: VillageBoard$Rules.setRule(II)V
def mB_67_26 : List mm_I := (.return_, 0, 0, 0, 0) :: []
def mB_67_0 : List mm_I := (.iload_n 1, 0, 0, 0, 0) :: (.ifCond .lt 25, 26, 0, 0, 0) :: (.iload_n 1, 0, 0, 0, 0) :: (.iconst 3, 0, 0, 0, 0) :: (.if_icmp .gt 20, 26, 0, 0, 0) :: (.aload_n 0, 0, 0, 0, 0) :: (.getfield 19, 5, 2, 49, 0) :: (.iload_n 1, 0, 0, 0, 0) :: (.iload_n 2, 0, 0, 0, 0) :: (.iastore, 0, 0, 0, 0) :: (.aload_n 0, 0, 0, 0, 0) :: (.getfield 22, 5, 3, 50, 0) :: (.iload_n 1, 0, 0, 0, 0) :: (.aload_n 0, 0, 0, 0, 0) :: (.getfield 15, 5, 1, 48, 0) :: (.iastore, 0, 0, 0, 0) :: mB_67_26
def mT_67 : List (Nat × List mm_I) := [(0, mB_67_0), (26, mB_67_26)]
-- 68: VillageBoard$Rules.give(I)I
def mB_68_315 : List mm_I := (.ireturn, 0, 0, 0, 0) :: []
def mB_68_314 : List mm_I := (.iconst 0, 0, 0, 0, 0) :: mB_68_315
def mB_68_299 : List mm_I := (.iload_n 2, 0, 0, 0, 0) :: (.ifCond .le 14, 314, 0, 0, 0) :: (.aload_n 0, 0, 0, 0, 0) :: (.getfield 28, 5, 5, 52, 0) :: (.iload_n 2, 0, 0, 0, 0) :: (.iconst 1, 0, 0, 0, 0) :: (.isub, 0, 0, 0, 0) :: (.iaload, 0, 0, 0, 0) :: (.goto 4, 315, 0, 0, 0) :: []
def mB_68_293 : List mm_I := (.iinc 3 1, 0, 0, 0, 0) :: (.goto (-276), 20, 0, 0, 0) :: []
def mB_68_283 : List mm_I := (.aload_n 0, 0, 0, 0, 0) :: (.getfield 28, 5, 5, 52, 0) :: (.iload_n 2, 0, 0, 0, 0) :: (.iconst 1, 0, 0, 0, 0) :: (.isub, 0, 0, 0, 0) :: (.iload 6, 0, 0, 0, 0) :: (.iastore, 0, 0, 0, 0) :: mB_68_293
def mB_68_278 : List mm_I := (.istore 6, 0, 0, 0, 0) :: (.goto 3, 283, 0, 0, 0) :: []
def mB_68_277 : List mm_I := (.iconst 0, 0, 0, 0, 0) :: mB_68_278
def mB_68_266 : List mm_I := (.iload 6, 0, 0, 0, 0) :: (.iload 7, 0, 0, 0, 0) :: (.if_icmp .ne 7, 277, 0, 0, 0) :: (.iconst 1, 0, 0, 0, 0) :: (.goto 4, 278, 0, 0, 0) :: []
def mB_68_261 : List mm_I := (.istore 6, 0, 0, 0, 0) :: (.goto 20, 283, 0, 0, 0) :: []
def mB_68_260 : List mm_I := (.iconst 0, 0, 0, 0, 0) :: mB_68_261
def mB_68_249 : List mm_I := (.iload 6, 0, 0, 0, 0) :: (.iload 7, 0, 0, 0, 0) :: (.if_icmp .ge 7, 260, 0, 0, 0) :: (.iconst 1, 0, 0, 0, 0) :: (.goto 4, 261, 0, 0, 0) :: []
def mB_68_244 : List mm_I := (.istore 6, 0, 0, 0, 0) :: (.goto 37, 283, 0, 0, 0) :: []
def mB_68_239 : List mm_I := (.iload 6, 0, 0, 0, 0) :: (.iload 7, 0, 0, 0, 0) :: (.idiv, 0, 0, 0, 0) :: mB_68_244
def mB_68_230 : List mm_I := (.iload 7, 0, 0, 0, 0) :: (.ifCond .ne 7, 239, 0, 0, 0) :: (.iconst 0, 0, 0, 0, 0) :: (.goto 8, 244, 0, 0, 0) :: []
def mB_68_220 : List mm_I := (.iload 6, 0, 0, 0, 0) :: (.iload 7, 0, 0, 0, 0) :: (.imul, 0, 0, 0, 0) :: (.istore 6, 0, 0, 0, 0) :: (.goto 56, 283, 0, 0, 0) :: []
def mB_68_210 : List mm_I := (.iload 6, 0, 0, 0, 0) :: (.iload 7, 0, 0, 0, 0) :: (.isub, 0, 0, 0, 0) :: (.istore 6, 0, 0, 0, 0) :: (.goto 66, 283, 0, 0, 0) :: []
def mB_68_200 : List mm_I := (.iload 6, 0, 0, 0, 0) :: (.iload 7, 0, 0, 0, 0) :: (.iadd, 0, 0, 0, 0) :: (.istore 6, 0, 0, 0, 0) :: (.goto 76, 283, 0, 0, 0) :: []
def mB_68_195 : List mm_I := (.istore 6, 0, 0, 0, 0) :: (.goto 86, 283, 0, 0, 0) :: []
def mB_68_194 : List mm_I := (.iconst 0, 0, 0, 0, 0) :: mB_68_195
def mB_68_190 : List mm_I := (.iconst 1, 0, 0, 0, 0) :: (.goto 4, 195, 0, 0, 0) :: []
def mB_68_180 : List mm_I := (.iload 6, 0, 0, 0, 0) :: (.ifCond .ne 8, 190, 0, 0, 0) :: (.iload 7, 0, 0, 0, 0) :: (.ifCond .eq 7, 194, 0, 0, 0) :: mB_68_190
def mB_68_175 : List mm_I := (.istore 6, 0, 0, 0, 0) :: (.goto 106, 283, 0, 0, 0) :: []
def mB_68_174 : List mm_I := (.iconst 0, 0, 0, 0, 0) :: mB_68_175
def mB_68_160 : List mm_I := (.iload 6, 0, 0, 0, 0) :: (.ifCond .eq 12, 174, 0, 0, 0) :: (.iload 7, 0, 0, 0, 0) :: (.ifCond .eq 7, 174, 0, 0, 0) :: (.iconst 1, 0, 0, 0, 0) :: (.goto 4, 175, 0, 0, 0) :: []
def mB_68_86 : List mm_I := (.iload_n 2, 0, 0, 0, 0) :: (.iconst 2, 0, 0, 0, 0) :: (.if_icmp .lt 205, 293, 0, 0, 0) :: (.iinc 2 (-1), 0, 0, 0, 0) :: (.aload_n 0, 0, 0, 0, 0) :: (.getfield 28, 5, 5, 52, 0) :: (.iload_n 2, 0, 0, 0, 0) :: (.iconst 1, 0, 0, 0, 0) :: (.isub, 0, 0, 0, 0) :: (.iaload, 0, 0, 0, 0) :: (.istore 6, 0, 0, 0, 0) :: (.aload_n 0, 0, 0, 0, 0) :: (.getfield 28, 5, 5, 52, 0) :: (.iload_n 2, 0, 0, 0, 0) :: (.iaload, 0, 0, 0, 0) :: (.istore 7, 0, 0, 0, 0) :: (.iload 5, 0, 0, 0, 0) :: (.tableswitch 169 8 15 #[46, 66, 86, 96, 106, 116, 135, 152], 114, 0, 0, 0) :: []
def mB_68_79 : List mm_I := (.iastore, 0, 0, 0, 0) :: (.iinc 2 1, 0, 0, 0, 0) :: (.goto 210, 293, 0, 0, 0) :: []
def mB_68_72 : List mm_I := (.aload_n 0, 0, 0, 0, 0) :: (.getfield 25, 5, 4, 51, 0) :: (.iload 5, 0, 0, 0, 0) :: (.iaload, 0, 0, 0, 0) :: mB_68_79
def mB_68_20 : List mm_I := (.iload_n 3, 0, 0, 0, 0) :: (.aload_n 0, 0, 0, 0, 0) :: (.getfield 22, 5, 3, 50, 0) :: (.iload_n 1, 0, 0, 0, 0) :: (.iaload, 0, 0, 0, 0) :: (.if_icmp .ge 272, 299, 0, 0, 0) :: (.aload_n 0, 0, 0, 0, 0) :: (.getfield 9, 5, 0, 47, 0) :: (.iload_n 3, 0, 0, 0, 0) :: (.iaload, 0, 0, 0, 0) :: (.istore 4, 0, 0, 0, 0) :: (.iconst (-1), 0, 0, 0, 0) :: (.iload 4, 0, 0, 0, 0) :: (.isub, 0, 0, 0, 0) :: (.istore 5, 0, 0, 0, 0) :: (.iload 5, 0, 0, 0, 0) :: (.bipush 8, 0, 0, 0, 0) :: (.if_icmp .ge 38, 86, 0, 0, 0) :: (.iload_n 2, 0, 0, 0, 0) :: (.bipush 64, 0, 0, 0, 0) :: (.if_icmp .ge 32, 86, 0, 0, 0) :: (.aload_n 0, 0, 0, 0, 0) :: (.getfield 28, 5, 5, 52, 0) :: (.iload_n 2, 0, 0, 0, 0) :: (.iload 4, 0, 0, 0, 0) :: (.ifCond .lt 8, 72, 0, 0, 0) :: (.iload 4, 0, 0, 0, 0) :: (.goto 10, 79, 0, 0, 0) :: []
def mB_68_11 : List mm_I := (.iconst 0, 0, 0, 0, 0) :: (.istore_n 2, 0, 0, 0, 0) :: (.aload_n 0, 0, 0, 0, 0) :: (.getfield 19, 5, 2, 49, 0) :: (.iload_n 1, 0, 0, 0, 0) :: (.iaload, 0, 0, 0, 0) :: (.istore_n 3, 0, 0, 0, 0) :: mB_68_20
def mB_68_9 : List mm_I := (.iconst 0, 0, 0, 0, 0) :: (.ireturn, 0, 0, 0, 0) :: []
def mB_68_0 : List mm_I := (.iload_n 1, 0, 0, 0, 0) :: (.ifCond .lt 8, 9, 0, 0, 0) :: (.iload_n 1, 0, 0, 0, 0) :: (.iconst 3, 0, 0, 0, 0) :: (.if_icmp .le 5, 11, 0, 0, 0) :: mB_68_9
def mT_68 : List (Nat × List mm_I) := [(0, mB_68_0), (9, mB_68_9), (11, mB_68_11), (20, mB_68_20), (72, mB_68_72), (79, mB_68_79), (86, mB_68_86), (160, mB_68_160), (174, mB_68_174), (175, mB_68_175), (180, mB_68_180), (190, mB_68_190), (194, mB_68_194), (195, mB_68_195), (200, mB_68_200), (210, mB_68_210), (220, mB_68_220), (230, mB_68_230), (239, mB_68_239), (244, mB_68_244), (249, mB_68_249), (260, mB_68_260), (261, mB_68_261), (266, mB_68_266), (277, mB_68_277), (278, mB_68_278), (283, mB_68_283), (293, mB_68_293), (299, mB_68_299), (314, mB_68_314), (315, mB_68_315)]
-- 69: VillageBoard$Sightings.<init>()V
def mB_69_0 : List mm_I := (.aload_n 0, 0, 0, 0, 0) :: (.invokespecial 3, 9000, 1, 73, 1) :: (.aload_n 0, 0, 0, 0, 0) :: (.bipush 6, 0, 0, 0, 0) :: (.newarray .int, 0, 0, 0, 0) :: (.putfield 9, 6, 0, 53, 0) :: (.aload_n 0, 0, 0, 0, 0) :: (.bipush 6, 0, 0, 0, 0) :: (.newarray .int, 0, 0, 0, 0) :: (.putfield 15, 6, 1, 54, 0) :: (.aload_n 0, 0, 0, 0, 0) :: (.iconst 0, 0, 0, 0, 0) :: (.putfield 18, 6, 2, 55, 0) :: (.return_, 0, 0, 0, 0) :: []
def mT_69 : List (Nat × List mm_I) := [(0, mB_69_0)]
-- 70: VillageBoard$Sightings.clear()V
def mB_70_0 : List mm_I := (.aload_n 0, 0, 0, 0, 0) :: (.iconst 0, 0, 0, 0, 0) :: (.putfield 18, 6, 2, 55, 0) :: (.return_, 0, 0, 0, 0) :: []
def mT_70 : List (Nat × List mm_I) := [(0, mB_70_0)]
-- 71: VillageBoard$Sightings.add(II)V
def mB_71_39 : List mm_I := (.return_, 0, 0, 0, 0) :: []
def mB_71_0 : List mm_I := (.aload_n 0, 0, 0, 0, 0) :: (.getfield 18, 6, 2, 55, 0) :: (.bipush 6, 0, 0, 0, 0) :: (.if_icmp .ge 33, 39, 0, 0, 0) :: (.aload_n 0, 0, 0, 0, 0) :: (.getfield 9, 6, 0, 53, 0) :: (.aload_n 0, 0, 0, 0, 0) :: (.getfield 18, 6, 2, 55, 0) :: (.iload_n 1, 0, 0, 0, 0) :: (.iastore, 0, 0, 0, 0) :: (.aload_n 0, 0, 0, 0, 0) :: (.getfield 15, 6, 1, 54, 0) :: (.aload_n 0, 0, 0, 0, 0) :: (.getfield 18, 6, 2, 55, 0) :: (.iload_n 2, 0, 0, 0, 0) :: (.iastore, 0, 0, 0, 0) :: (.aload_n 0, 0, 0, 0, 0) :: (.dup, 0, 0, 0, 0) :: (.getfield 18, 6, 2, 55, 0) :: (.iconst 1, 0, 0, 0, 0) :: (.iadd, 0, 0, 0, 0) :: (.putfield 18, 6, 2, 55, 0) :: mB_71_39
def mT_71 : List (Nat × List mm_I) := [(0, mB_71_0), (39, mB_71_39)]
-- 72: VillageBoard$Sightings.copyFrom(LVillageBoard$Sightings;)V
def mB_72_0 : List mm_I := (.aload_n 1, 0, 0, 0, 0) :: (.getfield 9, 6, 0, 53, 0) :: (.iconst 0, 0, 0, 0, 0) :: (.aload_n 0, 0, 0, 0, 0) :: (.getfield 9, 6, 0, 53, 0) :: (.iconst 0, 0, 0, 0, 0) :: (.bipush 6, 0, 0, 0, 0) :: (.invokestatic 22, 9003, 5, 74, 12) :: (.aload_n 1, 0, 0, 0, 0) :: (.getfield 15, 6, 1, 54, 0) :: (.iconst 0, 0, 0, 0, 0) :: (.aload_n 0, 0, 0, 0, 0) :: (.getfield 15, 6, 1, 54, 0) :: (.iconst 0, 0, 0, 0, 0) :: (.bipush 6, 0, 0, 0, 0) :: (.invokestatic 22, 9003, 5, 74, 27) :: (.aload_n 0, 0, 0, 0, 0) :: (.aload_n 1, 0, 0, 0, 0) :: (.getfield 18, 6, 2, 55, 0) :: (.putfield 18, 6, 2, 55, 0) :: (.return_, 0, 0, 0, 0) :: []
def mT_72 : List (Nat × List mm_I) := [(0, mB_72_0)]
-- 73: VillageBoard$Sightings.fit([II)Z
def mB_73_53 : List mm_I := (.iconst 1, 0, 0, 0, 0) :: (.ireturn, 0, 0, 0, 0) :: []
def mB_73_47 : List mm_I := (.iinc 3 1, 0, 0, 0, 0) :: (.goto (-48), 2, 0, 0, 0) :: []
def mB_73_45 : List mm_I := (.iconst 0, 0, 0, 0, 0) :: (.ireturn, 0, 0, 0, 0) :: []
def mB_73_2 : List mm_I := (.iload_n 3, 0, 0, 0, 0) :: (.aload_n 0, 0, 0, 0, 0) :: (.getfield 18, 6, 2, 55, 0) :: (.if_icmp .ge 46, 53, 0, 0, 0) :: (.iload_n 2, 0, 0, 0, 0) :: (.aload_n 0, 0, 0, 0, 0) :: (.getfield 9, 6, 0, 53, 0) :: (.iload_n 3, 0, 0, 0, 0) :: (.iaload, 0, 0, 0, 0) :: (.iadd, 0, 0, 0, 0) :: (.istore 4, 0, 0, 0, 0) :: (.iload 4, 0, 0, 0, 0) :: (.ifCond .lt 23, 45, 0, 0, 0) :: (.iload 4, 0, 0, 0, 0) :: (.aload_n 1, 0, 0, 0, 0) :: (.arraylength, 0, 0, 0, 0) :: (.if_icmp .ge 16, 45, 0, 0, 0) :: (.aload_n 1, 0, 0, 0, 0) :: (.iload 4, 0, 0, 0, 0) :: (.iaload, 0, 0, 0, 0) :: (.aload_n 0, 0, 0, 0, 0) :: (.getfield 15, 6, 1, 54, 0) :: (.iload_n 3, 0, 0, 0, 0) :: (.iaload, 0, 0, 0, 0) :: (.if_icmp .eq 5, 47, 0, 0, 0) :: mB_73_45
def mB_73_0 : List mm_I := (.iconst 0, 0, 0, 0, 0) :: (.istore_n 3, 0, 0, 0, 0) :: mB_73_2
def mT_73 : List (Nat × List mm_I) := [(0, mB_73_0), (2, mB_73_2), (45, mB_73_45), (47, mB_73_47), (53, mB_73_53)]
-- 74: VillageBoard.<init>()V
def mB_74_0 : List mm_I := (.aload_n 0, 0, 0, 0, 0) :: (.invokespecial 1, 9000, 1, 75, 1) :: (.aload_n 0, 0, 0, 0, 0) :: (.sipush 700, 0, 0, 0, 0) :: (.newarray .int, 0, 0, 0, 0) :: (.putfield 9, 7, 0, 56, 0) :: (.aload_n 0, 0, 0, 0, 0) :: (.iconst 0, 0, 0, 0, 0) :: (.putfield 13, 7, 1, 57, 0) :: (.aload_n 0, 0, 0, 0, 0) :: (.iconst (-1), 0, 0, 0, 0) :: (.putfield 17, 7, 2, 58, 0) :: (.aload_n 0, 0, 0, 0, 0) :: (.iconst 3, 0, 0, 0, 0) :: (.newarray .int, 0, 0, 0, 0) :: (.putfield 20, 7, 3, 59, 0) :: (.aload_n 0, 0, 0, 0, 0) :: (.new 23, 4, 0, 128, 0) :: (.dup, 0, 0, 0, 0) :: (.invokespecial 25, 43, 1, 76, 35) :: (.putfield 26, 7, 4, 60, 0) :: (.aload_n 0, 0, 0, 0, 0) :: (.new 30, 2, 0, 247, 0) :: (.dup, 0, 0, 0, 0) :: (.invokespecial 32, 13, 1, 77, 46) :: (.putfield 33, 7, 5, 61, 0) :: (.aload_n 0, 0, 0, 0, 0) :: (.new 37, 3, 0, 249, 0) :: (.dup, 0, 0, 0, 0) :: (.invokespecial 39, 29, 1, 78, 57) :: (.putfield 40, 7, 6, 62, 0) :: (.aload_n 0, 0, 0, 0, 0) :: (.new 37, 3, 0, 249, 0) :: (.dup, 0, 0, 0, 0) :: (.invokespecial 39, 29, 1, 78, 68) :: (.putfield 44, 7, 7, 63, 0) :: (.aload_n 0, 0, 0, 0, 0) :: (.new 47, 0, 0, 281, 0) :: (.dup, 0, 0, 0, 0) :: (.invokespecial 49, 1, 1, 79, 79) :: (.putfield 50, 7, 8, 64, 0) :: (.aload_n 0, 0, 0, 0, 0) :: (.new 54, 6, 0, 298, 0) :: (.dup, 0, 0, 0, 0) :: (.invokespecial 56, 69, 1, 80, 90) :: (.putfield 57, 7, 9, 65, 0) :: (.aload_n 0, 0, 0, 0, 0) :: (.iconst 0, 0, 0, 0, 0) :: (.putfield 61, 7, 10, 66, 0) :: (.aload_n 0, 0, 0, 0, 0) :: (.new 37, 3, 0, 249, 0) :: (.dup, 0, 0, 0, 0) :: (.invokespecial 39, 29, 1, 78, 106) :: (.putfield 65, 7, 11, 67, 0) :: (.aload_n 0, 0, 0, 0, 0) :: (.new 47, 0, 0, 281, 0) :: (.dup, 0, 0, 0, 0) :: (.invokespecial 49, 1, 1, 79, 117) :: (.putfield 68, 7, 12, 68, 0) :: (.aload_n 0, 0, 0, 0, 0) :: (.new 54, 6, 0, 298, 0) :: (.dup, 0, 0, 0, 0) :: (.invokespecial 56, 69, 1, 80, 128) :: (.putfield 71, 7, 13, 69, 0) :: (.aload_n 0, 0, 0, 0, 0) :: (.new 74, 1, 0, 315, 0) :: (.dup, 0, 0, 0, 0) :: (.invokespecial 76, 6, 1, 81, 139) :: (.putfield 77, 7, 14, 70, 0) :: (.aload_n 0, 0, 0, 0, 0) :: (.bipush 8, 0, 0, 0, 0) :: (.newarray .int, 0, 0, 0, 0) :: (.putfield 81, 7, 15, 71, 0) :: (.return_, 0, 0, 0, 0) :: []
def mT_74 : List (Nat × List mm_I) := [(0, mB_74_0)]
-- 75: VillageBoard.feed(IIIII)I
def mB_75_15 : List mm_I := (.aload_n 0, 0, 0, 0, 0) :: (.iload_n 1, 0, 0, 0, 0) :: (.invokevirtual 84, 76, 2, 82, 17) :: (.aload_n 0, 0, 0, 0, 0) :: (.iload_n 2, 0, 0, 0, 0) :: (.invokevirtual 84, 76, 2, 82, 22) :: (.aload_n 0, 0, 0, 0, 0) :: (.iload_n 3, 0, 0, 0, 0) :: (.invokevirtual 84, 76, 2, 82, 27) :: (.aload_n 0, 0, 0, 0, 0) :: (.iload 4, 0, 0, 0, 0) :: (.invokevirtual 84, 76, 2, 82, 33) :: (.aload_n 0, 0, 0, 0, 0) :: (.iload 5, 0, 0, 0, 0) :: (.invokevirtual 84, 76, 2, 82, 39) :: (.aload_n 0, 0, 0, 0, 0) :: (.getfield 13, 7, 1, 57, 0) :: (.ireturn, 0, 0, 0, 0) :: []
def mB_75_0 : List mm_I := (.aload_n 0, 0, 0, 0, 0) :: (.getfield 13, 7, 1, 57, 0) :: (.bipush 20, 0, 0, 0, 0) :: (.iadd, 0, 0, 0, 0) :: (.sipush 700, 0, 0, 0, 0) :: (.if_icmp .le 5, 15, 0, 0, 0) :: (.iconst (-1), 0, 0, 0, 0) :: (.ireturn, 0, 0, 0, 0) :: []
def mT_75 : List (Nat × List mm_I) := [(0, mB_75_0), (15, mB_75_15)]
-- 76: VillageBoard.putOnTape(I)V
def mB_76_49 : List mm_I := (.return_, 0, 0, 0, 0) :: []
def mB_76_43 : List mm_I := (.iinc 2 (-8), 0, 0, 0, 0) :: (.goto (-43), 3, 0, 0, 0) :: []
def mB_76_3 : List mm_I := (.iload_n 2, 0, 0, 0, 0) :: (.ifCond .lt 45, 49, 0, 0, 0) :: (.aload_n 0, 0, 0, 0, 0) :: (.getfield 13, 7, 1, 57, 0) :: (.sipush 700, 0, 0, 0, 0) :: (.if_icmp .ge 29, 43, 0, 0, 0) :: (.aload_n 0, 0, 0, 0, 0) :: (.getfield 9, 7, 0, 56, 0) :: (.aload_n 0, 0, 0, 0, 0) :: (.getfield 13, 7, 1, 57, 0) :: (.iload_n 1, 0, 0, 0, 0) :: (.iload_n 2, 0, 0, 0, 0) :: (.iushr, 0, 0, 0, 0) :: (.sipush 255, 0, 0, 0, 0) :: (.iand, 0, 0, 0, 0) :: (.iastore, 0, 0, 0, 0) :: (.aload_n 0, 0, 0, 0, 0) :: (.dup, 0, 0, 0, 0) :: (.getfield 13, 7, 1, 57, 0) :: (.iconst 1, 0, 0, 0, 0) :: (.iadd, 0, 0, 0, 0) :: (.putfield 13, 7, 1, 57, 0) :: mB_76_43
def mB_76_0 : List mm_I := (.bipush 24, 0, 0, 0, 0) :: (.istore_n 2, 0, 0, 0, 0) :: mB_76_3
def mT_76 : List (Nat × List mm_I) := [(0, mB_76_0), (3, mB_76_3), (43, mB_76_43), (49, mB_76_49)]
-- 77: VillageBoard.board(I)I
def mB_77_67 : List mm_I := (.aload_n 0, 0, 0, 0, 0) :: (.iconst (-1), 0, 0, 0, 0) :: (.putfield 17, 7, 2, 58, 0) :: (.aload_n 0, 0, 0, 0, 0) :: (.aload_n 0, 0, 0, 0, 0) :: (.getfield 26, 7, 4, 60, 0) :: (.aload_n 0, 0, 0, 0, 0) :: (.getfield 33, 7, 5, 61, 0) :: (.invokevirtual 102, 45, 2, 84, 81) :: (.putfield 33, 7, 5, 61, 0) :: (.aload_n 0, 0, 0, 0, 0) :: (.getfield 40, 7, 6, 62, 0) :: (.aload_n 0, 0, 0, 0, 0) :: (.getfield 33, 7, 5, 61, 0) :: (.invokevirtual 106, 30, 2, 85, 95) :: (.aload_n 0, 0, 0, 0, 0) :: (.getfield 50, 7, 8, 64, 0) :: (.invokevirtual 110, 2, 1, 86, 102) :: (.aload_n 0, 0, 0, 0, 0) :: (.getfield 57, 7, 9, 65, 0) :: (.invokevirtual 113, 70, 1, 87, 109) :: (.aload_n 0, 0, 0, 0, 0) :: (.iconst 0, 0, 0, 0, 0) :: (.putfield 61, 7, 10, 66, 0) :: (.iconst 0, 0, 0, 0, 0) :: (.ireturn, 0, 0, 0, 0) :: []
def mB_77_22 : List mm_I := (.aload_n 0, 0, 0, 0, 0) :: (.getfield 26, 7, 4, 60, 0) :: (.aload_n 0, 0, 0, 0, 0) :: (.getfield 9, 7, 0, 56, 0) :: (.iload_n 1, 0, 0, 0, 0) :: (.invokevirtual 95, 44, 3, 83, 31) :: (.istore_n 2, 0, 0, 0, 0) :: (.aload_n 0, 0, 0, 0, 0) :: (.iconst 0, 0, 0, 0, 0) :: (.putfield 13, 7, 1, 57, 0) :: (.iload_n 2, 0, 0, 0, 0) :: (.ifCond .eq 26, 67, 0, 0, 0) :: (.aload_n 0, 0, 0, 0, 0) :: (.aload_n 0, 0, 0, 0, 0) :: (.getfield 26, 7, 4, 60, 0) :: (.getfield 99, 4, 4, 72, 0) :: (.putfield 17, 7, 2, 58, 0) :: (.aload_n 0, 0, 0, 0, 0) :: (.getfield 20, 7, 3, 59, 0) :: (.iconst 0, 0, 0, 0, 0) :: (.dup2, 0, 0, 0, 0) :: (.iaload, 0, 0, 0, 0) :: (.iconst 1, 0, 0, 0, 0) :: (.iadd, 0, 0, 0, 0) :: (.iastore, 0, 0, 0, 0) :: (.iload_n 2, 0, 0, 0, 0) :: (.ireturn, 0, 0, 0, 0) :: []
def mB_77_12 : List mm_I := (.new 88, 901, 0, 588, 0) :: []
def mB_77_0 : List mm_I := (.iload_n 1, 0, 0, 0, 0) :: (.ifCond .lt 11, 12, 0, 0, 0) :: (.iload_n 1, 0, 0, 0, 0) :: (.aload_n 0, 0, 0, 0, 0) :: (.getfield 13, 7, 1, 57, 0) :: (.if_icmp .le 13, 22, 0, 0, 0) :: mB_77_12
def mT_77 : List (Nat × List mm_I) := [(0, mB_77_0), (12, mB_77_12), (22, mB_77_22), (67, mB_77_67)]
-- 78: VillageBoard.fault()I
def mB_78_0 : List mm_I := (.aload_n 0, 0, 0, 0, 0) :: (.getfield 17, 7, 2, 58, 0) :: (.ireturn, 0, 0, 0, 0) :: []
def mT_78 : List (Nat × List mm_I) := [(0, mB_78_0)]
-- 79: VillageBoard.count(I)I
def mB_79_198 : List mm_I := (.new 140, 900, 1, 844, 0) :: []
def mB_79_191 : List mm_I := (.aload_n 0, 0, 0, 0, 0) :: (.getfield 20, 7, 3, 59, 0) :: (.iconst 2, 0, 0, 0, 0) :: (.iaload, 0, 0, 0, 0) :: (.ireturn, 0, 0, 0, 0) :: []
def mB_79_184 : List mm_I := (.aload_n 0, 0, 0, 0, 0) :: (.getfield 20, 7, 3, 59, 0) :: (.iconst 1, 0, 0, 0, 0) :: (.iaload, 0, 0, 0, 0) :: (.ireturn, 0, 0, 0, 0) :: []
def mB_79_177 : List mm_I := (.aload_n 0, 0, 0, 0, 0) :: (.getfield 20, 7, 3, 59, 0) :: (.iconst 0, 0, 0, 0, 0) :: (.iaload, 0, 0, 0, 0) :: (.ireturn, 0, 0, 0, 0) :: []
def mB_79_172 : List mm_I := (.aload_n 0, 0, 0, 0, 0) :: (.getfield 13, 7, 1, 57, 0) :: (.ireturn, 0, 0, 0, 0) :: []
def mB_79_164 : List mm_I := (.aload_n 0, 0, 0, 0, 0) :: (.getfield 57, 7, 9, 65, 0) :: (.getfield 139, 6, 2, 80, 0) :: (.ireturn, 0, 0, 0, 0) :: []
def mB_79_156 : List mm_I := (.aload_n 0, 0, 0, 0, 0) :: (.getfield 50, 7, 8, 64, 0) :: (.getfield 136, 0, 2, 79, 0) :: (.ireturn, 0, 0, 0, 0) :: []
def mB_79_146 : List mm_I := (.aload_n 0, 0, 0, 0, 0) :: (.getfield 40, 7, 6, 62, 0) :: (.getfield 133, 3, 1, 78, 0) :: (.iconst 1, 0, 0, 0, 0) :: (.iaload, 0, 0, 0, 0) :: (.ireturn, 0, 0, 0, 0) :: []
def mB_79_136 : List mm_I := (.aload_n 0, 0, 0, 0, 0) :: (.getfield 40, 7, 6, 62, 0) :: (.getfield 133, 3, 1, 78, 0) :: (.iconst 0, 0, 0, 0, 0) :: (.iaload, 0, 0, 0, 0) :: (.ireturn, 0, 0, 0, 0) :: []
def mB_79_126 : List mm_I := (.aload_n 0, 0, 0, 0, 0) :: (.getfield 40, 7, 6, 62, 0) :: (.getfield 130, 3, 0, 77, 0) :: (.iconst 1, 0, 0, 0, 0) :: (.iaload, 0, 0, 0, 0) :: (.ireturn, 0, 0, 0, 0) :: []
def mB_79_116 : List mm_I := (.aload_n 0, 0, 0, 0, 0) :: (.getfield 40, 7, 6, 62, 0) :: (.getfield 130, 3, 0, 77, 0) :: (.iconst 0, 0, 0, 0, 0) :: (.iaload, 0, 0, 0, 0) :: (.ireturn, 0, 0, 0, 0) :: []
def mB_79_108 : List mm_I := (.aload_n 0, 0, 0, 0, 0) :: (.getfield 40, 7, 6, 62, 0) :: (.invokevirtual 126, 34, 1, 88, 112) :: (.ireturn, 0, 0, 0, 0) :: []
def mB_79_100 : List mm_I := (.aload_n 0, 0, 0, 0, 0) :: (.getfield 40, 7, 6, 62, 0) :: (.getfield 123, 3, 5, 76, 0) :: (.ireturn, 0, 0, 0, 0) :: []
def mB_79_92 : List mm_I := (.aload_n 0, 0, 0, 0, 0) :: (.getfield 33, 7, 5, 61, 0) :: (.getfield 120, 2, 2, 75, 0) :: (.ireturn, 0, 0, 0, 0) :: []
def mB_79_84 : List mm_I := (.aload_n 0, 0, 0, 0, 0) :: (.getfield 33, 7, 5, 61, 0) :: (.getfield 117, 2, 1, 74, 0) :: (.ireturn, 0, 0, 0, 0) :: []
def mB_79_76 : List mm_I := (.aload_n 0, 0, 0, 0, 0) :: (.getfield 33, 7, 5, 61, 0) :: (.getfield 114, 2, 0, 73, 0) :: (.ireturn, 0, 0, 0, 0) :: []
def mB_79_0 : List mm_I := (.iload_n 1, 0, 0, 0, 0) :: (.tableswitch 197 0 14 #[75, 83, 91, 99, 107, 115, 125, 135, 145, 155, 163, 171, 176, 183, 190], 1, 0, 0, 0) :: []
def mT_79 : List (Nat × List mm_I) := [(0, mB_79_0), (76, mB_79_76), (84, mB_79_84), (92, mB_79_92), (100, mB_79_100), (108, mB_79_108), (116, mB_79_116), (126, mB_79_126), (136, mB_79_136), (146, mB_79_146), (156, mB_79_156), (164, mB_79_164), (172, mB_79_172), (177, mB_79_177), (184, mB_79_184), (191, mB_79_191), (198, mB_79_198)]
-- 80: VillageBoard.village(II)I
def mB_80_122 : List mm_I := (.new 140, 900, 2, 844, 0) :: []
def mB_80_109 : List mm_I := (.aload_n 0, 0, 0, 0, 0) :: (.getfield 40, 7, 6, 62, 0) :: (.getfield 169, 3, 4, 84, 0) :: (.bipush 10, 0, 0, 0, 0) :: (.iload_n 1, 0, 0, 0, 0) :: (.iadd, 0, 0, 0, 0) :: (.iaload, 0, 0, 0, 0) :: (.ireturn, 0, 0, 0, 0) :: []
def mB_80_99 : List mm_I := (.aload_n 0, 0, 0, 0, 0) :: (.getfield 40, 7, 6, 62, 0) :: (.getfield 169, 3, 4, 84, 0) :: (.iload_n 1, 0, 0, 0, 0) :: (.iaload, 0, 0, 0, 0) :: (.ireturn, 0, 0, 0, 0) :: []
def mB_80_86 : List mm_I := (.aload_n 0, 0, 0, 0, 0) :: (.getfield 33, 7, 5, 61, 0) :: (.getfield 161, 2, 6, 83, 0) :: (.iload_n 1, 0, 0, 0, 0) :: (.iaload, 0, 0, 0, 0) :: (.invokestatic 164, 0, 1, 92, 95) :: (.ireturn, 0, 0, 0, 0) :: []
def mB_80_77 : List mm_I := (.aload_n 0, 0, 0, 0, 0) :: (.getfield 40, 7, 6, 62, 0) :: (.iload_n 1, 0, 0, 0, 0) :: (.invokevirtual 158, 37, 2, 91, 82) :: (.ireturn, 0, 0, 0, 0) :: []
def mB_80_68 : List mm_I := (.aload_n 0, 0, 0, 0, 0) :: (.getfield 40, 7, 6, 62, 0) :: (.iload_n 1, 0, 0, 0, 0) :: (.invokevirtual 154, 36, 2, 90, 73) :: (.ireturn, 0, 0, 0, 0) :: []
def mB_80_58 : List mm_I := (.aload_n 0, 0, 0, 0, 0) :: (.getfield 33, 7, 5, 61, 0) :: (.getfield 151, 2, 5, 82, 0) :: (.iload_n 1, 0, 0, 0, 0) :: (.iaload, 0, 0, 0, 0) :: (.ireturn, 0, 0, 0, 0) :: []
def mB_80_48 : List mm_I := (.aload_n 0, 0, 0, 0, 0) :: (.getfield 33, 7, 5, 61, 0) :: (.getfield 148, 2, 4, 81, 0) :: (.iload_n 1, 0, 0, 0, 0) :: (.iaload, 0, 0, 0, 0) :: (.ireturn, 0, 0, 0, 0) :: []
def mB_80_0 : List mm_I := (.aload_n 0, 0, 0, 0, 0) :: (.iload_n 1, 0, 0, 0, 0) :: (.invokevirtual 145, 123, 2, 89, 2) :: (.iload_n 2, 0, 0, 0, 0) :: (.tableswitch 116 0 6 #[42, 52, 62, 71, 80, 93, 103], 6, 0, 0, 0) :: []
def mT_80 : List (Nat × List mm_I) := [(0, mB_80_0), (48, mB_80_48), (58, mB_80_58), (68, mB_80_68), (77, mB_80_77), (86, mB_80_86), (99, mB_80_99), (109, mB_80_109), (122, mB_80_122)]
-- 81: VillageBoard.side(II)I
def mB_81_157 : List mm_I := (.new 140, 900, 3, 844, 0) :: []
def mB_81_140 : List mm_I := (.aload_n 0, 0, 0, 0, 0) :: (.getfield 33, 7, 5, 61, 0) :: (.aload_n 0, 0, 0, 0, 0) :: (.getfield 40, 7, 6, 62, 0) :: (.getfield 133, 3, 1, 78, 0) :: (.iload_n 1, 0, 0, 0, 0) :: (.iaload, 0, 0, 0, 0) :: (.invokevirtual 193, 19, 2, 97, 153) :: (.ireturn, 0, 0, 0, 0) :: []
def mB_81_105 : List mm_I := (.aload_n 0, 0, 0, 0, 0) :: (.getfield 33, 7, 5, 61, 0) :: (.aload_n 0, 0, 0, 0, 0) :: (.getfield 40, 7, 6, 62, 0) :: (.getfield 130, 3, 0, 77, 0) :: (.iload_n 1, 0, 0, 0, 0) :: (.iaload, 0, 0, 0, 0) :: (.aload_n 0, 0, 0, 0, 0) :: (.getfield 40, 7, 6, 62, 0) :: (.getfield 130, 3, 0, 77, 0) :: (.iconst 1, 0, 0, 0, 0) :: (.iload_n 1, 0, 0, 0, 0) :: (.isub, 0, 0, 0, 0) :: (.iaload, 0, 0, 0, 0) :: (.aload_n 0, 0, 0, 0, 0) :: (.getfield 40, 7, 6, 62, 0) :: (.getfield 123, 3, 5, 76, 0) :: (.invokevirtual 190, 27, 4, 96, 136) :: (.ireturn, 0, 0, 0, 0) :: []
def mB_81_99 : List mm_I := (.aload_n 0, 0, 0, 0, 0) :: (.iload_n 1, 0, 0, 0, 0) :: (.invokevirtual 187, 129, 2, 95, 101) :: (.ireturn, 0, 0, 0, 0) :: []
def mB_81_64 : List mm_I := (.aload_n 0, 0, 0, 0, 0) :: (.getfield 33, 7, 5, 61, 0) :: (.aload_n 0, 0, 0, 0, 0) :: (.getfield 40, 7, 6, 62, 0) :: (.getfield 130, 3, 0, 77, 0) :: (.iload_n 1, 0, 0, 0, 0) :: (.iaload, 0, 0, 0, 0) :: (.aload_n 0, 0, 0, 0, 0) :: (.getfield 40, 7, 6, 62, 0) :: (.getfield 130, 3, 0, 77, 0) :: (.iconst 1, 0, 0, 0, 0) :: (.iload_n 1, 0, 0, 0, 0) :: (.isub, 0, 0, 0, 0) :: (.iaload, 0, 0, 0, 0) :: (.aload_n 0, 0, 0, 0, 0) :: (.getfield 40, 7, 6, 62, 0) :: (.getfield 123, 3, 5, 76, 0) :: (.invokevirtual 183, 26, 4, 94, 95) :: (.ireturn, 0, 0, 0, 0) :: []
def mB_81_54 : List mm_I := (.aload_n 0, 0, 0, 0, 0) :: (.getfield 40, 7, 6, 62, 0) :: (.getfield 180, 3, 3, 86, 0) :: (.iload_n 1, 0, 0, 0, 0) :: (.iaload, 0, 0, 0, 0) :: (.ireturn, 0, 0, 0, 0) :: []
def mB_81_44 : List mm_I := (.aload_n 0, 0, 0, 0, 0) :: (.getfield 40, 7, 6, 62, 0) :: (.getfield 177, 3, 2, 85, 0) :: (.iload_n 1, 0, 0, 0, 0) :: (.iaload, 0, 0, 0, 0) :: (.ireturn, 0, 0, 0, 0) :: []
def mB_81_0 : List mm_I := (.aload_n 0, 0, 0, 0, 0) :: (.iload_n 1, 0, 0, 0, 0) :: (.invokevirtual 174, 124, 2, 93, 2) :: (.iload_n 2, 0, 0, 0, 0) :: (.tableswitch 151 0 5 #[38, 48, 58, 93, 99, 134], 6, 0, 0, 0) :: []
def mT_81 : List (Nat × List mm_I) := [(0, mB_81_0), (44, mB_81_44), (54, mB_81_54), (64, mB_81_64), (99, mB_81_99), (105, mB_81_105), (140, mB_81_140), (157, mB_81_157)]
-- 82: VillageBoard.road(II)Z
def mB_82_0 : List mm_I := (.aload_n 0, 0, 0, 0, 0) :: (.iload_n 1, 0, 0, 0, 0) :: (.invokevirtual 145, 123, 2, 89, 2) :: (.aload_n 0, 0, 0, 0, 0) :: (.iload_n 2, 0, 0, 0, 0) :: (.invokevirtual 145, 123, 2, 89, 7) :: (.aload_n 0, 0, 0, 0, 0) :: (.getfield 33, 7, 5, 61, 0) :: (.getfield 161, 2, 6, 83, 0) :: (.iload_n 1, 0, 0, 0, 0) :: (.iaload, 0, 0, 0, 0) :: (.iload_n 2, 0, 0, 0, 0) :: (.invokestatic 198, 122, 2, 98, 20) :: (.ireturn, 0, 0, 0, 0) :: []
def mT_82 : List (Nat × List mm_I) := [(0, mB_82_0)]
-- 83: VillageBoard.lawful(II)Z
def mB_83_0 : List mm_I := (.aload_n 0, 0, 0, 0, 0) :: (.iload_n 1, 0, 0, 0, 0) :: (.invokevirtual 145, 123, 2, 89, 2) :: (.aload_n 0, 0, 0, 0, 0) :: (.iload_n 2, 0, 0, 0, 0) :: (.invokevirtual 145, 123, 2, 89, 7) :: (.aload_n 0, 0, 0, 0, 0) :: (.iload_n 1, 0, 0, 0, 0) :: (.invokevirtual 202, 126, 2, 99, 12) :: (.iload_n 2, 0, 0, 0, 0) :: (.invokestatic 198, 122, 2, 98, 16) :: (.ireturn, 0, 0, 0, 0) :: []
def mT_83 : List (Nat × List mm_I) := [(0, mB_83_0)]
-- 84: VillageBoard.move(II)I
def mB_84_75 : List mm_I := (.istore 4, 0, 0, 0, 0) :: (.aload_n 0, 0, 0, 0, 0) :: (.getfield 50, 7, 8, 64, 0) :: (.aload_n 0, 0, 0, 0, 0) :: (.getfield 40, 7, 6, 62, 0) :: (.invokevirtual 208, 3, 2, 101, 85) :: (.aload_n 0, 0, 0, 0, 0) :: (.getfield 40, 7, 6, 62, 0) :: (.iload_n 3, 0, 0, 0, 0) :: (.bipush 100, 0, 0, 0, 0) :: (.iload_n 1, 0, 0, 0, 0) :: (.imul, 0, 0, 0, 0) :: (.iload_n 2, 0, 0, 0, 0) :: (.iadd, 0, 0, 0, 0) :: (.invokevirtual 212, 38, 3, 102, 99) :: (.aload_n 0, 0, 0, 0, 0) :: (.getfield 40, 7, 6, 62, 0) :: (.aload_n 0, 0, 0, 0, 0) :: (.getfield 33, 7, 5, 61, 0) :: (.invokevirtual 216, 39, 2, 103, 110) :: (.iload 4, 0, 0, 0, 0) :: (.ireturn, 0, 0, 0, 0) :: []
def mB_84_74 : List mm_I := (.iconst 0, 0, 0, 0, 0) :: mB_84_75
def mB_84_52 : List mm_I := (.aload_n 0, 0, 0, 0, 0) :: (.getfield 40, 7, 6, 62, 0) :: (.getfield 130, 3, 0, 77, 0) :: (.iconst 1, 0, 0, 0, 0) :: (.iload_n 3, 0, 0, 0, 0) :: (.isub, 0, 0, 0, 0) :: (.iaload, 0, 0, 0, 0) :: (.iload_n 2, 0, 0, 0, 0) :: (.invokestatic 198, 122, 2, 98, 64) :: (.ifCond .eq 7, 74, 0, 0, 0) :: (.iconst 1, 0, 0, 0, 0) :: (.goto 4, 75, 0, 0, 0) :: []
def mB_84_40 : List mm_I := (.aload_n 0, 0, 0, 0, 0) :: (.getfield 20, 7, 3, 59, 0) :: (.iconst 1, 0, 0, 0, 0) :: (.dup2, 0, 0, 0, 0) :: (.iaload, 0, 0, 0, 0) :: (.iconst 1, 0, 0, 0, 0) :: (.iadd, 0, 0, 0, 0) :: (.iastore, 0, 0, 0, 0) :: (.iconst (-1), 0, 0, 0, 0) :: (.ireturn, 0, 0, 0, 0) :: []
def mB_84_0 : List mm_I := (.aload_n 0, 0, 0, 0, 0) :: (.iload_n 1, 0, 0, 0, 0) :: (.invokevirtual 145, 123, 2, 89, 2) :: (.aload_n 0, 0, 0, 0, 0) :: (.iload_n 2, 0, 0, 0, 0) :: (.invokevirtual 145, 123, 2, 89, 7) :: (.aload_n 0, 0, 0, 0, 0) :: (.getfield 40, 7, 6, 62, 0) :: (.invokevirtual 126, 34, 1, 88, 14) :: (.istore_n 3, 0, 0, 0, 0) :: (.aload_n 0, 0, 0, 0, 0) :: (.getfield 40, 7, 6, 62, 0) :: (.getfield 123, 3, 5, 76, 0) :: (.sipush 999, 0, 0, 0, 0) :: (.if_icmp .ge 12, 40, 0, 0, 0) :: (.aload_n 0, 0, 0, 0, 0) :: (.iload_n 1, 0, 0, 0, 0) :: (.iload_n 2, 0, 0, 0, 0) :: (.invokevirtual 205, 127, 3, 100, 34) :: (.ifCond .ne 15, 52, 0, 0, 0) :: mB_84_40
def mT_84 : List (Nat × List mm_I) := [(0, mB_84_0), (40, mB_84_40), (52, mB_84_52), (74, mB_84_74), (75, mB_84_75)]
-- 85: VillageBoard.pass()I
def mB_85_25 : List mm_I := (.aload_n 0, 0, 0, 0, 0) :: (.getfield 50, 7, 8, 64, 0) :: (.aload_n 0, 0, 0, 0, 0) :: (.getfield 40, 7, 6, 62, 0) :: (.invokevirtual 208, 3, 2, 101, 33) :: (.aload_n 0, 0, 0, 0, 0) :: (.getfield 40, 7, 6, 62, 0) :: (.aload_n 0, 0, 0, 0, 0) :: (.getfield 33, 7, 5, 61, 0) :: (.invokevirtual 216, 39, 2, 103, 44) :: (.aload_n 0, 0, 0, 0, 0) :: (.getfield 40, 7, 6, 62, 0) :: (.getfield 123, 3, 5, 76, 0) :: (.ireturn, 0, 0, 0, 0) :: []
def mB_85_0 : List mm_I := (.aload_n 0, 0, 0, 0, 0) :: (.getfield 40, 7, 6, 62, 0) :: (.getfield 123, 3, 5, 76, 0) :: (.sipush 999, 0, 0, 0, 0) :: (.if_icmp .lt 15, 25, 0, 0, 0) :: (.aload_n 0, 0, 0, 0, 0) :: (.getfield 20, 7, 3, 59, 0) :: (.iconst 1, 0, 0, 0, 0) :: (.dup2, 0, 0, 0, 0) :: (.iaload, 0, 0, 0, 0) :: (.iconst 1, 0, 0, 0, 0) :: (.iadd, 0, 0, 0, 0) :: (.iastore, 0, 0, 0, 0) :: (.iconst (-1), 0, 0, 0, 0) :: (.ireturn, 0, 0, 0, 0) :: []
def mT_85 : List (Nat × List mm_I) := [(0, mB_85_0), (25, mB_85_25)]
-- 86: VillageBoard.fly(II)Z
def mB_86_48 : List mm_I := (.aload_n 0, 0, 0, 0, 0) :: (.getfield 50, 7, 8, 64, 0) :: (.aload_n 0, 0, 0, 0, 0) :: (.getfield 40, 7, 6, 62, 0) :: (.invokevirtual 208, 3, 2, 101, 56) :: (.aload_n 0, 0, 0, 0, 0) :: (.getfield 40, 7, 6, 62, 0) :: (.iload_n 3, 0, 0, 0, 0) :: (.bipush 100, 0, 0, 0, 0) :: (.iload_n 1, 0, 0, 0, 0) :: (.imul, 0, 0, 0, 0) :: (.iload_n 2, 0, 0, 0, 0) :: (.iadd, 0, 0, 0, 0) :: (.invokevirtual 212, 38, 3, 102, 70) :: (.iconst 1, 0, 0, 0, 0) :: (.ireturn, 0, 0, 0, 0) :: []
def mB_86_36 : List mm_I := (.aload_n 0, 0, 0, 0, 0) :: (.getfield 20, 7, 3, 59, 0) :: (.iconst 1, 0, 0, 0, 0) :: (.dup2, 0, 0, 0, 0) :: (.iaload, 0, 0, 0, 0) :: (.iconst 1, 0, 0, 0, 0) :: (.iadd, 0, 0, 0, 0) :: (.iastore, 0, 0, 0, 0) :: (.iconst 0, 0, 0, 0, 0) :: (.ireturn, 0, 0, 0, 0) :: []
def mB_86_0 : List mm_I := (.aload_n 0, 0, 0, 0, 0) :: (.iload_n 1, 0, 0, 0, 0) :: (.invokevirtual 145, 123, 2, 89, 2) :: (.aload_n 0, 0, 0, 0, 0) :: (.iload_n 2, 0, 0, 0, 0) :: (.invokevirtual 145, 123, 2, 89, 7) :: (.aload_n 0, 0, 0, 0, 0) :: (.getfield 40, 7, 6, 62, 0) :: (.iload_n 1, 0, 0, 0, 0) :: (.invokevirtual 154, 36, 2, 90, 15) :: (.istore_n 3, 0, 0, 0, 0) :: (.iload_n 3, 0, 0, 0, 0) :: (.iconst 2, 0, 0, 0, 0) :: (.if_icmp .eq 15, 36, 0, 0, 0) :: (.aload_n 0, 0, 0, 0, 0) :: (.getfield 40, 7, 6, 62, 0) :: (.iload_n 2, 0, 0, 0, 0) :: (.invokevirtual 154, 36, 2, 90, 29) :: (.iconst 2, 0, 0, 0, 0) :: (.if_icmp .eq 15, 48, 0, 0, 0) :: mB_86_36
def mT_86 : List (Nat × List mm_I) := [(0, mB_86_0), (36, mB_86_36), (48, mB_86_48)]
-- 87: VillageBoard.teach(II)I
def mB_87_31 : List mm_I := (.aload_n 0, 0, 0, 0, 0) :: (.getfield 40, 7, 6, 62, 0) :: (.getfield 180, 3, 3, 86, 0) :: (.iload_n 1, 0, 0, 0, 0) :: (.iaload, 0, 0, 0, 0) :: (.istore_n 3, 0, 0, 0, 0) :: (.aload_n 0, 0, 0, 0, 0) :: (.getfield 50, 7, 8, 64, 0) :: (.aload_n 0, 0, 0, 0, 0) :: (.getfield 40, 7, 6, 62, 0) :: (.invokevirtual 208, 3, 2, 101, 49) :: (.aload_n 0, 0, 0, 0, 0) :: (.getfield 40, 7, 6, 62, 0) :: (.getfield 180, 3, 3, 86, 0) :: (.iload_n 1, 0, 0, 0, 0) :: (.iload_n 2, 0, 0, 0, 0) :: (.iastore, 0, 0, 0, 0) :: (.iload_n 3, 0, 0, 0, 0) :: (.ireturn, 0, 0, 0, 0) :: []
def mB_87_0 : List mm_I := (.aload_n 0, 0, 0, 0, 0) :: (.iload_n 1, 0, 0, 0, 0) :: (.invokevirtual 174, 124, 2, 93, 2) :: (.iload_n 2, 0, 0, 0, 0) :: (.iconst (-1), 0, 0, 0, 0) :: (.if_icmp .eq 24, 31, 0, 0, 0) :: (.aload_n 0, 0, 0, 0, 0) :: (.iload_n 2, 0, 0, 0, 0) :: (.invokevirtual 219, 125, 2, 104, 12) :: (.ifCond .ne 16, 31, 0, 0, 0) :: (.aload_n 0, 0, 0, 0, 0) :: (.getfield 20, 7, 3, 59, 0) :: (.iconst 1, 0, 0, 0, 0) :: (.dup2, 0, 0, 0, 0) :: (.iaload, 0, 0, 0, 0) :: (.iconst 1, 0, 0, 0, 0) :: (.iadd, 0, 0, 0, 0) :: (.iastore, 0, 0, 0, 0) :: (.bipush (-2), 0, 0, 0, 0) :: (.ireturn, 0, 0, 0, 0) :: []
def mT_87 : List (Nat × List mm_I) := [(0, mB_87_0), (31, mB_87_31)]
-- 88: VillageBoard.play(I)I
def mB_88_74 : List mm_I := (.aload_n 0, 0, 0, 0, 0) :: (.getfield 40, 7, 6, 62, 0) :: (.getfield 123, 3, 5, 76, 0) :: (.ireturn, 0, 0, 0, 0) :: []
def mB_88_51 : List mm_I := (.iload_n 2, 0, 0, 0, 0) :: (.iload_n 1, 0, 0, 0, 0) :: (.if_icmp .ge 21, 74, 0, 0, 0) :: (.aload_n 0, 0, 0, 0, 0) :: (.getfield 40, 7, 6, 62, 0) :: (.aload_n 0, 0, 0, 0, 0) :: (.getfield 33, 7, 5, 61, 0) :: (.invokevirtual 223, 40, 2, 105, 64) :: (.pop, 0, 0, 0, 0) :: (.iinc 2 1, 0, 0, 0, 0) :: (.goto (-20), 51, 0, 0, 0) :: []
def mB_88_38 : List mm_I := (.aload_n 0, 0, 0, 0, 0) :: (.getfield 50, 7, 8, 64, 0) :: (.aload_n 0, 0, 0, 0, 0) :: (.getfield 40, 7, 6, 62, 0) :: (.invokevirtual 208, 3, 2, 101, 46) :: (.iconst 0, 0, 0, 0, 0) :: (.istore_n 2, 0, 0, 0, 0) :: mB_88_51
def mB_88_26 : List mm_I := (.aload_n 0, 0, 0, 0, 0) :: (.getfield 20, 7, 3, 59, 0) :: (.iconst 1, 0, 0, 0, 0) :: (.dup2, 0, 0, 0, 0) :: (.iaload, 0, 0, 0, 0) :: (.iconst 1, 0, 0, 0, 0) :: (.iadd, 0, 0, 0, 0) :: (.iastore, 0, 0, 0, 0) :: (.iconst (-1), 0, 0, 0, 0) :: (.ireturn, 0, 0, 0, 0) :: []
def mB_88_0 : List mm_I := (.iload_n 1, 0, 0, 0, 0) :: (.iconst 1, 0, 0, 0, 0) :: (.if_icmp .lt 24, 26, 0, 0, 0) :: (.iload_n 1, 0, 0, 0, 0) :: (.bipush 30, 0, 0, 0, 0) :: (.if_icmp .gt 18, 26, 0, 0, 0) :: (.aload_n 0, 0, 0, 0, 0) :: (.getfield 40, 7, 6, 62, 0) :: (.getfield 123, 3, 5, 76, 0) :: (.iload_n 1, 0, 0, 0, 0) :: (.iadd, 0, 0, 0, 0) :: (.sipush 999, 0, 0, 0, 0) :: (.if_icmp .le 15, 38, 0, 0, 0) :: mB_88_26
def mT_88 : List (Nat × List mm_I) := [(0, mB_88_0), (26, mB_88_26), (38, mB_88_38), (51, mB_88_51), (74, mB_88_74)]
-- 89: VillageBoard.undo()I
def mB_89_12 : List mm_I := (.aload_n 0, 0, 0, 0, 0) :: (.getfield 50, 7, 8, 64, 0) :: (.aload_n 0, 0, 0, 0, 0) :: (.getfield 40, 7, 6, 62, 0) :: (.invokevirtual 227, 4, 2, 106, 20) :: (.aload_n 0, 0, 0, 0, 0) :: (.getfield 50, 7, 8, 64, 0) :: (.getfield 136, 0, 2, 79, 0) :: (.ireturn, 0, 0, 0, 0) :: []
def mB_89_0 : List mm_I := (.aload_n 0, 0, 0, 0, 0) :: (.getfield 50, 7, 8, 64, 0) :: (.getfield 136, 0, 2, 79, 0) :: (.ifCond .ne 5, 12, 0, 0, 0) :: (.iconst (-1), 0, 0, 0, 0) :: (.ireturn, 0, 0, 0, 0) :: []
def mT_89 : List (Nat × List mm_I) := [(0, mB_89_0), (12, mB_89_12)]
-- 90: VillageBoard.hangs(I)I
def mB_90_0 : List mm_I := (.aload_n 0, 0, 0, 0, 0) :: (.iload_n 1, 0, 0, 0, 0) :: (.invokevirtual 145, 123, 2, 89, 2) :: (.aload_n 0, 0, 0, 0, 0) :: (.iload_n 1, 0, 0, 0, 0) :: (.invokevirtual 230, 128, 2, 107, 7) :: (.ireturn, 0, 0, 0, 0) :: []
def mT_90 : List (Nat × List mm_I) := [(0, mB_90_0)]
-- 91: VillageBoard.look(II)I
def mB_91_62 : List mm_I := (.ireturn, 0, 0, 0, 0) :: []
def mB_91_57 : List mm_I := (.aload_n 0, 0, 0, 0, 0) :: (.iload_n 1, 0, 0, 0, 0) :: (.invokevirtual 241, 132, 2, 109, 59) :: mB_91_62
def mB_91_38 : List mm_I := (.iload_n 2, 0, 0, 0, 0) :: (.ifCond .ne 18, 57, 0, 0, 0) :: (.aload_n 0, 0, 0, 0, 0) :: (.aload_n 0, 0, 0, 0, 0) :: (.getfield 40, 7, 6, 62, 0) :: (.invokevirtual 126, 34, 1, 88, 47) :: (.iload_n 1, 0, 0, 0, 0) :: (.invokevirtual 237, 130, 3, 108, 51) :: (.goto 8, 62, 0, 0, 0) :: []
def mB_91_28 : List mm_I := (.new 88, 901, 5, 588, 0) :: []
def mB_91_19 : List mm_I := (.iload_n 1, 0, 0, 0, 0) :: (.ifCond .lt 8, 28, 0, 0, 0) :: (.iload_n 1, 0, 0, 0, 0) :: (.iconst 3, 0, 0, 0, 0) :: (.if_icmp .le 13, 38, 0, 0, 0) :: mB_91_28
def mB_91_0 : List mm_I := (.iload_n 2, 0, 0, 0, 0) :: (.ifCond .eq 18, 19, 0, 0, 0) :: (.iload_n 2, 0, 0, 0, 0) :: (.iconst 1, 0, 0, 0, 0) :: (.if_icmp .eq 13, 19, 0, 0, 0) :: (.new 140, 900, 4, 844, 0) :: []
def mT_91 : List (Nat × List mm_I) := [(0, mB_91_0), (19, mB_91_19), (28, mB_91_28), (38, mB_91_38), (57, mB_91_57), (62, mB_91_62)]
-- 92: VillageBoard.win()I
def mB_92_75 : List mm_I := (.iconst (-1), 0, 0, 0, 0) :: (.ireturn, 0, 0, 0, 0) :: []
def mB_92_69 : List mm_I := (.iinc 3 2, 0, 0, 0, 0) :: (.goto (-30), 42, 0, 0, 0) :: []
def mB_92_42 : List mm_I := (.iload_n 3, 0, 0, 0, 0) :: (.iconst 3, 0, 0, 0, 0) :: (.if_icmp .gt 31, 75, 0, 0, 0) :: (.aload_n 0, 0, 0, 0, 0) :: (.getfield 33, 7, 5, 61, 0) :: (.iload_n 1, 0, 0, 0, 0) :: (.iload_n 2, 0, 0, 0, 0) :: (.aload_n 0, 0, 0, 0, 0) :: (.getfield 40, 7, 6, 62, 0) :: (.getfield 123, 3, 5, 76, 0) :: (.iload_n 3, 0, 0, 0, 0) :: (.invokestatic 244, 11, 5, 110, 61) :: (.ifCond .eq 5, 69, 0, 0, 0) :: (.iload_n 3, 0, 0, 0, 0) :: (.ireturn, 0, 0, 0, 0) :: []
def mB_92_40 : List mm_I := (.iconst 1, 0, 0, 0, 0) :: (.istore_n 3, 0, 0, 0, 0) :: mB_92_42
def mB_92_0 : List mm_I := (.aload_n 0, 0, 0, 0, 0) :: (.getfield 40, 7, 6, 62, 0) :: (.getfield 130, 3, 0, 77, 0) :: (.aload_n 0, 0, 0, 0, 0) :: (.getfield 40, 7, 6, 62, 0) :: (.invokevirtual 126, 34, 1, 88, 11) :: (.iaload, 0, 0, 0, 0) :: (.istore_n 1, 0, 0, 0, 0) :: (.aload_n 0, 0, 0, 0, 0) :: (.getfield 40, 7, 6, 62, 0) :: (.getfield 130, 3, 0, 77, 0) :: (.iconst 1, 0, 0, 0, 0) :: (.aload_n 0, 0, 0, 0, 0) :: (.getfield 40, 7, 6, 62, 0) :: (.invokevirtual 126, 34, 1, 88, 28) :: (.isub, 0, 0, 0, 0) :: (.iaload, 0, 0, 0, 0) :: (.istore_n 2, 0, 0, 0, 0) :: (.iload_n 2, 0, 0, 0, 0) :: (.ifCond .ne 5, 40, 0, 0, 0) :: (.iconst (-1), 0, 0, 0, 0) :: (.ireturn, 0, 0, 0, 0) :: []
def mT_92 : List (Nat × List mm_I) := [(0, mB_92_0), (40, mB_92_40), (42, mB_92_42), (69, mB_92_69), (75, mB_92_75)]
-- 93: VillageBoard.journey(II)I
def mB_93_81 : List mm_I := (.iconst (-1), 0, 0, 0, 0) :: (.ireturn, 0, 0, 0, 0) :: []
def mB_93_49 : List mm_I := (.iload_n 3, 0, 0, 0, 0) :: (.aload_n 0, 0, 0, 0, 0) :: (.getfield 33, 7, 5, 61, 0) :: (.iload_n 3, 0, 0, 0, 0) :: (.invokevirtual 250, 20, 2, 111, 55) :: (.aload_n 0, 0, 0, 0, 0) :: (.getfield 33, 7, 5, 61, 0) :: (.aload_n 0, 0, 0, 0, 0) :: (.getfield 40, 7, 6, 62, 0) :: (.invokevirtual 253, 35, 1, 112, 66) :: (.invokevirtual 256, 18, 2, 113, 69) :: (.iand, 0, 0, 0, 0) :: (.ior, 0, 0, 0, 0) :: (.istore_n 3, 0, 0, 0, 0) :: (.iinc 4 1, 0, 0, 0, 0) :: (.goto (-47), 31, 0, 0, 0) :: []
def mB_93_31 : List mm_I := (.iload 4, 0, 0, 0, 0) :: (.bipush 10, 0, 0, 0, 0) :: (.if_icmp .ge 46, 81, 0, 0, 0) :: (.iload_n 3, 0, 0, 0, 0) :: (.iload_n 2, 0, 0, 0, 0) :: (.invokestatic 198, 122, 2, 98, 40) :: (.ifCond .eq 6, 49, 0, 0, 0) :: (.iload 4, 0, 0, 0, 0) :: (.ireturn, 0, 0, 0, 0) :: []
def mB_93_24 : List mm_I := (.iconst 1, 0, 0, 0, 0) :: (.iload_n 1, 0, 0, 0, 0) :: (.ishl, 0, 0, 0, 0) :: (.istore_n 3, 0, 0, 0, 0) :: (.iconst 0, 0, 0, 0, 0) :: (.istore 4, 0, 0, 0, 0) :: mB_93_31
def mB_93_0 : List mm_I := (.aload_n 0, 0, 0, 0, 0) :: (.iload_n 1, 0, 0, 0, 0) :: (.invokevirtual 145, 123, 2, 89, 2) :: (.aload_n 0, 0, 0, 0, 0) :: (.iload_n 2, 0, 0, 0, 0) :: (.invokevirtual 145, 123, 2, 89, 7) :: (.aload_n 0, 0, 0, 0, 0) :: (.getfield 40, 7, 6, 62, 0) :: (.iload_n 1, 0, 0, 0, 0) :: (.invokevirtual 154, 36, 2, 90, 15) :: (.iconst 2, 0, 0, 0, 0) :: (.if_icmp .ne 5, 24, 0, 0, 0) :: (.iconst (-1), 0, 0, 0, 0) :: (.ireturn, 0, 0, 0, 0) :: []
def mT_93 : List (Nat × List mm_I) := [(0, mB_93_0), (24, mB_93_24), (31, mB_93_31), (49, mB_93_49), (81, mB_93_81)]
-- 94: VillageBoard.played(I)I
def mB_94_59 : List mm_I := (.iload_n 2, 0, 0, 0, 0) :: (.ireturn, 0, 0, 0, 0) :: []
def mB_94_36 : List mm_I := (.iload_n 3, 0, 0, 0, 0) :: (.iload_n 1, 0, 0, 0, 0) :: (.if_icmp .gt 21, 59, 0, 0, 0) :: (.aload_n 0, 0, 0, 0, 0) :: (.getfield 44, 7, 7, 63, 0) :: (.aload_n 0, 0, 0, 0, 0) :: (.getfield 33, 7, 5, 61, 0) :: (.invokevirtual 223, 40, 2, 105, 49) :: (.istore_n 2, 0, 0, 0, 0) :: (.iinc 3 1, 0, 0, 0, 0) :: (.goto (-20), 36, 0, 0, 0) :: []
def mB_94_21 : List mm_I := (.aload_n 0, 0, 0, 0, 0) :: (.getfield 44, 7, 7, 63, 0) :: (.aload_n 0, 0, 0, 0, 0) :: (.getfield 40, 7, 6, 62, 0) :: (.invokevirtual 261, 31, 2, 114, 29) :: (.iconst (-1), 0, 0, 0, 0) :: (.istore_n 2, 0, 0, 0, 0) :: (.iconst 0, 0, 0, 0, 0) :: (.istore_n 3, 0, 0, 0, 0) :: mB_94_36
def mB_94_10 : List mm_I := (.new 140, 900, 6, 844, 0) :: []
def mB_94_0 : List mm_I := (.iload_n 1, 0, 0, 0, 0) :: (.ifCond .lt 9, 10, 0, 0, 0) :: (.iload_n 1, 0, 0, 0, 0) :: (.bipush 30, 0, 0, 0, 0) :: (.if_icmp .lt 14, 21, 0, 0, 0) :: mB_94_10
def mT_94 : List (Nat × List mm_I) := [(0, mB_94_0), (10, mB_94_10), (21, mB_94_21), (36, mB_94_36), (59, mB_94_59)]
-- 95: VillageBoard.turned(I)I
def mB_95_65 : List mm_I := (.iconst (-1), 0, 0, 0, 0) :: (.ireturn, 0, 0, 0, 0) :: []
def mB_95_59 : List mm_I := (.iinc 3 1, 0, 0, 0, 0) :: (.goto (-35), 27, 0, 0, 0) :: []
def mB_95_27 : List mm_I := (.iload_n 3, 0, 0, 0, 0) :: (.bipush 30, 0, 0, 0, 0) :: (.if_icmp .gt 35, 65, 0, 0, 0) :: (.aload_n 0, 0, 0, 0, 0) :: (.getfield 44, 7, 7, 63, 0) :: (.aload_n 0, 0, 0, 0, 0) :: (.getfield 33, 7, 5, 61, 0) :: (.invokevirtual 223, 40, 2, 105, 41) :: (.pop, 0, 0, 0, 0) :: (.aload_n 0, 0, 0, 0, 0) :: (.getfield 44, 7, 7, 63, 0) :: (.iload_n 1, 0, 0, 0, 0) :: (.invokevirtual 158, 37, 2, 91, 50) :: (.iload_n 2, 0, 0, 0, 0) :: (.if_icmp .eq 5, 59, 0, 0, 0) :: (.iload_n 3, 0, 0, 0, 0) :: (.ireturn, 0, 0, 0, 0) :: []
def mB_95_0 : List mm_I := (.aload_n 0, 0, 0, 0, 0) :: (.iload_n 1, 0, 0, 0, 0) :: (.invokevirtual 145, 123, 2, 89, 2) :: (.aload_n 0, 0, 0, 0, 0) :: (.getfield 40, 7, 6, 62, 0) :: (.iload_n 1, 0, 0, 0, 0) :: (.invokevirtual 158, 37, 2, 91, 10) :: (.istore_n 2, 0, 0, 0, 0) :: (.aload_n 0, 0, 0, 0, 0) :: (.getfield 44, 7, 7, 63, 0) :: (.aload_n 0, 0, 0, 0, 0) :: (.getfield 40, 7, 6, 62, 0) :: (.invokevirtual 261, 31, 2, 114, 22) :: (.iconst 1, 0, 0, 0, 0) :: (.istore_n 3, 0, 0, 0, 0) :: mB_95_27
def mT_95 : List (Nat × List mm_I) := [(0, mB_95_0), (27, mB_95_27), (59, mB_95_59), (65, mB_95_65)]
-- 96: VillageBoard.treasury(II)I
def mB_96_62 : List mm_I := (.aload_n 0, 0, 0, 0, 0) :: (.getfield 44, 7, 7, 63, 0) :: (.getfield 177, 3, 2, 85, 0) :: (.iload_n 1, 0, 0, 0, 0) :: (.iaload, 0, 0, 0, 0) :: (.ireturn, 0, 0, 0, 0) :: []
def mB_96_39 : List mm_I := (.iload_n 3, 0, 0, 0, 0) :: (.iload_n 2, 0, 0, 0, 0) :: (.if_icmp .ge 21, 62, 0, 0, 0) :: (.aload_n 0, 0, 0, 0, 0) :: (.getfield 44, 7, 7, 63, 0) :: (.aload_n 0, 0, 0, 0, 0) :: (.getfield 33, 7, 5, 61, 0) :: (.invokevirtual 223, 40, 2, 105, 52) :: (.pop, 0, 0, 0, 0) :: (.iinc 3 1, 0, 0, 0, 0) :: (.goto (-20), 39, 0, 0, 0) :: []
def mB_96_26 : List mm_I := (.aload_n 0, 0, 0, 0, 0) :: (.getfield 44, 7, 7, 63, 0) :: (.aload_n 0, 0, 0, 0, 0) :: (.getfield 40, 7, 6, 62, 0) :: (.invokevirtual 261, 31, 2, 114, 34) :: (.iconst 0, 0, 0, 0, 0) :: (.istore_n 3, 0, 0, 0, 0) :: mB_96_39
def mB_96_15 : List mm_I := (.new 88, 901, 7, 588, 0) :: []
def mB_96_0 : List mm_I := (.aload_n 0, 0, 0, 0, 0) :: (.iload_n 1, 0, 0, 0, 0) :: (.invokevirtual 174, 124, 2, 93, 2) :: (.iload_n 2, 0, 0, 0, 0) :: (.ifCond .lt 9, 15, 0, 0, 0) :: (.iload_n 2, 0, 0, 0, 0) :: (.bipush 30, 0, 0, 0, 0) :: (.if_icmp .le 14, 26, 0, 0, 0) :: mB_96_15
def mT_96 : List (Nat × List mm_I) := [(0, mB_96_0), (15, mB_96_15), (26, mB_96_26), (39, mB_96_39), (62, mB_96_62)]
-- 97: VillageBoard.gift(II)I
def mB_97_86 : List mm_I := (.ireturn, 0, 0, 0, 0) :: []
def mB_97_83 : List mm_I := (.lload 4, 0, 0, 0, 0) :: (.l2i, 0, 0, 0, 0) :: mB_97_86
def mB_97_70 : List mm_I := (.lload 4, 0, 0, 0, 0) :: (.ldc2_w 273, 0, 0, 1035, 9999) :: (.lcmp, 0, 0, 0, 0) :: (.ifCond .le 7, 83, 0, 0, 0) :: (.iconst (-1), 0, 0, 0, 0) :: (.goto 6, 86, 0, 0, 0) :: []
def mB_97_40 : List mm_I := (.bipush 100, 0, 0, 0, 0) :: (.iload_n 1, 0, 0, 0, 0) :: (.imul, 0, 0, 0, 0) :: (.iload_n 2, 0, 0, 0, 0) :: (.iadd, 0, 0, 0, 0) :: (.istore_n 3, 0, 0, 0, 0) :: (.aload_n 0, 0, 0, 0, 0) :: (.iload_n 3, 0, 0, 0, 0) :: (.invokevirtual 266, 134, 2, 115, 49) :: (.aload_n 0, 0, 0, 0, 0) :: (.iload_n 3, 0, 0, 0, 0) :: (.invokevirtual 270, 133, 2, 116, 54) :: (.i2l, 0, 0, 0, 0) :: (.lsub, 0, 0, 0, 0) :: (.lstore 4, 0, 0, 0, 0) :: (.lload 4, 0, 0, 0, 0) :: (.lconst 0, 0, 0, 0, 0) :: (.lcmp, 0, 0, 0, 0) :: (.ifCond .gt 5, 70, 0, 0, 0) :: (.iconst 0, 0, 0, 0, 0) :: (.ireturn, 0, 0, 0, 0) :: []
def mB_97_38 : List mm_I := (.iconst (-1), 0, 0, 0, 0) :: (.ireturn, 0, 0, 0, 0) :: []
def mB_97_0 : List mm_I := (.aload_n 0, 0, 0, 0, 0) :: (.iload_n 1, 0, 0, 0, 0) :: (.invokevirtual 145, 123, 2, 89, 2) :: (.aload_n 0, 0, 0, 0, 0) :: (.iload_n 2, 0, 0, 0, 0) :: (.invokevirtual 145, 123, 2, 89, 7) :: (.aload_n 0, 0, 0, 0, 0) :: (.getfield 40, 7, 6, 62, 0) :: (.getfield 180, 3, 3, 86, 0) :: (.aload_n 0, 0, 0, 0, 0) :: (.getfield 40, 7, 6, 62, 0) :: (.invokevirtual 126, 34, 1, 88, 21) :: (.iaload, 0, 0, 0, 0) :: (.iconst (-1), 0, 0, 0, 0) :: (.if_icmp .eq 12, 38, 0, 0, 0) :: (.aload_n 0, 0, 0, 0, 0) :: (.iload_n 1, 0, 0, 0, 0) :: (.iload_n 2, 0, 0, 0, 0) :: (.invokevirtual 205, 127, 3, 100, 32) :: (.ifCond .ne 5, 40, 0, 0, 0) :: mB_97_38
def mT_97 : List (Nat × List mm_I) := [(0, mB_97_0), (38, mB_97_38), (40, mB_97_40), (70, mB_97_70), (83, mB_97_83), (86, mB_97_86)]
-- 98: VillageBoard.plant(II)I
def mB_98_148 : List mm_I := (.ireturn, 0, 0, 0, 0) :: []
def mB_98_147 : List mm_I := (.iconst 0, 0, 0, 0, 0) :: mB_98_148
def mB_98_128 : List mm_I := (.bipush 6, 0, 0, 0, 0) :: (.iload 7, 0, 0, 0, 0) :: (.iload 6, 0, 0, 0, 0) :: (.isub, 0, 0, 0, 0) :: (.imul, 0, 0, 0, 0) :: (.iconst 2, 0, 0, 0, 0) :: (.iload 7, 0, 0, 0, 0) :: (.imul, 0, 0, 0, 0) :: (.if_icmp .le 7, 147, 0, 0, 0) :: (.iconst 1, 0, 0, 0, 0) :: (.goto 4, 148, 0, 0, 0) :: []
def mB_98_118 : List mm_I := (.iload_n 2, 0, 0, 0, 0) :: (.iconst 1, 0, 0, 0, 0) :: (.if_icmp .ne 8, 128, 0, 0, 0) :: (.iload 7, 0, 0, 0, 0) :: (.goto 23, 148, 0, 0, 0) :: []
def mB_98_41 : List mm_I := (.aload_n 0, 0, 0, 0, 0) :: (.getfield 40, 7, 6, 62, 0) :: (.getfield 130, 3, 0, 77, 0) :: (.iload_n 3, 0, 0, 0, 0) :: (.iaload, 0, 0, 0, 0) :: (.istore 4, 0, 0, 0, 0) :: (.aload_n 0, 0, 0, 0, 0) :: (.getfield 40, 7, 6, 62, 0) :: (.getfield 130, 3, 0, 77, 0) :: (.iconst 1, 0, 0, 0, 0) :: (.iload_n 3, 0, 0, 0, 0) :: (.isub, 0, 0, 0, 0) :: (.iaload, 0, 0, 0, 0) :: (.istore 5, 0, 0, 0, 0) :: (.aload_n 0, 0, 0, 0, 0) :: (.getfield 33, 7, 5, 61, 0) :: (.iload 4, 0, 0, 0, 0) :: (.iload 5, 0, 0, 0, 0) :: (.iload_n 1, 0, 0, 0, 0) :: (.aload_n 0, 0, 0, 0, 0) :: (.getfield 40, 7, 6, 62, 0) :: (.getfield 123, 3, 5, 76, 0) :: (.invokevirtual 277, 25, 5, 117, 81) :: (.invokestatic 164, 0, 1, 92, 84) :: (.istore 6, 0, 0, 0, 0) :: (.aload_n 0, 0, 0, 0, 0) :: (.getfield 33, 7, 5, 61, 0) :: (.iload 5, 0, 0, 0, 0) :: (.iload 4, 0, 0, 0, 0) :: (.aload_n 0, 0, 0, 0, 0) :: (.getfield 40, 7, 6, 62, 0) :: (.getfield 123, 3, 5, 76, 0) :: (.invokevirtual 190, 27, 4, 96, 104) :: (.iconst 1, 0, 0, 0, 0) :: (.iadd, 0, 0, 0, 0) :: (.istore 7, 0, 0, 0, 0) :: (.iload_n 2, 0, 0, 0, 0) :: (.ifCond .ne 6, 118, 0, 0, 0) :: (.iload 6, 0, 0, 0, 0) :: (.ireturn, 0, 0, 0, 0) :: []
def mB_98_25 : List mm_I := (.aload_n 0, 0, 0, 0, 0) :: (.getfield 40, 7, 6, 62, 0) :: (.iload_n 1, 0, 0, 0, 0) :: (.invokevirtual 154, 36, 2, 90, 30) :: (.istore_n 3, 0, 0, 0, 0) :: (.iload_n 3, 0, 0, 0, 0) :: (.iconst 2, 0, 0, 0, 0) :: (.if_icmp .ne 5, 41, 0, 0, 0) :: (.iconst (-1), 0, 0, 0, 0) :: (.ireturn, 0, 0, 0, 0) :: []
def mB_98_14 : List mm_I := (.new 140, 900, 8, 844, 0) :: []
def mB_98_0 : List mm_I := (.aload_n 0, 0, 0, 0, 0) :: (.iload_n 1, 0, 0, 0, 0) :: (.invokevirtual 145, 123, 2, 89, 2) :: (.iload_n 2, 0, 0, 0, 0) :: (.ifCond .lt 8, 14, 0, 0, 0) :: (.iload_n 2, 0, 0, 0, 0) :: (.iconst 2, 0, 0, 0, 0) :: (.if_icmp .le 14, 25, 0, 0, 0) :: mB_98_14
def mT_98 : List (Nat × List mm_I) := [(0, mB_98_0), (14, mB_98_14), (25, mB_98_25), (41, mB_98_41), (118, mB_98_118), (128, mB_98_128), (147, mB_98_147), (148, mB_98_148)]
-- 99: VillageBoard.see(III)I
def mB_99_64 : List mm_I := (.invokevirtual 281, 71, 3, 118, 64) :: (.aload_n 0, 0, 0, 0, 0) :: (.getfield 57, 7, 9, 65, 0) :: (.getfield 139, 6, 2, 80, 0) :: (.ireturn, 0, 0, 0, 0) :: []
def mB_99_58 : List mm_I := (.bipush 100, 0, 0, 0, 0) :: (.iload_n 2, 0, 0, 0, 0) :: (.imul, 0, 0, 0, 0) :: (.iload_n 3, 0, 0, 0, 0) :: (.iadd, 0, 0, 0, 0) :: mB_99_64
def mB_99_44 : List mm_I := (.aload_n 0, 0, 0, 0, 0) :: (.getfield 57, 7, 9, 65, 0) :: (.iload_n 1, 0, 0, 0, 0) :: (.iload_n 2, 0, 0, 0, 0) :: (.iload_n 3, 0, 0, 0, 0) :: (.if_icmp .ne 7, 58, 0, 0, 0) :: (.iconst (-1), 0, 0, 0, 0) :: (.goto 9, 64, 0, 0, 0) :: []
def mB_99_32 : List mm_I := (.aload_n 0, 0, 0, 0, 0) :: (.getfield 20, 7, 3, 59, 0) :: (.iconst 2, 0, 0, 0, 0) :: (.dup2, 0, 0, 0, 0) :: (.iaload, 0, 0, 0, 0) :: (.iconst 1, 0, 0, 0, 0) :: (.iadd, 0, 0, 0, 0) :: (.iastore, 0, 0, 0, 0) :: (.iconst (-1), 0, 0, 0, 0) :: (.ireturn, 0, 0, 0, 0) :: []
def mB_99_0 : List mm_I := (.aload_n 0, 0, 0, 0, 0) :: (.iload_n 2, 0, 0, 0, 0) :: (.invokevirtual 145, 123, 2, 89, 2) :: (.aload_n 0, 0, 0, 0, 0) :: (.iload_n 3, 0, 0, 0, 0) :: (.invokevirtual 145, 123, 2, 89, 7) :: (.iload_n 1, 0, 0, 0, 0) :: (.ifCond .lt 21, 32, 0, 0, 0) :: (.iload_n 1, 0, 0, 0, 0) :: (.bipush 30, 0, 0, 0, 0) :: (.if_icmp .ge 15, 32, 0, 0, 0) :: (.aload_n 0, 0, 0, 0, 0) :: (.getfield 57, 7, 9, 65, 0) :: (.getfield 139, 6, 2, 80, 0) :: (.bipush 6, 0, 0, 0, 0) :: (.if_icmp .lt 15, 44, 0, 0, 0) :: mB_99_32
def mT_99 : List (Nat × List mm_I) := [(0, mB_99_0), (32, mB_99_32), (44, mB_99_44), (58, mB_99_58), (64, mB_99_64)]
-- 100: VillageBoard.forget()V
def mB_100_0 : List mm_I := (.aload_n 0, 0, 0, 0, 0) :: (.getfield 57, 7, 9, 65, 0) :: (.invokevirtual 113, 70, 1, 87, 4) :: (.return_, 0, 0, 0, 0) :: []
def mT_100 : List (Nat × List mm_I) := [(0, mB_100_0)]
-- 101: VillageBoard.styles(I)I
def mB_101_64 : List mm_I := (.ireturn, 0, 0, 0, 0) :: []
def mB_101_57 : List mm_I := (.aload_n 0, 0, 0, 0, 0) :: (.getfield 77, 7, 14, 70, 0) :: (.getfield 293, 1, 2, 88, 0) :: mB_101_64
def mB_101_20 : List mm_I := (.aload_n 0, 0, 0, 0, 0) :: (.getfield 77, 7, 14, 70, 0) :: (.aload_n 0, 0, 0, 0, 0) :: (.getfield 33, 7, 5, 61, 0) :: (.aload_n 0, 0, 0, 0, 0) :: (.getfield 40, 7, 6, 62, 0) :: (.aload_n 0, 0, 0, 0, 0) :: (.getfield 44, 7, 7, 63, 0) :: (.aload_n 0, 0, 0, 0, 0) :: (.getfield 57, 7, 9, 65, 0) :: (.invokevirtual 286, 7, 5, 119, 40) :: (.iload_n 1, 0, 0, 0, 0) :: (.ifCond .ne 13, 57, 0, 0, 0) :: (.aload_n 0, 0, 0, 0, 0) :: (.getfield 77, 7, 14, 70, 0) :: (.getfield 290, 1, 1, 87, 0) :: (.goto 10, 64, 0, 0, 0) :: []
def mB_101_0 : List mm_I := (.iload_n 1, 0, 0, 0, 0) :: (.ifCond .eq 19, 20, 0, 0, 0) :: (.iload_n 1, 0, 0, 0, 0) :: (.iconst 1, 0, 0, 0, 0) :: (.if_icmp .eq 14, 20, 0, 0, 0) :: (.new 140, 900, 9, 844, 0) :: []
def mT_101 : List (Nat × List mm_I) := [(0, mB_101_0), (20, mB_101_20), (57, mB_101_57), (64, mB_101_64)]
-- 102: VillageBoard.next(I)I
def mB_102_95 : List mm_I := (.ireturn, 0, 0, 0, 0) :: []
def mB_102_94 : List mm_I := (.iload_n 3, 0, 0, 0, 0) :: mB_102_95
def mB_102_86 : List mm_I := (.iload_n 1, 0, 0, 0, 0) :: (.ifCond .ne 7, 94, 0, 0, 0) :: (.iload_n 2, 0, 0, 0, 0) :: (.goto 4, 95, 0, 0, 0) :: []
def mB_102_80 : List mm_I := (.iinc 4 1, 0, 0, 0, 0) :: (.goto (-33), 50, 0, 0, 0) :: []
def mB_102_50 : List mm_I := (.iload 4, 0, 0, 0, 0) :: (.bipush 30, 0, 0, 0, 0) :: (.if_icmp .ge 32, 86, 0, 0, 0) :: (.aload_n 0, 0, 0, 0, 0) :: (.getfield 77, 7, 14, 70, 0) :: (.iload 4, 0, 0, 0, 0) :: (.invokevirtual 298, 9, 2, 120, 63) :: (.istore 5, 0, 0, 0, 0) :: (.iload 5, 0, 0, 0, 0) :: (.iload_n 3, 0, 0, 0, 0) :: (.if_icmp .le 9, 80, 0, 0, 0) :: (.iload 5, 0, 0, 0, 0) :: (.istore_n 3, 0, 0, 0, 0) :: (.iload 4, 0, 0, 0, 0) :: (.istore_n 2, 0, 0, 0, 0) :: mB_102_80
def mB_102_20 : List mm_I := (.aload_n 0, 0, 0, 0, 0) :: (.getfield 77, 7, 14, 70, 0) :: (.aload_n 0, 0, 0, 0, 0) :: (.getfield 33, 7, 5, 61, 0) :: (.aload_n 0, 0, 0, 0, 0) :: (.getfield 40, 7, 6, 62, 0) :: (.aload_n 0, 0, 0, 0, 0) :: (.getfield 44, 7, 7, 63, 0) :: (.aload_n 0, 0, 0, 0, 0) :: (.getfield 57, 7, 9, 65, 0) :: (.invokevirtual 286, 7, 5, 119, 40) :: (.iconst (-1), 0, 0, 0, 0) :: (.istore_n 2, 0, 0, 0, 0) :: (.iconst 0, 0, 0, 0, 0) :: (.istore_n 3, 0, 0, 0, 0) :: (.iconst 0, 0, 0, 0, 0) :: (.istore 4, 0, 0, 0, 0) :: mB_102_50
def mB_102_0 : List mm_I := (.iload_n 1, 0, 0, 0, 0) :: (.ifCond .eq 19, 20, 0, 0, 0) :: (.iload_n 1, 0, 0, 0, 0) :: (.iconst 1, 0, 0, 0, 0) :: (.if_icmp .eq 14, 20, 0, 0, 0) :: (.new 140, 900, 10, 844, 0) :: []
def mT_102 : List (Nat × List mm_I) := [(0, mB_102_0), (20, mB_102_20), (50, mB_102_50), (80, mB_102_80), (86, mB_102_86), (94, mB_102_94), (95, mB_102_95)]
-- 103: VillageBoard.treaty()Z
def mB_103_21 : List mm_I := (.ireturn, 0, 0, 0, 0) :: []
def mB_103_20 : List mm_I := (.iconst 0, 0, 0, 0, 0) :: mB_103_21
def mB_103_0 : List mm_I := (.aload_n 0, 0, 0, 0, 0) :: (.iconst 0, 0, 0, 0, 0) :: (.invokevirtual 301, 104, 2, 121, 2) :: (.ifCond .eq 15, 20, 0, 0, 0) :: (.aload_n 0, 0, 0, 0, 0) :: (.iconst 1, 0, 0, 0, 0) :: (.invokevirtual 301, 104, 2, 121, 10) :: (.ifCond .eq 7, 20, 0, 0, 0) :: (.iconst 1, 0, 0, 0, 0) :: (.goto 4, 21, 0, 0, 0) :: []
def mT_103 : List (Nat × List mm_I) := [(0, mB_103_0), (20, mB_103_20), (21, mB_103_21)]
-- 104: VillageBoard.keepsTreaty(I)Z
def mB_104_80 : List mm_I := (.iconst 1, 0, 0, 0, 0) :: (.ireturn, 0, 0, 0, 0) :: []
def mB_104_74 : List mm_I := (.iinc 4 1, 0, 0, 0, 0) :: (.goto (-31), 46, 0, 0, 0) :: []
def mB_104_46 : List mm_I := (.iload 4, 0, 0, 0, 0) :: (.iload_n 3, 0, 0, 0, 0) :: (.if_icmp .ge 31, 80, 0, 0, 0) :: (.aload_n 0, 0, 0, 0, 0) :: (.iload_n 1, 0, 0, 0, 0) :: (.aload_n 0, 0, 0, 0, 0) :: (.getfield 33, 7, 5, 61, 0) :: (.getfield 307, 2, 8, 89, 0) :: (.iload 4, 0, 0, 0, 0) :: (.iaload, 0, 0, 0, 0) :: (.iconst 2, 0, 0, 0, 0) :: (.invokevirtual 304, 131, 4, 122, 65) :: (.iload_n 2, 0, 0, 0, 0) :: (.if_icmp .le 5, 74, 0, 0, 0) :: (.iconst 0, 0, 0, 0, 0) :: (.ireturn, 0, 0, 0, 0) :: []
def mB_104_0 : List mm_I := (.aload_n 0, 0, 0, 0, 0) :: (.iload_n 1, 0, 0, 0, 0) :: (.iconst (-1), 0, 0, 0, 0) :: (.iconst 2, 0, 0, 0, 0) :: (.invokevirtual 304, 131, 4, 122, 4) :: (.istore_n 2, 0, 0, 0, 0) :: (.aload_n 0, 0, 0, 0, 0) :: (.getfield 33, 7, 5, 61, 0) :: (.aload_n 0, 0, 0, 0, 0) :: (.getfield 40, 7, 6, 62, 0) :: (.getfield 130, 3, 0, 77, 0) :: (.iload_n 1, 0, 0, 0, 0) :: (.iaload, 0, 0, 0, 0) :: (.aload_n 0, 0, 0, 0, 0) :: (.getfield 40, 7, 6, 62, 0) :: (.getfield 130, 3, 0, 77, 0) :: (.iconst 1, 0, 0, 0, 0) :: (.iload_n 1, 0, 0, 0, 0) :: (.isub, 0, 0, 0, 0) :: (.iaload, 0, 0, 0, 0) :: (.aload_n 0, 0, 0, 0, 0) :: (.getfield 40, 7, 6, 62, 0) :: (.getfield 123, 3, 5, 76, 0) :: (.invokevirtual 190, 27, 4, 96, 39) :: (.istore_n 3, 0, 0, 0, 0) :: (.iconst 0, 0, 0, 0, 0) :: (.istore 4, 0, 0, 0, 0) :: mB_104_46
def mT_104 : List (Nat × List mm_I) := [(0, mB_104_0), (46, mB_104_46), (74, mB_104_74), (80, mB_104_80)]
-- 105: VillageBoard.game(III)I
def mB_105_162 : List mm_I := (.ireturn, 0, 0, 0, 0) :: []
def mB_105_160 : List mm_I := (.iload 5, 0, 0, 0, 0) :: mB_105_162
def mB_105_151 : List mm_I := (.iload_n 3, 0, 0, 0, 0) :: (.ifCond .ne 8, 160, 0, 0, 0) :: (.iload 4, 0, 0, 0, 0) :: (.goto 5, 162, 0, 0, 0) :: []
def mB_105_145 : List mm_I := (.iinc 6 (-1), 0, 0, 0, 0) :: (.goto (-34), 114, 0, 0, 0) :: []
def mB_105_114 : List mm_I := (.iload 6, 0, 0, 0, 0) :: (.ifCond .lt 35, 151, 0, 0, 0) :: (.aload_n 0, 0, 0, 0, 0) :: (.iload 6, 0, 0, 0, 0) :: (.invokevirtual 318, 107, 2, 124, 122) :: (.ifCond .eq 20, 145, 0, 0, 0) :: (.iinc 4 1, 0, 0, 0, 0) :: (.bipush 10, 0, 0, 0, 0) :: (.iload 6, 0, 0, 0, 0) :: (.iconst 2, 0, 0, 0, 0) :: (.idiv, 0, 0, 0, 0) :: (.imul, 0, 0, 0, 0) :: (.iload 6, 0, 0, 0, 0) :: (.iconst 2, 0, 0, 0, 0) :: (.irem, 0, 0, 0, 0) :: (.iadd, 0, 0, 0, 0) :: (.istore 5, 0, 0, 0, 0) :: mB_105_145
def mB_105_105 : List mm_I := (.iconst 0, 0, 0, 0, 0) :: (.istore 4, 0, 0, 0, 0) :: (.iconst (-1), 0, 0, 0, 0) :: (.istore 5, 0, 0, 0, 0) :: (.iconst 3, 0, 0, 0, 0) :: (.istore 6, 0, 0, 0, 0) :: mB_105_114
def mB_105_87 : List mm_I := (.istore 6, 0, 0, 0, 0) :: (.aload_n 0, 0, 0, 0, 0) :: (.iload 4, 0, 0, 0, 0) :: (.iload 5, 0, 0, 0, 0) :: (.iload 6, 0, 0, 0, 0) :: (.invokevirtual 314, 106, 4, 123, 96) :: (.iinc 4 1, 0, 0, 0, 0) :: (.goto (-47), 55, 0, 0, 0) :: []
def mB_105_86 : List mm_I := (.iload_n 2, 0, 0, 0, 0) :: mB_105_87
def mB_105_73 : List mm_I := (.istore 5, 0, 0, 0, 0) :: (.iload 4, 0, 0, 0, 0) :: (.iconst 2, 0, 0, 0, 0) :: (.irem, 0, 0, 0, 0) :: (.ifCond .ne 7, 86, 0, 0, 0) :: (.iload_n 1, 0, 0, 0, 0) :: (.goto 4, 87, 0, 0, 0) :: []
def mB_105_72 : List mm_I := (.iload_n 2, 0, 0, 0, 0) :: mB_105_73
def mB_105_55 : List mm_I := (.iload 4, 0, 0, 0, 0) :: (.iconst 4, 0, 0, 0, 0) :: (.if_icmp .ge 47, 105, 0, 0, 0) :: (.iload 4, 0, 0, 0, 0) :: (.iconst 2, 0, 0, 0, 0) :: (.idiv, 0, 0, 0, 0) :: (.ifCond .ne 7, 72, 0, 0, 0) :: (.iload_n 1, 0, 0, 0, 0) :: (.goto 4, 73, 0, 0, 0) :: []
def mB_105_52 : List mm_I := (.iconst 0, 0, 0, 0, 0) :: (.istore 4, 0, 0, 0, 0) :: mB_105_55
def mB_105_36 : List mm_I := (.iload_n 1, 0, 0, 0, 0) :: (.iload_n 2, 0, 0, 0, 0) :: (.if_icmp .ne 14, 52, 0, 0, 0) :: (.new 88, 901, 12, 588, 0) :: []
def mB_105_25 : List mm_I := (.new 140, 900, 11, 844, 0) :: []
def mB_105_0 : List mm_I := (.aload_n 0, 0, 0, 0, 0) :: (.iload_n 1, 0, 0, 0, 0) :: (.invokevirtual 219, 125, 2, 104, 2) :: (.ifCond .eq 20, 25, 0, 0, 0) :: (.aload_n 0, 0, 0, 0, 0) :: (.iload_n 2, 0, 0, 0, 0) :: (.invokevirtual 219, 125, 2, 104, 10) :: (.ifCond .eq 12, 25, 0, 0, 0) :: (.iload_n 3, 0, 0, 0, 0) :: (.ifCond .lt 8, 25, 0, 0, 0) :: (.iload_n 3, 0, 0, 0, 0) :: (.iconst 1, 0, 0, 0, 0) :: (.if_icmp .le 14, 36, 0, 0, 0) :: mB_105_25
def mT_105 : List (Nat × List mm_I) := [(0, mB_105_0), (25, mB_105_25), (36, mB_105_36), (52, mB_105_52), (55, mB_105_55), (72, mB_105_72), (73, mB_105_73), (86, mB_105_86), (87, mB_105_87), (105, mB_105_105), (114, mB_105_114), (145, mB_105_145), (151, mB_105_151), (160, mB_105_160), (162, mB_105_162)]
-- 106: VillageBoard.playGame(III)V
def mB_106_59 : List mm_I := (.aload_n 0, 0, 0, 0, 0) :: (.getfield 81, 7, 15, 71, 0) :: (.iconst 2, 0, 0, 0, 0) :: (.iload_n 1, 0, 0, 0, 0) :: (.imul, 0, 0, 0, 0) :: (.aload_n 0, 0, 0, 0, 0) :: (.getfield 44, 7, 7, 63, 0) :: (.getfield 177, 3, 2, 85, 0) :: (.iconst 0, 0, 0, 0, 0) :: (.iaload, 0, 0, 0, 0) :: (.aload_n 0, 0, 0, 0, 0) :: (.getfield 40, 7, 6, 62, 0) :: (.getfield 177, 3, 2, 85, 0) :: (.iconst 0, 0, 0, 0, 0) :: (.iaload, 0, 0, 0, 0) :: (.isub, 0, 0, 0, 0) :: (.iastore, 0, 0, 0, 0) :: (.aload_n 0, 0, 0, 0, 0) :: (.getfield 81, 7, 15, 71, 0) :: (.iconst 2, 0, 0, 0, 0) :: (.iload_n 1, 0, 0, 0, 0) :: (.imul, 0, 0, 0, 0) :: (.iconst 1, 0, 0, 0, 0) :: (.iadd, 0, 0, 0, 0) :: (.aload_n 0, 0, 0, 0, 0) :: (.getfield 44, 7, 7, 63, 0) :: (.getfield 177, 3, 2, 85, 0) :: (.iconst 1, 0, 0, 0, 0) :: (.iaload, 0, 0, 0, 0) :: (.aload_n 0, 0, 0, 0, 0) :: (.getfield 40, 7, 6, 62, 0) :: (.getfield 177, 3, 2, 85, 0) :: (.iconst 1, 0, 0, 0, 0) :: (.iaload, 0, 0, 0, 0) :: (.isub, 0, 0, 0, 0) :: (.iastore, 0, 0, 0, 0) :: (.return_, 0, 0, 0, 0) :: []
def mB_106_34 : List mm_I := (.iload 4, 0, 0, 0, 0) :: (.bipush 10, 0, 0, 0, 0) :: (.if_icmp .ge 21, 59, 0, 0, 0) :: (.aload_n 0, 0, 0, 0, 0) :: (.getfield 44, 7, 7, 63, 0) :: (.aload_n 0, 0, 0, 0, 0) :: (.getfield 33, 7, 5, 61, 0) :: (.invokevirtual 223, 40, 2, 105, 49) :: (.pop, 0, 0, 0, 0) :: (.iinc 4 1, 0, 0, 0, 0) :: (.goto (-22), 34, 0, 0, 0) :: []
def mB_106_0 : List mm_I := (.aload_n 0, 0, 0, 0, 0) :: (.getfield 44, 7, 7, 63, 0) :: (.aload_n 0, 0, 0, 0, 0) :: (.getfield 40, 7, 6, 62, 0) :: (.invokevirtual 261, 31, 2, 114, 8) :: (.aload_n 0, 0, 0, 0, 0) :: (.getfield 44, 7, 7, 63, 0) :: (.getfield 180, 3, 3, 86, 0) :: (.iconst 0, 0, 0, 0, 0) :: (.iload_n 2, 0, 0, 0, 0) :: (.iastore, 0, 0, 0, 0) :: (.aload_n 0, 0, 0, 0, 0) :: (.getfield 44, 7, 7, 63, 0) :: (.getfield 180, 3, 3, 86, 0) :: (.iconst 1, 0, 0, 0, 0) :: (.iload_n 3, 0, 0, 0, 0) :: (.iastore, 0, 0, 0, 0) :: (.iconst 0, 0, 0, 0, 0) :: (.istore 4, 0, 0, 0, 0) :: mB_106_34
def mT_106 : List (Nat × List mm_I) := [(0, mB_106_0), (34, mB_106_34), (59, mB_106_59)]
-- 107: VillageBoard.rests(I)Z
def mB_107_55 : List mm_I := (.ireturn, 0, 0, 0, 0) :: []
def mB_107_54 : List mm_I := (.iconst 0, 0, 0, 0, 0) :: mB_107_55
def mB_107_0 : List mm_I := (.iload_n 1, 0, 0, 0, 0) :: (.iconst 2, 0, 0, 0, 0) :: (.ixor, 0, 0, 0, 0) :: (.istore_n 2, 0, 0, 0, 0) :: (.iload_n 1, 0, 0, 0, 0) :: (.iconst 1, 0, 0, 0, 0) :: (.ixor, 0, 0, 0, 0) :: (.istore_n 3, 0, 0, 0, 0) :: (.aload_n 0, 0, 0, 0, 0) :: (.getfield 81, 7, 15, 71, 0) :: (.iconst 2, 0, 0, 0, 0) :: (.iload_n 2, 0, 0, 0, 0) :: (.imul, 0, 0, 0, 0) :: (.iaload, 0, 0, 0, 0) :: (.aload_n 0, 0, 0, 0, 0) :: (.getfield 81, 7, 15, 71, 0) :: (.iconst 2, 0, 0, 0, 0) :: (.iload_n 1, 0, 0, 0, 0) :: (.imul, 0, 0, 0, 0) :: (.iaload, 0, 0, 0, 0) :: (.if_icmp .gt 30, 54, 0, 0, 0) :: (.aload_n 0, 0, 0, 0, 0) :: (.getfield 81, 7, 15, 71, 0) :: (.iconst 2, 0, 0, 0, 0) :: (.iload_n 3, 0, 0, 0, 0) :: (.imul, 0, 0, 0, 0) :: (.iconst 1, 0, 0, 0, 0) :: (.iadd, 0, 0, 0, 0) :: (.iaload, 0, 0, 0, 0) :: (.aload_n 0, 0, 0, 0, 0) :: (.getfield 81, 7, 15, 71, 0) :: (.iconst 2, 0, 0, 0, 0) :: (.iload_n 1, 0, 0, 0, 0) :: (.imul, 0, 0, 0, 0) :: (.iconst 1, 0, 0, 0, 0) :: (.iadd, 0, 0, 0, 0) :: (.iaload, 0, 0, 0, 0) :: (.if_icmp .gt 7, 54, 0, 0, 0) :: (.iconst 1, 0, 0, 0, 0) :: (.goto 4, 55, 0, 0, 0) :: []
def mT_107 : List (Nat × List mm_I) := [(0, mB_107_0), (54, mB_107_54), (55, mB_107_55)]
-- 108: VillageBoard.years(III)I
def mB_108_130 : List mm_I := (.ireturn, 0, 0, 0, 0) :: []
def mB_108_119 : List mm_I := (.aload_n 0, 0, 0, 0, 0) :: (.getfield 44, 7, 7, 63, 0) :: (.getfield 177, 3, 2, 85, 0) :: (.iload_n 3, 0, 0, 0, 0) :: (.iconst 1, 0, 0, 0, 0) :: (.isub, 0, 0, 0, 0) :: (.iaload, 0, 0, 0, 0) :: mB_108_130
def mB_108_102 : List mm_I := (.iload_n 3, 0, 0, 0, 0) :: (.ifCond .ne 16, 119, 0, 0, 0) :: (.aload_n 0, 0, 0, 0, 0) :: (.getfield 44, 7, 7, 63, 0) :: (.invokevirtual 253, 35, 1, 112, 110) :: (.invokestatic 164, 0, 1, 92, 113) :: (.goto 14, 130, 0, 0, 0) :: []
def mB_108_58 : List mm_I := (.iload 5, 0, 0, 0, 0) :: (.iload_n 2, 0, 0, 0, 0) :: (.if_icmp .ge 41, 102, 0, 0, 0) :: (.iload 4, 0, 0, 0, 0) :: (.ldc_w 325, 0, 0, 1116, 1103515245) :: (.imul, 0, 0, 0, 0) :: (.sipush 12345, 0, 0, 0, 0) :: (.iadd, 0, 0, 0, 0) :: (.istore 4, 0, 0, 0, 0) :: (.aload_n 0, 0, 0, 0, 0) :: (.getfield 44, 7, 7, 63, 0) :: (.aload_n 0, 0, 0, 0, 0) :: (.getfield 33, 7, 5, 61, 0) :: (.iload 4, 0, 0, 0, 0) :: (.bipush 16, 0, 0, 0, 0) :: (.iushr, 0, 0, 0, 0) :: (.sipush 32767, 0, 0, 0, 0) :: (.iand, 0, 0, 0, 0) :: (.invokevirtual 326, 42, 3, 125, 93) :: (.iinc 5 1, 0, 0, 0, 0) :: (.goto (-41), 58, 0, 0, 0) :: []
def mB_108_41 : List mm_I := (.aload_n 0, 0, 0, 0, 0) :: (.getfield 44, 7, 7, 63, 0) :: (.aload_n 0, 0, 0, 0, 0) :: (.getfield 40, 7, 6, 62, 0) :: (.invokevirtual 261, 31, 2, 114, 49) :: (.iload_n 1, 0, 0, 0, 0) :: (.istore 4, 0, 0, 0, 0) :: (.iconst 0, 0, 0, 0, 0) :: (.istore 5, 0, 0, 0, 0) :: mB_108_58
def mB_108_30 : List mm_I := (.new 88, 901, 14, 588, 0) :: []
def mB_108_20 : List mm_I := (.iload_n 2, 0, 0, 0, 0) :: (.ifCond .lt 9, 30, 0, 0, 0) :: (.iload_n 2, 0, 0, 0, 0) :: (.bipush 60, 0, 0, 0, 0) :: (.if_icmp .le 14, 41, 0, 0, 0) :: mB_108_30
def mB_108_9 : List mm_I := (.new 140, 900, 13, 844, 0) :: []
def mB_108_0 : List mm_I := (.iload_n 3, 0, 0, 0, 0) :: (.ifCond .lt 8, 9, 0, 0, 0) :: (.iload_n 3, 0, 0, 0, 0) :: (.iconst 2, 0, 0, 0, 0) :: (.if_icmp .le 14, 20, 0, 0, 0) :: mB_108_9
def mT_108 : List (Nat × List mm_I) := [(0, mB_108_0), (9, mB_108_9), (20, mB_108_20), (30, mB_108_30), (41, mB_108_41), (58, mB_108_58), (102, mB_108_102), (119, mB_108_119), (130, mB_108_130)]
-- 109: VillageBoard.owes(I)I
def mB_109_71 : List mm_I := (.iload_n 2, 0, 0, 0, 0) :: (.ireturn, 0, 0, 0, 0) :: []
def mB_109_65 : List mm_I := (.iinc 3 1, 0, 0, 0, 0) :: (.goto (-59), 9, 0, 0, 0) :: []
def mB_109_9 : List mm_I := (.iload_n 3, 0, 0, 0, 0) :: (.aload_n 0, 0, 0, 0, 0) :: (.getfield 33, 7, 5, 61, 0) :: (.getfield 114, 2, 0, 73, 0) :: (.if_icmp .ge 54, 71, 0, 0, 0) :: (.aload_n 0, 0, 0, 0, 0) :: (.getfield 40, 7, 6, 62, 0) :: (.getfield 133, 3, 1, 78, 0) :: (.iload_n 1, 0, 0, 0, 0) :: (.iaload, 0, 0, 0, 0) :: (.iload_n 3, 0, 0, 0, 0) :: (.invokestatic 198, 122, 2, 98, 30) :: (.ifCond .eq 32, 65, 0, 0, 0) :: (.iload_n 2, 0, 0, 0, 0) :: (.aload_n 0, 0, 0, 0, 0) :: (.getfield 33, 7, 5, 61, 0) :: (.getfield 148, 2, 4, 81, 0) :: (.iload_n 3, 0, 0, 0, 0) :: (.iaload, 0, 0, 0, 0) :: (.aload_n 0, 0, 0, 0, 0) :: (.getfield 40, 7, 6, 62, 0) :: (.getfield 169, 3, 4, 84, 0) :: (.bipush 10, 0, 0, 0, 0) :: (.iconst 1, 0, 0, 0, 0) :: (.iload_n 1, 0, 0, 0, 0) :: (.isub, 0, 0, 0, 0) :: (.imul, 0, 0, 0, 0) :: (.iload_n 3, 0, 0, 0, 0) :: (.iadd, 0, 0, 0, 0) :: (.iaload, 0, 0, 0, 0) :: (.imul, 0, 0, 0, 0) :: (.iadd, 0, 0, 0, 0) :: (.istore_n 2, 0, 0, 0, 0) :: mB_109_65
def mB_109_0 : List mm_I := (.aload_n 0, 0, 0, 0, 0) :: (.iload_n 1, 0, 0, 0, 0) :: (.invokevirtual 174, 124, 2, 93, 2) :: (.iconst 0, 0, 0, 0, 0) :: (.istore_n 2, 0, 0, 0, 0) :: (.iconst 0, 0, 0, 0, 0) :: (.istore_n 3, 0, 0, 0, 0) :: mB_109_9
def mT_109 : List (Nat × List mm_I) := [(0, mB_109_0), (9, mB_109_9), (65, mB_109_65), (71, mB_109_71)]
-- 110: VillageBoard.front()I
def mB_110_62 : List mm_I := (.iload_n 1, 0, 0, 0, 0) :: (.ireturn, 0, 0, 0, 0) :: []
def mB_110_56 : List mm_I := (.iinc 2 1, 0, 0, 0, 0) :: (.goto (-55), 4, 0, 0, 0) :: []
def mB_110_4 : List mm_I := (.iload_n 2, 0, 0, 0, 0) :: (.aload_n 0, 0, 0, 0, 0) :: (.getfield 33, 7, 5, 61, 0) :: (.getfield 114, 2, 0, 73, 0) :: (.if_icmp .ge 50, 62, 0, 0, 0) :: (.aload_n 0, 0, 0, 0, 0) :: (.getfield 40, 7, 6, 62, 0) :: (.getfield 133, 3, 1, 78, 0) :: (.iconst 0, 0, 0, 0, 0) :: (.iaload, 0, 0, 0, 0) :: (.iload_n 2, 0, 0, 0, 0) :: (.invokestatic 198, 122, 2, 98, 25) :: (.ifCond .eq 28, 56, 0, 0, 0) :: (.iload_n 1, 0, 0, 0, 0) :: (.aload_n 0, 0, 0, 0, 0) :: (.getfield 33, 7, 5, 61, 0) :: (.getfield 161, 2, 6, 83, 0) :: (.iload_n 2, 0, 0, 0, 0) :: (.iaload, 0, 0, 0, 0) :: (.aload_n 0, 0, 0, 0, 0) :: (.getfield 40, 7, 6, 62, 0) :: (.getfield 133, 3, 1, 78, 0) :: (.iconst 1, 0, 0, 0, 0) :: (.iaload, 0, 0, 0, 0) :: (.iand, 0, 0, 0, 0) :: (.invokestatic 164, 0, 1, 92, 51) :: (.iadd, 0, 0, 0, 0) :: (.istore_n 1, 0, 0, 0, 0) :: mB_110_56
def mB_110_0 : List mm_I := (.iconst 0, 0, 0, 0, 0) :: (.istore_n 1, 0, 0, 0, 0) :: (.iconst 0, 0, 0, 0, 0) :: (.istore_n 2, 0, 0, 0, 0) :: mB_110_4
def mT_110 : List (Nat × List mm_I) := [(0, mB_110_0), (4, mB_110_4), (56, mB_110_56), (62, mB_110_62)]
-- 111: VillageBoard.parts(I)I
def mB_111_67 : List mm_I := (.iload_n 3, 0, 0, 0, 0) :: (.ireturn, 0, 0, 0, 0) :: []
def mB_111_61 : List mm_I := (.iinc 4 1, 0, 0, 0, 0) :: (.goto (-44), 20, 0, 0, 0) :: []
def mB_111_20 : List mm_I := (.iload 4, 0, 0, 0, 0) :: (.aload_n 0, 0, 0, 0, 0) :: (.getfield 33, 7, 5, 61, 0) :: (.getfield 114, 2, 0, 73, 0) :: (.if_icmp .ge 38, 67, 0, 0, 0) :: (.iload_n 2, 0, 0, 0, 0) :: (.iload 4, 0, 0, 0, 0) :: (.invokestatic 198, 122, 2, 98, 35) :: (.ifCond .eq 23, 61, 0, 0, 0) :: (.iinc 3 1, 0, 0, 0, 0) :: (.iload_n 2, 0, 0, 0, 0) :: (.aload_n 0, 0, 0, 0, 0) :: (.getfield 33, 7, 5, 61, 0) :: (.iload_n 2, 0, 0, 0, 0) :: (.iconst 1, 0, 0, 0, 0) :: (.iload 4, 0, 0, 0, 0) :: (.ishl, 0, 0, 0, 0) :: (.invokevirtual 330, 21, 3, 126, 54) :: (.iconst (-1), 0, 0, 0, 0) :: (.ixor, 0, 0, 0, 0) :: (.iand, 0, 0, 0, 0) :: (.istore_n 2, 0, 0, 0, 0) :: mB_111_61
def mB_111_0 : List mm_I := (.aload_n 0, 0, 0, 0, 0) :: (.iload_n 1, 0, 0, 0, 0) :: (.invokevirtual 174, 124, 2, 93, 2) :: (.aload_n 0, 0, 0, 0, 0) :: (.getfield 40, 7, 6, 62, 0) :: (.getfield 133, 3, 1, 78, 0) :: (.iload_n 1, 0, 0, 0, 0) :: (.iaload, 0, 0, 0, 0) :: (.istore_n 2, 0, 0, 0, 0) :: (.iconst 0, 0, 0, 0, 0) :: (.istore_n 3, 0, 0, 0, 0) :: (.iconst 0, 0, 0, 0, 0) :: (.istore 4, 0, 0, 0, 0) :: mB_111_20
def mT_111 : List (Nat × List mm_I) := [(0, mB_111_0), (20, mB_111_20), (61, mB_111_61), (67, mB_111_67)]
-- 112: VillageBoard.safe(I)I
def mB_112_136 : List mm_I := (.iload 4, 0, 0, 0, 0) :: (.ireturn, 0, 0, 0, 0) :: []
def mB_112_130 : List mm_I := (.iinc 5 1, 0, 0, 0, 0) :: (.goto (-100), 33, 0, 0, 0) :: []
def mB_112_33 : List mm_I := (.iload 5, 0, 0, 0, 0) :: (.aload_n 0, 0, 0, 0, 0) :: (.getfield 33, 7, 5, 61, 0) :: (.getfield 114, 2, 0, 73, 0) :: (.if_icmp .ge 94, 136, 0, 0, 0) :: (.iload_n 3, 0, 0, 0, 0) :: (.iload 5, 0, 0, 0, 0) :: (.invokestatic 198, 122, 2, 98, 48) :: (.ifCond .eq 79, 130, 0, 0, 0) :: (.aload_n 0, 0, 0, 0, 0) :: (.getfield 40, 7, 6, 62, 0) :: (.getfield 130, 3, 0, 77, 0) :: (.iload_n 2, 0, 0, 0, 0) :: (.iaload, 0, 0, 0, 0) :: (.iconst 1, 0, 0, 0, 0) :: (.iload_n 1, 0, 0, 0, 0) :: (.ishl, 0, 0, 0, 0) :: (.iconst (-1), 0, 0, 0, 0) :: (.ixor, 0, 0, 0, 0) :: (.iand, 0, 0, 0, 0) :: (.iconst 1, 0, 0, 0, 0) :: (.iload 5, 0, 0, 0, 0) :: (.ishl, 0, 0, 0, 0) :: (.ior, 0, 0, 0, 0) :: (.istore 6, 0, 0, 0, 0) :: (.aload_n 0, 0, 0, 0, 0) :: (.getfield 40, 7, 6, 62, 0) :: (.getfield 130, 3, 0, 77, 0) :: (.iconst 1, 0, 0, 0, 0) :: (.iload_n 2, 0, 0, 0, 0) :: (.isub, 0, 0, 0, 0) :: (.iaload, 0, 0, 0, 0) :: (.iconst 1, 0, 0, 0, 0) :: (.iload 5, 0, 0, 0, 0) :: (.ishl, 0, 0, 0, 0) :: (.iconst (-1), 0, 0, 0, 0) :: (.ixor, 0, 0, 0, 0) :: (.iand, 0, 0, 0, 0) :: (.istore 7, 0, 0, 0, 0) :: (.aload_n 0, 0, 0, 0, 0) :: (.getfield 33, 7, 5, 61, 0) :: (.iload 6, 0, 0, 0, 0) :: (.iload 7, 0, 0, 0, 0) :: (.iload 5, 0, 0, 0, 0) :: (.aload_n 0, 0, 0, 0, 0) :: (.getfield 40, 7, 6, 62, 0) :: (.getfield 123, 3, 5, 76, 0) :: (.iconst 1, 0, 0, 0, 0) :: (.iadd, 0, 0, 0, 0) :: (.invokevirtual 277, 25, 5, 117, 115) :: (.ifCond .ne 12, 130, 0, 0, 0) :: (.iload 4, 0, 0, 0, 0) :: (.iconst 1, 0, 0, 0, 0) :: (.iload 5, 0, 0, 0, 0) :: (.ishl, 0, 0, 0, 0) :: (.ior, 0, 0, 0, 0) :: (.istore 4, 0, 0, 0, 0) :: mB_112_130
def mB_112_21 : List mm_I := (.aload_n 0, 0, 0, 0, 0) :: (.iload_n 1, 0, 0, 0, 0) :: (.invokevirtual 202, 126, 2, 99, 23) :: (.istore_n 3, 0, 0, 0, 0) :: (.iconst 0, 0, 0, 0, 0) :: (.istore 4, 0, 0, 0, 0) :: (.iconst 0, 0, 0, 0, 0) :: (.istore 5, 0, 0, 0, 0) :: mB_112_33
def mB_112_0 : List mm_I := (.aload_n 0, 0, 0, 0, 0) :: (.iload_n 1, 0, 0, 0, 0) :: (.invokevirtual 145, 123, 2, 89, 2) :: (.aload_n 0, 0, 0, 0, 0) :: (.getfield 40, 7, 6, 62, 0) :: (.iload_n 1, 0, 0, 0, 0) :: (.invokevirtual 154, 36, 2, 90, 10) :: (.istore_n 2, 0, 0, 0, 0) :: (.iload_n 2, 0, 0, 0, 0) :: (.iconst 2, 0, 0, 0, 0) :: (.if_icmp .ne 5, 21, 0, 0, 0) :: (.iconst 0, 0, 0, 0, 0) :: (.ireturn, 0, 0, 0, 0) :: []
def mT_112 : List (Nat × List mm_I) := [(0, mB_112_0), (21, mB_112_21), (33, mB_112_33), (130, mB_112_130), (136, mB_112_136)]
-- 113: VillageBoard.reach(I)I
def mB_113_19 : List mm_I := (.aload_n 0, 0, 0, 0, 0) :: (.getfield 33, 7, 5, 61, 0) :: (.aload_n 0, 0, 0, 0, 0) :: (.getfield 33, 7, 5, 61, 0) :: (.aload_n 0, 0, 0, 0, 0) :: (.getfield 40, 7, 6, 62, 0) :: (.invokevirtual 253, 35, 1, 112, 31) :: (.invokevirtual 256, 18, 2, 113, 34) :: (.iconst 1, 0, 0, 0, 0) :: (.iload_n 1, 0, 0, 0, 0) :: (.ishl, 0, 0, 0, 0) :: (.invokevirtual 330, 21, 3, 126, 40) :: (.iconst 1, 0, 0, 0, 0) :: (.iload_n 1, 0, 0, 0, 0) :: (.ishl, 0, 0, 0, 0) :: (.iconst (-1), 0, 0, 0, 0) :: (.ixor, 0, 0, 0, 0) :: (.iand, 0, 0, 0, 0) :: (.ireturn, 0, 0, 0, 0) :: []
def mB_113_0 : List mm_I := (.aload_n 0, 0, 0, 0, 0) :: (.iload_n 1, 0, 0, 0, 0) :: (.invokevirtual 145, 123, 2, 89, 2) :: (.aload_n 0, 0, 0, 0, 0) :: (.getfield 40, 7, 6, 62, 0) :: (.iload_n 1, 0, 0, 0, 0) :: (.invokevirtual 154, 36, 2, 90, 10) :: (.iconst 2, 0, 0, 0, 0) :: (.if_icmp .ne 5, 19, 0, 0, 0) :: (.iconst 0, 0, 0, 0, 0) :: (.ireturn, 0, 0, 0, 0) :: []
def mT_113 : List (Nat × List mm_I) := [(0, mB_113_0), (19, mB_113_19)]
-- 114: VillageBoard.guard(I)I
def mB_114_136 : List mm_I := (.iconst (-1), 0, 0, 0, 0) :: (.ireturn, 0, 0, 0, 0) :: []
def mB_114_110 : List mm_I := (.iload 5, 0, 0, 0, 0) :: (.iload 6, 0, 0, 0, 0) :: (.iconst (-1), 0, 0, 0, 0) :: (.ixor, 0, 0, 0, 0) :: (.iand, 0, 0, 0, 0) :: (.istore 8, 0, 0, 0, 0) :: (.iload 6, 0, 0, 0, 0) :: (.iload 8, 0, 0, 0, 0) :: (.iload 8, 0, 0, 0, 0) :: (.ineg, 0, 0, 0, 0) :: (.iand, 0, 0, 0, 0) :: (.ior, 0, 0, 0, 0) :: (.istore 6, 0, 0, 0, 0) :: (.iinc 7 1, 0, 0, 0, 0) :: (.goto (-62), 71, 0, 0, 0) :: []
def mB_114_71 : List mm_I := (.iload 7, 0, 0, 0, 0) :: (.aload_n 0, 0, 0, 0, 0) :: (.getfield 33, 7, 5, 61, 0) :: (.getfield 114, 2, 0, 73, 0) :: (.if_icmp .gt 56, 136, 0, 0, 0) :: (.aload_n 0, 0, 0, 0, 0) :: (.getfield 33, 7, 5, 61, 0) :: (.iload_n 3, 0, 0, 0, 0) :: (.iload 6, 0, 0, 0, 0) :: (.ior, 0, 0, 0, 0) :: (.iload 4, 0, 0, 0, 0) :: (.iload_n 1, 0, 0, 0, 0) :: (.aload_n 0, 0, 0, 0, 0) :: (.getfield 40, 7, 6, 62, 0) :: (.getfield 123, 3, 5, 76, 0) :: (.invokevirtual 277, 25, 5, 117, 101) :: (.ifCond .ne 6, 110, 0, 0, 0) :: (.iload 6, 0, 0, 0, 0) :: (.ireturn, 0, 0, 0, 0) :: []
def mB_114_21 : List mm_I := (.aload_n 0, 0, 0, 0, 0) :: (.getfield 40, 7, 6, 62, 0) :: (.getfield 130, 3, 0, 77, 0) :: (.iload_n 2, 0, 0, 0, 0) :: (.iaload, 0, 0, 0, 0) :: (.istore_n 3, 0, 0, 0, 0) :: (.aload_n 0, 0, 0, 0, 0) :: (.getfield 40, 7, 6, 62, 0) :: (.getfield 130, 3, 0, 77, 0) :: (.iconst 1, 0, 0, 0, 0) :: (.iload_n 2, 0, 0, 0, 0) :: (.isub, 0, 0, 0, 0) :: (.iaload, 0, 0, 0, 0) :: (.istore 4, 0, 0, 0, 0) :: (.aload_n 0, 0, 0, 0, 0) :: (.getfield 33, 7, 5, 61, 0) :: (.getfield 161, 2, 6, 83, 0) :: (.iload_n 1, 0, 0, 0, 0) :: (.iaload, 0, 0, 0, 0) :: (.aload_n 0, 0, 0, 0, 0) :: (.getfield 40, 7, 6, 62, 0) :: (.invokevirtual 253, 35, 1, 112, 57) :: (.iconst (-1), 0, 0, 0, 0) :: (.ixor, 0, 0, 0, 0) :: (.iand, 0, 0, 0, 0) :: (.istore 5, 0, 0, 0, 0) :: (.iconst 0, 0, 0, 0, 0) :: (.istore 6, 0, 0, 0, 0) :: (.iconst 0, 0, 0, 0, 0) :: (.istore 7, 0, 0, 0, 0) :: mB_114_71
def mB_114_0 : List mm_I := (.aload_n 0, 0, 0, 0, 0) :: (.iload_n 1, 0, 0, 0, 0) :: (.invokevirtual 145, 123, 2, 89, 2) :: (.aload_n 0, 0, 0, 0, 0) :: (.getfield 40, 7, 6, 62, 0) :: (.iload_n 1, 0, 0, 0, 0) :: (.invokevirtual 154, 36, 2, 90, 10) :: (.istore_n 2, 0, 0, 0, 0) :: (.iload_n 2, 0, 0, 0, 0) :: (.iconst 2, 0, 0, 0, 0) :: (.if_icmp .ne 5, 21, 0, 0, 0) :: (.iconst (-1), 0, 0, 0, 0) :: (.ireturn, 0, 0, 0, 0) :: []
def mT_114 : List (Nat × List mm_I) := [(0, mB_114_0), (21, mB_114_21), (71, mB_114_71), (110, mB_114_110), (136, mB_114_136)]
-- 115: VillageBoard.key(I)I
def mB_115_74 : List mm_I := (.iload_n 2, 0, 0, 0, 0) :: (.ireturn, 0, 0, 0, 0) :: []
def mB_115_68 : List mm_I := (.iinc 4 1, 0, 0, 0, 0) :: (.goto (-59), 12, 0, 0, 0) :: []
def mB_115_54 : List mm_I := (.istore 5, 0, 0, 0, 0) :: (.iload 5, 0, 0, 0, 0) :: (.iload_n 3, 0, 0, 0, 0) :: (.if_icmp .le 9, 68, 0, 0, 0) :: (.iload 5, 0, 0, 0, 0) :: (.istore_n 3, 0, 0, 0, 0) :: (.iload 4, 0, 0, 0, 0) :: (.istore_n 2, 0, 0, 0, 0) :: mB_115_68
def mB_115_53 : List mm_I := (.iconst 0, 0, 0, 0, 0) :: mB_115_54
def mB_115_12 : List mm_I := (.iload 4, 0, 0, 0, 0) :: (.aload_n 0, 0, 0, 0, 0) :: (.getfield 33, 7, 5, 61, 0) :: (.getfield 114, 2, 0, 73, 0) :: (.if_icmp .ge 53, 74, 0, 0, 0) :: (.aload_n 0, 0, 0, 0, 0) :: (.getfield 40, 7, 6, 62, 0) :: (.getfield 130, 3, 0, 77, 0) :: (.iload_n 1, 0, 0, 0, 0) :: (.iaload, 0, 0, 0, 0) :: (.iload 4, 0, 0, 0, 0) :: (.invokestatic 198, 122, 2, 98, 35) :: (.ifCond .eq 15, 53, 0, 0, 0) :: (.aload_n 0, 0, 0, 0, 0) :: (.iload 4, 0, 0, 0, 0) :: (.invokevirtual 230, 128, 2, 107, 44) :: (.invokestatic 164, 0, 1, 92, 47) :: (.goto 4, 54, 0, 0, 0) :: []
def mB_115_0 : List mm_I := (.aload_n 0, 0, 0, 0, 0) :: (.iload_n 1, 0, 0, 0, 0) :: (.invokevirtual 174, 124, 2, 93, 2) :: (.iconst (-1), 0, 0, 0, 0) :: (.istore_n 2, 0, 0, 0, 0) :: (.iconst 0, 0, 0, 0, 0) :: (.istore_n 3, 0, 0, 0, 0) :: (.iconst 0, 0, 0, 0, 0) :: (.istore 4, 0, 0, 0, 0) :: mB_115_12
def mT_115 : List (Nat × List mm_I) := [(0, mB_115_0), (12, mB_115_12), (53, mB_115_53), (54, mB_115_54), (68, mB_115_68), (74, mB_115_74)]
-- 116: VillageBoard.fork()I
def mB_116_101 : List mm_I := (.iload_n 2, 0, 0, 0, 0) :: (.ireturn, 0, 0, 0, 0) :: []
def mB_116_95 : List mm_I := (.iinc 5 1, 0, 0, 0, 0) :: (.goto (-47), 51, 0, 0, 0) :: []
def mB_116_51 : List mm_I := (.iload 5, 0, 0, 0, 0) :: (.iload 4, 0, 0, 0, 0) :: (.if_icmp .ge 46, 101, 0, 0, 0) :: (.aload_n 0, 0, 0, 0, 0) :: (.iload_n 1, 0, 0, 0, 0) :: (.aload_n 0, 0, 0, 0, 0) :: (.getfield 33, 7, 5, 61, 0) :: (.getfield 307, 2, 8, 89, 0) :: (.iload 5, 0, 0, 0, 0) :: (.iaload, 0, 0, 0, 0) :: (.invokevirtual 333, 117, 3, 127, 70) :: (.istore 6, 0, 0, 0, 0) :: (.iload 6, 0, 0, 0, 0) :: (.iload_n 3, 0, 0, 0, 0) :: (.if_icmp .le 17, 95, 0, 0, 0) :: (.iload 6, 0, 0, 0, 0) :: (.istore_n 3, 0, 0, 0, 0) :: (.aload_n 0, 0, 0, 0, 0) :: (.getfield 33, 7, 5, 61, 0) :: (.getfield 307, 2, 8, 89, 0) :: (.iload 5, 0, 0, 0, 0) :: (.iaload, 0, 0, 0, 0) :: (.istore_n 2, 0, 0, 0, 0) :: mB_116_95
def mB_116_0 : List mm_I := (.aload_n 0, 0, 0, 0, 0) :: (.getfield 40, 7, 6, 62, 0) :: (.invokevirtual 126, 34, 1, 88, 4) :: (.istore_n 1, 0, 0, 0, 0) :: (.iconst (-1), 0, 0, 0, 0) :: (.istore_n 2, 0, 0, 0, 0) :: (.iconst 1, 0, 0, 0, 0) :: (.istore_n 3, 0, 0, 0, 0) :: (.aload_n 0, 0, 0, 0, 0) :: (.getfield 33, 7, 5, 61, 0) :: (.aload_n 0, 0, 0, 0, 0) :: (.getfield 40, 7, 6, 62, 0) :: (.getfield 130, 3, 0, 77, 0) :: (.iload_n 1, 0, 0, 0, 0) :: (.iaload, 0, 0, 0, 0) :: (.aload_n 0, 0, 0, 0, 0) :: (.getfield 40, 7, 6, 62, 0) :: (.getfield 130, 3, 0, 77, 0) :: (.iconst 1, 0, 0, 0, 0) :: (.iload_n 1, 0, 0, 0, 0) :: (.isub, 0, 0, 0, 0) :: (.iaload, 0, 0, 0, 0) :: (.aload_n 0, 0, 0, 0, 0) :: (.getfield 40, 7, 6, 62, 0) :: (.getfield 123, 3, 5, 76, 0) :: (.invokevirtual 190, 27, 4, 96, 43) :: (.istore 4, 0, 0, 0, 0) :: (.iconst 0, 0, 0, 0, 0) :: (.istore 5, 0, 0, 0, 0) :: mB_116_51
def mT_116 : List (Nat × List mm_I) := [(0, mB_116_0), (51, mB_116_51), (95, mB_116_95), (101, mB_116_101)]
-- 117: VillageBoard.forkedBy(II)I
def mB_117_0 : List mm_I := (.iconst 1, 0, 0, 0, 0) :: (.iload_n 2, 0, 0, 0, 0) :: (.bipush 100, 0, 0, 0, 0) :: (.irem, 0, 0, 0, 0) :: (.ishl, 0, 0, 0, 0) :: (.istore_n 3, 0, 0, 0, 0) :: (.aload_n 0, 0, 0, 0, 0) :: (.getfield 40, 7, 6, 62, 0) :: (.getfield 130, 3, 0, 77, 0) :: (.iload_n 1, 0, 0, 0, 0) :: (.iaload, 0, 0, 0, 0) :: (.iconst 1, 0, 0, 0, 0) :: (.iload_n 2, 0, 0, 0, 0) :: (.bipush 100, 0, 0, 0, 0) :: (.idiv, 0, 0, 0, 0) :: (.ishl, 0, 0, 0, 0) :: (.iconst (-1), 0, 0, 0, 0) :: (.ixor, 0, 0, 0, 0) :: (.iand, 0, 0, 0, 0) :: (.iload_n 3, 0, 0, 0, 0) :: (.ior, 0, 0, 0, 0) :: (.istore 4, 0, 0, 0, 0) :: (.aload_n 0, 0, 0, 0, 0) :: (.getfield 40, 7, 6, 62, 0) :: (.getfield 130, 3, 0, 77, 0) :: (.iconst 1, 0, 0, 0, 0) :: (.iload_n 1, 0, 0, 0, 0) :: (.isub, 0, 0, 0, 0) :: (.iaload, 0, 0, 0, 0) :: (.iload_n 3, 0, 0, 0, 0) :: (.iconst (-1), 0, 0, 0, 0) :: (.ixor, 0, 0, 0, 0) :: (.iand, 0, 0, 0, 0) :: (.istore 5, 0, 0, 0, 0) :: (.aload_n 0, 0, 0, 0, 0) :: (.getfield 33, 7, 5, 61, 0) :: (.iload 5, 0, 0, 0, 0) :: (.iload 4, 0, 0, 0, 0) :: (.aload_n 0, 0, 0, 0, 0) :: (.getfield 40, 7, 6, 62, 0) :: (.getfield 123, 3, 5, 76, 0) :: (.iconst 1, 0, 0, 0, 0) :: (.iadd, 0, 0, 0, 0) :: (.invokevirtual 183, 26, 4, 94, 63) :: (.invokestatic 164, 0, 1, 92, 66) :: (.ireturn, 0, 0, 0, 0) :: []
def mT_117 : List (Nat × List mm_I) := [(0, mB_117_0)]
-- 118: VillageBoard.regret(II)I
def mB_118_21 : List mm_I := (.aload_n 0, 0, 0, 0, 0) :: (.getfield 40, 7, 6, 62, 0) :: (.invokevirtual 126, 34, 1, 88, 25) :: (.istore_n 3, 0, 0, 0, 0) :: (.aload_n 0, 0, 0, 0, 0) :: (.iload_n 3, 0, 0, 0, 0) :: (.iconst 2, 0, 0, 0, 0) :: (.invokevirtual 237, 130, 3, 108, 32) :: (.aload_n 0, 0, 0, 0, 0) :: (.iload_n 3, 0, 0, 0, 0) :: (.bipush 100, 0, 0, 0, 0) :: (.iload_n 1, 0, 0, 0, 0) :: (.imul, 0, 0, 0, 0) :: (.iload_n 2, 0, 0, 0, 0) :: (.iadd, 0, 0, 0, 0) :: (.iconst 2, 0, 0, 0, 0) :: (.invokevirtual 304, 131, 4, 122, 44) :: (.isub, 0, 0, 0, 0) :: (.ireturn, 0, 0, 0, 0) :: []
def mB_118_0 : List mm_I := (.aload_n 0, 0, 0, 0, 0) :: (.iload_n 1, 0, 0, 0, 0) :: (.invokevirtual 145, 123, 2, 89, 2) :: (.aload_n 0, 0, 0, 0, 0) :: (.iload_n 2, 0, 0, 0, 0) :: (.invokevirtual 145, 123, 2, 89, 7) :: (.aload_n 0, 0, 0, 0, 0) :: (.iload_n 1, 0, 0, 0, 0) :: (.iload_n 2, 0, 0, 0, 0) :: (.invokevirtual 205, 127, 3, 100, 13) :: (.ifCond .ne 5, 21, 0, 0, 0) :: (.iconst (-1), 0, 0, 0, 0) :: (.ireturn, 0, 0, 0, 0) :: []
def mT_118 : List (Nat × List mm_I) := [(0, mB_118_0), (21, mB_118_21)]
-- 119: VillageBoard.whose(I)I
def mB_119_47 : List mm_I := (.ireturn, 0, 0, 0, 0) :: []
def mB_119_46 : List mm_I := (.iconst 2, 0, 0, 0, 0) :: mB_119_47
def mB_119_37 : List mm_I := (.iload_n 3, 0, 0, 0, 0) :: (.iload_n 2, 0, 0, 0, 0) :: (.if_icmp .le 7, 46, 0, 0, 0) :: (.iconst 1, 0, 0, 0, 0) :: (.goto 4, 47, 0, 0, 0) :: []
def mB_119_0 : List mm_I := (.aload_n 0, 0, 0, 0, 0) :: (.iload_n 1, 0, 0, 0, 0) :: (.invokevirtual 145, 123, 2, 89, 2) :: (.aload_n 0, 0, 0, 0, 0) :: (.getfield 40, 7, 6, 62, 0) :: (.getfield 169, 3, 4, 84, 0) :: (.iload_n 1, 0, 0, 0, 0) :: (.iaload, 0, 0, 0, 0) :: (.istore_n 2, 0, 0, 0, 0) :: (.aload_n 0, 0, 0, 0, 0) :: (.getfield 40, 7, 6, 62, 0) :: (.getfield 169, 3, 4, 84, 0) :: (.bipush 10, 0, 0, 0, 0) :: (.iload_n 1, 0, 0, 0, 0) :: (.iadd, 0, 0, 0, 0) :: (.iaload, 0, 0, 0, 0) :: (.istore_n 3, 0, 0, 0, 0) :: (.iload_n 2, 0, 0, 0, 0) :: (.iload_n 3, 0, 0, 0, 0) :: (.if_icmp .le 7, 37, 0, 0, 0) :: (.iconst 0, 0, 0, 0, 0) :: (.goto 13, 47, 0, 0, 0) :: []
def mT_119 : List (Nat × List mm_I) := [(0, mB_119_0), (37, mB_119_37), (46, mB_119_46), (47, mB_119_47)]
-- 120: VillageBoard.image()V
def mB_120_0 : List mm_I := (.aload_n 0, 0, 0, 0, 0) :: (.getfield 65, 7, 11, 67, 0) :: (.aload_n 0, 0, 0, 0, 0) :: (.getfield 40, 7, 6, 62, 0) :: (.invokevirtual 261, 31, 2, 114, 8) :: (.aload_n 0, 0, 0, 0, 0) :: (.getfield 68, 7, 12, 68, 0) :: (.aload_n 0, 0, 0, 0, 0) :: (.getfield 50, 7, 8, 64, 0) :: (.invokevirtual 336, 5, 2, 128, 19) :: (.aload_n 0, 0, 0, 0, 0) :: (.getfield 71, 7, 13, 69, 0) :: (.aload_n 0, 0, 0, 0, 0) :: (.getfield 57, 7, 9, 65, 0) :: (.invokevirtual 339, 72, 2, 129, 30) :: (.aload_n 0, 0, 0, 0, 0) :: (.iconst 1, 0, 0, 0, 0) :: (.putfield 61, 7, 10, 66, 0) :: (.return_, 0, 0, 0, 0) :: []
def mT_120 : List (Nat × List mm_I) := [(0, mB_120_0)]
-- 121: VillageBoard.restore()Z
def mB_121_9 : List mm_I := (.aload_n 0, 0, 0, 0, 0) :: (.getfield 40, 7, 6, 62, 0) :: (.aload_n 0, 0, 0, 0, 0) :: (.getfield 65, 7, 11, 67, 0) :: (.invokevirtual 261, 31, 2, 114, 17) :: (.aload_n 0, 0, 0, 0, 0) :: (.getfield 50, 7, 8, 64, 0) :: (.aload_n 0, 0, 0, 0, 0) :: (.getfield 68, 7, 12, 68, 0) :: (.invokevirtual 336, 5, 2, 128, 28) :: (.aload_n 0, 0, 0, 0, 0) :: (.getfield 57, 7, 9, 65, 0) :: (.aload_n 0, 0, 0, 0, 0) :: (.getfield 71, 7, 13, 69, 0) :: (.invokevirtual 339, 72, 2, 129, 39) :: (.iconst 1, 0, 0, 0, 0) :: (.ireturn, 0, 0, 0, 0) :: []
def mB_121_0 : List mm_I := (.aload_n 0, 0, 0, 0, 0) :: (.getfield 61, 7, 10, 66, 0) :: (.ifCond .ne 5, 9, 0, 0, 0) :: (.iconst 0, 0, 0, 0, 0) :: (.ireturn, 0, 0, 0, 0) :: []
def mT_121 : List (Nat × List mm_I) := [(0, mB_121_0), (9, mB_121_9)]
-- 122: VillageBoard.has(II)Z
def mB_122_13 : List mm_I := (.ireturn, 0, 0, 0, 0) :: []
def mB_122_12 : List mm_I := (.iconst 0, 0, 0, 0, 0) :: mB_122_13
def mB_122_0 : List mm_I := (.iload_n 0, 0, 0, 0, 0) :: (.iload_n 1, 0, 0, 0, 0) :: (.ishr, 0, 0, 0, 0) :: (.iconst 1, 0, 0, 0, 0) :: (.iand, 0, 0, 0, 0) :: (.ifCond .eq 7, 12, 0, 0, 0) :: (.iconst 1, 0, 0, 0, 0) :: (.goto 4, 13, 0, 0, 0) :: []
def mT_122 : List (Nat × List mm_I) := [(0, mB_122_0), (12, mB_122_12), (13, mB_122_13)]
-- 123: VillageBoard.needVillage(I)V
def mB_123_26 : List mm_I := (.return_, 0, 0, 0, 0) :: []
def mB_123_15 : List mm_I := (.new 140, 900, 15, 844, 0) :: []
def mB_123_0 : List mm_I := (.iload_n 1, 0, 0, 0, 0) :: (.ifCond .lt 14, 15, 0, 0, 0) :: (.iload_n 1, 0, 0, 0, 0) :: (.aload_n 0, 0, 0, 0, 0) :: (.getfield 33, 7, 5, 61, 0) :: (.getfield 114, 2, 0, 73, 0) :: (.if_icmp .lt 14, 26, 0, 0, 0) :: mB_123_15
def mT_123 : List (Nat × List mm_I) := [(0, mB_123_0), (15, mB_123_15), (26, mB_123_26)]
-- 124: VillageBoard.needSide(I)V
def mB_124_20 : List mm_I := (.return_, 0, 0, 0, 0) :: []
def mB_124_0 : List mm_I := (.iload_n 1, 0, 0, 0, 0) :: (.ifCond .eq 19, 20, 0, 0, 0) :: (.iload_n 1, 0, 0, 0, 0) :: (.iconst 1, 0, 0, 0, 0) :: (.if_icmp .eq 14, 20, 0, 0, 0) :: (.new 140, 900, 16, 844, 0) :: []
def mT_124 : List (Nat × List mm_I) := [(0, mB_124_0), (20, mB_124_20)]
-- 125: VillageBoard.isStyle(I)Z
def mB_125_20 : List mm_I := (.ireturn, 0, 0, 0, 0) :: []
def mB_125_19 : List mm_I := (.iconst 0, 0, 0, 0, 0) :: mB_125_20
def mB_125_0 : List mm_I := (.iload_n 1, 0, 0, 0, 0) :: (.ifCond .lt 18, 19, 0, 0, 0) :: (.iload_n 1, 0, 0, 0, 0) :: (.aload_n 0, 0, 0, 0, 0) :: (.getfield 33, 7, 5, 61, 0) :: (.getfield 120, 2, 2, 75, 0) :: (.if_icmp .ge 7, 19, 0, 0, 0) :: (.iconst 1, 0, 0, 0, 0) :: (.goto 4, 20, 0, 0, 0) :: []
def mT_125 : List (Nat × List mm_I) := [(0, mB_125_0), (19, mB_125_19), (20, mB_125_20)]
-- 126: VillageBoard.targetsFrom(I)I
def mB_126_16 : List mm_I := (.aload_n 0, 0, 0, 0, 0) :: (.getfield 33, 7, 5, 61, 0) :: (.aload_n 0, 0, 0, 0, 0) :: (.getfield 40, 7, 6, 62, 0) :: (.getfield 130, 3, 0, 77, 0) :: (.iload_n 2, 0, 0, 0, 0) :: (.iaload, 0, 0, 0, 0) :: (.aload_n 0, 0, 0, 0, 0) :: (.getfield 40, 7, 6, 62, 0) :: (.getfield 130, 3, 0, 77, 0) :: (.iconst 1, 0, 0, 0, 0) :: (.iload_n 2, 0, 0, 0, 0) :: (.isub, 0, 0, 0, 0) :: (.iaload, 0, 0, 0, 0) :: (.iload_n 1, 0, 0, 0, 0) :: (.aload_n 0, 0, 0, 0, 0) :: (.getfield 40, 7, 6, 62, 0) :: (.getfield 123, 3, 5, 76, 0) :: (.invokevirtual 346, 22, 5, 130, 48) :: (.ireturn, 0, 0, 0, 0) :: []
def mB_126_0 : List mm_I := (.aload_n 0, 0, 0, 0, 0) :: (.getfield 40, 7, 6, 62, 0) :: (.iload_n 1, 0, 0, 0, 0) :: (.invokevirtual 154, 36, 2, 90, 5) :: (.istore_n 2, 0, 0, 0, 0) :: (.iload_n 2, 0, 0, 0, 0) :: (.iconst 2, 0, 0, 0, 0) :: (.if_icmp .ne 5, 16, 0, 0, 0) :: (.iconst 0, 0, 0, 0, 0) :: (.ireturn, 0, 0, 0, 0) :: []
def mT_126 : List (Nat × List mm_I) := [(0, mB_126_0), (16, mB_126_16)]
-- 127: VillageBoard.mayMoveInTurn(II)Z
def mB_127_35 : List mm_I := (.ireturn, 0, 0, 0, 0) :: []
def mB_127_34 : List mm_I := (.iconst 0, 0, 0, 0, 0) :: mB_127_35
def mB_127_0 : List mm_I := (.aload_n 0, 0, 0, 0, 0) :: (.getfield 40, 7, 6, 62, 0) :: (.iload_n 1, 0, 0, 0, 0) :: (.invokevirtual 154, 36, 2, 90, 5) :: (.aload_n 0, 0, 0, 0, 0) :: (.getfield 40, 7, 6, 62, 0) :: (.invokevirtual 126, 34, 1, 88, 12) :: (.if_icmp .ne 19, 34, 0, 0, 0) :: (.aload_n 0, 0, 0, 0, 0) :: (.iload_n 1, 0, 0, 0, 0) :: (.invokevirtual 202, 126, 2, 99, 20) :: (.iload_n 2, 0, 0, 0, 0) :: (.invokestatic 198, 122, 2, 98, 24) :: (.ifCond .eq 7, 34, 0, 0, 0) :: (.iconst 1, 0, 0, 0, 0) :: (.goto 4, 35, 0, 0, 0) :: []
def mT_127 : List (Nat × List mm_I) := [(0, mB_127_0), (34, mB_127_34), (35, mB_127_35)]
-- 128: VillageBoard.hangingOn(I)I
def mB_128_16 : List mm_I := (.aload_n 0, 0, 0, 0, 0) :: (.getfield 40, 7, 6, 62, 0) :: (.getfield 130, 3, 0, 77, 0) :: (.iload_n 2, 0, 0, 0, 0) :: (.iaload, 0, 0, 0, 0) :: (.istore_n 3, 0, 0, 0, 0) :: (.aload_n 0, 0, 0, 0, 0) :: (.getfield 40, 7, 6, 62, 0) :: (.getfield 130, 3, 0, 77, 0) :: (.iconst 1, 0, 0, 0, 0) :: (.iload_n 2, 0, 0, 0, 0) :: (.isub, 0, 0, 0, 0) :: (.iaload, 0, 0, 0, 0) :: (.istore 4, 0, 0, 0, 0) :: (.aload_n 0, 0, 0, 0, 0) :: (.getfield 33, 7, 5, 61, 0) :: (.iload_n 3, 0, 0, 0, 0) :: (.iload 4, 0, 0, 0, 0) :: (.aload_n 0, 0, 0, 0, 0) :: (.getfield 40, 7, 6, 62, 0) :: (.getfield 123, 3, 5, 76, 0) :: (.invokevirtual 183, 26, 4, 94, 53) :: (.istore 5, 0, 0, 0, 0) :: (.aload_n 0, 0, 0, 0, 0) :: (.getfield 33, 7, 5, 61, 0) :: (.iload_n 3, 0, 0, 0, 0) :: (.iconst 1, 0, 0, 0, 0) :: (.iload_n 1, 0, 0, 0, 0) :: (.ishl, 0, 0, 0, 0) :: (.iconst (-1), 0, 0, 0, 0) :: (.ixor, 0, 0, 0, 0) :: (.iand, 0, 0, 0, 0) :: (.iload 4, 0, 0, 0, 0) :: (.aload_n 0, 0, 0, 0, 0) :: (.getfield 40, 7, 6, 62, 0) :: (.getfield 123, 3, 5, 76, 0) :: (.invokevirtual 183, 26, 4, 94, 78) :: (.iload 5, 0, 0, 0, 0) :: (.iconst (-1), 0, 0, 0, 0) :: (.ixor, 0, 0, 0, 0) :: (.iand, 0, 0, 0, 0) :: (.ireturn, 0, 0, 0, 0) :: []
def mB_128_0 : List mm_I := (.aload_n 0, 0, 0, 0, 0) :: (.getfield 40, 7, 6, 62, 0) :: (.iload_n 1, 0, 0, 0, 0) :: (.invokevirtual 154, 36, 2, 90, 5) :: (.istore_n 2, 0, 0, 0, 0) :: (.iload_n 2, 0, 0, 0, 0) :: (.iconst 2, 0, 0, 0, 0) :: (.if_icmp .ne 5, 16, 0, 0, 0) :: (.iconst 0, 0, 0, 0, 0) :: (.ireturn, 0, 0, 0, 0) :: []
def mT_128 : List (Nat × List mm_I) := [(0, mB_128_0), (16, mB_128_16)]
-- 129: VillageBoard.pinnedOf(I)I
def mB_129_51 : List mm_I := (.iload_n 2, 0, 0, 0, 0) :: (.ireturn, 0, 0, 0, 0) :: []
def mB_129_45 : List mm_I := (.iinc 3 1, 0, 0, 0, 0) :: (.goto (-44), 4, 0, 0, 0) :: []
def mB_129_4 : List mm_I := (.iload_n 3, 0, 0, 0, 0) :: (.aload_n 0, 0, 0, 0, 0) :: (.getfield 33, 7, 5, 61, 0) :: (.getfield 114, 2, 0, 73, 0) :: (.if_icmp .ge 39, 51, 0, 0, 0) :: (.aload_n 0, 0, 0, 0, 0) :: (.getfield 40, 7, 6, 62, 0) :: (.getfield 130, 3, 0, 77, 0) :: (.iload_n 1, 0, 0, 0, 0) :: (.iaload, 0, 0, 0, 0) :: (.iload_n 3, 0, 0, 0, 0) :: (.invokestatic 198, 122, 2, 98, 25) :: (.ifCond .eq 17, 45, 0, 0, 0) :: (.aload_n 0, 0, 0, 0, 0) :: (.iload_n 3, 0, 0, 0, 0) :: (.invokevirtual 230, 128, 2, 107, 33) :: (.ifCond .eq 9, 45, 0, 0, 0) :: (.iload_n 2, 0, 0, 0, 0) :: (.iconst 1, 0, 0, 0, 0) :: (.iload_n 3, 0, 0, 0, 0) :: (.ishl, 0, 0, 0, 0) :: (.ior, 0, 0, 0, 0) :: (.istore_n 2, 0, 0, 0, 0) :: mB_129_45
def mB_129_0 : List mm_I := (.iconst 0, 0, 0, 0, 0) :: (.istore_n 2, 0, 0, 0, 0) :: (.iconst 0, 0, 0, 0, 0) :: (.istore_n 3, 0, 0, 0, 0) :: mB_129_4
def mT_129 : List (Nat × List mm_I) := [(0, mB_129_0), (4, mB_129_4), (45, mB_129_45), (51, mB_129_51)]
-- 130: VillageBoard.leadIn(II)I
def mB_130_0 : List mm_I := (.aload_n 0, 0, 0, 0, 0) :: (.getfield 33, 7, 5, 61, 0) :: (.aload_n 0, 0, 0, 0, 0) :: (.getfield 40, 7, 6, 62, 0) :: (.getfield 130, 3, 0, 77, 0) :: (.iload_n 1, 0, 0, 0, 0) :: (.iaload, 0, 0, 0, 0) :: (.aload_n 0, 0, 0, 0, 0) :: (.getfield 40, 7, 6, 62, 0) :: (.getfield 130, 3, 0, 77, 0) :: (.iconst 1, 0, 0, 0, 0) :: (.iload_n 1, 0, 0, 0, 0) :: (.isub, 0, 0, 0, 0) :: (.iaload, 0, 0, 0, 0) :: (.aload_n 0, 0, 0, 0, 0) :: (.getfield 40, 7, 6, 62, 0) :: (.getfield 133, 3, 1, 78, 0) :: (.iload_n 1, 0, 0, 0, 0) :: (.iaload, 0, 0, 0, 0) :: (.aload_n 0, 0, 0, 0, 0) :: (.getfield 40, 7, 6, 62, 0) :: (.getfield 133, 3, 1, 78, 0) :: (.iconst 1, 0, 0, 0, 0) :: (.iload_n 1, 0, 0, 0, 0) :: (.isub, 0, 0, 0, 0) :: (.iaload, 0, 0, 0, 0) :: (.aload_n 0, 0, 0, 0, 0) :: (.getfield 40, 7, 6, 62, 0) :: (.getfield 123, 3, 5, 76, 0) :: (.iload_n 2, 0, 0, 0, 0) :: (.invokestatic 349, 10, 7, 131, 52) :: (.ireturn, 0, 0, 0, 0) :: []
def mT_130 : List (Nat × List mm_I) := [(0, mB_130_0)]
-- 131: VillageBoard.leadAfter(III)I
def mB_131_102 : List mm_I := (.aload_n 0, 0, 0, 0, 0) :: (.getfield 33, 7, 5, 61, 0) :: (.iload 5, 0, 0, 0, 0) :: (.iload 4, 0, 0, 0, 0) :: (.iload 7, 0, 0, 0, 0) :: (.iload 6, 0, 0, 0, 0) :: (.aload_n 0, 0, 0, 0, 0) :: (.getfield 40, 7, 6, 62, 0) :: (.getfield 123, 3, 5, 76, 0) :: (.iconst 1, 0, 0, 0, 0) :: (.iadd, 0, 0, 0, 0) :: (.iload_n 3, 0, 0, 0, 0) :: (.iconst 1, 0, 0, 0, 0) :: (.isub, 0, 0, 0, 0) :: (.invokestatic 349, 10, 7, 131, 126) :: (.ineg, 0, 0, 0, 0) :: (.ireturn, 0, 0, 0, 0) :: []
def mB_131_0 : List mm_I := (.aload_n 0, 0, 0, 0, 0) :: (.getfield 40, 7, 6, 62, 0) :: (.getfield 130, 3, 0, 77, 0) :: (.iload_n 1, 0, 0, 0, 0) :: (.iaload, 0, 0, 0, 0) :: (.istore 4, 0, 0, 0, 0) :: (.aload_n 0, 0, 0, 0, 0) :: (.getfield 40, 7, 6, 62, 0) :: (.getfield 130, 3, 0, 77, 0) :: (.iconst 1, 0, 0, 0, 0) :: (.iload_n 1, 0, 0, 0, 0) :: (.isub, 0, 0, 0, 0) :: (.iaload, 0, 0, 0, 0) :: (.istore 5, 0, 0, 0, 0) :: (.aload_n 0, 0, 0, 0, 0) :: (.getfield 40, 7, 6, 62, 0) :: (.getfield 133, 3, 1, 78, 0) :: (.iload_n 1, 0, 0, 0, 0) :: (.iaload, 0, 0, 0, 0) :: (.istore 6, 0, 0, 0, 0) :: (.aload_n 0, 0, 0, 0, 0) :: (.getfield 40, 7, 6, 62, 0) :: (.getfield 133, 3, 1, 78, 0) :: (.iconst 1, 0, 0, 0, 0) :: (.iload_n 1, 0, 0, 0, 0) :: (.isub, 0, 0, 0, 0) :: (.iaload, 0, 0, 0, 0) :: (.istore 7, 0, 0, 0, 0) :: (.iload_n 2, 0, 0, 0, 0) :: (.iconst (-1), 0, 0, 0, 0) :: (.if_icmp .eq 52, 102, 0, 0, 0) :: (.iconst 1, 0, 0, 0, 0) :: (.iload_n 2, 0, 0, 0, 0) :: (.bipush 100, 0, 0, 0, 0) :: (.irem, 0, 0, 0, 0) :: (.ishl, 0, 0, 0, 0) :: (.istore 8, 0, 0, 0, 0) :: (.iload 4, 0, 0, 0, 0) :: (.iconst 1, 0, 0, 0, 0) :: (.iload_n 2, 0, 0, 0, 0) :: (.bipush 100, 0, 0, 0, 0) :: (.idiv, 0, 0, 0, 0) :: (.ishl, 0, 0, 0, 0) :: (.iconst (-1), 0, 0, 0, 0) :: (.ixor, 0, 0, 0, 0) :: (.iand, 0, 0, 0, 0) :: (.iload 8, 0, 0, 0, 0) :: (.ior, 0, 0, 0, 0) :: (.istore 4, 0, 0, 0, 0) :: (.iload 5, 0, 0, 0, 0) :: (.iload 8, 0, 0, 0, 0) :: (.iconst (-1), 0, 0, 0, 0) :: (.ixor, 0, 0, 0, 0) :: (.iand, 0, 0, 0, 0) :: (.istore 5, 0, 0, 0, 0) :: (.iload 6, 0, 0, 0, 0) :: (.iload 8, 0, 0, 0, 0) :: (.ior, 0, 0, 0, 0) :: (.istore 6, 0, 0, 0, 0) :: (.iload 7, 0, 0, 0, 0) :: (.iload 8, 0, 0, 0, 0) :: (.iconst (-1), 0, 0, 0, 0) :: (.ixor, 0, 0, 0, 0) :: (.iand, 0, 0, 0, 0) :: (.istore 7, 0, 0, 0, 0) :: mB_131_102
def mT_131 : List (Nat × List mm_I) := [(0, mB_131_0), (102, mB_131_102)]
-- 132: VillageBoard.bestMove(I)I
def mB_132_138 : List mm_I := (.ireturn, 0, 0, 0, 0) :: []
def mB_132_137 : List mm_I := (.iload_n 3, 0, 0, 0, 0) :: mB_132_138
def mB_132_116 : List mm_I := (.iload 5, 0, 0, 0, 0) :: (.ifCond .le 19, 137, 0, 0, 0) :: (.aload_n 0, 0, 0, 0, 0) :: (.iload_n 2, 0, 0, 0, 0) :: (.iconst (-1), 0, 0, 0, 0) :: (.iload_n 1, 0, 0, 0, 0) :: (.invokevirtual 304, 131, 4, 122, 125) :: (.iload 4, 0, 0, 0, 0) :: (.if_icmp .le 7, 137, 0, 0, 0) :: (.iconst (-1), 0, 0, 0, 0) :: (.goto 4, 138, 0, 0, 0) :: []
def mB_132_110 : List mm_I := (.iinc 6 1, 0, 0, 0, 0) :: (.goto (-55), 58, 0, 0, 0) :: []
def mB_132_95 : List mm_I := (.iload 7, 0, 0, 0, 0) :: (.istore 4, 0, 0, 0, 0) :: (.aload_n 0, 0, 0, 0, 0) :: (.getfield 33, 7, 5, 61, 0) :: (.getfield 307, 2, 8, 89, 0) :: (.iload 6, 0, 0, 0, 0) :: (.iaload, 0, 0, 0, 0) :: (.istore_n 3, 0, 0, 0, 0) :: mB_132_110
def mB_132_58 : List mm_I := (.iload 6, 0, 0, 0, 0) :: (.iload 5, 0, 0, 0, 0) :: (.if_icmp .ge 54, 116, 0, 0, 0) :: (.aload_n 0, 0, 0, 0, 0) :: (.iload_n 2, 0, 0, 0, 0) :: (.aload_n 0, 0, 0, 0, 0) :: (.getfield 33, 7, 5, 61, 0) :: (.getfield 307, 2, 8, 89, 0) :: (.iload 6, 0, 0, 0, 0) :: (.iaload, 0, 0, 0, 0) :: (.iload_n 1, 0, 0, 0, 0) :: (.invokevirtual 304, 131, 4, 122, 78) :: (.istore 7, 0, 0, 0, 0) :: (.iload 6, 0, 0, 0, 0) :: (.ifCond .eq 10, 95, 0, 0, 0) :: (.iload 7, 0, 0, 0, 0) :: (.iload 4, 0, 0, 0, 0) :: (.if_icmp .le 18, 110, 0, 0, 0) :: mB_132_95
def mB_132_6 : List mm_I := (.aload_n 0, 0, 0, 0, 0) :: (.getfield 40, 7, 6, 62, 0) :: (.invokevirtual 126, 34, 1, 88, 10) :: (.istore_n 2, 0, 0, 0, 0) :: (.iconst (-1), 0, 0, 0, 0) :: (.istore_n 3, 0, 0, 0, 0) :: (.iconst 0, 0, 0, 0, 0) :: (.istore 4, 0, 0, 0, 0) :: (.aload_n 0, 0, 0, 0, 0) :: (.getfield 33, 7, 5, 61, 0) :: (.aload_n 0, 0, 0, 0, 0) :: (.getfield 40, 7, 6, 62, 0) :: (.getfield 130, 3, 0, 77, 0) :: (.iload_n 2, 0, 0, 0, 0) :: (.iaload, 0, 0, 0, 0) :: (.aload_n 0, 0, 0, 0, 0) :: (.getfield 40, 7, 6, 62, 0) :: (.getfield 130, 3, 0, 77, 0) :: (.iconst 1, 0, 0, 0, 0) :: (.iload_n 2, 0, 0, 0, 0) :: (.isub, 0, 0, 0, 0) :: (.iaload, 0, 0, 0, 0) :: (.aload_n 0, 0, 0, 0, 0) :: (.getfield 40, 7, 6, 62, 0) :: (.getfield 123, 3, 5, 76, 0) :: (.invokevirtual 190, 27, 4, 96, 50) :: (.istore 5, 0, 0, 0, 0) :: (.iconst 0, 0, 0, 0, 0) :: (.istore 6, 0, 0, 0, 0) :: mB_132_58
def mB_132_0 : List mm_I := (.iload_n 1, 0, 0, 0, 0) :: (.ifCond .ne 5, 6, 0, 0, 0) :: (.iconst (-1), 0, 0, 0, 0) :: (.ireturn, 0, 0, 0, 0) :: []
def mT_132 : List (Nat × List mm_I) := [(0, mB_132_0), (6, mB_132_6), (58, mB_132_58), (95, mB_132_95), (110, mB_132_110), (116, mB_132_116), (137, mB_132_137), (138, mB_132_138)]
-- 133: VillageBoard.styleGives(I)I
def mB_133_0 : List mm_I := (.aload_n 0, 0, 0, 0, 0) :: (.getfield 40, 7, 6, 62, 0) :: (.invokevirtual 126, 34, 1, 88, 4) :: (.istore_n 2, 0, 0, 0, 0) :: (.aload_n 0, 0, 0, 0, 0) :: (.getfield 33, 7, 5, 61, 0) :: (.aload_n 0, 0, 0, 0, 0) :: (.getfield 40, 7, 6, 62, 0) :: (.getfield 130, 3, 0, 77, 0) :: (.iload_n 2, 0, 0, 0, 0) :: (.iaload, 0, 0, 0, 0) :: (.aload_n 0, 0, 0, 0, 0) :: (.getfield 40, 7, 6, 62, 0) :: (.getfield 130, 3, 0, 77, 0) :: (.iconst 1, 0, 0, 0, 0) :: (.iload_n 2, 0, 0, 0, 0) :: (.isub, 0, 0, 0, 0) :: (.iaload, 0, 0, 0, 0) :: (.aload_n 0, 0, 0, 0, 0) :: (.getfield 40, 7, 6, 62, 0) :: (.getfield 133, 3, 1, 78, 0) :: (.iload_n 2, 0, 0, 0, 0) :: (.iaload, 0, 0, 0, 0) :: (.iload_n 1, 0, 0, 0, 0) :: (.aload_n 0, 0, 0, 0, 0) :: (.getfield 40, 7, 6, 62, 0) :: (.getfield 123, 3, 5, 76, 0) :: (.invokevirtual 353, 28, 6, 132, 49) :: (.aload_n 0, 0, 0, 0, 0) :: (.getfield 33, 7, 5, 61, 0) :: (.getfield 357, 2, 9, 90, 0) :: (.aload_n 0, 0, 0, 0, 0) :: (.getfield 40, 7, 6, 62, 0) :: (.getfield 180, 3, 3, 86, 0) :: (.iload_n 2, 0, 0, 0, 0) :: (.iaload, 0, 0, 0, 0) :: (.invokevirtual 361, 68, 2, 133, 68) :: (.ireturn, 0, 0, 0, 0) :: []
def mT_133 : List (Nat × List mm_I) := [(0, mB_133_0)]
-- 134: VillageBoard.leastThatWins(I)J
def mB_134_108 : List mm_I := (.lload_n 3, 0, 0, 0, 0) :: (.lreturn, 0, 0, 0, 0) :: []
def mB_134_102 : List mm_I := (.iinc 6 1, 0, 0, 0, 0) :: (.goto (-56), 49, 0, 0, 0) :: []
def mB_134_85 : List mm_I := (.lstore 8, 0, 0, 0, 0) :: (.lload_n 3, 0, 0, 0, 0) :: (.aload_n 0, 0, 0, 0, 0) :: (.iload 7, 0, 0, 0, 0) :: (.invokevirtual 270, 133, 2, 116, 91) :: (.i2l, 0, 0, 0, 0) :: (.lload 8, 0, 0, 0, 0) :: (.ladd, 0, 0, 0, 0) :: (.invokestatic 366, 9006, 2, 134, 98) :: (.lstore_n 3, 0, 0, 0, 0) :: mB_134_102
def mB_134_84 : List mm_I := (.lconst 0, 0, 0, 0, 0) :: mB_134_85
def mB_134_49 : List mm_I := (.iload 6, 0, 0, 0, 0) :: (.iload 5, 0, 0, 0, 0) :: (.if_icmp .ge 55, 108, 0, 0, 0) :: (.aload_n 0, 0, 0, 0, 0) :: (.getfield 33, 7, 5, 61, 0) :: (.getfield 307, 2, 8, 89, 0) :: (.iload 6, 0, 0, 0, 0) :: (.iaload, 0, 0, 0, 0) :: (.istore 7, 0, 0, 0, 0) :: (.iload 7, 0, 0, 0, 0) :: (.iload_n 1, 0, 0, 0, 0) :: (.if_icmp .eq 31, 102, 0, 0, 0) :: (.iload 7, 0, 0, 0, 0) :: (.iload_n 1, 0, 0, 0, 0) :: (.if_icmp .ge 7, 84, 0, 0, 0) :: (.lconst 1, 0, 0, 0, 0) :: (.goto 4, 85, 0, 0, 0) :: []
def mB_134_0 : List mm_I := (.aload_n 0, 0, 0, 0, 0) :: (.getfield 40, 7, 6, 62, 0) :: (.invokevirtual 126, 34, 1, 88, 4) :: (.istore_n 2, 0, 0, 0, 0) :: (.lconst 1, 0, 0, 0, 0) :: (.lstore_n 3, 0, 0, 0, 0) :: (.aload_n 0, 0, 0, 0, 0) :: (.getfield 33, 7, 5, 61, 0) :: (.aload_n 0, 0, 0, 0, 0) :: (.getfield 40, 7, 6, 62, 0) :: (.getfield 130, 3, 0, 77, 0) :: (.iload_n 2, 0, 0, 0, 0) :: (.iaload, 0, 0, 0, 0) :: (.aload_n 0, 0, 0, 0, 0) :: (.getfield 40, 7, 6, 62, 0) :: (.getfield 130, 3, 0, 77, 0) :: (.iconst 1, 0, 0, 0, 0) :: (.iload_n 2, 0, 0, 0, 0) :: (.isub, 0, 0, 0, 0) :: (.iaload, 0, 0, 0, 0) :: (.aload_n 0, 0, 0, 0, 0) :: (.getfield 40, 7, 6, 62, 0) :: (.getfield 123, 3, 5, 76, 0) :: (.invokevirtual 190, 27, 4, 96, 41) :: (.istore 5, 0, 0, 0, 0) :: (.iconst 0, 0, 0, 0, 0) :: (.istore 6, 0, 0, 0, 0) :: mB_134_49
def mT_134 : List (Nat × List mm_I) := [(0, mB_134_0), (49, mB_134_49), (84, mB_134_84), (85, mB_134_85), (102, mB_134_102), (108, mB_134_108)]
-- 135: VillageBoardModel.<init>()V
def mB_135_0 : List mm_I := (.aload_n 0, 0, 0, 0, 0) :: (.invokespecial 1, 9000, 1, 135, 1) :: (.aload_n 0, 0, 0, 0, 0) :: (.iconst (-1), 0, 0, 0, 0) :: (.putfield 9, 8, 4, 91, 0) :: (.aload_n 0, 0, 0, 0, 0) :: (.bipush 10, 0, 0, 0, 0) :: (.newarray .int, 0, 0, 0, 0) :: (.putfield 13, 8, 5, 92, 0) :: (.aload_n 0, 0, 0, 0, 0) :: (.bipush 10, 0, 0, 0, 0) :: (.newarray .int, 0, 0, 0, 0) :: (.putfield 17, 8, 6, 93, 0) :: (.aload_n 0, 0, 0, 0, 0) :: (.iconst 3, 0, 0, 0, 0) :: (.newarray .int, 0, 0, 0, 0) :: (.putfield 20, 8, 7, 94, 0) :: (.aload_n 0, 0, 0, 0, 0) :: (.sipush 2800, 0, 0, 0, 0) :: (.newarray .int, 0, 0, 0, 0) :: (.putfield 23, 8, 8, 95, 0) :: (.aload_n 0, 0, 0, 0, 0) :: (.bipush 100, 0, 0, 0, 0) :: (.newarray .boolean, 0, 0, 0, 0) :: (.putfield 26, 8, 9, 96, 0) :: (.aload_n 0, 0, 0, 0, 0) :: (.sipush 700, 0, 0, 0, 0) :: (.newarray .int, 0, 0, 0, 0) :: (.putfield 30, 8, 10, 97, 0) :: (.aload_n 0, 0, 0, 0, 0) :: (.iconst (-1), 0, 0, 0, 0) :: (.putfield 33, 8, 13, 98, 0) :: (.aload_n 0, 0, 0, 0, 0) :: (.iconst 3, 0, 0, 0, 0) :: (.newarray .int, 0, 0, 0, 0) :: (.putfield 36, 8, 14, 99, 0) :: (.aload_n 0, 0, 0, 0, 0) :: (.bipush 10, 0, 0, 0, 0) :: (.newarray .int, 0, 0, 0, 0) :: (.putfield 39, 8, 30, 100, 0) :: (.aload_n 0, 0, 0, 0, 0) :: (.bipush 10, 0, 0, 0, 0) :: (.newarray .int, 0, 0, 0, 0) :: (.putfield 42, 8, 31, 101, 0) :: (.aload_n 0, 0, 0, 0, 0) :: (.bipush 10, 0, 0, 0, 0) :: (.newarray .int, 0, 0, 0, 0) :: (.putfield 45, 8, 32, 102, 0) :: (.aload_n 0, 0, 0, 0, 0) :: (.iconst 3, 0, 0, 0, 0) :: (.newarray .int, 0, 0, 0, 0) :: (.putfield 48, 8, 33, 103, 0) :: (.aload_n 0, 0, 0, 0, 0) :: (.sipush 2800, 0, 0, 0, 0) :: (.newarray .int, 0, 0, 0, 0) :: (.putfield 51, 8, 34, 104, 0) :: (.aload_n 0, 0, 0, 0, 0) :: (.sipush 950, 0, 0, 0, 0) :: (.newarray .int, 0, 0, 0, 0) :: (.putfield 54, 8, 35, 105, 0) :: (.aload_n 0, 0, 0, 0, 0) :: (.bipush 100, 0, 0, 0, 0) :: (.newarray .boolean, 0, 0, 0, 0) :: (.putfield 57, 8, 36, 106, 0) :: (.aload_n 0, 0, 0, 0, 0) :: (.bipush 9, 0, 0, 0, 0) :: (.newarray .boolean, 0, 0, 0, 0) :: (.putfield 60, 8, 37, 107, 0) :: (.aload_n 0, 0, 0, 0, 0) :: (.sipush 276, 0, 0, 0, 0) :: (.newarray .int, 0, 0, 0, 0) :: (.putfield 63, 8, 38, 108, 0) :: (.aload_n 0, 0, 0, 0, 0) :: (.sipush 1840, 0, 0, 0, 0) :: (.newarray .int, 0, 0, 0, 0) :: (.putfield 66, 8, 39, 109, 0) :: (.aload_n 0, 0, 0, 0, 0) :: (.bipush 8, 0, 0, 0, 0) :: (.newarray .int, 0, 0, 0, 0) :: (.putfield 69, 8, 41, 110, 0) :: (.aload_n 0, 0, 0, 0, 0) :: (.sipush 950, 0, 0, 0, 0) :: (.newarray .int, 0, 0, 0, 0) :: (.putfield 72, 8, 42, 111, 0) :: (.aload_n 0, 0, 0, 0, 0) :: (.bipush 10, 0, 0, 0, 0) :: (.newarray .int, 0, 0, 0, 0) :: (.putfield 75, 8, 44, 112, 0) :: (.aload_n 0, 0, 0, 0, 0) :: (.bipush 12, 0, 0, 0, 0) :: (.newarray .int, 0, 0, 0, 0) :: (.putfield 78, 8, 46, 113, 0) :: (.aload_n 0, 0, 0, 0, 0) :: (.sipush 270, 0, 0, 0, 0) :: (.newarray .int, 0, 0, 0, 0) :: (.putfield 81, 8, 47, 114, 0) :: (.aload_n 0, 0, 0, 0, 0) :: (.bipush 46, 0, 0, 0, 0) :: (.newarray .int, 0, 0, 0, 0) :: (.putfield 84, 8, 52, 115, 0) :: (.aload_n 0, 0, 0, 0, 0) :: (.sipush 1840, 0, 0, 0, 0) :: (.newarray .int, 0, 0, 0, 0) :: (.putfield 87, 8, 53, 116, 0) :: (.aload_n 0, 0, 0, 0, 0) :: (.bipush 12, 0, 0, 0, 0) :: (.newarray .int, 0, 0, 0, 0) :: (.putfield 90, 8, 54, 117, 0) :: (.aload_n 0, 0, 0, 0, 0) :: (.getfield 63, 8, 38, 108, 0) :: (.bipush 44, 0, 0, 0, 0) :: (.iconst (-1), 0, 0, 0, 0) :: (.iastore, 0, 0, 0, 0) :: (.aload_n 0, 0, 0, 0, 0) :: (.getfield 63, 8, 38, 108, 0) :: (.bipush 45, 0, 0, 0, 0) :: (.iconst (-1), 0, 0, 0, 0) :: (.iastore, 0, 0, 0, 0) :: (.return_, 0, 0, 0, 0) :: []
def mT_135 : List (Nat × List mm_I) := [(0, mB_135_0)]
-- 136: VillageBoardModel.thrown()I
def mB_136_0 : List mm_I := (.aload_n 0, 0, 0, 0, 0) :: (.getfield 93, 8, 0, 118, 0) :: (.ireturn, 0, 0, 0, 0) :: []
def mT_136 : List (Nat × List mm_I) := [(0, mB_136_0)]
-- 137: VillageBoardModel.right(ZI)Z
def mB_137_28 : List mm_I := (.ireturn, 0, 0, 0, 0) :: []
def mB_137_27 : List mm_I := (.iconst 0, 0, 0, 0, 0) :: mB_137_28
def mB_137_16 : List mm_I := (.aload_n 0, 0, 0, 0, 0) :: (.getfield 93, 8, 0, 118, 0) :: (.ifCond .ne 7, 27, 0, 0, 0) :: (.iconst 1, 0, 0, 0, 0) :: (.goto 4, 28, 0, 0, 0) :: []
def mB_137_0 : List mm_I := (.aload_n 0, 0, 0, 0, 0) :: (.getfield 93, 8, 0, 118, 0) :: (.ifCond .ne 12, 16, 0, 0, 0) :: (.iload_n 1, 0, 0, 0, 0) :: (.ifCond .ne 8, 16, 0, 0, 0) :: (.aload_n 0, 0, 0, 0, 0) :: (.iload_n 2, 0, 0, 0, 0) :: (.putfield 93, 8, 0, 118, 0) :: mB_137_16
def mT_137 : List (Nat × List mm_I) := [(0, mB_137_0), (16, mB_137_16), (27, mB_137_27), (28, mB_137_28)]
-- 138: VillageBoardModel.within(III)Z
def mB_138_15 : List mm_I := (.ireturn, 0, 0, 0, 0) :: []
def mB_138_14 : List mm_I := (.iconst 0, 0, 0, 0, 0) :: mB_138_15
def mB_138_0 : List mm_I := (.iload_n 0, 0, 0, 0, 0) :: (.iload_n 1, 0, 0, 0, 0) :: (.if_icmp .lt 12, 14, 0, 0, 0) :: (.iload_n 0, 0, 0, 0, 0) :: (.iload_n 2, 0, 0, 0, 0) :: (.if_icmp .gt 7, 14, 0, 0, 0) :: (.iconst 1, 0, 0, 0, 0) :: (.goto 4, 15, 0, 0, 0) :: []
def mT_138 : List (Nat × List mm_I) := [(0, mB_138_0), (14, mB_138_14), (15, mB_138_15)]
-- 139: VillageBoardModel.copies([I[I)V
def mB_139_20 : List mm_I := (.return_, 0, 0, 0, 0) :: []
def mB_139_2 : List mm_I := (.iload_n 3, 0, 0, 0, 0) :: (.aload_n 1, 0, 0, 0, 0) :: (.arraylength, 0, 0, 0, 0) :: (.if_icmp .ge 15, 20, 0, 0, 0) :: (.aload_n 2, 0, 0, 0, 0) :: (.iload_n 3, 0, 0, 0, 0) :: (.aload_n 1, 0, 0, 0, 0) :: (.iload_n 3, 0, 0, 0, 0) :: (.iaload, 0, 0, 0, 0) :: (.iastore, 0, 0, 0, 0) :: (.iinc 3 1, 0, 0, 0, 0) :: (.goto (-15), 2, 0, 0, 0) :: []
def mB_139_0 : List mm_I := (.iconst 0, 0, 0, 0, 0) :: (.istore_n 3, 0, 0, 0, 0) :: mB_139_2
def mT_139 : List (Nat × List mm_I) := [(0, mB_139_0), (2, mB_139_2), (20, mB_139_20)]
-- 140: VillageBoardModel.bits(I)I
def mB_140_24 : List mm_I := (.iload_n 1, 0, 0, 0, 0) :: (.ireturn, 0, 0, 0, 0) :: []
def mB_140_4 : List mm_I := (.iload_n 2, 0, 0, 0, 0) :: (.bipush 10, 0, 0, 0, 0) :: (.if_icmp .ge 17, 24, 0, 0, 0) :: (.iload_n 1, 0, 0, 0, 0) :: (.iload_n 0, 0, 0, 0, 0) :: (.iload_n 2, 0, 0, 0, 0) :: (.ishr, 0, 0, 0, 0) :: (.iconst 1, 0, 0, 0, 0) :: (.iand, 0, 0, 0, 0) :: (.iadd, 0, 0, 0, 0) :: (.istore_n 1, 0, 0, 0, 0) :: (.iinc 2 1, 0, 0, 0, 0) :: (.goto (-17), 4, 0, 0, 0) :: []
def mB_140_0 : List mm_I := (.iconst 0, 0, 0, 0, 0) :: (.istore_n 1, 0, 0, 0, 0) :: (.iconst 0, 0, 0, 0, 0) :: (.istore_n 2, 0, 0, 0, 0) :: mB_140_4
def mT_140 : List (Nat × List mm_I) := [(0, mB_140_0), (4, mB_140_4), (24, mB_140_24)]
-- 141: VillageBoardModel.feed(IIIII)I
def mB_141_20 : List mm_I := (.aload_n 0, 0, 0, 0, 0) :: (.iload_n 1, 0, 0, 0, 0) :: (.invokevirtual 99, 142, 2, 136, 22) :: (.aload_n 0, 0, 0, 0, 0) :: (.iload_n 2, 0, 0, 0, 0) :: (.invokevirtual 99, 142, 2, 136, 27) :: (.aload_n 0, 0, 0, 0, 0) :: (.iload_n 3, 0, 0, 0, 0) :: (.invokevirtual 99, 142, 2, 136, 32) :: (.aload_n 0, 0, 0, 0, 0) :: (.iload 4, 0, 0, 0, 0) :: (.invokevirtual 99, 142, 2, 136, 38) :: (.aload_n 0, 0, 0, 0, 0) :: (.iload 5, 0, 0, 0, 0) :: (.invokevirtual 99, 142, 2, 136, 44) :: (.aload_n 0, 0, 0, 0, 0) :: (.getfield 96, 8, 11, 119, 0) :: (.ireturn, 0, 0, 0, 0) :: []
def mB_141_0 : List mm_I := (.aload_n 0, 0, 0, 0, 0) :: (.iconst 0, 0, 0, 0, 0) :: (.putfield 93, 8, 0, 118, 0) :: (.aload_n 0, 0, 0, 0, 0) :: (.getfield 96, 8, 11, 119, 0) :: (.bipush 20, 0, 0, 0, 0) :: (.iadd, 0, 0, 0, 0) :: (.sipush 700, 0, 0, 0, 0) :: (.if_icmp .le 5, 20, 0, 0, 0) :: (.iconst (-1), 0, 0, 0, 0) :: (.ireturn, 0, 0, 0, 0) :: []
def mT_141 : List (Nat × List mm_I) := [(0, mB_141_0), (20, mB_141_20)]
-- 142: VillageBoardModel.lays(I)V
def mB_142_39 : List mm_I := (.return_, 0, 0, 0, 0) :: []
def mB_142_3 : List mm_I := (.iload_n 2, 0, 0, 0, 0) :: (.ifCond .lt 35, 39, 0, 0, 0) :: (.aload_n 0, 0, 0, 0, 0) :: (.getfield 30, 8, 10, 97, 0) :: (.aload_n 0, 0, 0, 0, 0) :: (.getfield 96, 8, 11, 119, 0) :: (.iload_n 1, 0, 0, 0, 0) :: (.iload_n 2, 0, 0, 0, 0) :: (.ishr, 0, 0, 0, 0) :: (.sipush 255, 0, 0, 0, 0) :: (.iand, 0, 0, 0, 0) :: (.iastore, 0, 0, 0, 0) :: (.aload_n 0, 0, 0, 0, 0) :: (.dup, 0, 0, 0, 0) :: (.getfield 96, 8, 11, 119, 0) :: (.iconst 1, 0, 0, 0, 0) :: (.iadd, 0, 0, 0, 0) :: (.putfield 96, 8, 11, 119, 0) :: (.iinc 2 (-8), 0, 0, 0, 0) :: (.goto (-33), 3, 0, 0, 0) :: []
def mB_142_0 : List mm_I := (.bipush 24, 0, 0, 0, 0) :: (.istore_n 2, 0, 0, 0, 0) :: mB_142_3
def mT_142 : List (Nat × List mm_I) := [(0, mB_142_0), (3, mB_142_3), (39, mB_142_39)]
-- 143: VillageBoardModel.byteAt(I)I
def mB_143_18 : List mm_I := (.ireturn, 0, 0, 0, 0) :: []
def mB_143_17 : List mm_I := (.iconst 0, 0, 0, 0, 0) :: mB_143_18
def mB_143_0 : List mm_I := (.iload_n 1, 0, 0, 0, 0) :: (.aload_n 0, 0, 0, 0, 0) :: (.getfield 103, 8, 15, 120, 0) :: (.if_icmp .ge 12, 17, 0, 0, 0) :: (.aload_n 0, 0, 0, 0, 0) :: (.getfield 30, 8, 10, 97, 0) :: (.iload_n 1, 0, 0, 0, 0) :: (.iaload, 0, 0, 0, 0) :: (.goto 4, 18, 0, 0, 0) :: []
def mT_143 : List (Nat × List mm_I) := [(0, mB_143_0), (17, mB_143_17), (18, mB_143_18)]
-- 144: VillageBoardModel.isLetter(I)Z
def mB_144_17 : List mm_I := (.ireturn, 0, 0, 0, 0) :: []
def mB_144_16 : List mm_I := (.iconst 0, 0, 0, 0, 0) :: mB_144_17
def mB_144_0 : List mm_I := (.iload_n 0, 0, 0, 0, 0) :: (.bipush 97, 0, 0, 0, 0) :: (.if_icmp .lt 13, 16, 0, 0, 0) :: (.iload_n 0, 0, 0, 0, 0) :: (.bipush 122, 0, 0, 0, 0) :: (.if_icmp .gt 7, 16, 0, 0, 0) :: (.iconst 1, 0, 0, 0, 0) :: (.goto 4, 17, 0, 0, 0) :: []
def mT_144 : List (Nat × List mm_I) := [(0, mB_144_0), (16, mB_144_16), (17, mB_144_17)]
-- 145: VillageBoardModel.isDigit(I)Z
def mB_145_17 : List mm_I := (.ireturn, 0, 0, 0, 0) :: []
def mB_145_16 : List mm_I := (.iconst 0, 0, 0, 0, 0) :: mB_145_17
def mB_145_0 : List mm_I := (.iload_n 0, 0, 0, 0, 0) :: (.bipush 48, 0, 0, 0, 0) :: (.if_icmp .lt 13, 16, 0, 0, 0) :: (.iload_n 0, 0, 0, 0, 0) :: (.bipush 57, 0, 0, 0, 0) :: (.if_icmp .gt 7, 16, 0, 0, 0) :: (.iconst 1, 0, 0, 0, 0) :: (.goto 4, 17, 0, 0, 0) :: []
def mT_145 : List (Nat × List mm_I) := [(0, mB_145_0), (16, mB_145_16), (17, mB_145_17)]
-- 146: VillageBoardModel.goes()V
def mB_146_331 : List mm_I := (.aload_n 0, 0, 0, 0, 0) :: (.aload_n 0, 0, 0, 0, 0) :: (.getfield 106, 8, 16, 121, 0) :: (.aload_n 0, 0, 0, 0, 0) :: (.getfield 113, 8, 18, 122, 0) :: (.isub, 0, 0, 0, 0) :: (.putfield 136, 8, 19, 127, 0) :: (.return_, 0, 0, 0, 0) :: []
def mB_146_328 : List mm_I := (.putfield 126, 8, 17, 126, 0) :: mB_146_331
def mB_146_327 : List mm_I := (.iconst 4, 0, 0, 0, 0) :: mB_146_328
def mB_146_323 : List mm_I := (.iconst 3, 0, 0, 0, 0) :: (.goto 4, 328, 0, 0, 0) :: []
def mB_146_258 : List mm_I := (.aload_n 0, 0, 0, 0, 0) :: (.dup, 0, 0, 0, 0) :: (.getfield 106, 8, 16, 121, 0) :: (.iconst 1, 0, 0, 0, 0) :: (.iadd, 0, 0, 0, 0) :: (.putfield 106, 8, 16, 121, 0) :: (.aload_n 0, 0, 0, 0, 0) :: (.iload_n 1, 0, 0, 0, 0) :: (.bipush 59, 0, 0, 0, 0) :: (.if_icmp .eq 51, 323, 0, 0, 0) :: (.iload_n 1, 0, 0, 0, 0) :: (.bipush 40, 0, 0, 0, 0) :: (.if_icmp .eq 45, 323, 0, 0, 0) :: (.iload_n 1, 0, 0, 0, 0) :: (.bipush 41, 0, 0, 0, 0) :: (.if_icmp .eq 39, 323, 0, 0, 0) :: (.iload_n 1, 0, 0, 0, 0) :: (.bipush 43, 0, 0, 0, 0) :: (.if_icmp .eq 33, 323, 0, 0, 0) :: (.iload_n 1, 0, 0, 0, 0) :: (.bipush 45, 0, 0, 0, 0) :: (.if_icmp .eq 27, 323, 0, 0, 0) :: (.iload_n 1, 0, 0, 0, 0) :: (.bipush 42, 0, 0, 0, 0) :: (.if_icmp .eq 21, 323, 0, 0, 0) :: (.iload_n 1, 0, 0, 0, 0) :: (.bipush 47, 0, 0, 0, 0) :: (.if_icmp .eq 15, 323, 0, 0, 0) :: (.iload_n 1, 0, 0, 0, 0) :: (.bipush 60, 0, 0, 0, 0) :: (.if_icmp .eq 9, 323, 0, 0, 0) :: (.iload_n 1, 0, 0, 0, 0) :: (.bipush 61, 0, 0, 0, 0) :: (.if_icmp .ne 7, 327, 0, 0, 0) :: mB_146_323
def mB_146_250 : List mm_I := (.aload_n 0, 0, 0, 0, 0) :: (.iconst 2, 0, 0, 0, 0) :: (.putfield 126, 8, 17, 126, 0) :: (.goto 76, 331, 0, 0, 0) :: []
def mB_146_237 : List mm_I := (.aload_n 0, 0, 0, 0, 0) :: (.dup, 0, 0, 0, 0) :: (.getfield 106, 8, 16, 121, 0) :: (.iconst 1, 0, 0, 0, 0) :: (.iadd, 0, 0, 0, 0) :: (.putfield 106, 8, 16, 121, 0) :: (.goto (-60), 187, 0, 0, 0) :: []
def mB_146_187 : List mm_I := (.aload_n 0, 0, 0, 0, 0) :: (.aload_n 0, 0, 0, 0, 0) :: (.getfield 106, 8, 16, 121, 0) :: (.invokevirtual 109, 143, 2, 137, 192) :: (.invokestatic 133, 145, 1, 139, 195) :: (.ifCond .eq 52, 250, 0, 0, 0) :: (.aload_n 0, 0, 0, 0, 0) :: (.getfield 106, 8, 16, 121, 0) :: (.aload_n 0, 0, 0, 0, 0) :: (.getfield 113, 8, 18, 122, 0) :: (.isub, 0, 0, 0, 0) :: (.iconst 4, 0, 0, 0, 0) :: (.if_icmp .ge 26, 237, 0, 0, 0) :: (.aload_n 0, 0, 0, 0, 0) :: (.bipush 10, 0, 0, 0, 0) :: (.aload_n 0, 0, 0, 0, 0) :: (.getfield 120, 8, 20, 124, 0) :: (.imul, 0, 0, 0, 0) :: (.aload_n 0, 0, 0, 0, 0) :: (.aload_n 0, 0, 0, 0, 0) :: (.getfield 106, 8, 16, 121, 0) :: (.invokevirtual 109, 143, 2, 137, 227) :: (.iadd, 0, 0, 0, 0) :: (.bipush 48, 0, 0, 0, 0) :: (.isub, 0, 0, 0, 0) :: (.putfield 120, 8, 20, 124, 0) :: mB_146_237
def mB_146_180 : List mm_I := (.iload_n 1, 0, 0, 0, 0) :: (.invokestatic 133, 145, 1, 139, 181) :: (.ifCond .eq 74, 258, 0, 0, 0) :: mB_146_187
def mB_146_172 : List mm_I := (.aload_n 0, 0, 0, 0, 0) :: (.iconst 1, 0, 0, 0, 0) :: (.putfield 126, 8, 17, 126, 0) :: (.goto 154, 331, 0, 0, 0) :: []
def mB_146_159 : List mm_I := (.aload_n 0, 0, 0, 0, 0) :: (.dup, 0, 0, 0, 0) :: (.getfield 106, 8, 16, 121, 0) :: (.iconst 1, 0, 0, 0, 0) :: (.iadd, 0, 0, 0, 0) :: (.putfield 106, 8, 16, 121, 0) :: (.goto (-61), 108, 0, 0, 0) :: []
def mB_146_108 : List mm_I := (.aload_n 0, 0, 0, 0, 0) :: (.aload_n 0, 0, 0, 0, 0) :: (.getfield 106, 8, 16, 121, 0) :: (.invokevirtual 109, 143, 2, 137, 113) :: (.invokestatic 129, 144, 1, 138, 116) :: (.ifCond .eq 53, 172, 0, 0, 0) :: (.aload_n 0, 0, 0, 0, 0) :: (.getfield 106, 8, 16, 121, 0) :: (.aload_n 0, 0, 0, 0, 0) :: (.getfield 113, 8, 18, 122, 0) :: (.isub, 0, 0, 0, 0) :: (.bipush 7, 0, 0, 0, 0) :: (.if_icmp .ge 26, 159, 0, 0, 0) :: (.aload_n 0, 0, 0, 0, 0) :: (.aload_n 0, 0, 0, 0, 0) :: (.getfield 116, 8, 22, 123, 0) :: (.iconst 5, 0, 0, 0, 0) :: (.lshl, 0, 0, 0, 0) :: (.aload_n 0, 0, 0, 0, 0) :: (.aload_n 0, 0, 0, 0, 0) :: (.getfield 106, 8, 16, 121, 0) :: (.invokevirtual 109, 143, 2, 137, 148) :: (.bipush 96, 0, 0, 0, 0) :: (.isub, 0, 0, 0, 0) :: (.i2l, 0, 0, 0, 0) :: (.lor, 0, 0, 0, 0) :: (.putfield 116, 8, 22, 123, 0) :: mB_146_159
def mB_146_101 : List mm_I := (.iload_n 1, 0, 0, 0, 0) :: (.invokestatic 129, 144, 1, 138, 102) :: (.ifCond .eq 75, 180, 0, 0, 0) :: mB_146_108
def mB_146_50 : List mm_I := (.aload_n 0, 0, 0, 0, 0) :: (.aload_n 0, 0, 0, 0, 0) :: (.getfield 106, 8, 16, 121, 0) :: (.putfield 113, 8, 18, 122, 0) :: (.aload_n 0, 0, 0, 0, 0) :: (.lconst 0, 0, 0, 0, 0) :: (.putfield 116, 8, 22, 123, 0) :: (.aload_n 0, 0, 0, 0, 0) :: (.iconst 0, 0, 0, 0, 0) :: (.putfield 120, 8, 20, 124, 0) :: (.aload_n 0, 0, 0, 0, 0) :: (.aload_n 0, 0, 0, 0, 0) :: (.getfield 106, 8, 16, 121, 0) :: (.invokevirtual 109, 143, 2, 137, 73) :: (.istore_n 1, 0, 0, 0, 0) :: (.aload_n 0, 0, 0, 0, 0) :: (.iload_n 1, 0, 0, 0, 0) :: (.putfield 123, 8, 21, 125, 0) :: (.aload_n 0, 0, 0, 0, 0) :: (.getfield 106, 8, 16, 121, 0) :: (.aload_n 0, 0, 0, 0, 0) :: (.getfield 103, 8, 15, 120, 0) :: (.if_icmp .lt 11, 101, 0, 0, 0) :: (.aload_n 0, 0, 0, 0, 0) :: (.iconst 0, 0, 0, 0, 0) :: (.putfield 126, 8, 17, 126, 0) :: (.goto 233, 331, 0, 0, 0) :: []
def mB_146_37 : List mm_I := (.aload_n 0, 0, 0, 0, 0) :: (.dup, 0, 0, 0, 0) :: (.getfield 106, 8, 16, 121, 0) :: (.iconst 1, 0, 0, 0, 0) :: (.iadd, 0, 0, 0, 0) :: (.putfield 106, 8, 16, 121, 0) :: (.goto (-47), 0, 0, 0, 0) :: []
def mB_146_0 : List mm_I := (.aload_n 0, 0, 0, 0, 0) :: (.getfield 106, 8, 16, 121, 0) :: (.aload_n 0, 0, 0, 0, 0) :: (.getfield 103, 8, 15, 120, 0) :: (.if_icmp .ge 42, 50, 0, 0, 0) :: (.aload_n 0, 0, 0, 0, 0) :: (.aload_n 0, 0, 0, 0, 0) :: (.getfield 106, 8, 16, 121, 0) :: (.invokevirtual 109, 143, 2, 137, 16) :: (.bipush 32, 0, 0, 0, 0) :: (.if_icmp .eq 16, 37, 0, 0, 0) :: (.aload_n 0, 0, 0, 0, 0) :: (.aload_n 0, 0, 0, 0, 0) :: (.getfield 106, 8, 16, 121, 0) :: (.invokevirtual 109, 143, 2, 137, 29) :: (.bipush 10, 0, 0, 0, 0) :: (.if_icmp .ne 16, 50, 0, 0, 0) :: mB_146_37
def mT_146 : List (Nat × List mm_I) := [(0, mB_146_0), (37, mB_146_37), (50, mB_146_50), (101, mB_146_101), (108, mB_146_108), (159, mB_146_159), (172, mB_146_172), (180, mB_146_180), (187, mB_146_187), (237, mB_146_237), (250, mB_146_250), (258, mB_146_258), (323, mB_146_323), (327, mB_146_327), (328, mB_146_328), (331, mB_146_331)]
-- 147: VillageBoardModel.spelled(IIIIIII)J
def mB_147_102 : List mm_I := (.lload 7, 0, 0, 0, 0) :: (.lreturn, 0, 0, 0, 0) :: []
def mB_147_84 : List mm_I := (.iload 6, 0, 0, 0, 0) :: (.ifCond .eq 16, 102, 0, 0, 0) :: (.lload 7, 0, 0, 0, 0) :: (.iconst 5, 0, 0, 0, 0) :: (.lshl, 0, 0, 0, 0) :: (.iload 6, 0, 0, 0, 0) :: (.bipush 96, 0, 0, 0, 0) :: (.isub, 0, 0, 0, 0) :: (.i2l, 0, 0, 0, 0) :: (.lor, 0, 0, 0, 0) :: (.lstore 7, 0, 0, 0, 0) :: mB_147_102
def mB_147_66 : List mm_I := (.iload 5, 0, 0, 0, 0) :: (.ifCond .eq 16, 84, 0, 0, 0) :: (.lload 7, 0, 0, 0, 0) :: (.iconst 5, 0, 0, 0, 0) :: (.lshl, 0, 0, 0, 0) :: (.iload 5, 0, 0, 0, 0) :: (.bipush 96, 0, 0, 0, 0) :: (.isub, 0, 0, 0, 0) :: (.i2l, 0, 0, 0, 0) :: (.lor, 0, 0, 0, 0) :: (.lstore 7, 0, 0, 0, 0) :: mB_147_84
def mB_147_48 : List mm_I := (.iload 4, 0, 0, 0, 0) :: (.ifCond .eq 16, 66, 0, 0, 0) :: (.lload 7, 0, 0, 0, 0) :: (.iconst 5, 0, 0, 0, 0) :: (.lshl, 0, 0, 0, 0) :: (.iload 4, 0, 0, 0, 0) :: (.bipush 96, 0, 0, 0, 0) :: (.isub, 0, 0, 0, 0) :: (.i2l, 0, 0, 0, 0) :: (.lor, 0, 0, 0, 0) :: (.lstore 7, 0, 0, 0, 0) :: mB_147_66
def mB_147_32 : List mm_I := (.iload_n 3, 0, 0, 0, 0) :: (.ifCond .eq 15, 48, 0, 0, 0) :: (.lload 7, 0, 0, 0, 0) :: (.iconst 5, 0, 0, 0, 0) :: (.lshl, 0, 0, 0, 0) :: (.iload_n 3, 0, 0, 0, 0) :: (.bipush 96, 0, 0, 0, 0) :: (.isub, 0, 0, 0, 0) :: (.i2l, 0, 0, 0, 0) :: (.lor, 0, 0, 0, 0) :: (.lstore 7, 0, 0, 0, 0) :: mB_147_48
def mB_147_0 : List mm_I := (.iload_n 0, 0, 0, 0, 0) :: (.i2l, 0, 0, 0, 0) :: (.ldc2_w 139, 0, 0, 1408, 96) :: (.lsub, 0, 0, 0, 0) :: (.iconst 5, 0, 0, 0, 0) :: (.lshl, 0, 0, 0, 0) :: (.iload_n 1, 0, 0, 0, 0) :: (.bipush 96, 0, 0, 0, 0) :: (.isub, 0, 0, 0, 0) :: (.i2l, 0, 0, 0, 0) :: (.lor, 0, 0, 0, 0) :: (.lstore 7, 0, 0, 0, 0) :: (.iload_n 2, 0, 0, 0, 0) :: (.ifCond .eq 15, 32, 0, 0, 0) :: (.lload 7, 0, 0, 0, 0) :: (.iconst 5, 0, 0, 0, 0) :: (.lshl, 0, 0, 0, 0) :: (.iload_n 2, 0, 0, 0, 0) :: (.bipush 96, 0, 0, 0, 0) :: (.isub, 0, 0, 0, 0) :: (.i2l, 0, 0, 0, 0) :: (.lor, 0, 0, 0, 0) :: (.lstore 7, 0, 0, 0, 0) :: mB_147_32
def mT_147 : List (Nat × List mm_I) := [(0, mB_147_0), (32, mB_147_32), (48, mB_147_48), (66, mB_147_66), (84, mB_147_84), (102, mB_147_102)]
-- 148: VillageBoardModel.letters(I)J
def mB_148_310 : List mm_I := (.bipush 110, 0, 0, 0, 0) :: (.bipush 111, 0, 0, 0, 0) :: (.bipush 116, 0, 0, 0, 0) :: (.iconst 0, 0, 0, 0, 0) :: (.iconst 0, 0, 0, 0, 0) :: (.iconst 0, 0, 0, 0, 0) :: (.iconst 0, 0, 0, 0, 0) :: (.invokestatic 141, 147, 7, 140, 320) :: (.lreturn, 0, 0, 0, 0) :: []
def mB_148_297 : List mm_I := (.bipush 111, 0, 0, 0, 0) :: (.bipush 114, 0, 0, 0, 0) :: (.iconst 0, 0, 0, 0, 0) :: (.iconst 0, 0, 0, 0, 0) :: (.iconst 0, 0, 0, 0, 0) :: (.iconst 0, 0, 0, 0, 0) :: (.iconst 0, 0, 0, 0, 0) :: (.invokestatic 141, 147, 7, 140, 306) :: (.lreturn, 0, 0, 0, 0) :: []
def mB_148_283 : List mm_I := (.bipush 97, 0, 0, 0, 0) :: (.bipush 110, 0, 0, 0, 0) :: (.bipush 100, 0, 0, 0, 0) :: (.iconst 0, 0, 0, 0, 0) :: (.iconst 0, 0, 0, 0, 0) :: (.iconst 0, 0, 0, 0, 0) :: (.iconst 0, 0, 0, 0, 0) :: (.invokestatic 141, 147, 7, 140, 293) :: (.lreturn, 0, 0, 0, 0) :: []
def mB_148_267 : List mm_I := (.bipush 115, 0, 0, 0, 0) :: (.bipush 116, 0, 0, 0, 0) :: (.bipush 121, 0, 0, 0, 0) :: (.bipush 108, 0, 0, 0, 0) :: (.bipush 101, 0, 0, 0, 0) :: (.iconst 0, 0, 0, 0, 0) :: (.iconst 0, 0, 0, 0, 0) :: (.invokestatic 141, 147, 7, 140, 279) :: (.lreturn, 0, 0, 0, 0) :: []
def mB_148_252 : List mm_I := (.bipush 114, 0, 0, 0, 0) :: (.bipush 111, 0, 0, 0, 0) :: (.bipush 97, 0, 0, 0, 0) :: (.bipush 100, 0, 0, 0, 0) :: (.iconst 0, 0, 0, 0, 0) :: (.iconst 0, 0, 0, 0, 0) :: (.iconst 0, 0, 0, 0, 0) :: (.invokestatic 141, 147, 7, 140, 263) :: (.lreturn, 0, 0, 0, 0) :: []
def mB_148_237 : List mm_I := (.bipush 102, 0, 0, 0, 0) :: (.bipush 114, 0, 0, 0, 0) :: (.bipush 101, 0, 0, 0, 0) :: (.bipush 101, 0, 0, 0, 0) :: (.iconst 0, 0, 0, 0, 0) :: (.iconst 0, 0, 0, 0, 0) :: (.iconst 0, 0, 0, 0, 0) :: (.invokestatic 141, 147, 7, 140, 248) :: (.lreturn, 0, 0, 0, 0) :: []
def mB_148_221 : List mm_I := (.bipush 115, 0, 0, 0, 0) :: (.bipush 111, 0, 0, 0, 0) :: (.bipush 117, 0, 0, 0, 0) :: (.bipush 116, 0, 0, 0, 0) :: (.bipush 104, 0, 0, 0, 0) :: (.iconst 0, 0, 0, 0, 0) :: (.iconst 0, 0, 0, 0, 0) :: (.invokestatic 141, 147, 7, 140, 233) :: (.lreturn, 0, 0, 0, 0) :: []
def mB_148_205 : List mm_I := (.bipush 110, 0, 0, 0, 0) :: (.bipush 111, 0, 0, 0, 0) :: (.bipush 114, 0, 0, 0, 0) :: (.bipush 116, 0, 0, 0, 0) :: (.bipush 104, 0, 0, 0, 0) :: (.iconst 0, 0, 0, 0, 0) :: (.iconst 0, 0, 0, 0, 0) :: (.invokestatic 141, 147, 7, 140, 217) :: (.lreturn, 0, 0, 0, 0) :: []
def mB_148_187 : List mm_I := (.bipush 101, 0, 0, 0, 0) :: (.bipush 118, 0, 0, 0, 0) :: (.bipush 101, 0, 0, 0, 0) :: (.bipush 110, 0, 0, 0, 0) :: (.bipush 105, 0, 0, 0, 0) :: (.bipush 110, 0, 0, 0, 0) :: (.bipush 103, 0, 0, 0, 0) :: (.invokestatic 141, 147, 7, 140, 201) :: (.lreturn, 0, 0, 0, 0) :: []
def mB_148_171 : List mm_I := (.bipush 116, 0, 0, 0, 0) :: (.bipush 117, 0, 0, 0, 0) :: (.bipush 114, 0, 0, 0, 0) :: (.bipush 110, 0, 0, 0, 0) :: (.bipush 115, 0, 0, 0, 0) :: (.iconst 0, 0, 0, 0, 0) :: (.iconst 0, 0, 0, 0, 0) :: (.invokestatic 141, 147, 7, 140, 183) :: (.lreturn, 0, 0, 0, 0) :: []
def mB_148_155 : List mm_I := (.bipush 116, 0, 0, 0, 0) :: (.bipush 97, 0, 0, 0, 0) :: (.bipush 107, 0, 0, 0, 0) :: (.bipush 101, 0, 0, 0, 0) :: (.bipush 115, 0, 0, 0, 0) :: (.iconst 0, 0, 0, 0, 0) :: (.iconst 0, 0, 0, 0, 0) :: (.invokestatic 141, 147, 7, 140, 167) :: (.lreturn, 0, 0, 0, 0) :: []
def mB_148_140 : List mm_I := (.bipush 104, 0, 0, 0, 0) :: (.bipush 111, 0, 0, 0, 0) :: (.bipush 109, 0, 0, 0, 0) :: (.bipush 101, 0, 0, 0, 0) :: (.iconst 0, 0, 0, 0, 0) :: (.iconst 0, 0, 0, 0, 0) :: (.iconst 0, 0, 0, 0, 0) :: (.invokestatic 141, 147, 7, 140, 151) :: (.lreturn, 0, 0, 0, 0) :: []
def mB_148_124 : List mm_I := (.bipush 119, 0, 0, 0, 0) :: (.bipush 111, 0, 0, 0, 0) :: (.bipush 114, 0, 0, 0, 0) :: (.bipush 116, 0, 0, 0, 0) :: (.bipush 104, 0, 0, 0, 0) :: (.iconst 0, 0, 0, 0, 0) :: (.iconst 0, 0, 0, 0, 0) :: (.invokestatic 141, 147, 7, 140, 136) :: (.lreturn, 0, 0, 0, 0) :: []
def mB_148_109 : List mm_I := (.bipush 102, 0, 0, 0, 0) :: (.bipush 111, 0, 0, 0, 0) :: (.bipush 114, 0, 0, 0, 0) :: (.bipush 116, 0, 0, 0, 0) :: (.iconst 0, 0, 0, 0, 0) :: (.iconst 0, 0, 0, 0, 0) :: (.iconst 0, 0, 0, 0, 0) :: (.invokestatic 141, 147, 7, 140, 120) :: (.lreturn, 0, 0, 0, 0) :: []
def mB_148_92 : List mm_I := (.bipush 103, 0, 0, 0, 0) :: (.bipush 117, 0, 0, 0, 0) :: (.bipush 97, 0, 0, 0, 0) :: (.bipush 114, 0, 0, 0, 0) :: (.bipush 100, 0, 0, 0, 0) :: (.bipush 115, 0, 0, 0, 0) :: (.iconst 0, 0, 0, 0, 0) :: (.invokestatic 141, 147, 7, 140, 105) :: (.lreturn, 0, 0, 0, 0) :: []
def mB_148_76 : List mm_I := (.bipush 104, 0, 0, 0, 0) :: (.bipush 101, 0, 0, 0, 0) :: (.bipush 108, 0, 0, 0, 0) :: (.bipush 112, 0, 0, 0, 0) :: (.bipush 115, 0, 0, 0, 0) :: (.iconst 0, 0, 0, 0, 0) :: (.iconst 0, 0, 0, 0, 0) :: (.invokestatic 141, 147, 7, 140, 88) :: (.lreturn, 0, 0, 0, 0) :: []
def mB_148_0 : List mm_I := (.iload_n 0, 0, 0, 0, 0) :: (.tableswitch 309 0 14 #[75, 91, 108, 123, 139, 154, 170, 186, 204, 220, 236, 251, 266, 282, 296], 1, 0, 0, 0) :: []
def mT_148 : List (Nat × List mm_I) := [(0, mB_148_0), (76, mB_148_76), (92, mB_148_92), (109, mB_148_109), (124, mB_148_124), (140, mB_148_140), (155, mB_148_155), (171, mB_148_171), (187, mB_148_187), (205, mB_148_205), (221, mB_148_221), (237, mB_148_237), (252, mB_148_252), (267, mB_148_267), (283, mB_148_283), (297, mB_148_297), (310, mB_148_310)]
-- 149: VillageBoardModel.knownWord()I
def mB_149_47 : List mm_I := (.iconst (-1), 0, 0, 0, 0) :: (.ireturn, 0, 0, 0, 0) :: []
def mB_149_41 : List mm_I := (.iinc 1 1, 0, 0, 0, 0) :: (.goto (-23), 21, 0, 0, 0) :: []
def mB_149_21 : List mm_I := (.iload_n 1, 0, 0, 0, 0) :: (.bipush 16, 0, 0, 0, 0) :: (.if_icmp .ge 23, 47, 0, 0, 0) :: (.iload_n 1, 0, 0, 0, 0) :: (.invokestatic 145, 148, 1, 141, 28) :: (.aload_n 0, 0, 0, 0, 0) :: (.getfield 116, 8, 22, 123, 0) :: (.lcmp, 0, 0, 0, 0) :: (.ifCond .ne 5, 41, 0, 0, 0) :: (.iload_n 1, 0, 0, 0, 0) :: (.ireturn, 0, 0, 0, 0) :: []
def mB_149_19 : List mm_I := (.iconst 0, 0, 0, 0, 0) :: (.istore_n 1, 0, 0, 0, 0) :: mB_149_21
def mB_149_17 : List mm_I := (.iconst (-1), 0, 0, 0, 0) :: (.ireturn, 0, 0, 0, 0) :: []
def mB_149_0 : List mm_I := (.aload_n 0, 0, 0, 0, 0) :: (.getfield 126, 8, 17, 126, 0) :: (.iconst 1, 0, 0, 0, 0) :: (.if_icmp .ne 12, 17, 0, 0, 0) :: (.aload_n 0, 0, 0, 0, 0) :: (.getfield 136, 8, 19, 127, 0) :: (.bipush 7, 0, 0, 0, 0) :: (.if_icmp .le 5, 19, 0, 0, 0) :: mB_149_17
def mT_149 : List (Nat × List mm_I) := [(0, mB_149_0), (17, mB_149_17), (19, mB_149_19), (21, mB_149_21), (41, mB_149_41), (47, mB_149_47)]
-- 150: VillageBoardModel.wrong(I)V
def mB_150_8 : List mm_I := (.aload_n 0, 0, 0, 0, 0) :: (.iload_n 1, 0, 0, 0, 0) :: (.putfield 149, 8, 12, 128, 0) :: (.aload_n 0, 0, 0, 0, 0) :: (.aload_n 0, 0, 0, 0, 0) :: (.getfield 113, 8, 18, 122, 0) :: (.putfield 33, 8, 13, 98, 0) :: (.return_, 0, 0, 0, 0) :: []
def mB_150_0 : List mm_I := (.aload_n 0, 0, 0, 0, 0) :: (.getfield 149, 8, 12, 128, 0) :: (.ifCond .eq 4, 8, 0, 0, 0) :: (.return_, 0, 0, 0, 0) :: []
def mT_150 : List (Nat × List mm_I) := [(0, mB_150_0), (8, mB_150_8)]
-- 151: VillageBoardModel.isGood()Z
def mB_151_12 : List mm_I := (.ireturn, 0, 0, 0, 0) :: []
def mB_151_11 : List mm_I := (.iconst 0, 0, 0, 0, 0) :: mB_151_12
def mB_151_0 : List mm_I := (.aload_n 0, 0, 0, 0, 0) :: (.getfield 149, 8, 12, 128, 0) :: (.ifCond .ne 7, 11, 0, 0, 0) :: (.iconst 1, 0, 0, 0, 0) :: (.goto 4, 12, 0, 0, 0) :: []
def mT_151 : List (Nat × List mm_I) := [(0, mB_151_0), (11, mB_151_11), (12, mB_151_12)]
-- 152: VillageBoardModel.isSign(I)Z
def mB_152_21 : List mm_I := (.ireturn, 0, 0, 0, 0) :: []
def mB_152_20 : List mm_I := (.iconst 0, 0, 0, 0, 0) :: mB_152_21
def mB_152_0 : List mm_I := (.aload_n 0, 0, 0, 0, 0) :: (.getfield 126, 8, 17, 126, 0) :: (.iconst 3, 0, 0, 0, 0) :: (.if_icmp .ne 15, 20, 0, 0, 0) :: (.aload_n 0, 0, 0, 0, 0) :: (.getfield 123, 8, 21, 125, 0) :: (.iload_n 1, 0, 0, 0, 0) :: (.if_icmp .ne 7, 20, 0, 0, 0) :: (.iconst 1, 0, 0, 0, 0) :: (.goto 4, 21, 0, 0, 0) :: []
def mT_152 : List (Nat × List mm_I) := [(0, mB_152_0), (20, mB_152_20), (21, mB_152_21)]
-- 153: VillageBoardModel.need(Z)V
def mB_153_24 : List mm_I := (.return_, 0, 0, 0, 0) :: []
def mB_153_19 : List mm_I := (.aload_n 0, 0, 0, 0, 0) :: (.iconst 1, 0, 0, 0, 0) :: (.invokevirtual 159, 150, 2, 144, 21) :: mB_153_24
def mB_153_8 : List mm_I := (.iload_n 1, 0, 0, 0, 0) :: (.ifCond .eq 10, 19, 0, 0, 0) :: (.aload_n 0, 0, 0, 0, 0) :: (.invokevirtual 156, 146, 1, 143, 13) :: (.goto 8, 24, 0, 0, 0) :: []
def mB_153_0 : List mm_I := (.aload_n 0, 0, 0, 0, 0) :: (.invokevirtual 152, 151, 1, 142, 1) :: (.ifCond .ne 4, 8, 0, 0, 0) :: (.return_, 0, 0, 0, 0) :: []
def mT_153 : List (Nat × List mm_I) := [(0, mB_153_0), (8, mB_153_8), (19, mB_153_19), (24, mB_153_24)]
-- 154: VillageBoardModel.number(II)I
def mB_154_70 : List mm_I := (.iload_n 3, 0, 0, 0, 0) :: (.ireturn, 0, 0, 0, 0) :: []
def mB_154_54 : List mm_I := (.aload_n 0, 0, 0, 0, 0) :: (.getfield 120, 8, 20, 124, 0) :: (.istore_n 3, 0, 0, 0, 0) :: (.aload_n 0, 0, 0, 0, 0) :: (.invokevirtual 152, 151, 1, 142, 60) :: (.ifCond .eq 7, 70, 0, 0, 0) :: (.aload_n 0, 0, 0, 0, 0) :: (.invokevirtual 156, 146, 1, 143, 67) :: mB_154_70
def mB_154_49 : List mm_I := (.aload_n 0, 0, 0, 0, 0) :: (.iconst 2, 0, 0, 0, 0) :: (.invokevirtual 159, 150, 2, 144, 51) :: mB_154_54
def mB_154_25 : List mm_I := (.aload_n 0, 0, 0, 0, 0) :: (.getfield 136, 8, 19, 127, 0) :: (.iconst 4, 0, 0, 0, 0) :: (.if_icmp .gt 19, 49, 0, 0, 0) :: (.aload_n 0, 0, 0, 0, 0) :: (.getfield 120, 8, 20, 124, 0) :: (.iload_n 1, 0, 0, 0, 0) :: (.if_icmp .lt 11, 49, 0, 0, 0) :: (.aload_n 0, 0, 0, 0, 0) :: (.getfield 120, 8, 20, 124, 0) :: (.iload_n 2, 0, 0, 0, 0) :: (.if_icmp .le 8, 54, 0, 0, 0) :: mB_154_49
def mB_154_9 : List mm_I := (.aload_n 0, 0, 0, 0, 0) :: (.getfield 126, 8, 17, 126, 0) :: (.iconst 2, 0, 0, 0, 0) :: (.if_icmp .eq 11, 25, 0, 0, 0) :: (.aload_n 0, 0, 0, 0, 0) :: (.iconst 1, 0, 0, 0, 0) :: (.invokevirtual 159, 150, 2, 144, 19) :: (.goto 32, 54, 0, 0, 0) :: []
def mB_154_0 : List mm_I := (.aload_n 0, 0, 0, 0, 0) :: (.invokevirtual 152, 151, 1, 142, 1) :: (.ifCond .ne 5, 9, 0, 0, 0) :: (.iconst 0, 0, 0, 0, 0) :: (.ireturn, 0, 0, 0, 0) :: []
def mT_154 : List (Nat × List mm_I) := [(0, mB_154_0), (9, mB_154_9), (25, mB_154_25), (49, mB_154_49), (54, mB_154_54), (70, mB_154_70)]
-- 155: VillageBoardModel.amongHere(I)Z
def mB_155_54 : List mm_I := (.aload_n 0, 0, 0, 0, 0) :: (.invokevirtual 152, 151, 1, 142, 55) :: (.ireturn, 0, 0, 0, 0) :: []
def mB_155_41 : List mm_I := (.aload_n 0, 0, 0, 0, 0) :: (.getfield 120, 8, 20, 124, 0) :: (.iload_n 1, 0, 0, 0, 0) :: (.if_icmp .lt 8, 54, 0, 0, 0) :: (.aload_n 0, 0, 0, 0, 0) :: (.iconst 3, 0, 0, 0, 0) :: (.invokevirtual 159, 150, 2, 144, 51) :: mB_155_54
def mB_155_25 : List mm_I := (.aload_n 0, 0, 0, 0, 0) :: (.getfield 136, 8, 19, 127, 0) :: (.iconst 4, 0, 0, 0, 0) :: (.if_icmp .le 11, 41, 0, 0, 0) :: (.aload_n 0, 0, 0, 0, 0) :: (.iconst 2, 0, 0, 0, 0) :: (.invokevirtual 159, 150, 2, 144, 35) :: (.goto 16, 54, 0, 0, 0) :: []
def mB_155_9 : List mm_I := (.aload_n 0, 0, 0, 0, 0) :: (.getfield 126, 8, 17, 126, 0) :: (.iconst 2, 0, 0, 0, 0) :: (.if_icmp .eq 11, 25, 0, 0, 0) :: (.aload_n 0, 0, 0, 0, 0) :: (.iconst 1, 0, 0, 0, 0) :: (.invokevirtual 159, 150, 2, 144, 19) :: (.goto 32, 54, 0, 0, 0) :: []
def mB_155_0 : List mm_I := (.aload_n 0, 0, 0, 0, 0) :: (.invokevirtual 152, 151, 1, 142, 1) :: (.ifCond .ne 5, 9, 0, 0, 0) :: (.iconst 0, 0, 0, 0, 0) :: (.ireturn, 0, 0, 0, 0) :: []
def mT_155 : List (Nat × List mm_I) := [(0, mB_155_0), (9, mB_155_9), (25, mB_155_25), (41, mB_155_41), (54, mB_155_54)]
-- 156: VillageBoardModel.puts(I)V
def mB_156_0 : List mm_I := (.aload_n 0, 0, 0, 0, 0) :: (.getfield 51, 8, 34, 104, 0) :: (.aload_n 0, 0, 0, 0, 0) :: (.getfield 162, 8, 27, 129, 0) :: (.iload_n 1, 0, 0, 0, 0) :: (.iastore, 0, 0, 0, 0) :: (.aload_n 0, 0, 0, 0, 0) :: (.dup, 0, 0, 0, 0) :: (.getfield 162, 8, 27, 129, 0) :: (.iconst 1, 0, 0, 0, 0) :: (.iadd, 0, 0, 0, 0) :: (.putfield 162, 8, 27, 129, 0) :: (.return_, 0, 0, 0, 0) :: []
def mT_156 : List (Nat × List mm_I) := [(0, mB_156_0)]
-- 157: VillageBoardModel.isOpen(I)Z
def mB_157_11 : List mm_I := (.ireturn, 0, 0, 0, 0) :: []
def mB_157_10 : List mm_I := (.iconst 0, 0, 0, 0, 0) :: mB_157_11
def mB_157_0 : List mm_I := (.iload_n 0, 0, 0, 0, 0) :: (.bipush 14, 0, 0, 0, 0) :: (.if_icmp .lt 7, 10, 0, 0, 0) :: (.iconst 1, 0, 0, 0, 0) :: (.goto 4, 11, 0, 0, 0) :: []
def mT_157 : List (Nat × List mm_I) := [(0, mB_157_0), (10, mB_157_10), (11, mB_157_11)]
-- 158: VillageBoardModel.strength(I)I
def mB_158_61 : List mm_I := (.ireturn, 0, 0, 0, 0) :: []
def mB_158_59 : List mm_I := (.bipush 6, 0, 0, 0, 0) :: mB_158_61
def mB_158_55 : List mm_I := (.iconst 5, 0, 0, 0, 0) :: (.goto 5, 61, 0, 0, 0) :: []
def mB_158_43 : List mm_I := (.iload_n 0, 0, 0, 0, 0) :: (.bipush 8, 0, 0, 0, 0) :: (.if_icmp .eq 9, 55, 0, 0, 0) :: (.iload_n 0, 0, 0, 0, 0) :: (.bipush 9, 0, 0, 0, 0) :: (.if_icmp .ne 7, 59, 0, 0, 0) :: mB_158_55
def mB_158_39 : List mm_I := (.iconst 4, 0, 0, 0, 0) :: (.goto 21, 61, 0, 0, 0) :: []
def mB_158_27 : List mm_I := (.iload_n 0, 0, 0, 0, 0) :: (.bipush 6, 0, 0, 0, 0) :: (.if_icmp .eq 9, 39, 0, 0, 0) :: (.iload_n 0, 0, 0, 0, 0) :: (.bipush 7, 0, 0, 0, 0) :: (.if_icmp .ne 7, 43, 0, 0, 0) :: mB_158_39
def mB_158_18 : List mm_I := (.iload_n 0, 0, 0, 0, 0) :: (.iconst 3, 0, 0, 0, 0) :: (.if_icmp .ne 7, 27, 0, 0, 0) :: (.iconst 3, 0, 0, 0, 0) :: (.goto 37, 61, 0, 0, 0) :: []
def mB_158_9 : List mm_I := (.iload_n 0, 0, 0, 0, 0) :: (.iconst 4, 0, 0, 0, 0) :: (.if_icmp .ne 7, 18, 0, 0, 0) :: (.iconst 2, 0, 0, 0, 0) :: (.goto 46, 61, 0, 0, 0) :: []
def mB_158_0 : List mm_I := (.iload_n 0, 0, 0, 0, 0) :: (.iconst 5, 0, 0, 0, 0) :: (.if_icmp .ne 7, 9, 0, 0, 0) :: (.iconst 1, 0, 0, 0, 0) :: (.goto 55, 61, 0, 0, 0) :: []
def mT_158 : List (Nat × List mm_I) := [(0, mB_158_0), (9, mB_158_9), (18, mB_158_18), (27, mB_158_27), (39, mB_158_39), (43, mB_158_43), (55, mB_158_55), (59, mB_158_59), (61, mB_158_61)]
-- 159: VillageBoardModel.drops(I)V
def mB_159_68 : List mm_I := (.return_, 0, 0, 0, 0) :: []
def mB_159_0 : List mm_I := (.aload_n 0, 0, 0, 0, 0) :: (.getfield 165, 8, 28, 130, 0) :: (.ifCond .le 64, 68, 0, 0, 0) :: (.aload_n 0, 0, 0, 0, 0) :: (.getfield 54, 8, 35, 105, 0) :: (.aload_n 0, 0, 0, 0, 0) :: (.getfield 165, 8, 28, 130, 0) :: (.iconst 1, 0, 0, 0, 0) :: (.isub, 0, 0, 0, 0) :: (.iaload, 0, 0, 0, 0) :: (.invokestatic 168, 157, 1, 145, 18) :: (.ifCond .ne 47, 68, 0, 0, 0) :: (.aload_n 0, 0, 0, 0, 0) :: (.getfield 54, 8, 35, 105, 0) :: (.aload_n 0, 0, 0, 0, 0) :: (.getfield 165, 8, 28, 130, 0) :: (.iconst 1, 0, 0, 0, 0) :: (.isub, 0, 0, 0, 0) :: (.iaload, 0, 0, 0, 0) :: (.invokestatic 171, 158, 1, 146, 35) :: (.iload_n 1, 0, 0, 0, 0) :: (.if_icmp .lt 29, 68, 0, 0, 0) :: (.aload_n 0, 0, 0, 0, 0) :: (.dup, 0, 0, 0, 0) :: (.getfield 165, 8, 28, 130, 0) :: (.iconst 1, 0, 0, 0, 0) :: (.isub, 0, 0, 0, 0) :: (.putfield 165, 8, 28, 130, 0) :: (.aload_n 0, 0, 0, 0, 0) :: (.aload_n 0, 0, 0, 0, 0) :: (.getfield 54, 8, 35, 105, 0) :: (.aload_n 0, 0, 0, 0, 0) :: (.getfield 165, 8, 28, 130, 0) :: (.iaload, 0, 0, 0, 0) :: (.invokevirtual 174, 156, 2, 147, 62) :: (.goto (-65), 0, 0, 0, 0) :: []
def mT_159 : List (Nat × List mm_I) := [(0, mB_159_0), (68, mB_159_68)]
-- 160: VillageBoardModel.waitsFor(I)V
def mB_160_0 : List mm_I := (.aload_n 0, 0, 0, 0, 0) :: (.getfield 54, 8, 35, 105, 0) :: (.aload_n 0, 0, 0, 0, 0) :: (.getfield 165, 8, 28, 130, 0) :: (.iload_n 1, 0, 0, 0, 0) :: (.iastore, 0, 0, 0, 0) :: (.aload_n 0, 0, 0, 0, 0) :: (.dup, 0, 0, 0, 0) :: (.getfield 165, 8, 28, 130, 0) :: (.iconst 1, 0, 0, 0, 0) :: (.iadd, 0, 0, 0, 0) :: (.putfield 165, 8, 28, 130, 0) :: (.return_, 0, 0, 0, 0) :: []
def mT_160 : List (Nat × List mm_I) := [(0, mB_160_0)]
-- 161: VillageBoardModel.part()V
def mB_161_102 : List mm_I := (.return_, 0, 0, 0, 0) :: []
def mB_161_91 : List mm_I := (.aload_n 0, 0, 0, 0, 0) :: (.invokevirtual 152, 151, 1, 142, 92) :: (.ifCond .eq 7, 102, 0, 0, 0) :: (.aload_n 0, 0, 0, 0, 0) :: (.invokevirtual 156, 146, 1, 143, 99) :: mB_161_102
def mB_161_86 : List mm_I := (.aload_n 0, 0, 0, 0, 0) :: (.iconst 1, 0, 0, 0, 0) :: (.invokevirtual 159, 150, 2, 144, 88) :: mB_161_91
def mB_161_73 : List mm_I := (.aload_n 0, 0, 0, 0, 0) :: (.iconst 2, 0, 0, 0, 0) :: (.invokevirtual 174, 156, 2, 147, 75) :: (.aload_n 0, 0, 0, 0, 0) :: (.iload_n 1, 0, 0, 0, 0) :: (.invokevirtual 174, 156, 2, 147, 80) :: (.goto 8, 91, 0, 0, 0) :: []
def mB_161_68 : List mm_I := (.aload_n 0, 0, 0, 0, 0) :: (.iconst 3, 0, 0, 0, 0) :: (.invokevirtual 159, 150, 2, 144, 70) :: mB_161_73
def mB_161_45 : List mm_I := (.aload_n 0, 0, 0, 0, 0) :: (.getfield 126, 8, 17, 126, 0) :: (.iconst 1, 0, 0, 0, 0) :: (.if_icmp .ne 36, 86, 0, 0, 0) :: (.aload_n 0, 0, 0, 0, 0) :: (.invokevirtual 177, 149, 1, 148, 54) :: (.istore_n 1, 0, 0, 0, 0) :: (.iload_n 1, 0, 0, 0, 0) :: (.ifCond .lt 9, 68, 0, 0, 0) :: (.iload_n 1, 0, 0, 0, 0) :: (.bipush 7, 0, 0, 0, 0) :: (.if_icmp .le 8, 73, 0, 0, 0) :: mB_161_68
def mB_161_29 : List mm_I := (.aload_n 0, 0, 0, 0, 0) :: (.iconst 1, 0, 0, 0, 0) :: (.invokevirtual 174, 156, 2, 147, 31) :: (.aload_n 0, 0, 0, 0, 0) :: (.aload_n 0, 0, 0, 0, 0) :: (.getfield 120, 8, 20, 124, 0) :: (.invokevirtual 174, 156, 2, 147, 39) :: (.goto 49, 91, 0, 0, 0) :: []
def mB_161_8 : List mm_I := (.aload_n 0, 0, 0, 0, 0) :: (.getfield 126, 8, 17, 126, 0) :: (.iconst 2, 0, 0, 0, 0) :: (.if_icmp .ne 32, 45, 0, 0, 0) :: (.aload_n 0, 0, 0, 0, 0) :: (.getfield 136, 8, 19, 127, 0) :: (.iconst 4, 0, 0, 0, 0) :: (.if_icmp .le 8, 29, 0, 0, 0) :: (.aload_n 0, 0, 0, 0, 0) :: (.iconst 2, 0, 0, 0, 0) :: (.invokevirtual 159, 150, 2, 144, 26) :: mB_161_29
def mB_161_0 : List mm_I := (.aload_n 0, 0, 0, 0, 0) :: (.invokevirtual 152, 151, 1, 142, 1) :: (.ifCond .ne 4, 8, 0, 0, 0) :: (.return_, 0, 0, 0, 0) :: []
def mT_161 : List (Nat × List mm_I) := [(0, mB_161_0), (8, mB_161_8), (29, mB_161_29), (45, mB_161_45), (68, mB_161_68), (73, mB_161_73), (86, mB_161_86), (91, mB_161_91), (102, mB_161_102)]
-- 162: VillageBoardModel.deeper()V
def mB_162_61 : List mm_I := (.invokevirtual 159, 150, 2, 144, 61) :: (.return_, 0, 0, 0, 0) :: []
def mB_162_60 : List mm_I := (.iconst 1, 0, 0, 0, 0) :: mB_162_61
def mB_162_56 : List mm_I := (.iconst 2, 0, 0, 0, 0) :: (.goto 4, 61, 0, 0, 0) :: []
def mB_162_30 : List mm_I := (.aload_n 0, 0, 0, 0, 0) :: (.aload_n 0, 0, 0, 0, 0) :: (.getfield 126, 8, 17, 126, 0) :: (.iconst 2, 0, 0, 0, 0) :: (.if_icmp .eq 20, 56, 0, 0, 0) :: (.aload_n 0, 0, 0, 0, 0) :: (.getfield 126, 8, 17, 126, 0) :: (.iconst 1, 0, 0, 0, 0) :: (.if_icmp .eq 12, 56, 0, 0, 0) :: (.aload_n 0, 0, 0, 0, 0) :: (.bipush 40, 0, 0, 0, 0) :: (.invokevirtual 184, 152, 2, 149, 50) :: (.ifCond .eq 7, 60, 0, 0, 0) :: mB_162_56
def mB_162_0 : List mm_I := (.aload_n 0, 0, 0, 0, 0) :: (.getfield 181, 8, 29, 131, 0) :: (.bipush 6, 0, 0, 0, 0) :: (.if_icmp .ge 24, 30, 0, 0, 0) :: (.aload_n 0, 0, 0, 0, 0) :: (.dup, 0, 0, 0, 0) :: (.getfield 181, 8, 29, 131, 0) :: (.iconst 1, 0, 0, 0, 0) :: (.iadd, 0, 0, 0, 0) :: (.putfield 181, 8, 29, 131, 0) :: (.aload_n 0, 0, 0, 0, 0) :: (.getfield 60, 8, 37, 107, 0) :: (.aload_n 0, 0, 0, 0, 0) :: (.getfield 181, 8, 29, 131, 0) :: (.iconst 0, 0, 0, 0, 0) :: (.bastore, 0, 0, 0, 0) :: (.return_, 0, 0, 0, 0) :: []
def mT_162 : List (Nat × List mm_I) := [(0, mB_162_0), (30, mB_162_30), (56, mB_162_56), (60, mB_162_60), (61, mB_162_61)]
-- 163: VillageBoardModel.operand(Z)V
def mB_163_120 : List mm_I := (.aload_n 0, 0, 0, 0, 0) :: (.invokevirtual 193, 161, 1, 152, 121) :: (.return_, 0, 0, 0, 0) :: []
def mB_163_117 : List mm_I := (.goto (-113), 4, 0, 0, 0) :: []
def mB_163_96 : List mm_I := (.istore_n 3, 0, 0, 0, 0) :: (.iload_n 3, 0, 0, 0, 0) :: (.ifCond .eq 19, 117, 0, 0, 0) :: (.aload_n 0, 0, 0, 0, 0) :: (.bipush 14, 0, 0, 0, 0) :: (.invokevirtual 187, 160, 2, 150, 104) :: (.aload_n 0, 0, 0, 0, 0) :: (.invokevirtual 156, 146, 1, 143, 108) :: (.aload_n 0, 0, 0, 0, 0) :: (.invokevirtual 190, 162, 1, 151, 112) :: (.iconst 1, 0, 0, 0, 0) :: (.istore_n 2, 0, 0, 0, 0) :: mB_163_117
def mB_163_95 : List mm_I := (.iconst 0, 0, 0, 0, 0) :: mB_163_96
def mB_163_75 : List mm_I := (.aload_n 0, 0, 0, 0, 0) :: (.invokevirtual 152, 151, 1, 142, 76) :: (.ifCond .eq 16, 95, 0, 0, 0) :: (.aload_n 0, 0, 0, 0, 0) :: (.bipush 40, 0, 0, 0, 0) :: (.invokevirtual 184, 152, 2, 149, 85) :: (.ifCond .eq 7, 95, 0, 0, 0) :: (.iconst 1, 0, 0, 0, 0) :: (.goto 4, 96, 0, 0, 0) :: []
def mB_163_63 : List mm_I := (.aload_n 0, 0, 0, 0, 0) :: (.iconst 3, 0, 0, 0, 0) :: (.invokevirtual 187, 160, 2, 150, 65) :: (.aload_n 0, 0, 0, 0, 0) :: (.invokevirtual 156, 146, 1, 143, 69) :: (.goto (-54), 18, 0, 0, 0) :: []
def mB_163_50 : List mm_I := (.iinc 4 1, 0, 0, 0, 0) :: (.aload_n 0, 0, 0, 0, 0) :: (.invokevirtual 152, 151, 1, 142, 54) :: (.ifCond .ne 6, 63, 0, 0, 0) :: (.goto (-42), 18, 0, 0, 0) :: []
def mB_163_18 : List mm_I := (.aload_n 0, 0, 0, 0, 0) :: (.invokevirtual 152, 151, 1, 142, 19) :: (.ifCond .eq 53, 75, 0, 0, 0) :: (.iload_n 2, 0, 0, 0, 0) :: (.ifCond .eq 49, 75, 0, 0, 0) :: (.aload_n 0, 0, 0, 0, 0) :: (.invokevirtual 177, 149, 1, 148, 30) :: (.bipush 15, 0, 0, 0, 0) :: (.if_icmp .ne 40, 75, 0, 0, 0) :: (.iload 4, 0, 0, 0, 0) :: (.bipush 6, 0, 0, 0, 0) :: (.if_icmp .ne 8, 50, 0, 0, 0) :: (.aload_n 0, 0, 0, 0, 0) :: (.iconst 2, 0, 0, 0, 0) :: (.invokevirtual 159, 150, 2, 144, 47) :: mB_163_50
def mB_163_4 : List mm_I := (.iload_n 3, 0, 0, 0, 0) :: (.ifCond .eq 115, 120, 0, 0, 0) :: (.aload_n 0, 0, 0, 0, 0) :: (.invokevirtual 152, 151, 1, 142, 9) :: (.ifCond .eq 108, 120, 0, 0, 0) :: (.iconst 0, 0, 0, 0, 0) :: (.istore 4, 0, 0, 0, 0) :: mB_163_18
def mB_163_0 : List mm_I := (.iload_n 1, 0, 0, 0, 0) :: (.istore_n 2, 0, 0, 0, 0) :: (.iconst 1, 0, 0, 0, 0) :: (.istore_n 3, 0, 0, 0, 0) :: mB_163_4
def mT_163 : List (Nat × List mm_I) := [(0, mB_163_0), (4, mB_163_4), (18, mB_163_18), (50, mB_163_50), (63, mB_163_63), (75, mB_163_75), (95, mB_163_95), (96, mB_163_96), (117, mB_163_117), (120, mB_163_120)]
-- 164: VillageBoardModel.isOpened()Z
def mB_164_38 : List mm_I := (.ireturn, 0, 0, 0, 0) :: []
def mB_164_37 : List mm_I := (.iconst 0, 0, 0, 0, 0) :: mB_164_38
def mB_164_29 : List mm_I := (.iload_n 1, 0, 0, 0, 0) :: (.ifCond .lt 7, 37, 0, 0, 0) :: (.iconst 1, 0, 0, 0, 0) :: (.goto 4, 38, 0, 0, 0) :: []
def mB_164_7 : List mm_I := (.iload_n 1, 0, 0, 0, 0) :: (.ifCond .lt 21, 29, 0, 0, 0) :: (.aload_n 0, 0, 0, 0, 0) :: (.getfield 54, 8, 35, 105, 0) :: (.iload_n 1, 0, 0, 0, 0) :: (.iaload, 0, 0, 0, 0) :: (.invokestatic 168, 157, 1, 145, 17) :: (.ifCond .ne 9, 29, 0, 0, 0) :: (.iinc 1 (-1), 0, 0, 0, 0) :: (.goto (-19), 7, 0, 0, 0) :: []
def mB_164_0 : List mm_I := (.aload_n 0, 0, 0, 0, 0) :: (.getfield 165, 8, 28, 130, 0) :: (.iconst 1, 0, 0, 0, 0) :: (.isub, 0, 0, 0, 0) :: (.istore_n 1, 0, 0, 0, 0) :: mB_164_7
def mT_164 : List (Nat × List mm_I) := [(0, mB_164_0), (7, mB_164_7), (29, mB_164_29), (37, mB_164_37), (38, mB_164_38)]
-- 165: VillageBoardModel.closes()V
def mB_165_0 : List mm_I := (.aload_n 0, 0, 0, 0, 0) :: (.iconst 0, 0, 0, 0, 0) :: (.invokevirtual 196, 159, 2, 153, 2) :: (.aload_n 0, 0, 0, 0, 0) :: (.dup, 0, 0, 0, 0) :: (.getfield 165, 8, 28, 130, 0) :: (.iconst 1, 0, 0, 0, 0) :: (.isub, 0, 0, 0, 0) :: (.putfield 165, 8, 28, 130, 0) :: (.aload_n 0, 0, 0, 0, 0) :: (.dup, 0, 0, 0, 0) :: (.getfield 181, 8, 29, 131, 0) :: (.iconst 1, 0, 0, 0, 0) :: (.isub, 0, 0, 0, 0) :: (.putfield 181, 8, 29, 131, 0) :: (.aload_n 0, 0, 0, 0, 0) :: (.invokevirtual 156, 146, 1, 143, 26) :: (.return_, 0, 0, 0, 0) :: []
def mT_165 : List (Nat × List mm_I) := [(0, mB_165_0)]
-- 166: VillageBoardModel.expression()V
def mB_166_345 : List mm_I := (.aload_n 0, 0, 0, 0, 0) :: (.iconst 0, 0, 0, 0, 0) :: (.invokevirtual 196, 159, 2, 153, 347) :: (.aload_n 0, 0, 0, 0, 0) :: (.iconst 0, 0, 0, 0, 0) :: (.invokevirtual 174, 156, 2, 147, 352) :: (.return_, 0, 0, 0, 0) :: []
def mB_166_325 : List mm_I := (.aload_n 0, 0, 0, 0, 0) :: (.invokevirtual 152, 151, 1, 142, 326) :: (.ifCond .eq 16, 345, 0, 0, 0) :: (.aload_n 0, 0, 0, 0, 0) :: (.getfield 181, 8, 29, 131, 0) :: (.iconst 1, 0, 0, 0, 0) :: (.if_icmp .le 8, 345, 0, 0, 0) :: (.aload_n 0, 0, 0, 0, 0) :: (.iconst 1, 0, 0, 0, 0) :: (.invokevirtual 159, 150, 2, 144, 342) :: mB_166_345
def mB_166_322 : List mm_I := (.goto (-293), 29, 0, 0, 0) :: []
def mB_166_320 : List mm_I := (.iconst 0, 0, 0, 0, 0) :: (.istore_n 1, 0, 0, 0, 0) :: mB_166_322
def mB_166_297 : List mm_I := (.aload_n 0, 0, 0, 0, 0) :: (.bipush 41, 0, 0, 0, 0) :: (.invokevirtual 184, 152, 2, 149, 300) :: (.ifCond .eq 17, 320, 0, 0, 0) :: (.aload_n 0, 0, 0, 0, 0) :: (.invokevirtual 203, 164, 1, 155, 307) :: (.ifCond .eq 10, 320, 0, 0, 0) :: (.aload_n 0, 0, 0, 0, 0) :: (.invokevirtual 206, 165, 1, 156, 314) :: (.goto 5, 322, 0, 0, 0) :: []
def mB_166_282 : List mm_I := (.invokevirtual 187, 160, 2, 150, 282) :: (.aload_n 0, 0, 0, 0, 0) :: (.invokevirtual 156, 146, 1, 143, 286) :: (.aload_n 0, 0, 0, 0, 0) :: (.iconst 0, 0, 0, 0, 0) :: (.invokevirtual 199, 163, 2, 154, 291) :: (.goto 28, 322, 0, 0, 0) :: []
def mB_166_280 : List mm_I := (.bipush 11, 0, 0, 0, 0) :: mB_166_282
def mB_166_259 : List mm_I := (.aload_n 0, 0, 0, 0, 0) :: (.bipush 6, 0, 0, 0, 0) :: (.invokevirtual 196, 159, 2, 153, 262) :: (.aload_n 0, 0, 0, 0, 0) :: (.aload_n 0, 0, 0, 0, 0) :: (.bipush 42, 0, 0, 0, 0) :: (.invokevirtual 184, 152, 2, 149, 269) :: (.ifCond .eq 8, 280, 0, 0, 0) :: (.bipush 10, 0, 0, 0, 0) :: (.goto 5, 282, 0, 0, 0) :: []
def mB_166_241 : List mm_I := (.aload_n 0, 0, 0, 0, 0) :: (.bipush 42, 0, 0, 0, 0) :: (.invokevirtual 184, 152, 2, 149, 244) :: (.ifCond .ne 12, 259, 0, 0, 0) :: (.aload_n 0, 0, 0, 0, 0) :: (.bipush 47, 0, 0, 0, 0) :: (.invokevirtual 184, 152, 2, 149, 253) :: (.ifCond .eq 41, 297, 0, 0, 0) :: mB_166_259
def mB_166_226 : List mm_I := (.invokevirtual 187, 160, 2, 150, 226) :: (.aload_n 0, 0, 0, 0, 0) :: (.invokevirtual 156, 146, 1, 143, 230) :: (.aload_n 0, 0, 0, 0, 0) :: (.iconst 0, 0, 0, 0, 0) :: (.invokevirtual 199, 163, 2, 154, 235) :: (.goto 84, 322, 0, 0, 0) :: []
def mB_166_224 : List mm_I := (.bipush 9, 0, 0, 0, 0) :: mB_166_226
def mB_166_204 : List mm_I := (.aload_n 0, 0, 0, 0, 0) :: (.iconst 5, 0, 0, 0, 0) :: (.invokevirtual 196, 159, 2, 153, 206) :: (.aload_n 0, 0, 0, 0, 0) :: (.aload_n 0, 0, 0, 0, 0) :: (.bipush 43, 0, 0, 0, 0) :: (.invokevirtual 184, 152, 2, 149, 213) :: (.ifCond .eq 8, 224, 0, 0, 0) :: (.bipush 8, 0, 0, 0, 0) :: (.goto 5, 226, 0, 0, 0) :: []
def mB_166_186 : List mm_I := (.aload_n 0, 0, 0, 0, 0) :: (.bipush 43, 0, 0, 0, 0) :: (.invokevirtual 184, 152, 2, 149, 189) :: (.ifCond .ne 12, 204, 0, 0, 0) :: (.aload_n 0, 0, 0, 0, 0) :: (.bipush 45, 0, 0, 0, 0) :: (.invokevirtual 184, 152, 2, 149, 198) :: (.ifCond .eq 40, 241, 0, 0, 0) :: mB_166_204
def mB_166_161 : List mm_I := (.invokevirtual 187, 160, 2, 150, 161) :: (.aload_n 0, 0, 0, 0, 0) :: (.getfield 60, 8, 37, 107, 0) :: (.aload_n 0, 0, 0, 0, 0) :: (.getfield 181, 8, 29, 131, 0) :: (.iconst 1, 0, 0, 0, 0) :: (.bastore, 0, 0, 0, 0) :: (.aload_n 0, 0, 0, 0, 0) :: (.invokevirtual 156, 146, 1, 143, 175) :: (.aload_n 0, 0, 0, 0, 0) :: (.iconst 0, 0, 0, 0, 0) :: (.invokevirtual 199, 163, 2, 154, 180) :: (.goto 139, 322, 0, 0, 0) :: []
def mB_166_159 : List mm_I := (.bipush 7, 0, 0, 0, 0) :: mB_166_161
def mB_166_127 : List mm_I := (.aload_n 0, 0, 0, 0, 0) :: (.getfield 60, 8, 37, 107, 0) :: (.aload_n 0, 0, 0, 0, 0) :: (.getfield 181, 8, 29, 131, 0) :: (.baload, 0, 0, 0, 0) :: (.ifCond .ne 50, 186, 0, 0, 0) :: (.aload_n 0, 0, 0, 0, 0) :: (.iconst 4, 0, 0, 0, 0) :: (.invokevirtual 196, 159, 2, 153, 141) :: (.aload_n 0, 0, 0, 0, 0) :: (.aload_n 0, 0, 0, 0, 0) :: (.bipush 60, 0, 0, 0, 0) :: (.invokevirtual 184, 152, 2, 149, 148) :: (.ifCond .eq 8, 159, 0, 0, 0) :: (.bipush 6, 0, 0, 0, 0) :: (.goto 5, 161, 0, 0, 0) :: []
def mB_166_109 : List mm_I := (.aload_n 0, 0, 0, 0, 0) :: (.bipush 60, 0, 0, 0, 0) :: (.invokevirtual 184, 152, 2, 149, 112) :: (.ifCond .ne 12, 127, 0, 0, 0) :: (.aload_n 0, 0, 0, 0, 0) :: (.bipush 61, 0, 0, 0, 0) :: (.invokevirtual 184, 152, 2, 149, 121) :: (.ifCond .eq 62, 186, 0, 0, 0) :: mB_166_127
def mB_166_84 : List mm_I := (.invokevirtual 187, 160, 2, 150, 84) :: (.aload_n 0, 0, 0, 0, 0) :: (.getfield 60, 8, 37, 107, 0) :: (.aload_n 0, 0, 0, 0, 0) :: (.getfield 181, 8, 29, 131, 0) :: (.iconst 0, 0, 0, 0, 0) :: (.bastore, 0, 0, 0, 0) :: (.aload_n 0, 0, 0, 0, 0) :: (.invokevirtual 156, 146, 1, 143, 98) :: (.aload_n 0, 0, 0, 0, 0) :: (.iconst 1, 0, 0, 0, 0) :: (.invokevirtual 199, 163, 2, 154, 103) :: (.goto 216, 322, 0, 0, 0) :: []
def mB_166_83 : List mm_I := (.iconst 5, 0, 0, 0, 0) :: mB_166_84
def mB_166_69 : List mm_I := (.invokevirtual 196, 159, 2, 153, 69) :: (.aload_n 0, 0, 0, 0, 0) :: (.iload_n 2, 0, 0, 0, 0) :: (.bipush 13, 0, 0, 0, 0) :: (.if_icmp .ne 7, 83, 0, 0, 0) :: (.iconst 4, 0, 0, 0, 0) :: (.goto 4, 84, 0, 0, 0) :: []
def mB_166_68 : List mm_I := (.iconst 1, 0, 0, 0, 0) :: mB_166_69
def mB_166_57 : List mm_I := (.aload_n 0, 0, 0, 0, 0) :: (.iload_n 2, 0, 0, 0, 0) :: (.bipush 13, 0, 0, 0, 0) :: (.if_icmp .ne 7, 68, 0, 0, 0) :: (.iconst 2, 0, 0, 0, 0) :: (.goto 4, 69, 0, 0, 0) :: []
def mB_166_29 : List mm_I := (.iload_n 1, 0, 0, 0, 0) :: (.ifCond .eq 295, 325, 0, 0, 0) :: (.aload_n 0, 0, 0, 0, 0) :: (.invokevirtual 152, 151, 1, 142, 34) :: (.ifCond .eq 288, 325, 0, 0, 0) :: (.aload_n 0, 0, 0, 0, 0) :: (.invokevirtual 177, 149, 1, 148, 41) :: (.istore_n 2, 0, 0, 0, 0) :: (.iload_n 2, 0, 0, 0, 0) :: (.bipush 13, 0, 0, 0, 0) :: (.if_icmp .eq 9, 57, 0, 0, 0) :: (.iload_n 2, 0, 0, 0, 0) :: (.bipush 14, 0, 0, 0, 0) :: (.if_icmp .ne 55, 109, 0, 0, 0) :: mB_166_57
def mB_166_8 : List mm_I := (.aload_n 0, 0, 0, 0, 0) :: (.iconst 0, 0, 0, 0, 0) :: (.putfield 165, 8, 28, 130, 0) :: (.aload_n 0, 0, 0, 0, 0) :: (.iconst 0, 0, 0, 0, 0) :: (.putfield 181, 8, 29, 131, 0) :: (.aload_n 0, 0, 0, 0, 0) :: (.invokevirtual 190, 162, 1, 151, 19) :: (.aload_n 0, 0, 0, 0, 0) :: (.iconst 1, 0, 0, 0, 0) :: (.invokevirtual 199, 163, 2, 154, 24) :: (.iconst 1, 0, 0, 0, 0) :: (.istore_n 1, 0, 0, 0, 0) :: mB_166_29
def mB_166_0 : List mm_I := (.aload_n 0, 0, 0, 0, 0) :: (.invokevirtual 152, 151, 1, 142, 1) :: (.ifCond .ne 4, 8, 0, 0, 0) :: (.return_, 0, 0, 0, 0) :: []
def mT_166 : List (Nat × List mm_I) := [(0, mB_166_0), (8, mB_166_8), (29, mB_166_29), (57, mB_166_57), (68, mB_166_68), (69, mB_166_69), (83, mB_166_83), (84, mB_166_84), (109, mB_166_109), (127, mB_166_127), (159, mB_166_159), (161, mB_166_161), (186, mB_166_186), (204, mB_166_204), (224, mB_166_224), (226, mB_166_226), (241, mB_166_241), (259, mB_166_259), (280, mB_166_280), (282, mB_166_282), (297, mB_166_297), (320, mB_166_320), (322, mB_166_322), (325, mB_166_325), (345, mB_166_345)]
-- 167: VillageBoardModel.readsVillage(I)V
def mB_167_85 : List mm_I := (.return_, 0, 0, 0, 0) :: []
def mB_167_22 : List mm_I := (.aload_n 0, 0, 0, 0, 0) :: (.invokevirtual 156, 146, 1, 143, 23) :: (.aload_n 0, 0, 0, 0, 0) :: (.getfield 45, 8, 32, 102, 0) :: (.aload_n 0, 0, 0, 0, 0) :: (.getfield 209, 8, 23, 132, 0) :: (.iload_n 1, 0, 0, 0, 0) :: (.iastore, 0, 0, 0, 0) :: (.aload_n 0, 0, 0, 0, 0) :: (.getfield 39, 8, 30, 100, 0) :: (.aload_n 0, 0, 0, 0, 0) :: (.getfield 209, 8, 23, 132, 0) :: (.aload_n 0, 0, 0, 0, 0) :: (.iconst 0, 0, 0, 0, 0) :: (.bipush 20, 0, 0, 0, 0) :: (.invokevirtual 212, 154, 3, 157, 48) :: (.iastore, 0, 0, 0, 0) :: (.aload_n 0, 0, 0, 0, 0) :: (.getfield 42, 8, 31, 101, 0) :: (.aload_n 0, 0, 0, 0, 0) :: (.getfield 209, 8, 23, 132, 0) :: (.aload_n 0, 0, 0, 0, 0) :: (.iconst 0, 0, 0, 0, 0) :: (.bipush 9, 0, 0, 0, 0) :: (.invokevirtual 212, 154, 3, 157, 64) :: (.iastore, 0, 0, 0, 0) :: (.aload_n 0, 0, 0, 0, 0) :: (.invokevirtual 152, 151, 1, 142, 69) :: (.ifCond .eq 13, 85, 0, 0, 0) :: (.aload_n 0, 0, 0, 0, 0) :: (.dup, 0, 0, 0, 0) :: (.getfield 209, 8, 23, 132, 0) :: (.iconst 1, 0, 0, 0, 0) :: (.iadd, 0, 0, 0, 0) :: (.putfield 209, 8, 23, 132, 0) :: mB_167_85
def mB_167_14 : List mm_I := (.aload_n 0, 0, 0, 0, 0) :: (.invokevirtual 152, 151, 1, 142, 15) :: (.ifCond .ne 4, 22, 0, 0, 0) :: (.return_, 0, 0, 0, 0) :: []
def mB_167_0 : List mm_I := (.aload_n 0, 0, 0, 0, 0) :: (.getfield 209, 8, 23, 132, 0) :: (.bipush 10, 0, 0, 0, 0) :: (.if_icmp .ne 8, 14, 0, 0, 0) :: (.aload_n 0, 0, 0, 0, 0) :: (.iconst 2, 0, 0, 0, 0) :: (.invokevirtual 159, 150, 2, 144, 11) :: mB_167_14
def mT_167 : List (Nat × List mm_I) := [(0, mB_167_0), (14, mB_167_14), (22, mB_167_22), (85, mB_167_85)]
-- 168: VillageBoardModel.readsRoad()V
def mB_168_96 : List mm_I := (.aload_n 0, 0, 0, 0, 0) :: (.invokevirtual 156, 146, 1, 143, 97) :: (.aload_n 0, 0, 0, 0, 0) :: (.getfield 57, 8, 36, 106, 0) :: (.bipush 10, 0, 0, 0, 0) :: (.iload_n 1, 0, 0, 0, 0) :: (.imul, 0, 0, 0, 0) :: (.iload_n 2, 0, 0, 0, 0) :: (.iadd, 0, 0, 0, 0) :: (.iconst 1, 0, 0, 0, 0) :: (.bastore, 0, 0, 0, 0) :: (.aload_n 0, 0, 0, 0, 0) :: (.getfield 57, 8, 36, 106, 0) :: (.bipush 10, 0, 0, 0, 0) :: (.iload_n 2, 0, 0, 0, 0) :: (.imul, 0, 0, 0, 0) :: (.iload_n 1, 0, 0, 0, 0) :: (.iadd, 0, 0, 0, 0) :: (.iconst 1, 0, 0, 0, 0) :: (.bastore, 0, 0, 0, 0) :: (.aload_n 0, 0, 0, 0, 0) :: (.dup, 0, 0, 0, 0) :: (.getfield 216, 8, 24, 133, 0) :: (.iconst 1, 0, 0, 0, 0) :: (.iadd, 0, 0, 0, 0) :: (.putfield 216, 8, 24, 133, 0) :: (.return_, 0, 0, 0, 0) :: []
def mB_168_88 : List mm_I := (.aload_n 0, 0, 0, 0, 0) :: (.invokevirtual 152, 151, 1, 142, 89) :: (.ifCond .ne 4, 96, 0, 0, 0) :: (.return_, 0, 0, 0, 0) :: []
def mB_168_83 : List mm_I := (.aload_n 0, 0, 0, 0, 0) :: (.iconst 4, 0, 0, 0, 0) :: (.invokevirtual 159, 150, 2, 144, 85) :: mB_168_88
def mB_168_59 : List mm_I := (.aload_n 0, 0, 0, 0, 0) :: (.getfield 120, 8, 20, 124, 0) :: (.istore_n 2, 0, 0, 0, 0) :: (.iload_n 1, 0, 0, 0, 0) :: (.iload_n 2, 0, 0, 0, 0) :: (.if_icmp .eq 17, 83, 0, 0, 0) :: (.aload_n 0, 0, 0, 0, 0) :: (.getfield 57, 8, 36, 106, 0) :: (.bipush 10, 0, 0, 0, 0) :: (.iload_n 1, 0, 0, 0, 0) :: (.imul, 0, 0, 0, 0) :: (.iload_n 2, 0, 0, 0, 0) :: (.iadd, 0, 0, 0, 0) :: (.baload, 0, 0, 0, 0) :: (.ifCond .eq 8, 88, 0, 0, 0) :: mB_168_83
def mB_168_38 : List mm_I := (.aload_n 0, 0, 0, 0, 0) :: (.getfield 120, 8, 20, 124, 0) :: (.istore_n 1, 0, 0, 0, 0) :: (.aload_n 0, 0, 0, 0, 0) :: (.invokevirtual 156, 146, 1, 143, 44) :: (.aload_n 0, 0, 0, 0, 0) :: (.aload_n 0, 0, 0, 0, 0) :: (.getfield 209, 8, 23, 132, 0) :: (.invokevirtual 219, 155, 2, 158, 52) :: (.ifCond .ne 4, 59, 0, 0, 0) :: (.return_, 0, 0, 0, 0) :: []
def mB_168_22 : List mm_I := (.aload_n 0, 0, 0, 0, 0) :: (.invokevirtual 156, 146, 1, 143, 23) :: (.aload_n 0, 0, 0, 0, 0) :: (.aload_n 0, 0, 0, 0, 0) :: (.getfield 209, 8, 23, 132, 0) :: (.invokevirtual 219, 155, 2, 158, 31) :: (.ifCond .ne 4, 38, 0, 0, 0) :: (.return_, 0, 0, 0, 0) :: []
def mB_168_14 : List mm_I := (.aload_n 0, 0, 0, 0, 0) :: (.invokevirtual 152, 151, 1, 142, 15) :: (.ifCond .ne 4, 22, 0, 0, 0) :: (.return_, 0, 0, 0, 0) :: []
def mB_168_0 : List mm_I := (.aload_n 0, 0, 0, 0, 0) :: (.getfield 216, 8, 24, 133, 0) :: (.bipush 18, 0, 0, 0, 0) :: (.if_icmp .ne 8, 14, 0, 0, 0) :: (.aload_n 0, 0, 0, 0, 0) :: (.iconst 2, 0, 0, 0, 0) :: (.invokevirtual 159, 150, 2, 144, 11) :: mB_168_14
def mT_168 : List (Nat × List mm_I) := [(0, mB_168_0), (14, mB_168_14), (22, mB_168_22), (38, mB_168_38), (59, mB_168_59), (83, mB_168_83), (88, mB_168_88), (96, mB_168_96)]
-- 169: VillageBoardModel.line()V
def mB_169_152 : List mm_I := (.aload_n 0, 0, 0, 0, 0) :: (.aload_n 0, 0, 0, 0, 0) :: (.bipush 59, 0, 0, 0, 0) :: (.invokevirtual 184, 152, 2, 149, 156) :: (.invokevirtual 237, 153, 2, 162, 159) :: (.return_, 0, 0, 0, 0) :: []
def mB_169_147 : List mm_I := (.aload_n 0, 0, 0, 0, 0) :: (.iconst 1, 0, 0, 0, 0) :: (.invokevirtual 159, 150, 2, 144, 149) :: mB_169_152
def mB_169_113 : List mm_I := (.aload_n 0, 0, 0, 0, 0) :: (.invokevirtual 156, 146, 1, 143, 114) :: (.aload_n 0, 0, 0, 0, 0) :: (.getfield 48, 8, 33, 103, 0) :: (.aload_n 0, 0, 0, 0, 0) :: (.getfield 234, 8, 25, 135, 0) :: (.aload_n 0, 0, 0, 0, 0) :: (.getfield 162, 8, 27, 129, 0) :: (.iastore, 0, 0, 0, 0) :: (.aload_n 0, 0, 0, 0, 0) :: (.dup, 0, 0, 0, 0) :: (.getfield 234, 8, 25, 135, 0) :: (.iconst 1, 0, 0, 0, 0) :: (.iadd, 0, 0, 0, 0) :: (.putfield 234, 8, 25, 135, 0) :: (.aload_n 0, 0, 0, 0, 0) :: (.invokevirtual 231, 166, 1, 161, 141) :: (.goto 8, 152, 0, 0, 0) :: []
def mB_169_105 : List mm_I := (.aload_n 0, 0, 0, 0, 0) :: (.invokevirtual 152, 151, 1, 142, 106) :: (.ifCond .ne 4, 113, 0, 0, 0) :: (.return_, 0, 0, 0, 0) :: []
def mB_169_86 : List mm_I := (.iload_n 1, 0, 0, 0, 0) :: (.bipush 12, 0, 0, 0, 0) :: (.if_icmp .ne 58, 147, 0, 0, 0) :: (.aload_n 0, 0, 0, 0, 0) :: (.getfield 234, 8, 25, 135, 0) :: (.iconst 3, 0, 0, 0, 0) :: (.if_icmp .ne 8, 105, 0, 0, 0) :: (.aload_n 0, 0, 0, 0, 0) :: (.iconst 2, 0, 0, 0, 0) :: (.invokevirtual 159, 150, 2, 144, 102) :: mB_169_105
def mB_169_67 : List mm_I := (.aload_n 0, 0, 0, 0, 0) :: (.invokevirtual 156, 146, 1, 143, 68) :: (.aload_n 0, 0, 0, 0, 0) :: (.aload_n 0, 0, 0, 0, 0) :: (.getfield 162, 8, 27, 129, 0) :: (.putfield 228, 8, 26, 134, 0) :: (.aload_n 0, 0, 0, 0, 0) :: (.invokevirtual 231, 166, 1, 161, 80) :: (.goto 69, 152, 0, 0, 0) :: []
def mB_169_59 : List mm_I := (.aload_n 0, 0, 0, 0, 0) :: (.invokevirtual 152, 151, 1, 142, 60) :: (.ifCond .ne 4, 67, 0, 0, 0) :: (.return_, 0, 0, 0, 0) :: []
def mB_169_41 : List mm_I := (.iload_n 1, 0, 0, 0, 0) :: (.iconst 5, 0, 0, 0, 0) :: (.if_icmp .ne 43, 86, 0, 0, 0) :: (.aload_n 0, 0, 0, 0, 0) :: (.getfield 228, 8, 26, 134, 0) :: (.iconst (-1), 0, 0, 0, 0) :: (.if_icmp .eq 8, 59, 0, 0, 0) :: (.aload_n 0, 0, 0, 0, 0) :: (.iconst 5, 0, 0, 0, 0) :: (.invokevirtual 159, 150, 2, 144, 56) :: mB_169_59
def mB_169_28 : List mm_I := (.iload_n 1, 0, 0, 0, 0) :: (.bipush 11, 0, 0, 0, 0) :: (.if_icmp .ne 10, 41, 0, 0, 0) :: (.aload_n 0, 0, 0, 0, 0) :: (.invokevirtual 225, 168, 1, 160, 35) :: (.goto 114, 152, 0, 0, 0) :: []
def mB_169_0 : List mm_I := (.aload_n 0, 0, 0, 0, 0) :: (.invokevirtual 177, 149, 1, 148, 1) :: (.istore_n 1, 0, 0, 0, 0) :: (.iload_n 1, 0, 0, 0, 0) :: (.bipush 8, 0, 0, 0, 0) :: (.if_icmp .lt 20, 28, 0, 0, 0) :: (.iload_n 1, 0, 0, 0, 0) :: (.bipush 10, 0, 0, 0, 0) :: (.if_icmp .gt 14, 28, 0, 0, 0) :: (.aload_n 0, 0, 0, 0, 0) :: (.iload_n 1, 0, 0, 0, 0) :: (.bipush 8, 0, 0, 0, 0) :: (.isub, 0, 0, 0, 0) :: (.invokevirtual 222, 167, 2, 159, 22) :: (.goto 127, 152, 0, 0, 0) :: []
def mT_169 : List (Nat × List mm_I) := [(0, mB_169_0), (28, mB_169_28), (41, mB_169_41), (59, mB_169_59), (67, mB_169_67), (86, mB_169_86), (105, mB_169_105), (113, mB_169_113), (147, mB_169_147), (152, mB_169_152)]
-- 170: VillageBoardModel.board(I)I
def mB_170_378 : List mm_I := (.iastore, 0, 0, 0, 0) :: (.aload_n 0, 0, 0, 0, 0) :: (.iconst 0, 0, 0, 0, 0) :: (.putfield 260, 8, 40, 139, 0) :: (.aload_n 0, 0, 0, 0, 0) :: (.iconst 0, 0, 0, 0, 0) :: (.putfield 263, 8, 45, 140, 0) :: (.aload_n 0, 0, 0, 0, 0) :: (.iconst 0, 0, 0, 0, 0) :: (.putfield 266, 8, 49, 141, 0) :: (.iconst 0, 0, 0, 0, 0) :: (.ireturn, 0, 0, 0, 0) :: []
def mB_170_371 : List mm_I := (.aload_n 0, 0, 0, 0, 0) :: (.getfield 63, 8, 38, 108, 0) :: (.bipush 44, 0, 0, 0, 0) :: (.iaload, 0, 0, 0, 0) :: mB_170_378
def mB_170_352 : List mm_I := (.iastore, 0, 0, 0, 0) :: (.aload_n 0, 0, 0, 0, 0) :: (.getfield 63, 8, 38, 108, 0) :: (.bipush 45, 0, 0, 0, 0) :: (.aload_n 0, 0, 0, 0, 0) :: (.getfield 253, 8, 3, 138, 0) :: (.iconst 1, 0, 0, 0, 0) :: (.if_icmp .le 7, 371, 0, 0, 0) :: (.iconst 1, 0, 0, 0, 0) :: (.goto 10, 378, 0, 0, 0) :: []
def mB_170_351 : List mm_I := (.iconst (-1), 0, 0, 0, 0) :: mB_170_352
def mB_170_334 : List mm_I := (.aload_n 0, 0, 0, 0, 0) :: (.getfield 63, 8, 38, 108, 0) :: (.bipush 44, 0, 0, 0, 0) :: (.aload_n 0, 0, 0, 0, 0) :: (.getfield 253, 8, 3, 138, 0) :: (.ifCond .le 7, 351, 0, 0, 0) :: (.iconst 0, 0, 0, 0, 0) :: (.goto 4, 352, 0, 0, 0) :: []
def mB_170_310 : List mm_I := (.iastore, 0, 0, 0, 0) :: (.aload_n 0, 0, 0, 0, 0) :: (.getfield 63, 8, 38, 108, 0) :: (.bipush 10, 0, 0, 0, 0) :: (.iload_n 2, 0, 0, 0, 0) :: (.iadd, 0, 0, 0, 0) :: (.aload_n 0, 0, 0, 0, 0) :: (.getfield 63, 8, 38, 108, 0) :: (.iconst 0, 0, 0, 0, 0) :: (.iload_n 2, 0, 0, 0, 0) :: (.iadd, 0, 0, 0, 0) :: (.iaload, 0, 0, 0, 0) :: (.iastore, 0, 0, 0, 0) :: (.iinc 2 1, 0, 0, 0, 0) :: (.goto (-52), 279, 0, 0, 0) :: []
def mB_170_309 : List mm_I := (.iconst 2, 0, 0, 0, 0) :: mB_170_310
def mB_170_279 : List mm_I := (.iload_n 2, 0, 0, 0, 0) :: (.bipush 10, 0, 0, 0, 0) :: (.if_icmp .ge 52, 334, 0, 0, 0) :: (.aload_n 0, 0, 0, 0, 0) :: (.getfield 63, 8, 38, 108, 0) :: (.iconst 0, 0, 0, 0, 0) :: (.iload_n 2, 0, 0, 0, 0) :: (.iadd, 0, 0, 0, 0) :: (.iload_n 2, 0, 0, 0, 0) :: (.aload_n 0, 0, 0, 0, 0) :: (.getfield 247, 8, 1, 136, 0) :: (.if_icmp .ge 12, 309, 0, 0, 0) :: (.aload_n 0, 0, 0, 0, 0) :: (.getfield 45, 8, 32, 102, 0) :: (.iload_n 2, 0, 0, 0, 0) :: (.iaload, 0, 0, 0, 0) :: (.goto 4, 310, 0, 0, 0) :: []
def mB_170_277 : List mm_I := (.iconst 0, 0, 0, 0, 0) :: (.istore_n 2, 0, 0, 0, 0) :: mB_170_279
def mB_170_258 : List mm_I := (.iload_n 2, 0, 0, 0, 0) :: (.bipush 46, 0, 0, 0, 0) :: (.if_icmp .ge 16, 277, 0, 0, 0) :: (.aload_n 0, 0, 0, 0, 0) :: (.getfield 63, 8, 38, 108, 0) :: (.iload_n 2, 0, 0, 0, 0) :: (.iconst 0, 0, 0, 0, 0) :: (.iastore, 0, 0, 0, 0) :: (.iinc 2 1, 0, 0, 0, 0) :: (.goto (-16), 258, 0, 0, 0) :: []
def mB_170_256 : List mm_I := (.iconst 0, 0, 0, 0, 0) :: (.istore_n 2, 0, 0, 0, 0) :: mB_170_258
def mB_170_232 : List mm_I := (.iload_n 2, 0, 0, 0, 0) :: (.bipush 100, 0, 0, 0, 0) :: (.if_icmp .ge 21, 256, 0, 0, 0) :: (.aload_n 0, 0, 0, 0, 0) :: (.getfield 26, 8, 9, 96, 0) :: (.iload_n 2, 0, 0, 0, 0) :: (.aload_n 0, 0, 0, 0, 0) :: (.getfield 57, 8, 36, 106, 0) :: (.iload_n 2, 0, 0, 0, 0) :: (.baload, 0, 0, 0, 0) :: (.bastore, 0, 0, 0, 0) :: (.iinc 2 1, 0, 0, 0, 0) :: (.goto (-21), 232, 0, 0, 0) :: []
def mB_170_150 : List mm_I := (.aload_n 0, 0, 0, 0, 0) :: (.aload_n 0, 0, 0, 0, 0) :: (.getfield 209, 8, 23, 132, 0) :: (.putfield 247, 8, 1, 136, 0) :: (.aload_n 0, 0, 0, 0, 0) :: (.aload_n 0, 0, 0, 0, 0) :: (.getfield 216, 8, 24, 133, 0) :: (.putfield 250, 8, 2, 137, 0) :: (.aload_n 0, 0, 0, 0, 0) :: (.aload_n 0, 0, 0, 0, 0) :: (.getfield 234, 8, 25, 135, 0) :: (.putfield 253, 8, 3, 138, 0) :: (.aload_n 0, 0, 0, 0, 0) :: (.aload_n 0, 0, 0, 0, 0) :: (.getfield 228, 8, 26, 134, 0) :: (.putfield 9, 8, 4, 91, 0) :: (.aload_n 0, 0, 0, 0, 0) :: (.aload_n 0, 0, 0, 0, 0) :: (.getfield 39, 8, 30, 100, 0) :: (.aload_n 0, 0, 0, 0, 0) :: (.getfield 13, 8, 5, 92, 0) :: (.invokevirtual 256, 139, 3, 165, 191) :: (.aload_n 0, 0, 0, 0, 0) :: (.aload_n 0, 0, 0, 0, 0) :: (.getfield 42, 8, 31, 101, 0) :: (.aload_n 0, 0, 0, 0, 0) :: (.getfield 17, 8, 6, 93, 0) :: (.invokevirtual 256, 139, 3, 165, 203) :: (.aload_n 0, 0, 0, 0, 0) :: (.aload_n 0, 0, 0, 0, 0) :: (.getfield 48, 8, 33, 103, 0) :: (.aload_n 0, 0, 0, 0, 0) :: (.getfield 20, 8, 7, 94, 0) :: (.invokevirtual 256, 139, 3, 165, 215) :: (.aload_n 0, 0, 0, 0, 0) :: (.aload_n 0, 0, 0, 0, 0) :: (.getfield 51, 8, 34, 104, 0) :: (.aload_n 0, 0, 0, 0, 0) :: (.getfield 23, 8, 8, 95, 0) :: (.invokevirtual 256, 139, 3, 165, 227) :: (.iconst 0, 0, 0, 0, 0) :: (.istore_n 2, 0, 0, 0, 0) :: mB_170_232
def mB_170_128 : List mm_I := (.aload_n 0, 0, 0, 0, 0) :: (.invokevirtual 152, 151, 1, 142, 129) :: (.ifCond .ne 18, 150, 0, 0, 0) :: (.aload_n 0, 0, 0, 0, 0) :: (.getfield 36, 8, 14, 99, 0) :: (.iconst 0, 0, 0, 0, 0) :: (.dup2, 0, 0, 0, 0) :: (.iaload, 0, 0, 0, 0) :: (.iconst 1, 0, 0, 0, 0) :: (.iadd, 0, 0, 0, 0) :: (.iastore, 0, 0, 0, 0) :: (.aload_n 0, 0, 0, 0, 0) :: (.getfield 149, 8, 12, 128, 0) :: (.ireturn, 0, 0, 0, 0) :: []
def mB_170_107 : List mm_I := (.aload_n 0, 0, 0, 0, 0) :: (.invokevirtual 152, 151, 1, 142, 108) :: (.ifCond .eq 17, 128, 0, 0, 0) :: (.aload_n 0, 0, 0, 0, 0) :: (.getfield 126, 8, 17, 126, 0) :: (.ifCond .eq 10, 128, 0, 0, 0) :: (.aload_n 0, 0, 0, 0, 0) :: (.invokevirtual 244, 169, 1, 164, 122) :: (.goto (-18), 107, 0, 0, 0) :: []
def mB_170_103 : List mm_I := (.aload_n 0, 0, 0, 0, 0) :: (.invokevirtual 156, 146, 1, 143, 104) :: mB_170_107
def mB_170_84 : List mm_I := (.iload_n 2, 0, 0, 0, 0) :: (.bipush 100, 0, 0, 0, 0) :: (.if_icmp .ge 16, 103, 0, 0, 0) :: (.aload_n 0, 0, 0, 0, 0) :: (.getfield 57, 8, 36, 106, 0) :: (.iload_n 2, 0, 0, 0, 0) :: (.iconst 0, 0, 0, 0, 0) :: (.bastore, 0, 0, 0, 0) :: (.iinc 2 1, 0, 0, 0, 0) :: (.goto (-16), 84, 0, 0, 0) :: []
def mB_170_32 : List mm_I := (.aload_n 0, 0, 0, 0, 0) :: (.iconst 0, 0, 0, 0, 0) :: (.putfield 96, 8, 11, 119, 0) :: (.aload_n 0, 0, 0, 0, 0) :: (.iconst (-1), 0, 0, 0, 0) :: (.putfield 33, 8, 13, 98, 0) :: (.aload_n 0, 0, 0, 0, 0) :: (.iconst 0, 0, 0, 0, 0) :: (.putfield 149, 8, 12, 128, 0) :: (.aload_n 0, 0, 0, 0, 0) :: (.iload_n 1, 0, 0, 0, 0) :: (.putfield 103, 8, 15, 120, 0) :: (.aload_n 0, 0, 0, 0, 0) :: (.iconst 0, 0, 0, 0, 0) :: (.putfield 106, 8, 16, 121, 0) :: (.aload_n 0, 0, 0, 0, 0) :: (.iconst 0, 0, 0, 0, 0) :: (.putfield 209, 8, 23, 132, 0) :: (.aload_n 0, 0, 0, 0, 0) :: (.iconst 0, 0, 0, 0, 0) :: (.putfield 216, 8, 24, 133, 0) :: (.aload_n 0, 0, 0, 0, 0) :: (.iconst 0, 0, 0, 0, 0) :: (.putfield 234, 8, 25, 135, 0) :: (.aload_n 0, 0, 0, 0, 0) :: (.iconst (-1), 0, 0, 0, 0) :: (.putfield 228, 8, 26, 134, 0) :: (.aload_n 0, 0, 0, 0, 0) :: (.iconst 0, 0, 0, 0, 0) :: (.putfield 162, 8, 27, 129, 0) :: (.iconst 0, 0, 0, 0, 0) :: (.istore_n 2, 0, 0, 0, 0) :: mB_170_84
def mB_170_23 : List mm_I := (.iconst 1, 0, 0, 0, 0) :: (.invokevirtual 240, 137, 3, 163, 24) :: (.ifCond .ne 5, 32, 0, 0, 0) :: (.iconst 0, 0, 0, 0, 0) :: (.ireturn, 0, 0, 0, 0) :: []
def mB_170_22 : List mm_I := (.iconst 0, 0, 0, 0, 0) :: mB_170_23
def mB_170_0 : List mm_I := (.aload_n 0, 0, 0, 0, 0) :: (.iconst 0, 0, 0, 0, 0) :: (.putfield 93, 8, 0, 118, 0) :: (.aload_n 0, 0, 0, 0, 0) :: (.iload_n 1, 0, 0, 0, 0) :: (.ifCond .lt 15, 22, 0, 0, 0) :: (.iload_n 1, 0, 0, 0, 0) :: (.aload_n 0, 0, 0, 0, 0) :: (.getfield 96, 8, 11, 119, 0) :: (.if_icmp .gt 7, 22, 0, 0, 0) :: (.iconst 1, 0, 0, 0, 0) :: (.goto 4, 23, 0, 0, 0) :: []
def mT_170 : List (Nat × List mm_I) := [(0, mB_170_0), (22, mB_170_22), (23, mB_170_23), (32, mB_170_32), (84, mB_170_84), (103, mB_170_103), (107, mB_170_107), (128, mB_170_128), (150, mB_170_150), (232, mB_170_232), (256, mB_170_256), (258, mB_170_258), (277, mB_170_277), (279, mB_170_279), (309, mB_170_309), (310, mB_170_310), (334, mB_170_334), (351, mB_170_351), (352, mB_170_352), (371, mB_170_371), (378, mB_170_378)]
-- 171: VillageBoardModel.fault()I
def mB_171_0 : List mm_I := (.aload_n 0, 0, 0, 0, 0) :: (.iconst 0, 0, 0, 0, 0) :: (.putfield 93, 8, 0, 118, 0) :: (.aload_n 0, 0, 0, 0, 0) :: (.getfield 33, 8, 13, 98, 0) :: (.ireturn, 0, 0, 0, 0) :: []
def mT_171 : List (Nat × List mm_I) := [(0, mB_171_0)]
-- 172: VillageBoardModel.keeps()V
def mB_172_84 : List mm_I := (.aload_n 0, 0, 0, 0, 0) :: (.dup, 0, 0, 0, 0) :: (.getfield 260, 8, 40, 139, 0) :: (.iconst 1, 0, 0, 0, 0) :: (.iadd, 0, 0, 0, 0) :: (.putfield 260, 8, 40, 139, 0) :: (.return_, 0, 0, 0, 0) :: []
def mB_172_52 : List mm_I := (.iload_n 1, 0, 0, 0, 0) :: (.bipush 46, 0, 0, 0, 0) :: (.if_icmp .ge 29, 84, 0, 0, 0) :: (.aload_n 0, 0, 0, 0, 0) :: (.getfield 66, 8, 39, 109, 0) :: (.bipush 46, 0, 0, 0, 0) :: (.aload_n 0, 0, 0, 0, 0) :: (.getfield 260, 8, 40, 139, 0) :: (.imul, 0, 0, 0, 0) :: (.iload_n 1, 0, 0, 0, 0) :: (.iadd, 0, 0, 0, 0) :: (.aload_n 0, 0, 0, 0, 0) :: (.getfield 63, 8, 38, 108, 0) :: (.iload_n 1, 0, 0, 0, 0) :: (.iaload, 0, 0, 0, 0) :: (.iastore, 0, 0, 0, 0) :: (.iinc 1 1, 0, 0, 0, 0) :: (.goto (-29), 52, 0, 0, 0) :: []
def mB_172_50 : List mm_I := (.iconst 0, 0, 0, 0, 0) :: (.istore_n 1, 0, 0, 0, 0) :: mB_172_52
def mB_172_40 : List mm_I := (.aload_n 0, 0, 0, 0, 0) :: (.dup, 0, 0, 0, 0) :: (.getfield 260, 8, 40, 139, 0) :: (.iconst 1, 0, 0, 0, 0) :: (.isub, 0, 0, 0, 0) :: (.putfield 260, 8, 40, 139, 0) :: mB_172_50
def mB_172_12 : List mm_I := (.iload_n 1, 0, 0, 0, 0) :: (.sipush 1840, 0, 0, 0, 0) :: (.if_icmp .ge 24, 40, 0, 0, 0) :: (.aload_n 0, 0, 0, 0, 0) :: (.getfield 66, 8, 39, 109, 0) :: (.iload_n 1, 0, 0, 0, 0) :: (.bipush 46, 0, 0, 0, 0) :: (.isub, 0, 0, 0, 0) :: (.aload_n 0, 0, 0, 0, 0) :: (.getfield 66, 8, 39, 109, 0) :: (.iload_n 1, 0, 0, 0, 0) :: (.iaload, 0, 0, 0, 0) :: (.iastore, 0, 0, 0, 0) :: (.iinc 1 1, 0, 0, 0, 0) :: (.goto (-25), 12, 0, 0, 0) :: []
def mB_172_0 : List mm_I := (.aload_n 0, 0, 0, 0, 0) :: (.getfield 260, 8, 40, 139, 0) :: (.bipush 40, 0, 0, 0, 0) :: (.if_icmp .ne 44, 50, 0, 0, 0) :: (.bipush 46, 0, 0, 0, 0) :: (.istore_n 1, 0, 0, 0, 0) :: mB_172_12
def mT_172 : List (Nat × List mm_I) := [(0, mB_172_0), (12, mB_172_12), (40, mB_172_40), (50, mB_172_50), (52, mB_172_52), (84, mB_172_84)]
-- 173: VillageBoardModel.refuses(I)I
def mB_173_0 : List mm_I := (.aload_n 0, 0, 0, 0, 0) :: (.getfield 36, 8, 14, 99, 0) :: (.iload_n 1, 0, 0, 0, 0) :: (.dup2, 0, 0, 0, 0) :: (.iaload, 0, 0, 0, 0) :: (.iconst 1, 0, 0, 0, 0) :: (.iadd, 0, 0, 0, 0) :: (.iastore, 0, 0, 0, 0) :: (.iconst (-1), 0, 0, 0, 0) :: (.ireturn, 0, 0, 0, 0) :: []
def mT_173 : List (Nat × List mm_I) := [(0, mB_173_0)]
-- 174: VillageBoardModel.undo()I
def mB_174_58 : List mm_I := (.aload_n 0, 0, 0, 0, 0) :: (.getfield 260, 8, 40, 139, 0) :: (.ireturn, 0, 0, 0, 0) :: []
def mB_174_26 : List mm_I := (.iload_n 1, 0, 0, 0, 0) :: (.bipush 46, 0, 0, 0, 0) :: (.if_icmp .ge 29, 58, 0, 0, 0) :: (.aload_n 0, 0, 0, 0, 0) :: (.getfield 63, 8, 38, 108, 0) :: (.iload_n 1, 0, 0, 0, 0) :: (.aload_n 0, 0, 0, 0, 0) :: (.getfield 66, 8, 39, 109, 0) :: (.bipush 46, 0, 0, 0, 0) :: (.aload_n 0, 0, 0, 0, 0) :: (.getfield 260, 8, 40, 139, 0) :: (.imul, 0, 0, 0, 0) :: (.iload_n 1, 0, 0, 0, 0) :: (.iadd, 0, 0, 0, 0) :: (.iaload, 0, 0, 0, 0) :: (.iastore, 0, 0, 0, 0) :: (.iinc 1 1, 0, 0, 0, 0) :: (.goto (-29), 26, 0, 0, 0) :: []
def mB_174_14 : List mm_I := (.aload_n 0, 0, 0, 0, 0) :: (.dup, 0, 0, 0, 0) :: (.getfield 260, 8, 40, 139, 0) :: (.iconst 1, 0, 0, 0, 0) :: (.isub, 0, 0, 0, 0) :: (.putfield 260, 8, 40, 139, 0) :: (.iconst 0, 0, 0, 0, 0) :: (.istore_n 1, 0, 0, 0, 0) :: mB_174_26
def mB_174_0 : List mm_I := (.aload_n 0, 0, 0, 0, 0) :: (.iconst 0, 0, 0, 0, 0) :: (.putfield 93, 8, 0, 118, 0) :: (.aload_n 0, 0, 0, 0, 0) :: (.getfield 260, 8, 40, 139, 0) :: (.ifCond .ne 5, 14, 0, 0, 0) :: (.iconst (-1), 0, 0, 0, 0) :: (.ireturn, 0, 0, 0, 0) :: []
def mT_174 : List (Nat × List mm_I) := [(0, mB_174_0), (14, mB_174_14), (26, mB_174_26), (58, mB_174_58)]
-- 175: VillageBoardModel.lays0(II)V
def mB_175_30 : List mm_I := (.return_, 0, 0, 0, 0) :: []
def mB_175_2 : List mm_I := (.iload_n 3, 0, 0, 0, 0) :: (.bipush 46, 0, 0, 0, 0) :: (.if_icmp .ge 25, 30, 0, 0, 0) :: (.aload_n 0, 0, 0, 0, 0) :: (.getfield 63, 8, 38, 108, 0) :: (.iload_n 2, 0, 0, 0, 0) :: (.iload_n 3, 0, 0, 0, 0) :: (.iadd, 0, 0, 0, 0) :: (.aload_n 0, 0, 0, 0, 0) :: (.getfield 63, 8, 38, 108, 0) :: (.iload_n 1, 0, 0, 0, 0) :: (.iload_n 3, 0, 0, 0, 0) :: (.iadd, 0, 0, 0, 0) :: (.iaload, 0, 0, 0, 0) :: (.iastore, 0, 0, 0, 0) :: (.iinc 3 1, 0, 0, 0, 0) :: (.goto (-25), 2, 0, 0, 0) :: []
def mB_175_0 : List mm_I := (.iconst 0, 0, 0, 0, 0) :: (.istore_n 3, 0, 0, 0, 0) :: mB_175_2
def mT_175 : List (Nat × List mm_I) := [(0, mB_175_0), (2, mB_175_2), (30, mB_175_30)]
-- 176: VillageBoardModel.works(III)I
def mB_176_117 : List mm_I := (.ireturn, 0, 0, 0, 0) :: []
def mB_176_114 : List mm_I := (.iload_n 1, 0, 0, 0, 0) :: (.iload_n 2, 0, 0, 0, 0) :: (.idiv, 0, 0, 0, 0) :: mB_176_117
def mB_176_106 : List mm_I := (.iload_n 2, 0, 0, 0, 0) :: (.ifCond .ne 7, 114, 0, 0, 0) :: (.iconst 0, 0, 0, 0, 0) :: (.goto 6, 117, 0, 0, 0) :: []
def mB_176_102 : List mm_I := (.iload_n 1, 0, 0, 0, 0) :: (.iload_n 2, 0, 0, 0, 0) :: (.imul, 0, 0, 0, 0) :: (.ireturn, 0, 0, 0, 0) :: []
def mB_176_98 : List mm_I := (.iload_n 1, 0, 0, 0, 0) :: (.iload_n 2, 0, 0, 0, 0) :: (.isub, 0, 0, 0, 0) :: (.ireturn, 0, 0, 0, 0) :: []
def mB_176_94 : List mm_I := (.iload_n 1, 0, 0, 0, 0) :: (.iload_n 2, 0, 0, 0, 0) :: (.iadd, 0, 0, 0, 0) :: (.ireturn, 0, 0, 0, 0) :: []
def mB_176_93 : List mm_I := (.ireturn, 0, 0, 0, 0) :: []
def mB_176_92 : List mm_I := (.iconst 0, 0, 0, 0, 0) :: mB_176_93
def mB_176_83 : List mm_I := (.iload_n 1, 0, 0, 0, 0) :: (.iload_n 2, 0, 0, 0, 0) :: (.if_icmp .ne 7, 92, 0, 0, 0) :: (.iconst 1, 0, 0, 0, 0) :: (.goto 4, 93, 0, 0, 0) :: []
def mB_176_82 : List mm_I := (.ireturn, 0, 0, 0, 0) :: []
def mB_176_81 : List mm_I := (.iconst 0, 0, 0, 0, 0) :: mB_176_82
def mB_176_72 : List mm_I := (.iload_n 1, 0, 0, 0, 0) :: (.iload_n 2, 0, 0, 0, 0) :: (.if_icmp .ge 7, 81, 0, 0, 0) :: (.iconst 1, 0, 0, 0, 0) :: (.goto 4, 82, 0, 0, 0) :: []
def mB_176_71 : List mm_I := (.ireturn, 0, 0, 0, 0) :: []
def mB_176_70 : List mm_I := (.iconst 0, 0, 0, 0, 0) :: mB_176_71
def mB_176_66 : List mm_I := (.iconst 1, 0, 0, 0, 0) :: (.goto 4, 71, 0, 0, 0) :: []
def mB_176_58 : List mm_I := (.iload_n 1, 0, 0, 0, 0) :: (.ifCond .ne 7, 66, 0, 0, 0) :: (.iload_n 2, 0, 0, 0, 0) :: (.ifCond .eq 7, 70, 0, 0, 0) :: mB_176_66
def mB_176_57 : List mm_I := (.ireturn, 0, 0, 0, 0) :: []
def mB_176_56 : List mm_I := (.iconst 0, 0, 0, 0, 0) :: mB_176_57
def mB_176_44 : List mm_I := (.iload_n 1, 0, 0, 0, 0) :: (.ifCond .eq 11, 56, 0, 0, 0) :: (.iload_n 2, 0, 0, 0, 0) :: (.ifCond .eq 7, 56, 0, 0, 0) :: (.iconst 1, 0, 0, 0, 0) :: (.goto 4, 57, 0, 0, 0) :: []
def mB_176_0 : List mm_I := (.iload_n 0, 0, 0, 0, 0) :: (.tableswitch 105 4 10 #[43, 57, 71, 82, 93, 97, 101], 1, 0, 0, 0) :: []
def mT_176 : List (Nat × List mm_I) := [(0, mB_176_0), (44, mB_176_44), (56, mB_176_56), (57, mB_176_57), (58, mB_176_58), (66, mB_176_66), (70, mB_176_70), (71, mB_176_71), (72, mB_176_72), (81, mB_176_81), (82, mB_176_82), (83, mB_176_83), (92, mB_176_92), (93, mB_176_93), (94, mB_176_94), (98, mB_176_98), (102, mB_176_102), (106, mB_176_106), (114, mB_176_114), (117, mB_176_117)]
-- 177: VillageBoardModel.reckons(I)I
def mB_177_143 : List mm_I := (.aload_n 0, 0, 0, 0, 0) :: (.getfield 72, 8, 42, 111, 0) :: (.iconst 0, 0, 0, 0, 0) :: (.iaload, 0, 0, 0, 0) :: (.ireturn, 0, 0, 0, 0) :: []
def mB_177_140 : List mm_I := (.goto (-136), 4, 0, 0, 0) :: []
def mB_177_110 : List mm_I := (.iinc 2 (-1), 0, 0, 0, 0) :: (.aload_n 0, 0, 0, 0, 0) :: (.getfield 72, 8, 42, 111, 0) :: (.iload_n 2, 0, 0, 0, 0) :: (.iconst 1, 0, 0, 0, 0) :: (.isub, 0, 0, 0, 0) :: (.iload 4, 0, 0, 0, 0) :: (.aload_n 0, 0, 0, 0, 0) :: (.getfield 72, 8, 42, 111, 0) :: (.iload_n 2, 0, 0, 0, 0) :: (.iconst 1, 0, 0, 0, 0) :: (.isub, 0, 0, 0, 0) :: (.iaload, 0, 0, 0, 0) :: (.aload_n 0, 0, 0, 0, 0) :: (.getfield 72, 8, 42, 111, 0) :: (.iload_n 2, 0, 0, 0, 0) :: (.iaload, 0, 0, 0, 0) :: (.invokestatic 270, 176, 3, 166, 136) :: (.iastore, 0, 0, 0, 0) :: mB_177_140
def mB_177_106 : List mm_I := (.iastore, 0, 0, 0, 0) :: (.goto 33, 140, 0, 0, 0) :: []
def mB_177_105 : List mm_I := (.iconst 0, 0, 0, 0, 0) :: mB_177_106
def mB_177_77 : List mm_I := (.iload 4, 0, 0, 0, 0) :: (.iconst 3, 0, 0, 0, 0) :: (.if_icmp .ne 30, 110, 0, 0, 0) :: (.aload_n 0, 0, 0, 0, 0) :: (.getfield 72, 8, 42, 111, 0) :: (.iload_n 2, 0, 0, 0, 0) :: (.iconst 1, 0, 0, 0, 0) :: (.isub, 0, 0, 0, 0) :: (.aload_n 0, 0, 0, 0, 0) :: (.getfield 72, 8, 42, 111, 0) :: (.iload_n 2, 0, 0, 0, 0) :: (.iconst 1, 0, 0, 0, 0) :: (.isub, 0, 0, 0, 0) :: (.iaload, 0, 0, 0, 0) :: (.ifCond .ne 7, 105, 0, 0, 0) :: (.iconst 1, 0, 0, 0, 0) :: (.goto 4, 106, 0, 0, 0) :: []
def mB_177_67 : List mm_I := (.iastore, 0, 0, 0, 0) :: (.iinc 3 1, 0, 0, 0, 0) :: (.iinc 2 1, 0, 0, 0, 0) :: (.goto 66, 140, 0, 0, 0) :: []
def mB_177_56 : List mm_I := (.aload_n 0, 0, 0, 0, 0) :: (.getfield 69, 8, 41, 110, 0) :: (.aload_n 0, 0, 0, 0, 0) :: (.getfield 23, 8, 8, 95, 0) :: (.iload_n 3, 0, 0, 0, 0) :: (.iaload, 0, 0, 0, 0) :: (.iaload, 0, 0, 0, 0) :: mB_177_67
def mB_177_36 : List mm_I := (.aload_n 0, 0, 0, 0, 0) :: (.getfield 72, 8, 42, 111, 0) :: (.iload_n 2, 0, 0, 0, 0) :: (.iload 4, 0, 0, 0, 0) :: (.iconst 1, 0, 0, 0, 0) :: (.if_icmp .ne 12, 56, 0, 0, 0) :: (.aload_n 0, 0, 0, 0, 0) :: (.getfield 23, 8, 8, 95, 0) :: (.iload_n 3, 0, 0, 0, 0) :: (.iaload, 0, 0, 0, 0) :: (.goto 14, 67, 0, 0, 0) :: []
def mB_177_4 : List mm_I := (.aload_n 0, 0, 0, 0, 0) :: (.getfield 23, 8, 8, 95, 0) :: (.iload_n 3, 0, 0, 0, 0) :: (.iaload, 0, 0, 0, 0) :: (.ifCond .eq 133, 143, 0, 0, 0) :: (.aload_n 0, 0, 0, 0, 0) :: (.getfield 23, 8, 8, 95, 0) :: (.iload_n 3, 0, 0, 0, 0) :: (.iaload, 0, 0, 0, 0) :: (.istore 4, 0, 0, 0, 0) :: (.iinc 3 1, 0, 0, 0, 0) :: (.iload 4, 0, 0, 0, 0) :: (.iconst 1, 0, 0, 0, 0) :: (.if_icmp .eq 9, 36, 0, 0, 0) :: (.iload 4, 0, 0, 0, 0) :: (.iconst 2, 0, 0, 0, 0) :: (.if_icmp .ne 44, 77, 0, 0, 0) :: mB_177_36
def mB_177_0 : List mm_I := (.iconst 0, 0, 0, 0, 0) :: (.istore_n 2, 0, 0, 0, 0) :: (.iload_n 1, 0, 0, 0, 0) :: (.istore_n 3, 0, 0, 0, 0) :: mB_177_4
def mT_177 : List (Nat × List mm_I) := [(0, mB_177_0), (4, mB_177_4), (36, mB_177_36), (56, mB_177_56), (67, mB_177_67), (77, mB_177_77), (105, mB_177_105), (106, mB_177_106), (110, mB_177_110), (140, mB_177_140), (143, mB_177_143)]
-- 178: VillageBoardModel.near(IIII)I
def mB_178_68 : List mm_I := (.iload 5, 0, 0, 0, 0) :: (.ireturn, 0, 0, 0, 0) :: []
def mB_178_59 : List mm_I := (.iadd, 0, 0, 0, 0) :: (.istore 5, 0, 0, 0, 0) :: (.iinc 6 1, 0, 0, 0, 0) :: (.goto (-59), 6, 0, 0, 0) :: []
def mB_178_58 : List mm_I := (.iconst 0, 0, 0, 0, 0) :: mB_178_59
def mB_178_6 : List mm_I := (.iload 6, 0, 0, 0, 0) :: (.aload_n 0, 0, 0, 0, 0) :: (.getfield 247, 8, 1, 136, 0) :: (.if_icmp .ge 56, 68, 0, 0, 0) :: (.iload 5, 0, 0, 0, 0) :: (.iload 6, 0, 0, 0, 0) :: (.iload 4, 0, 0, 0, 0) :: (.if_icmp .eq 37, 58, 0, 0, 0) :: (.aload_n 0, 0, 0, 0, 0) :: (.getfield 26, 8, 9, 96, 0) :: (.bipush 10, 0, 0, 0, 0) :: (.iload 6, 0, 0, 0, 0) :: (.imul, 0, 0, 0, 0) :: (.iload_n 3, 0, 0, 0, 0) :: (.iadd, 0, 0, 0, 0) :: (.baload, 0, 0, 0, 0) :: (.ifCond .eq 22, 58, 0, 0, 0) :: (.aload_n 0, 0, 0, 0, 0) :: (.getfield 63, 8, 38, 108, 0) :: (.iload_n 1, 0, 0, 0, 0) :: (.iconst 0, 0, 0, 0, 0) :: (.iadd, 0, 0, 0, 0) :: (.iload 6, 0, 0, 0, 0) :: (.iadd, 0, 0, 0, 0) :: (.iaload, 0, 0, 0, 0) :: (.iload_n 2, 0, 0, 0, 0) :: (.if_icmp .ne 7, 58, 0, 0, 0) :: (.iconst 1, 0, 0, 0, 0) :: (.goto 4, 59, 0, 0, 0) :: []
def mB_178_0 : List mm_I := (.iconst 0, 0, 0, 0, 0) :: (.istore 5, 0, 0, 0, 0) :: (.iconst 0, 0, 0, 0, 0) :: (.istore 6, 0, 0, 0, 0) :: mB_178_6
def mT_178 : List (Nat × List mm_I) := [(0, mB_178_0), (6, mB_178_6), (58, mB_178_58), (59, mB_178_59), (68, mB_178_68)]
-- 179: VillageBoardModel.tells(III)V
def mB_179_135 : List mm_I := (.iastore, 0, 0, 0, 0) :: (.aload_n 0, 0, 0, 0, 0) :: (.getfield 69, 8, 41, 110, 0) :: (.bipush 7, 0, 0, 0, 0) :: (.aload_n 0, 0, 0, 0, 0) :: (.getfield 63, 8, 38, 108, 0) :: (.iload_n 1, 0, 0, 0, 0) :: (.bipush 42, 0, 0, 0, 0) :: (.iadd, 0, 0, 0, 0) :: (.iaload, 0, 0, 0, 0) :: (.iastore, 0, 0, 0, 0) :: (.return_, 0, 0, 0, 0) :: []
def mB_179_134 : List mm_I := (.iconst 0, 0, 0, 0, 0) :: mB_179_135
def mB_179_107 : List mm_I := (.iastore, 0, 0, 0, 0) :: (.aload_n 0, 0, 0, 0, 0) :: (.getfield 69, 8, 41, 110, 0) :: (.bipush 6, 0, 0, 0, 0) :: (.aload_n 0, 0, 0, 0, 0) :: (.getfield 63, 8, 38, 108, 0) :: (.iload_n 1, 0, 0, 0, 0) :: (.bipush 10, 0, 0, 0, 0) :: (.iadd, 0, 0, 0, 0) :: (.iload_n 3, 0, 0, 0, 0) :: (.iadd, 0, 0, 0, 0) :: (.iaload, 0, 0, 0, 0) :: (.iload 4, 0, 0, 0, 0) :: (.if_icmp .eq 7, 134, 0, 0, 0) :: (.iconst 1, 0, 0, 0, 0) :: (.goto 4, 135, 0, 0, 0) :: []
def mB_179_106 : List mm_I := (.iconst 0, 0, 0, 0, 0) :: mB_179_107
def mB_179_0 : List mm_I := (.aload_n 0, 0, 0, 0, 0) :: (.getfield 63, 8, 38, 108, 0) :: (.iload_n 1, 0, 0, 0, 0) :: (.iconst 0, 0, 0, 0, 0) :: (.iadd, 0, 0, 0, 0) :: (.iload_n 2, 0, 0, 0, 0) :: (.iadd, 0, 0, 0, 0) :: (.iaload, 0, 0, 0, 0) :: (.istore 4, 0, 0, 0, 0) :: (.aload_n 0, 0, 0, 0, 0) :: (.getfield 69, 8, 41, 110, 0) :: (.iconst 0, 0, 0, 0, 0) :: (.aload_n 0, 0, 0, 0, 0) :: (.iload_n 1, 0, 0, 0, 0) :: (.iload 4, 0, 0, 0, 0) :: (.iload_n 3, 0, 0, 0, 0) :: (.iload_n 2, 0, 0, 0, 0) :: (.invokevirtual 274, 178, 5, 167, 23) :: (.iastore, 0, 0, 0, 0) :: (.aload_n 0, 0, 0, 0, 0) :: (.getfield 69, 8, 41, 110, 0) :: (.iconst 1, 0, 0, 0, 0) :: (.aload_n 0, 0, 0, 0, 0) :: (.iload_n 1, 0, 0, 0, 0) :: (.iconst 1, 0, 0, 0, 0) :: (.iload 4, 0, 0, 0, 0) :: (.isub, 0, 0, 0, 0) :: (.iload_n 3, 0, 0, 0, 0) :: (.iload_n 2, 0, 0, 0, 0) :: (.invokevirtual 274, 178, 5, 167, 40) :: (.iastore, 0, 0, 0, 0) :: (.aload_n 0, 0, 0, 0, 0) :: (.getfield 69, 8, 41, 110, 0) :: (.iconst 2, 0, 0, 0, 0) :: (.aload_n 0, 0, 0, 0, 0) :: (.getfield 17, 8, 6, 93, 0) :: (.iload_n 3, 0, 0, 0, 0) :: (.iaload, 0, 0, 0, 0) :: (.iastore, 0, 0, 0, 0) :: (.aload_n 0, 0, 0, 0, 0) :: (.getfield 69, 8, 41, 110, 0) :: (.iconst 3, 0, 0, 0, 0) :: (.aload_n 0, 0, 0, 0, 0) :: (.getfield 13, 8, 5, 92, 0) :: (.iload_n 3, 0, 0, 0, 0) :: (.iaload, 0, 0, 0, 0) :: (.iastore, 0, 0, 0, 0) :: (.aload_n 0, 0, 0, 0, 0) :: (.getfield 69, 8, 41, 110, 0) :: (.iconst 4, 0, 0, 0, 0) :: (.aload_n 0, 0, 0, 0, 0) :: (.getfield 13, 8, 5, 92, 0) :: (.iload_n 2, 0, 0, 0, 0) :: (.iaload, 0, 0, 0, 0) :: (.iastore, 0, 0, 0, 0) :: (.aload_n 0, 0, 0, 0, 0) :: (.getfield 69, 8, 41, 110, 0) :: (.iconst 5, 0, 0, 0, 0) :: (.aload_n 0, 0, 0, 0, 0) :: (.getfield 63, 8, 38, 108, 0) :: (.iload_n 1, 0, 0, 0, 0) :: (.iconst 0, 0, 0, 0, 0) :: (.iadd, 0, 0, 0, 0) :: (.iload_n 3, 0, 0, 0, 0) :: (.iadd, 0, 0, 0, 0) :: (.iaload, 0, 0, 0, 0) :: (.iconst 1, 0, 0, 0, 0) :: (.iload 4, 0, 0, 0, 0) :: (.isub, 0, 0, 0, 0) :: (.if_icmp .ne 7, 106, 0, 0, 0) :: (.iconst 1, 0, 0, 0, 0) :: (.goto 4, 107, 0, 0, 0) :: []
def mT_179 : List (Nat × List mm_I) := [(0, mB_179_0), (106, mB_179_106), (107, mB_179_107), (134, mB_179_134), (135, mB_179_135)]
-- 180: VillageBoardModel.mayGo(III)Z
def mB_180_124 : List mm_I := (.ireturn, 0, 0, 0, 0) :: []
def mB_180_123 : List mm_I := (.iconst 0, 0, 0, 0, 0) :: mB_180_124
def mB_180_108 : List mm_I := (.aload_n 0, 0, 0, 0, 0) :: (.aload_n 0, 0, 0, 0, 0) :: (.getfield 9, 8, 4, 91, 0) :: (.invokevirtual 282, 177, 2, 169, 113) :: (.ifCond .le 7, 123, 0, 0, 0) :: (.iconst 1, 0, 0, 0, 0) :: (.goto 4, 124, 0, 0, 0) :: []
def mB_180_104 : List mm_I := (.iconst 0, 0, 0, 0, 0) :: (.goto 19, 124, 0, 0, 0) :: []
def mB_180_61 : List mm_I := (.aload_n 0, 0, 0, 0, 0) :: (.iload_n 1, 0, 0, 0, 0) :: (.iload_n 2, 0, 0, 0, 0) :: (.iload_n 3, 0, 0, 0, 0) :: (.invokevirtual 278, 179, 4, 168, 65) :: (.aload_n 0, 0, 0, 0, 0) :: (.getfield 9, 8, 4, 91, 0) :: (.iconst (-1), 0, 0, 0, 0) :: (.if_icmp .ne 35, 108, 0, 0, 0) :: (.aload_n 0, 0, 0, 0, 0) :: (.getfield 69, 8, 41, 110, 0) :: (.iconst 0, 0, 0, 0, 0) :: (.iaload, 0, 0, 0, 0) :: (.aload_n 0, 0, 0, 0, 0) :: (.getfield 69, 8, 41, 110, 0) :: (.iconst 1, 0, 0, 0, 0) :: (.iaload, 0, 0, 0, 0) :: (.aload_n 0, 0, 0, 0, 0) :: (.getfield 69, 8, 41, 110, 0) :: (.iconst 2, 0, 0, 0, 0) :: (.iaload, 0, 0, 0, 0) :: (.iadd, 0, 0, 0, 0) :: (.iconst 1, 0, 0, 0, 0) :: (.isub, 0, 0, 0, 0) :: (.if_icmp .le 7, 104, 0, 0, 0) :: (.iconst 1, 0, 0, 0, 0) :: (.goto 23, 124, 0, 0, 0) :: []
def mB_180_53 : List mm_I := (.iload 5, 0, 0, 0, 0) :: (.iconst 2, 0, 0, 0, 0) :: (.if_icmp .ne 5, 61, 0, 0, 0) :: (.iconst 1, 0, 0, 0, 0) :: (.ireturn, 0, 0, 0, 0) :: []
def mB_180_51 : List mm_I := (.iconst 0, 0, 0, 0, 0) :: (.ireturn, 0, 0, 0, 0) :: []
def mB_180_0 : List mm_I := (.aload_n 0, 0, 0, 0, 0) :: (.getfield 63, 8, 38, 108, 0) :: (.iload_n 1, 0, 0, 0, 0) :: (.iconst 0, 0, 0, 0, 0) :: (.iadd, 0, 0, 0, 0) :: (.iload_n 2, 0, 0, 0, 0) :: (.iadd, 0, 0, 0, 0) :: (.iaload, 0, 0, 0, 0) :: (.istore 4, 0, 0, 0, 0) :: (.aload_n 0, 0, 0, 0, 0) :: (.getfield 63, 8, 38, 108, 0) :: (.iload_n 1, 0, 0, 0, 0) :: (.iconst 0, 0, 0, 0, 0) :: (.iadd, 0, 0, 0, 0) :: (.iload_n 3, 0, 0, 0, 0) :: (.iadd, 0, 0, 0, 0) :: (.iaload, 0, 0, 0, 0) :: (.istore 5, 0, 0, 0, 0) :: (.iload 4, 0, 0, 0, 0) :: (.iconst 2, 0, 0, 0, 0) :: (.if_icmp .eq 24, 51, 0, 0, 0) :: (.aload_n 0, 0, 0, 0, 0) :: (.getfield 26, 8, 9, 96, 0) :: (.bipush 10, 0, 0, 0, 0) :: (.iload_n 2, 0, 0, 0, 0) :: (.imul, 0, 0, 0, 0) :: (.iload_n 3, 0, 0, 0, 0) :: (.iadd, 0, 0, 0, 0) :: (.baload, 0, 0, 0, 0) :: (.ifCond .eq 10, 51, 0, 0, 0) :: (.iload 5, 0, 0, 0, 0) :: (.iload 4, 0, 0, 0, 0) :: (.if_icmp .ne 5, 53, 0, 0, 0) :: mB_180_51
def mT_180 : List (Nat × List mm_I) := [(0, mB_180_0), (51, mB_180_51), (53, mB_180_53), (61, mB_180_61), (104, mB_180_104), (108, mB_180_108), (123, mB_180_123), (124, mB_180_124)]
-- 181: VillageBoardModel.mayDo(III)Z
def mB_181_68 : List mm_I := (.ireturn, 0, 0, 0, 0) :: []
def mB_181_67 : List mm_I := (.iconst 0, 0, 0, 0, 0) :: mB_181_68
def mB_181_8 : List mm_I := (.iload_n 2, 0, 0, 0, 0) :: (.bipush 10, 0, 0, 0, 0) :: (.idiv, 0, 0, 0, 0) :: (.aload_n 0, 0, 0, 0, 0) :: (.getfield 247, 8, 1, 136, 0) :: (.if_icmp .ge 51, 67, 0, 0, 0) :: (.iload_n 2, 0, 0, 0, 0) :: (.bipush 10, 0, 0, 0, 0) :: (.irem, 0, 0, 0, 0) :: (.aload_n 0, 0, 0, 0, 0) :: (.getfield 247, 8, 1, 136, 0) :: (.if_icmp .ge 40, 67, 0, 0, 0) :: (.aload_n 0, 0, 0, 0, 0) :: (.getfield 63, 8, 38, 108, 0) :: (.iload_n 1, 0, 0, 0, 0) :: (.iconst 0, 0, 0, 0, 0) :: (.iadd, 0, 0, 0, 0) :: (.iload_n 2, 0, 0, 0, 0) :: (.bipush 10, 0, 0, 0, 0) :: (.idiv, 0, 0, 0, 0) :: (.iadd, 0, 0, 0, 0) :: (.iaload, 0, 0, 0, 0) :: (.iload_n 3, 0, 0, 0, 0) :: (.if_icmp .ne 23, 67, 0, 0, 0) :: (.aload_n 0, 0, 0, 0, 0) :: (.iload_n 1, 0, 0, 0, 0) :: (.iload_n 2, 0, 0, 0, 0) :: (.bipush 10, 0, 0, 0, 0) :: (.idiv, 0, 0, 0, 0) :: (.iload_n 2, 0, 0, 0, 0) :: (.bipush 10, 0, 0, 0, 0) :: (.irem, 0, 0, 0, 0) :: (.invokevirtual 285, 180, 4, 170, 57) :: (.ifCond .eq 7, 67, 0, 0, 0) :: (.iconst 1, 0, 0, 0, 0) :: (.goto 4, 68, 0, 0, 0) :: []
def mB_181_0 : List mm_I := (.iload_n 2, 0, 0, 0, 0) :: (.bipush 100, 0, 0, 0, 0) :: (.if_icmp .ne 5, 8, 0, 0, 0) :: (.iconst 1, 0, 0, 0, 0) :: (.ireturn, 0, 0, 0, 0) :: []
def mT_181 : List (Nat × List mm_I) := [(0, mB_181_0), (8, mB_181_8), (67, mB_181_67), (68, mB_181_68)]
-- 182: VillageBoardModel.brings(III)V
def mB_182_0 : List mm_I := (.aload_n 0, 0, 0, 0, 0) :: (.getfield 63, 8, 38, 108, 0) :: (.iload_n 1, 0, 0, 0, 0) :: (.iconst 0, 0, 0, 0, 0) :: (.iadd, 0, 0, 0, 0) :: (.iload_n 3, 0, 0, 0, 0) :: (.iadd, 0, 0, 0, 0) :: (.aload_n 0, 0, 0, 0, 0) :: (.getfield 63, 8, 38, 108, 0) :: (.iload_n 1, 0, 0, 0, 0) :: (.iconst 0, 0, 0, 0, 0) :: (.iadd, 0, 0, 0, 0) :: (.iload_n 2, 0, 0, 0, 0) :: (.iadd, 0, 0, 0, 0) :: (.iaload, 0, 0, 0, 0) :: (.iastore, 0, 0, 0, 0) :: (.aload_n 0, 0, 0, 0, 0) :: (.getfield 63, 8, 38, 108, 0) :: (.iload_n 1, 0, 0, 0, 0) :: (.bipush 10, 0, 0, 0, 0) :: (.iadd, 0, 0, 0, 0) :: (.iload_n 3, 0, 0, 0, 0) :: (.iadd, 0, 0, 0, 0) :: (.aload_n 0, 0, 0, 0, 0) :: (.getfield 63, 8, 38, 108, 0) :: (.iload_n 1, 0, 0, 0, 0) :: (.iconst 0, 0, 0, 0, 0) :: (.iadd, 0, 0, 0, 0) :: (.iload_n 2, 0, 0, 0, 0) :: (.iadd, 0, 0, 0, 0) :: (.iaload, 0, 0, 0, 0) :: (.iastore, 0, 0, 0, 0) :: (.aload_n 0, 0, 0, 0, 0) :: (.getfield 63, 8, 38, 108, 0) :: (.iload_n 1, 0, 0, 0, 0) :: (.iconst 0, 0, 0, 0, 0) :: (.iadd, 0, 0, 0, 0) :: (.iload_n 2, 0, 0, 0, 0) :: (.iadd, 0, 0, 0, 0) :: (.iconst 2, 0, 0, 0, 0) :: (.iastore, 0, 0, 0, 0) :: (.return_, 0, 0, 0, 0) :: []
def mT_182 : List (Nat × List mm_I) := [(0, mB_182_0)]
-- 183: VillageBoardModel.does(II)V
def mB_183_127 : List mm_I := (.aload_n 0, 0, 0, 0, 0) :: (.getfield 63, 8, 38, 108, 0) :: (.iload_n 1, 0, 0, 0, 0) :: (.bipush 42, 0, 0, 0, 0) :: (.iadd, 0, 0, 0, 0) :: (.dup2, 0, 0, 0, 0) :: (.iaload, 0, 0, 0, 0) :: (.iconst 1, 0, 0, 0, 0) :: (.iadd, 0, 0, 0, 0) :: (.iastore, 0, 0, 0, 0) :: (.aload_n 0, 0, 0, 0, 0) :: (.getfield 63, 8, 38, 108, 0) :: (.iload_n 1, 0, 0, 0, 0) :: (.bipush 43, 0, 0, 0, 0) :: (.iadd, 0, 0, 0, 0) :: (.iconst 1, 0, 0, 0, 0) :: (.aload_n 0, 0, 0, 0, 0) :: (.getfield 63, 8, 38, 108, 0) :: (.iload_n 1, 0, 0, 0, 0) :: (.bipush 43, 0, 0, 0, 0) :: (.iadd, 0, 0, 0, 0) :: (.iaload, 0, 0, 0, 0) :: (.isub, 0, 0, 0, 0) :: (.iastore, 0, 0, 0, 0) :: (.return_, 0, 0, 0, 0) :: []
def mB_183_121 : List mm_I := (.iinc 3 1, 0, 0, 0, 0) :: (.goto (-103), 21, 0, 0, 0) :: []
def mB_183_99 : List mm_I := (.iastore, 0, 0, 0, 0) :: (.aload_n 0, 0, 0, 0, 0) :: (.getfield 63, 8, 38, 108, 0) :: (.iload_n 1, 0, 0, 0, 0) :: (.bipush 20, 0, 0, 0, 0) :: (.iadd, 0, 0, 0, 0) :: (.bipush 10, 0, 0, 0, 0) :: (.iload 4, 0, 0, 0, 0) :: (.imul, 0, 0, 0, 0) :: (.iadd, 0, 0, 0, 0) :: (.iload_n 3, 0, 0, 0, 0) :: (.iadd, 0, 0, 0, 0) :: (.dup2, 0, 0, 0, 0) :: (.iaload, 0, 0, 0, 0) :: (.iconst 1, 0, 0, 0, 0) :: (.iadd, 0, 0, 0, 0) :: (.iastore, 0, 0, 0, 0) :: mB_183_121
def mB_183_97 : List mm_I := (.iload 5, 0, 0, 0, 0) :: mB_183_99
def mB_183_51 : List mm_I := (.aload_n 0, 0, 0, 0, 0) :: (.getfield 63, 8, 38, 108, 0) :: (.iload_n 1, 0, 0, 0, 0) :: (.bipush 40, 0, 0, 0, 0) :: (.iadd, 0, 0, 0, 0) :: (.iload 4, 0, 0, 0, 0) :: (.iadd, 0, 0, 0, 0) :: (.iaload, 0, 0, 0, 0) :: (.aload_n 0, 0, 0, 0, 0) :: (.getfield 13, 8, 5, 92, 0) :: (.iload_n 3, 0, 0, 0, 0) :: (.iaload, 0, 0, 0, 0) :: (.iadd, 0, 0, 0, 0) :: (.istore 5, 0, 0, 0, 0) :: (.aload_n 0, 0, 0, 0, 0) :: (.getfield 63, 8, 38, 108, 0) :: (.iload_n 1, 0, 0, 0, 0) :: (.bipush 40, 0, 0, 0, 0) :: (.iadd, 0, 0, 0, 0) :: (.iload 4, 0, 0, 0, 0) :: (.iadd, 0, 0, 0, 0) :: (.iload 5, 0, 0, 0, 0) :: (.sipush 9999, 0, 0, 0, 0) :: (.if_icmp .le 9, 97, 0, 0, 0) :: (.sipush 9999, 0, 0, 0, 0) :: (.goto 5, 99, 0, 0, 0) :: []
def mB_183_21 : List mm_I := (.iload_n 3, 0, 0, 0, 0) :: (.aload_n 0, 0, 0, 0, 0) :: (.getfield 247, 8, 1, 136, 0) :: (.if_icmp .ge 101, 127, 0, 0, 0) :: (.aload_n 0, 0, 0, 0, 0) :: (.getfield 63, 8, 38, 108, 0) :: (.iload_n 1, 0, 0, 0, 0) :: (.bipush 10, 0, 0, 0, 0) :: (.iadd, 0, 0, 0, 0) :: (.iload_n 3, 0, 0, 0, 0) :: (.iadd, 0, 0, 0, 0) :: (.iaload, 0, 0, 0, 0) :: (.istore 4, 0, 0, 0, 0) :: (.iload 4, 0, 0, 0, 0) :: (.iconst 2, 0, 0, 0, 0) :: (.if_icmp .ne 6, 51, 0, 0, 0) :: (.goto 73, 121, 0, 0, 0) :: []
def mB_183_19 : List mm_I := (.iconst 0, 0, 0, 0, 0) :: (.istore_n 3, 0, 0, 0, 0) :: mB_183_21
def mB_183_0 : List mm_I := (.iload_n 2, 0, 0, 0, 0) :: (.bipush 100, 0, 0, 0, 0) :: (.if_icmp .eq 16, 19, 0, 0, 0) :: (.aload_n 0, 0, 0, 0, 0) :: (.iload_n 1, 0, 0, 0, 0) :: (.iload_n 2, 0, 0, 0, 0) :: (.bipush 10, 0, 0, 0, 0) :: (.idiv, 0, 0, 0, 0) :: (.iload_n 2, 0, 0, 0, 0) :: (.bipush 10, 0, 0, 0, 0) :: (.irem, 0, 0, 0, 0) :: (.invokevirtual 289, 182, 4, 171, 16) :: mB_183_19
def mT_183 : List (Nat × List mm_I) := [(0, mB_183_0), (19, mB_183_19), (21, mB_183_21), (51, mB_183_51), (97, mB_183_97), (99, mB_183_99), (121, mB_183_121), (127, mB_183_127)]
-- 184: VillageBoardModel.byStyle(II)I
def mB_184_93 : List mm_I := (.iload_n 3, 0, 0, 0, 0) :: (.ireturn, 0, 0, 0, 0) :: []
def mB_184_87 : List mm_I := (.iinc 5 1, 0, 0, 0, 0) :: (.goto (-81), 9, 0, 0, 0) :: []
def mB_184_80 : List mm_I := (.iload 5, 0, 0, 0, 0) :: (.istore_n 3, 0, 0, 0, 0) :: (.iload 6, 0, 0, 0, 0) :: (.istore 4, 0, 0, 0, 0) :: mB_184_87
def mB_184_43 : List mm_I := (.aload_n 0, 0, 0, 0, 0) :: (.iload_n 1, 0, 0, 0, 0) :: (.iload 5, 0, 0, 0, 0) :: (.bipush 10, 0, 0, 0, 0) :: (.idiv, 0, 0, 0, 0) :: (.iload 5, 0, 0, 0, 0) :: (.bipush 10, 0, 0, 0, 0) :: (.irem, 0, 0, 0, 0) :: (.invokevirtual 278, 179, 4, 168, 55) :: (.aload_n 0, 0, 0, 0, 0) :: (.aload_n 0, 0, 0, 0, 0) :: (.getfield 20, 8, 7, 94, 0) :: (.iload_n 2, 0, 0, 0, 0) :: (.iaload, 0, 0, 0, 0) :: (.invokevirtual 282, 177, 2, 169, 65) :: (.istore 6, 0, 0, 0, 0) :: (.iload 6, 0, 0, 0, 0) :: (.iload 4, 0, 0, 0, 0) :: (.if_icmp .gt 6, 80, 0, 0, 0) :: (.goto 10, 87, 0, 0, 0) :: []
def mB_184_9 : List mm_I := (.iload 5, 0, 0, 0, 0) :: (.bipush 100, 0, 0, 0, 0) :: (.if_icmp .ge 80, 93, 0, 0, 0) :: (.iload_n 2, 0, 0, 0, 0) :: (.iconst (-1), 0, 0, 0, 0) :: (.if_icmp .eq 75, 93, 0, 0, 0) :: (.aload_n 0, 0, 0, 0, 0) :: (.iload_n 1, 0, 0, 0, 0) :: (.iload 5, 0, 0, 0, 0) :: (.aload_n 0, 0, 0, 0, 0) :: (.getfield 63, 8, 38, 108, 0) :: (.iload_n 1, 0, 0, 0, 0) :: (.bipush 43, 0, 0, 0, 0) :: (.iadd, 0, 0, 0, 0) :: (.iaload, 0, 0, 0, 0) :: (.invokevirtual 292, 181, 4, 172, 34) :: (.ifCond .ne 6, 43, 0, 0, 0) :: (.goto 47, 87, 0, 0, 0) :: []
def mB_184_0 : List mm_I := (.bipush 100, 0, 0, 0, 0) :: (.istore_n 3, 0, 0, 0, 0) :: (.iconst 0, 0, 0, 0, 0) :: (.istore 4, 0, 0, 0, 0) :: (.iconst 0, 0, 0, 0, 0) :: (.istore 5, 0, 0, 0, 0) :: mB_184_9
def mT_184 : List (Nat × List mm_I) := [(0, mB_184_0), (9, mB_184_9), (43, mB_184_43), (80, mB_184_80), (87, mB_184_87), (93, mB_184_93)]
-- 185: VillageBoardModel.byItsStyle(I)I
def mB_185_0 : List mm_I := (.aload_n 0, 0, 0, 0, 0) :: (.iload_n 1, 0, 0, 0, 0) :: (.aload_n 0, 0, 0, 0, 0) :: (.getfield 63, 8, 38, 108, 0) :: (.iload_n 1, 0, 0, 0, 0) :: (.bipush 44, 0, 0, 0, 0) :: (.iadd, 0, 0, 0, 0) :: (.aload_n 0, 0, 0, 0, 0) :: (.getfield 63, 8, 38, 108, 0) :: (.iload_n 1, 0, 0, 0, 0) :: (.bipush 43, 0, 0, 0, 0) :: (.iadd, 0, 0, 0, 0) :: (.iaload, 0, 0, 0, 0) :: (.iadd, 0, 0, 0, 0) :: (.iaload, 0, 0, 0, 0) :: (.invokevirtual 295, 184, 3, 173, 21) :: (.ireturn, 0, 0, 0, 0) :: []
def mT_185 : List (Nat × List mm_I) := [(0, mB_185_0)]
-- 186: VillageBoardModel.stonesOf(II)I
def mB_186_46 : List mm_I := (.iload_n 3, 0, 0, 0, 0) :: (.ireturn, 0, 0, 0, 0) :: []
def mB_186_38 : List mm_I := (.ior, 0, 0, 0, 0) :: (.istore_n 3, 0, 0, 0, 0) :: (.iinc 4 1, 0, 0, 0, 0) :: (.goto (-38), 5, 0, 0, 0) :: []
def mB_186_37 : List mm_I := (.iconst 0, 0, 0, 0, 0) :: mB_186_38
def mB_186_5 : List mm_I := (.iload 4, 0, 0, 0, 0) :: (.aload_n 0, 0, 0, 0, 0) :: (.getfield 247, 8, 1, 136, 0) :: (.if_icmp .ge 35, 46, 0, 0, 0) :: (.iload_n 3, 0, 0, 0, 0) :: (.aload_n 0, 0, 0, 0, 0) :: (.getfield 63, 8, 38, 108, 0) :: (.iload_n 1, 0, 0, 0, 0) :: (.iconst 0, 0, 0, 0, 0) :: (.iadd, 0, 0, 0, 0) :: (.iload 4, 0, 0, 0, 0) :: (.iadd, 0, 0, 0, 0) :: (.iaload, 0, 0, 0, 0) :: (.iload_n 2, 0, 0, 0, 0) :: (.if_icmp .ne 10, 37, 0, 0, 0) :: (.iconst 1, 0, 0, 0, 0) :: (.iload 4, 0, 0, 0, 0) :: (.ishl, 0, 0, 0, 0) :: (.goto 4, 38, 0, 0, 0) :: []
def mB_186_0 : List mm_I := (.iconst 0, 0, 0, 0, 0) :: (.istore_n 3, 0, 0, 0, 0) :: (.iconst 0, 0, 0, 0, 0) :: (.istore 4, 0, 0, 0, 0) :: mB_186_5
def mT_186 : List (Nat × List mm_I) := [(0, mB_186_0), (5, mB_186_5), (37, mB_186_37), (38, mB_186_38), (46, mB_186_46)]
-- 187: VillageBoardModel.flagsOf(II)I
def mB_187_47 : List mm_I := (.iload_n 3, 0, 0, 0, 0) :: (.ireturn, 0, 0, 0, 0) :: []
def mB_187_39 : List mm_I := (.ior, 0, 0, 0, 0) :: (.istore_n 3, 0, 0, 0, 0) :: (.iinc 4 1, 0, 0, 0, 0) :: (.goto (-39), 5, 0, 0, 0) :: []
def mB_187_38 : List mm_I := (.iconst 0, 0, 0, 0, 0) :: mB_187_39
def mB_187_5 : List mm_I := (.iload 4, 0, 0, 0, 0) :: (.aload_n 0, 0, 0, 0, 0) :: (.getfield 247, 8, 1, 136, 0) :: (.if_icmp .ge 36, 47, 0, 0, 0) :: (.iload_n 3, 0, 0, 0, 0) :: (.aload_n 0, 0, 0, 0, 0) :: (.getfield 63, 8, 38, 108, 0) :: (.iload_n 1, 0, 0, 0, 0) :: (.bipush 10, 0, 0, 0, 0) :: (.iadd, 0, 0, 0, 0) :: (.iload 4, 0, 0, 0, 0) :: (.iadd, 0, 0, 0, 0) :: (.iaload, 0, 0, 0, 0) :: (.iload_n 2, 0, 0, 0, 0) :: (.if_icmp .ne 10, 38, 0, 0, 0) :: (.iconst 1, 0, 0, 0, 0) :: (.iload 4, 0, 0, 0, 0) :: (.ishl, 0, 0, 0, 0) :: (.goto 4, 39, 0, 0, 0) :: []
def mB_187_0 : List mm_I := (.iconst 0, 0, 0, 0, 0) :: (.istore_n 3, 0, 0, 0, 0) :: (.iconst 0, 0, 0, 0, 0) :: (.istore 4, 0, 0, 0, 0) :: mB_187_5
def mT_187 : List (Nat × List mm_I) := [(0, mB_187_0), (5, mB_187_5), (38, mB_187_38), (39, mB_187_39), (47, mB_187_47)]
-- 188: VillageBoardModel.worthOf(II)I
def mB_188_50 : List mm_I := (.iload_n 3, 0, 0, 0, 0) :: (.ireturn, 0, 0, 0, 0) :: []
def mB_188_42 : List mm_I := (.iadd, 0, 0, 0, 0) :: (.istore_n 3, 0, 0, 0, 0) :: (.iinc 4 1, 0, 0, 0, 0) :: (.goto (-42), 5, 0, 0, 0) :: []
def mB_188_41 : List mm_I := (.iconst 0, 0, 0, 0, 0) :: mB_188_42
def mB_188_5 : List mm_I := (.iload 4, 0, 0, 0, 0) :: (.aload_n 0, 0, 0, 0, 0) :: (.getfield 247, 8, 1, 136, 0) :: (.if_icmp .ge 39, 50, 0, 0, 0) :: (.iload_n 3, 0, 0, 0, 0) :: (.aload_n 0, 0, 0, 0, 0) :: (.getfield 63, 8, 38, 108, 0) :: (.iload_n 1, 0, 0, 0, 0) :: (.bipush 10, 0, 0, 0, 0) :: (.iadd, 0, 0, 0, 0) :: (.iload 4, 0, 0, 0, 0) :: (.iadd, 0, 0, 0, 0) :: (.iaload, 0, 0, 0, 0) :: (.iload_n 2, 0, 0, 0, 0) :: (.if_icmp .ne 13, 41, 0, 0, 0) :: (.aload_n 0, 0, 0, 0, 0) :: (.getfield 13, 8, 5, 92, 0) :: (.iload 4, 0, 0, 0, 0) :: (.iaload, 0, 0, 0, 0) :: (.goto 4, 42, 0, 0, 0) :: []
def mB_188_0 : List mm_I := (.iconst 0, 0, 0, 0, 0) :: (.istore_n 3, 0, 0, 0, 0) :: (.iconst 0, 0, 0, 0, 0) :: (.istore 4, 0, 0, 0, 0) :: mB_188_5
def mT_188 : List (Nat × List mm_I) := [(0, mB_188_0), (5, mB_188_5), (41, mB_188_41), (42, mB_188_42), (50, mB_188_50)]
-- 189: VillageBoardModel.isTaken(II)Z
def mB_189_53 : List mm_I := (.iconst 0, 0, 0, 0, 0) :: (.ireturn, 0, 0, 0, 0) :: []
def mB_189_47 : List mm_I := (.iinc 3 1, 0, 0, 0, 0) :: (.goto (-48), 2, 0, 0, 0) :: []
def mB_189_2 : List mm_I := (.iload_n 3, 0, 0, 0, 0) :: (.aload_n 0, 0, 0, 0, 0) :: (.getfield 247, 8, 1, 136, 0) :: (.if_icmp .ge 46, 53, 0, 0, 0) :: (.aload_n 0, 0, 0, 0, 0) :: (.getfield 63, 8, 38, 108, 0) :: (.iload_n 1, 0, 0, 0, 0) :: (.iconst 0, 0, 0, 0, 0) :: (.iadd, 0, 0, 0, 0) :: (.iload_n 3, 0, 0, 0, 0) :: (.iadd, 0, 0, 0, 0) :: (.iaload, 0, 0, 0, 0) :: (.iconst 1, 0, 0, 0, 0) :: (.aload_n 0, 0, 0, 0, 0) :: (.getfield 63, 8, 38, 108, 0) :: (.iload_n 1, 0, 0, 0, 0) :: (.iconst 0, 0, 0, 0, 0) :: (.iadd, 0, 0, 0, 0) :: (.iload_n 2, 0, 0, 0, 0) :: (.iadd, 0, 0, 0, 0) :: (.iaload, 0, 0, 0, 0) :: (.isub, 0, 0, 0, 0) :: (.if_icmp .ne 15, 47, 0, 0, 0) :: (.aload_n 0, 0, 0, 0, 0) :: (.iload_n 1, 0, 0, 0, 0) :: (.iload_n 3, 0, 0, 0, 0) :: (.iload_n 2, 0, 0, 0, 0) :: (.invokevirtual 285, 180, 4, 170, 39) :: (.ifCond .eq 5, 47, 0, 0, 0) :: (.iconst 1, 0, 0, 0, 0) :: (.ireturn, 0, 0, 0, 0) :: []
def mB_189_0 : List mm_I := (.iconst 0, 0, 0, 0, 0) :: (.istore_n 3, 0, 0, 0, 0) :: mB_189_2
def mT_189 : List (Nat × List mm_I) := [(0, mB_189_0), (2, mB_189_2), (47, mB_189_47), (53, mB_189_53)]
-- 190: VillageBoardModel.prised(II)I
def mB_190_56 : List mm_I := (.iload_n 3, 0, 0, 0, 0) :: (.ireturn, 0, 0, 0, 0) :: []
def mB_190_48 : List mm_I := (.ior, 0, 0, 0, 0) :: (.istore_n 3, 0, 0, 0, 0) :: (.iinc 4 1, 0, 0, 0, 0) :: (.goto (-48), 5, 0, 0, 0) :: []
def mB_190_47 : List mm_I := (.iconst 0, 0, 0, 0, 0) :: mB_190_48
def mB_190_5 : List mm_I := (.iload 4, 0, 0, 0, 0) :: (.aload_n 0, 0, 0, 0, 0) :: (.getfield 247, 8, 1, 136, 0) :: (.if_icmp .ge 45, 56, 0, 0, 0) :: (.iload_n 3, 0, 0, 0, 0) :: (.aload_n 0, 0, 0, 0, 0) :: (.getfield 63, 8, 38, 108, 0) :: (.iload_n 1, 0, 0, 0, 0) :: (.iconst 0, 0, 0, 0, 0) :: (.iadd, 0, 0, 0, 0) :: (.iload 4, 0, 0, 0, 0) :: (.iadd, 0, 0, 0, 0) :: (.iaload, 0, 0, 0, 0) :: (.iload_n 2, 0, 0, 0, 0) :: (.if_icmp .ne 20, 47, 0, 0, 0) :: (.aload_n 0, 0, 0, 0, 0) :: (.iload_n 1, 0, 0, 0, 0) :: (.iload 4, 0, 0, 0, 0) :: (.invokevirtual 298, 189, 3, 174, 34) :: (.ifCond .eq 10, 47, 0, 0, 0) :: (.iconst 1, 0, 0, 0, 0) :: (.iload 4, 0, 0, 0, 0) :: (.ishl, 0, 0, 0, 0) :: (.goto 4, 48, 0, 0, 0) :: []
def mB_190_0 : List mm_I := (.iconst 0, 0, 0, 0, 0) :: (.istore_n 3, 0, 0, 0, 0) :: (.iconst 0, 0, 0, 0, 0) :: (.istore 4, 0, 0, 0, 0) :: mB_190_5
def mT_190 : List (Nat × List mm_I) := [(0, mB_190_0), (5, mB_190_5), (47, mB_190_47), (48, mB_190_48), (56, mB_190_56)]
-- 191: VillageBoardModel.hanging(I)I
def mB_191_16 : List mm_I := (.aload_n 0, 0, 0, 0, 0) :: (.iconst 0, 0, 0, 0, 0) :: (.iload_n 2, 0, 0, 0, 0) :: (.invokevirtual 302, 190, 3, 175, 19) :: (.istore_n 3, 0, 0, 0, 0) :: (.aload_n 0, 0, 0, 0, 0) :: (.getfield 63, 8, 38, 108, 0) :: (.iconst 0, 0, 0, 0, 0) :: (.iload_n 1, 0, 0, 0, 0) :: (.iadd, 0, 0, 0, 0) :: (.iconst 2, 0, 0, 0, 0) :: (.iastore, 0, 0, 0, 0) :: (.aload_n 0, 0, 0, 0, 0) :: (.iconst 0, 0, 0, 0, 0) :: (.iload_n 2, 0, 0, 0, 0) :: (.invokevirtual 302, 190, 3, 175, 35) :: (.istore 4, 0, 0, 0, 0) :: (.aload_n 0, 0, 0, 0, 0) :: (.getfield 63, 8, 38, 108, 0) :: (.iconst 0, 0, 0, 0, 0) :: (.iload_n 1, 0, 0, 0, 0) :: (.iadd, 0, 0, 0, 0) :: (.iload_n 2, 0, 0, 0, 0) :: (.iastore, 0, 0, 0, 0) :: (.iload 4, 0, 0, 0, 0) :: (.iload_n 3, 0, 0, 0, 0) :: (.iconst (-1), 0, 0, 0, 0) :: (.ixor, 0, 0, 0, 0) :: (.iand, 0, 0, 0, 0) :: (.iconst 1, 0, 0, 0, 0) :: (.iload_n 1, 0, 0, 0, 0) :: (.ishl, 0, 0, 0, 0) :: (.iconst (-1), 0, 0, 0, 0) :: (.ixor, 0, 0, 0, 0) :: (.iand, 0, 0, 0, 0) :: (.ireturn, 0, 0, 0, 0) :: []
def mB_191_0 : List mm_I := (.aload_n 0, 0, 0, 0, 0) :: (.getfield 63, 8, 38, 108, 0) :: (.iconst 0, 0, 0, 0, 0) :: (.iload_n 1, 0, 0, 0, 0) :: (.iadd, 0, 0, 0, 0) :: (.iaload, 0, 0, 0, 0) :: (.istore_n 2, 0, 0, 0, 0) :: (.iload_n 2, 0, 0, 0, 0) :: (.iconst 2, 0, 0, 0, 0) :: (.if_icmp .ne 5, 16, 0, 0, 0) :: (.iconst 0, 0, 0, 0, 0) :: (.ireturn, 0, 0, 0, 0) :: []
def mT_191 : List (Nat × List mm_I) := [(0, mB_191_0), (16, mB_191_16)]
-- 192: VillageBoardModel.movesOf(II)I
def mB_192_37 : List mm_I := (.iload_n 3, 0, 0, 0, 0) :: (.ireturn, 0, 0, 0, 0) :: []
def mB_192_29 : List mm_I := (.iadd, 0, 0, 0, 0) :: (.istore_n 3, 0, 0, 0, 0) :: (.iinc 4 1, 0, 0, 0, 0) :: (.goto (-29), 5, 0, 0, 0) :: []
def mB_192_28 : List mm_I := (.iconst 0, 0, 0, 0, 0) :: mB_192_29
def mB_192_5 : List mm_I := (.iload 4, 0, 0, 0, 0) :: (.bipush 100, 0, 0, 0, 0) :: (.if_icmp .ge 28, 37, 0, 0, 0) :: (.iload_n 3, 0, 0, 0, 0) :: (.aload_n 0, 0, 0, 0, 0) :: (.iload_n 1, 0, 0, 0, 0) :: (.iload 4, 0, 0, 0, 0) :: (.iload_n 2, 0, 0, 0, 0) :: (.invokevirtual 292, 181, 4, 172, 18) :: (.ifCond .eq 7, 28, 0, 0, 0) :: (.iconst 1, 0, 0, 0, 0) :: (.goto 4, 29, 0, 0, 0) :: []
def mB_192_0 : List mm_I := (.iconst 0, 0, 0, 0, 0) :: (.istore_n 3, 0, 0, 0, 0) :: (.iconst 0, 0, 0, 0, 0) :: (.istore 4, 0, 0, 0, 0) :: mB_192_5
def mT_192 : List (Nat × List mm_I) := [(0, mB_192_0), (5, mB_192_5), (28, mB_192_28), (29, mB_192_29), (37, mB_192_37)]
-- 193: VillageBoardModel.count(I)I
def mB_193_158 : List mm_I := (.aload_n 0, 0, 0, 0, 0) :: (.getfield 36, 8, 14, 99, 0) :: (.iload_n 1, 0, 0, 0, 0) :: (.bipush 12, 0, 0, 0, 0) :: (.isub, 0, 0, 0, 0) :: (.iaload, 0, 0, 0, 0) :: (.ireturn, 0, 0, 0, 0) :: []
def mB_193_153 : List mm_I := (.aload_n 0, 0, 0, 0, 0) :: (.getfield 96, 8, 11, 119, 0) :: (.ireturn, 0, 0, 0, 0) :: []
def mB_193_148 : List mm_I := (.aload_n 0, 0, 0, 0, 0) :: (.getfield 263, 8, 45, 140, 0) :: (.ireturn, 0, 0, 0, 0) :: []
def mB_193_143 : List mm_I := (.aload_n 0, 0, 0, 0, 0) :: (.getfield 260, 8, 40, 139, 0) :: (.ireturn, 0, 0, 0, 0) :: []
def mB_193_136 : List mm_I := (.aload_n 0, 0, 0, 0, 0) :: (.iconst 0, 0, 0, 0, 0) :: (.iconst 1, 0, 0, 0, 0) :: (.invokevirtual 311, 187, 3, 178, 139) :: (.ireturn, 0, 0, 0, 0) :: []
def mB_193_129 : List mm_I := (.aload_n 0, 0, 0, 0, 0) :: (.iconst 0, 0, 0, 0, 0) :: (.iconst 0, 0, 0, 0, 0) :: (.invokevirtual 311, 187, 3, 178, 132) :: (.ireturn, 0, 0, 0, 0) :: []
def mB_193_122 : List mm_I := (.aload_n 0, 0, 0, 0, 0) :: (.iconst 0, 0, 0, 0, 0) :: (.iconst 1, 0, 0, 0, 0) :: (.invokevirtual 308, 186, 3, 177, 125) :: (.ireturn, 0, 0, 0, 0) :: []
def mB_193_115 : List mm_I := (.aload_n 0, 0, 0, 0, 0) :: (.iconst 0, 0, 0, 0, 0) :: (.iconst 0, 0, 0, 0, 0) :: (.invokevirtual 308, 186, 3, 177, 118) :: (.ireturn, 0, 0, 0, 0) :: []
def mB_193_107 : List mm_I := (.aload_n 0, 0, 0, 0, 0) :: (.getfield 63, 8, 38, 108, 0) :: (.bipush 43, 0, 0, 0, 0) :: (.iaload, 0, 0, 0, 0) :: (.ireturn, 0, 0, 0, 0) :: []
def mB_193_99 : List mm_I := (.aload_n 0, 0, 0, 0, 0) :: (.getfield 63, 8, 38, 108, 0) :: (.bipush 42, 0, 0, 0, 0) :: (.iaload, 0, 0, 0, 0) :: (.ireturn, 0, 0, 0, 0) :: []
def mB_193_94 : List mm_I := (.aload_n 0, 0, 0, 0, 0) :: (.getfield 253, 8, 3, 138, 0) :: (.ireturn, 0, 0, 0, 0) :: []
def mB_193_89 : List mm_I := (.aload_n 0, 0, 0, 0, 0) :: (.getfield 250, 8, 2, 137, 0) :: (.ireturn, 0, 0, 0, 0) :: []
def mB_193_84 : List mm_I := (.aload_n 0, 0, 0, 0, 0) :: (.getfield 247, 8, 1, 136, 0) :: (.ireturn, 0, 0, 0, 0) :: []
def mB_193_22 : List mm_I := (.iload_n 1, 0, 0, 0, 0) :: (.tableswitch 135 0 11 #[61, 66, 71, 76, 84, 92, 99, 106, 113, 120, 125, 130], 23, 0, 0, 0) :: []
def mB_193_0 : List mm_I := (.aload_n 0, 0, 0, 0, 0) :: (.iconst 0, 0, 0, 0, 0) :: (.putfield 93, 8, 0, 118, 0) :: (.aload_n 0, 0, 0, 0, 0) :: (.iload_n 1, 0, 0, 0, 0) :: (.iconst 0, 0, 0, 0, 0) :: (.bipush 14, 0, 0, 0, 0) :: (.invokestatic 305, 138, 3, 176, 10) :: (.iconst 1, 0, 0, 0, 0) :: (.invokevirtual 240, 137, 3, 163, 14) :: (.ifCond .ne 5, 22, 0, 0, 0) :: (.iconst 0, 0, 0, 0, 0) :: (.ireturn, 0, 0, 0, 0) :: []
def mT_193 : List (Nat × List mm_I) := [(0, mB_193_0), (22, mB_193_22), (84, mB_193_84), (89, mB_193_89), (94, mB_193_94), (99, mB_193_99), (107, mB_193_107), (115, mB_193_115), (122, mB_193_122), (129, mB_193_129), (136, mB_193_136), (143, mB_193_143), (148, mB_193_148), (153, mB_193_153), (158, mB_193_158)]
-- 194: VillageBoardModel.isVillage(I)Z
def mB_194_18 : List mm_I := (.iconst 1, 0, 0, 0, 0) :: (.invokevirtual 240, 137, 3, 163, 19) :: (.ireturn, 0, 0, 0, 0) :: []
def mB_194_17 : List mm_I := (.iconst 0, 0, 0, 0, 0) :: mB_194_18
def mB_194_0 : List mm_I := (.aload_n 0, 0, 0, 0, 0) :: (.iload_n 1, 0, 0, 0, 0) :: (.ifCond .lt 15, 17, 0, 0, 0) :: (.iload_n 1, 0, 0, 0, 0) :: (.aload_n 0, 0, 0, 0, 0) :: (.getfield 247, 8, 1, 136, 0) :: (.if_icmp .ge 7, 17, 0, 0, 0) :: (.iconst 1, 0, 0, 0, 0) :: (.goto 4, 18, 0, 0, 0) :: []
def mT_194 : List (Nat × List mm_I) := [(0, mB_194_0), (17, mB_194_17), (18, mB_194_18)]
-- 195: VillageBoardModel.isSide(I)Z
def mB_195_0 : List mm_I := (.aload_n 0, 0, 0, 0, 0) :: (.iload_n 1, 0, 0, 0, 0) :: (.iconst 0, 0, 0, 0, 0) :: (.iconst 1, 0, 0, 0, 0) :: (.invokestatic 305, 138, 3, 176, 4) :: (.iconst 1, 0, 0, 0, 0) :: (.invokevirtual 240, 137, 3, 163, 8) :: (.ireturn, 0, 0, 0, 0) :: []
def mT_195 : List (Nat × List mm_I) := [(0, mB_195_0)]
-- 196: VillageBoardModel.isWhat(II)Z
def mB_196_0 : List mm_I := (.aload_n 0, 0, 0, 0, 0) :: (.iload_n 1, 0, 0, 0, 0) :: (.iconst 0, 0, 0, 0, 0) :: (.iload_n 2, 0, 0, 0, 0) :: (.invokestatic 305, 138, 3, 176, 4) :: (.iconst 1, 0, 0, 0, 0) :: (.invokevirtual 240, 137, 3, 163, 8) :: (.ireturn, 0, 0, 0, 0) :: []
def mT_196 : List (Nat × List mm_I) := [(0, mB_196_0)]
-- 197: VillageBoardModel.roadsOf(I)I
def mB_197_40 : List mm_I := (.iload_n 2, 0, 0, 0, 0) :: (.ireturn, 0, 0, 0, 0) :: []
def mB_197_32 : List mm_I := (.iadd, 0, 0, 0, 0) :: (.istore_n 2, 0, 0, 0, 0) :: (.iinc 3 1, 0, 0, 0, 0) :: (.goto (-33), 4, 0, 0, 0) :: []
def mB_197_31 : List mm_I := (.iconst 0, 0, 0, 0, 0) :: mB_197_32
def mB_197_4 : List mm_I := (.iload_n 3, 0, 0, 0, 0) :: (.aload_n 0, 0, 0, 0, 0) :: (.getfield 247, 8, 1, 136, 0) :: (.if_icmp .ge 31, 40, 0, 0, 0) :: (.iload_n 2, 0, 0, 0, 0) :: (.aload_n 0, 0, 0, 0, 0) :: (.getfield 26, 8, 9, 96, 0) :: (.bipush 10, 0, 0, 0, 0) :: (.iload_n 1, 0, 0, 0, 0) :: (.imul, 0, 0, 0, 0) :: (.iload_n 3, 0, 0, 0, 0) :: (.iadd, 0, 0, 0, 0) :: (.baload, 0, 0, 0, 0) :: (.ifCond .eq 7, 31, 0, 0, 0) :: (.iconst 1, 0, 0, 0, 0) :: (.goto 4, 32, 0, 0, 0) :: []
def mB_197_0 : List mm_I := (.iconst 0, 0, 0, 0, 0) :: (.istore_n 2, 0, 0, 0, 0) :: (.iconst 0, 0, 0, 0, 0) :: (.istore_n 3, 0, 0, 0, 0) :: mB_197_4
def mT_197 : List (Nat × List mm_I) := [(0, mB_197_0), (4, mB_197_4), (31, mB_197_31), (32, mB_197_32), (40, mB_197_40)]
-- 198: VillageBoardModel.village(II)I
def mB_198_99 : List mm_I := (.aload_n 0, 0, 0, 0, 0) :: (.getfield 63, 8, 38, 108, 0) :: (.bipush 20, 0, 0, 0, 0) :: (.bipush 10, 0, 0, 0, 0) :: (.iload_n 2, 0, 0, 0, 0) :: (.iconst 5, 0, 0, 0, 0) :: (.isub, 0, 0, 0, 0) :: (.imul, 0, 0, 0, 0) :: (.iadd, 0, 0, 0, 0) :: (.iload_n 1, 0, 0, 0, 0) :: (.iadd, 0, 0, 0, 0) :: (.iaload, 0, 0, 0, 0) :: (.ireturn, 0, 0, 0, 0) :: []
def mB_198_93 : List mm_I := (.aload_n 0, 0, 0, 0, 0) :: (.iload_n 1, 0, 0, 0, 0) :: (.invokevirtual 320, 197, 2, 181, 95) :: (.ireturn, 0, 0, 0, 0) :: []
def mB_198_83 : List mm_I := (.aload_n 0, 0, 0, 0, 0) :: (.getfield 63, 8, 38, 108, 0) :: (.bipush 10, 0, 0, 0, 0) :: (.iload_n 1, 0, 0, 0, 0) :: (.iadd, 0, 0, 0, 0) :: (.iaload, 0, 0, 0, 0) :: (.ireturn, 0, 0, 0, 0) :: []
def mB_198_74 : List mm_I := (.aload_n 0, 0, 0, 0, 0) :: (.getfield 63, 8, 38, 108, 0) :: (.iconst 0, 0, 0, 0, 0) :: (.iload_n 1, 0, 0, 0, 0) :: (.iadd, 0, 0, 0, 0) :: (.iaload, 0, 0, 0, 0) :: (.ireturn, 0, 0, 0, 0) :: []
def mB_198_67 : List mm_I := (.aload_n 0, 0, 0, 0, 0) :: (.getfield 17, 8, 6, 93, 0) :: (.iload_n 1, 0, 0, 0, 0) :: (.iaload, 0, 0, 0, 0) :: (.ireturn, 0, 0, 0, 0) :: []
def mB_198_60 : List mm_I := (.aload_n 0, 0, 0, 0, 0) :: (.getfield 13, 8, 5, 92, 0) :: (.iload_n 1, 0, 0, 0, 0) :: (.iaload, 0, 0, 0, 0) :: (.ireturn, 0, 0, 0, 0) :: []
def mB_198_25 : List mm_I := (.iload_n 2, 0, 0, 0, 0) :: (.tableswitch 73 0 4 #[34, 41, 48, 57, 67], 26, 0, 0, 0) :: []
def mB_198_23 : List mm_I := (.iconst 0, 0, 0, 0, 0) :: (.ireturn, 0, 0, 0, 0) :: []
def mB_198_0 : List mm_I := (.aload_n 0, 0, 0, 0, 0) :: (.iconst 0, 0, 0, 0, 0) :: (.putfield 93, 8, 0, 118, 0) :: (.aload_n 0, 0, 0, 0, 0) :: (.iload_n 1, 0, 0, 0, 0) :: (.invokevirtual 314, 194, 2, 179, 7) :: (.ifCond .eq 13, 23, 0, 0, 0) :: (.aload_n 0, 0, 0, 0, 0) :: (.iload_n 2, 0, 0, 0, 0) :: (.bipush 6, 0, 0, 0, 0) :: (.invokevirtual 317, 196, 3, 180, 17) :: (.ifCond .ne 5, 25, 0, 0, 0) :: mB_198_23
def mT_198 : List (Nat × List mm_I) := [(0, mB_198_0), (23, mB_198_23), (25, mB_198_25), (60, mB_198_60), (67, mB_198_67), (74, mB_198_74), (83, mB_198_83), (93, mB_198_93), (99, mB_198_99)]
-- 199: VillageBoardModel.pinned(I)I
def mB_199_48 : List mm_I := (.iload_n 2, 0, 0, 0, 0) :: (.ireturn, 0, 0, 0, 0) :: []
def mB_199_40 : List mm_I := (.ior, 0, 0, 0, 0) :: (.istore_n 2, 0, 0, 0, 0) :: (.iinc 3 1, 0, 0, 0, 0) :: (.goto (-41), 4, 0, 0, 0) :: []
def mB_199_39 : List mm_I := (.iconst 0, 0, 0, 0, 0) :: mB_199_40
def mB_199_4 : List mm_I := (.iload_n 3, 0, 0, 0, 0) :: (.aload_n 0, 0, 0, 0, 0) :: (.getfield 247, 8, 1, 136, 0) :: (.if_icmp .ge 39, 48, 0, 0, 0) :: (.iload_n 2, 0, 0, 0, 0) :: (.aload_n 0, 0, 0, 0, 0) :: (.getfield 63, 8, 38, 108, 0) :: (.iconst 0, 0, 0, 0, 0) :: (.iload_n 3, 0, 0, 0, 0) :: (.iadd, 0, 0, 0, 0) :: (.iaload, 0, 0, 0, 0) :: (.iload_n 1, 0, 0, 0, 0) :: (.if_icmp .ne 17, 39, 0, 0, 0) :: (.aload_n 0, 0, 0, 0, 0) :: (.iload_n 3, 0, 0, 0, 0) :: (.invokevirtual 323, 191, 2, 182, 27) :: (.ifCond .eq 9, 39, 0, 0, 0) :: (.iconst 1, 0, 0, 0, 0) :: (.iload_n 3, 0, 0, 0, 0) :: (.ishl, 0, 0, 0, 0) :: (.goto 4, 40, 0, 0, 0) :: []
def mB_199_0 : List mm_I := (.iconst 0, 0, 0, 0, 0) :: (.istore_n 2, 0, 0, 0, 0) :: (.iconst 0, 0, 0, 0, 0) :: (.istore_n 3, 0, 0, 0, 0) :: mB_199_4
def mT_199 : List (Nat × List mm_I) := [(0, mB_199_0), (4, mB_199_4), (39, mB_199_39), (40, mB_199_40), (48, mB_199_48)]
-- 200: VillageBoardModel.side(II)I
def mB_200_100 : List mm_I := (.aload_n 0, 0, 0, 0, 0) :: (.iconst 0, 0, 0, 0, 0) :: (.iload_n 1, 0, 0, 0, 0) :: (.invokevirtual 335, 188, 3, 186, 103) :: (.ireturn, 0, 0, 0, 0) :: []
def mB_200_93 : List mm_I := (.aload_n 0, 0, 0, 0, 0) :: (.iconst 0, 0, 0, 0, 0) :: (.iload_n 1, 0, 0, 0, 0) :: (.invokevirtual 332, 192, 3, 185, 96) :: (.ireturn, 0, 0, 0, 0) :: []
def mB_200_87 : List mm_I := (.aload_n 0, 0, 0, 0, 0) :: (.iload_n 1, 0, 0, 0, 0) :: (.invokevirtual 329, 199, 2, 184, 89) :: (.ireturn, 0, 0, 0, 0) :: []
def mB_200_80 : List mm_I := (.aload_n 0, 0, 0, 0, 0) :: (.iconst 0, 0, 0, 0, 0) :: (.iload_n 1, 0, 0, 0, 0) :: (.invokevirtual 302, 190, 3, 175, 83) :: (.ireturn, 0, 0, 0, 0) :: []
def mB_200_70 : List mm_I := (.aload_n 0, 0, 0, 0, 0) :: (.getfield 63, 8, 38, 108, 0) :: (.bipush 44, 0, 0, 0, 0) :: (.iload_n 1, 0, 0, 0, 0) :: (.iadd, 0, 0, 0, 0) :: (.iaload, 0, 0, 0, 0) :: (.ireturn, 0, 0, 0, 0) :: []
def mB_200_60 : List mm_I := (.aload_n 0, 0, 0, 0, 0) :: (.getfield 63, 8, 38, 108, 0) :: (.bipush 40, 0, 0, 0, 0) :: (.iload_n 1, 0, 0, 0, 0) :: (.iadd, 0, 0, 0, 0) :: (.iaload, 0, 0, 0, 0) :: (.ireturn, 0, 0, 0, 0) :: []
def mB_200_24 : List mm_I := (.iload_n 2, 0, 0, 0, 0) :: (.tableswitch 75 0 4 #[35, 45, 55, 62, 68], 25, 0, 0, 0) :: []
def mB_200_22 : List mm_I := (.iconst 0, 0, 0, 0, 0) :: (.ireturn, 0, 0, 0, 0) :: []
def mB_200_0 : List mm_I := (.aload_n 0, 0, 0, 0, 0) :: (.iconst 0, 0, 0, 0, 0) :: (.putfield 93, 8, 0, 118, 0) :: (.aload_n 0, 0, 0, 0, 0) :: (.iload_n 1, 0, 0, 0, 0) :: (.invokevirtual 326, 195, 2, 183, 7) :: (.ifCond .eq 12, 22, 0, 0, 0) :: (.aload_n 0, 0, 0, 0, 0) :: (.iload_n 2, 0, 0, 0, 0) :: (.iconst 5, 0, 0, 0, 0) :: (.invokevirtual 317, 196, 3, 180, 16) :: (.ifCond .ne 5, 24, 0, 0, 0) :: mB_200_22
def mT_200 : List (Nat × List mm_I) := [(0, mB_200_0), (22, mB_200_22), (24, mB_200_24), (60, mB_200_60), (70, mB_200_70), (80, mB_200_80), (87, mB_200_87), (93, mB_200_93), (100, mB_200_100)]
-- 201: VillageBoardModel.road(II)Z
def mB_201_40 : List mm_I := (.ireturn, 0, 0, 0, 0) :: []
def mB_201_39 : List mm_I := (.iconst 0, 0, 0, 0, 0) :: mB_201_40
def mB_201_0 : List mm_I := (.aload_n 0, 0, 0, 0, 0) :: (.iconst 0, 0, 0, 0, 0) :: (.putfield 93, 8, 0, 118, 0) :: (.aload_n 0, 0, 0, 0, 0) :: (.iload_n 1, 0, 0, 0, 0) :: (.invokevirtual 314, 194, 2, 179, 7) :: (.ifCond .eq 29, 39, 0, 0, 0) :: (.aload_n 0, 0, 0, 0, 0) :: (.iload_n 2, 0, 0, 0, 0) :: (.invokevirtual 314, 194, 2, 179, 15) :: (.ifCond .eq 21, 39, 0, 0, 0) :: (.aload_n 0, 0, 0, 0, 0) :: (.getfield 26, 8, 9, 96, 0) :: (.bipush 10, 0, 0, 0, 0) :: (.iload_n 1, 0, 0, 0, 0) :: (.imul, 0, 0, 0, 0) :: (.iload_n 2, 0, 0, 0, 0) :: (.iadd, 0, 0, 0, 0) :: (.baload, 0, 0, 0, 0) :: (.ifCond .eq 7, 39, 0, 0, 0) :: (.iconst 1, 0, 0, 0, 0) :: (.goto 4, 40, 0, 0, 0) :: []
def mT_201 : List (Nat × List mm_I) := [(0, mB_201_0), (39, mB_201_39), (40, mB_201_40)]
-- 202: VillageBoardModel.lawful(II)Z
def mB_202_36 : List mm_I := (.ireturn, 0, 0, 0, 0) :: []
def mB_202_35 : List mm_I := (.iconst 0, 0, 0, 0, 0) :: mB_202_36
def mB_202_0 : List mm_I := (.aload_n 0, 0, 0, 0, 0) :: (.iconst 0, 0, 0, 0, 0) :: (.putfield 93, 8, 0, 118, 0) :: (.aload_n 0, 0, 0, 0, 0) :: (.iload_n 1, 0, 0, 0, 0) :: (.invokevirtual 314, 194, 2, 179, 7) :: (.ifCond .eq 25, 35, 0, 0, 0) :: (.aload_n 0, 0, 0, 0, 0) :: (.iload_n 2, 0, 0, 0, 0) :: (.invokevirtual 314, 194, 2, 179, 15) :: (.ifCond .eq 17, 35, 0, 0, 0) :: (.aload_n 0, 0, 0, 0, 0) :: (.iconst 0, 0, 0, 0, 0) :: (.iload_n 1, 0, 0, 0, 0) :: (.iload_n 2, 0, 0, 0, 0) :: (.invokevirtual 285, 180, 4, 170, 25) :: (.ifCond .eq 7, 35, 0, 0, 0) :: (.iconst 1, 0, 0, 0, 0) :: (.goto 4, 36, 0, 0, 0) :: []
def mT_202 : List (Nat × List mm_I) := [(0, mB_202_0), (35, mB_202_35), (36, mB_202_36)]
-- 203: VillageBoardModel.move(II)I
def mB_203_84 : List mm_I := (.istore_n 3, 0, 0, 0, 0) :: (.aload_n 0, 0, 0, 0, 0) :: (.iconst 0, 0, 0, 0, 0) :: (.bipush 10, 0, 0, 0, 0) :: (.iload_n 1, 0, 0, 0, 0) :: (.imul, 0, 0, 0, 0) :: (.iload_n 2, 0, 0, 0, 0) :: (.iadd, 0, 0, 0, 0) :: (.invokevirtual 344, 183, 3, 189, 93) :: (.iload_n 3, 0, 0, 0, 0) :: (.ireturn, 0, 0, 0, 0) :: []
def mB_203_83 : List mm_I := (.iconst 1, 0, 0, 0, 0) :: mB_203_84
def mB_203_63 : List mm_I := (.aload_n 0, 0, 0, 0, 0) :: (.invokevirtual 341, 172, 1, 188, 64) :: (.aload_n 0, 0, 0, 0, 0) :: (.getfield 63, 8, 38, 108, 0) :: (.iconst 0, 0, 0, 0, 0) :: (.iload_n 2, 0, 0, 0, 0) :: (.iadd, 0, 0, 0, 0) :: (.iaload, 0, 0, 0, 0) :: (.iconst 2, 0, 0, 0, 0) :: (.if_icmp .ne 7, 83, 0, 0, 0) :: (.iconst 0, 0, 0, 0, 0) :: (.goto 4, 84, 0, 0, 0) :: []
def mB_203_57 : List mm_I := (.aload_n 0, 0, 0, 0, 0) :: (.iconst 1, 0, 0, 0, 0) :: (.invokevirtual 338, 173, 2, 187, 59) :: (.ireturn, 0, 0, 0, 0) :: []
def mB_203_23 : List mm_I := (.aload_n 0, 0, 0, 0, 0) :: (.getfield 63, 8, 38, 108, 0) :: (.bipush 42, 0, 0, 0, 0) :: (.iaload, 0, 0, 0, 0) :: (.sipush 999, 0, 0, 0, 0) :: (.if_icmp .eq 24, 57, 0, 0, 0) :: (.aload_n 0, 0, 0, 0, 0) :: (.iconst 0, 0, 0, 0, 0) :: (.bipush 10, 0, 0, 0, 0) :: (.iload_n 1, 0, 0, 0, 0) :: (.imul, 0, 0, 0, 0) :: (.iload_n 2, 0, 0, 0, 0) :: (.iadd, 0, 0, 0, 0) :: (.aload_n 0, 0, 0, 0, 0) :: (.getfield 63, 8, 38, 108, 0) :: (.bipush 43, 0, 0, 0, 0) :: (.iaload, 0, 0, 0, 0) :: (.invokevirtual 292, 181, 4, 172, 51) :: (.ifCond .ne 9, 63, 0, 0, 0) :: mB_203_57
def mB_203_21 : List mm_I := (.iconst 0, 0, 0, 0, 0) :: (.ireturn, 0, 0, 0, 0) :: []
def mB_203_0 : List mm_I := (.aload_n 0, 0, 0, 0, 0) :: (.iconst 0, 0, 0, 0, 0) :: (.putfield 93, 8, 0, 118, 0) :: (.aload_n 0, 0, 0, 0, 0) :: (.iload_n 1, 0, 0, 0, 0) :: (.invokevirtual 314, 194, 2, 179, 7) :: (.ifCond .eq 11, 21, 0, 0, 0) :: (.aload_n 0, 0, 0, 0, 0) :: (.iload_n 2, 0, 0, 0, 0) :: (.invokevirtual 314, 194, 2, 179, 15) :: (.ifCond .ne 5, 23, 0, 0, 0) :: mB_203_21
def mT_203 : List (Nat × List mm_I) := [(0, mB_203_0), (21, mB_203_21), (23, mB_203_23), (57, mB_203_57), (63, mB_203_63), (83, mB_203_83), (84, mB_203_84)]
-- 204: VillageBoardModel.pass()I
def mB_204_24 : List mm_I := (.aload_n 0, 0, 0, 0, 0) :: (.invokevirtual 341, 172, 1, 188, 25) :: (.aload_n 0, 0, 0, 0, 0) :: (.iconst 0, 0, 0, 0, 0) :: (.bipush 100, 0, 0, 0, 0) :: (.invokevirtual 344, 183, 3, 189, 32) :: (.aload_n 0, 0, 0, 0, 0) :: (.getfield 63, 8, 38, 108, 0) :: (.bipush 42, 0, 0, 0, 0) :: (.iaload, 0, 0, 0, 0) :: (.ireturn, 0, 0, 0, 0) :: []
def mB_204_0 : List mm_I := (.aload_n 0, 0, 0, 0, 0) :: (.iconst 0, 0, 0, 0, 0) :: (.putfield 93, 8, 0, 118, 0) :: (.aload_n 0, 0, 0, 0, 0) :: (.getfield 63, 8, 38, 108, 0) :: (.bipush 42, 0, 0, 0, 0) :: (.iaload, 0, 0, 0, 0) :: (.sipush 999, 0, 0, 0, 0) :: (.if_icmp .ne 9, 24, 0, 0, 0) :: (.aload_n 0, 0, 0, 0, 0) :: (.iconst 1, 0, 0, 0, 0) :: (.invokevirtual 338, 173, 2, 187, 20) :: (.ireturn, 0, 0, 0, 0) :: []
def mT_204 : List (Nat × List mm_I) := [(0, mB_204_0), (24, mB_204_24)]
-- 205: VillageBoardModel.fly(II)Z
def mB_205_61 : List mm_I := (.aload_n 0, 0, 0, 0, 0) :: (.invokevirtual 341, 172, 1, 188, 62) :: (.aload_n 0, 0, 0, 0, 0) :: (.iconst 0, 0, 0, 0, 0) :: (.iload_n 1, 0, 0, 0, 0) :: (.iload_n 2, 0, 0, 0, 0) :: (.invokevirtual 289, 182, 4, 171, 69) :: (.iconst 1, 0, 0, 0, 0) :: (.ireturn, 0, 0, 0, 0) :: []
def mB_205_60 : List mm_I := (.ireturn, 0, 0, 0, 0) :: []
def mB_205_59 : List mm_I := (.iconst 0, 0, 0, 0, 0) :: mB_205_60
def mB_205_47 : List mm_I := (.aload_n 0, 0, 0, 0, 0) :: (.iconst 1, 0, 0, 0, 0) :: (.invokevirtual 338, 173, 2, 187, 49) :: (.ifCond .le 7, 59, 0, 0, 0) :: (.iconst 1, 0, 0, 0, 0) :: (.goto 4, 60, 0, 0, 0) :: []
def mB_205_23 : List mm_I := (.aload_n 0, 0, 0, 0, 0) :: (.getfield 63, 8, 38, 108, 0) :: (.iconst 0, 0, 0, 0, 0) :: (.iload_n 1, 0, 0, 0, 0) :: (.iadd, 0, 0, 0, 0) :: (.iaload, 0, 0, 0, 0) :: (.iconst 2, 0, 0, 0, 0) :: (.if_icmp .eq 15, 47, 0, 0, 0) :: (.aload_n 0, 0, 0, 0, 0) :: (.getfield 63, 8, 38, 108, 0) :: (.iconst 0, 0, 0, 0, 0) :: (.iload_n 2, 0, 0, 0, 0) :: (.iadd, 0, 0, 0, 0) :: (.iaload, 0, 0, 0, 0) :: (.iconst 2, 0, 0, 0, 0) :: (.if_icmp .eq 17, 61, 0, 0, 0) :: mB_205_47
def mB_205_21 : List mm_I := (.iconst 0, 0, 0, 0, 0) :: (.ireturn, 0, 0, 0, 0) :: []
def mB_205_0 : List mm_I := (.aload_n 0, 0, 0, 0, 0) :: (.iconst 0, 0, 0, 0, 0) :: (.putfield 93, 8, 0, 118, 0) :: (.aload_n 0, 0, 0, 0, 0) :: (.iload_n 1, 0, 0, 0, 0) :: (.invokevirtual 314, 194, 2, 179, 7) :: (.ifCond .eq 11, 21, 0, 0, 0) :: (.aload_n 0, 0, 0, 0, 0) :: (.iload_n 2, 0, 0, 0, 0) :: (.invokevirtual 314, 194, 2, 179, 15) :: (.ifCond .ne 5, 23, 0, 0, 0) :: mB_205_21
def mT_205 : List (Nat × List mm_I) := [(0, mB_205_0), (21, mB_205_21), (23, mB_205_23), (47, mB_205_47), (59, mB_205_59), (60, mB_205_60), (61, mB_205_61)]
-- 206: VillageBoardModel.teach(II)I
def mB_206_36 : List mm_I := (.aload_n 0, 0, 0, 0, 0) :: (.invokevirtual 341, 172, 1, 188, 37) :: (.aload_n 0, 0, 0, 0, 0) :: (.getfield 63, 8, 38, 108, 0) :: (.bipush 44, 0, 0, 0, 0) :: (.iload_n 1, 0, 0, 0, 0) :: (.iadd, 0, 0, 0, 0) :: (.iaload, 0, 0, 0, 0) :: (.istore_n 3, 0, 0, 0, 0) :: (.aload_n 0, 0, 0, 0, 0) :: (.getfield 63, 8, 38, 108, 0) :: (.bipush 44, 0, 0, 0, 0) :: (.iload_n 1, 0, 0, 0, 0) :: (.iadd, 0, 0, 0, 0) :: (.iload_n 2, 0, 0, 0, 0) :: (.iastore, 0, 0, 0, 0) :: (.iload_n 3, 0, 0, 0, 0) :: (.ireturn, 0, 0, 0, 0) :: []
def mB_206_28 : List mm_I := (.aload_n 0, 0, 0, 0, 0) :: (.iconst 1, 0, 0, 0, 0) :: (.invokevirtual 338, 173, 2, 187, 30) :: (.iconst 1, 0, 0, 0, 0) :: (.isub, 0, 0, 0, 0) :: (.ireturn, 0, 0, 0, 0) :: []
def mB_206_15 : List mm_I := (.iload_n 2, 0, 0, 0, 0) :: (.iconst (-1), 0, 0, 0, 0) :: (.if_icmp .lt 11, 28, 0, 0, 0) :: (.iload_n 2, 0, 0, 0, 0) :: (.aload_n 0, 0, 0, 0, 0) :: (.getfield 253, 8, 3, 138, 0) :: (.if_icmp .lt 11, 36, 0, 0, 0) :: mB_206_28
def mB_206_0 : List mm_I := (.aload_n 0, 0, 0, 0, 0) :: (.iconst 0, 0, 0, 0, 0) :: (.putfield 93, 8, 0, 118, 0) :: (.aload_n 0, 0, 0, 0, 0) :: (.iload_n 1, 0, 0, 0, 0) :: (.invokevirtual 326, 195, 2, 183, 7) :: (.ifCond .ne 5, 15, 0, 0, 0) :: (.iconst 0, 0, 0, 0, 0) :: (.ireturn, 0, 0, 0, 0) :: []
def mT_206 : List (Nat × List mm_I) := [(0, mB_206_0), (15, mB_206_15), (28, mB_206_28), (36, mB_206_36)]
-- 207: VillageBoardModel.play(I)I
def mB_207_63 : List mm_I := (.aload_n 0, 0, 0, 0, 0) :: (.getfield 63, 8, 38, 108, 0) :: (.bipush 42, 0, 0, 0, 0) :: (.iaload, 0, 0, 0, 0) :: (.ireturn, 0, 0, 0, 0) :: []
def mB_207_42 : List mm_I := (.iload_n 2, 0, 0, 0, 0) :: (.iload_n 1, 0, 0, 0, 0) :: (.if_icmp .ge 19, 63, 0, 0, 0) :: (.aload_n 0, 0, 0, 0, 0) :: (.iconst 0, 0, 0, 0, 0) :: (.aload_n 0, 0, 0, 0, 0) :: (.iconst 0, 0, 0, 0, 0) :: (.invokevirtual 348, 185, 2, 190, 51) :: (.invokevirtual 344, 183, 3, 189, 54) :: (.iinc 2 1, 0, 0, 0, 0) :: (.goto (-18), 42, 0, 0, 0) :: []
def mB_207_36 : List mm_I := (.aload_n 0, 0, 0, 0, 0) :: (.invokevirtual 341, 172, 1, 188, 37) :: (.iconst 0, 0, 0, 0, 0) :: (.istore_n 2, 0, 0, 0, 0) :: mB_207_42
def mB_207_30 : List mm_I := (.aload_n 0, 0, 0, 0, 0) :: (.iconst 1, 0, 0, 0, 0) :: (.invokevirtual 338, 173, 2, 187, 32) :: (.ireturn, 0, 0, 0, 0) :: []
def mB_207_0 : List mm_I := (.aload_n 0, 0, 0, 0, 0) :: (.iconst 0, 0, 0, 0, 0) :: (.putfield 93, 8, 0, 118, 0) :: (.iload_n 1, 0, 0, 0, 0) :: (.iconst 1, 0, 0, 0, 0) :: (.bipush 30, 0, 0, 0, 0) :: (.invokestatic 305, 138, 3, 176, 9) :: (.ifCond .eq 18, 30, 0, 0, 0) :: (.aload_n 0, 0, 0, 0, 0) :: (.getfield 63, 8, 38, 108, 0) :: (.bipush 42, 0, 0, 0, 0) :: (.iaload, 0, 0, 0, 0) :: (.iload_n 1, 0, 0, 0, 0) :: (.iadd, 0, 0, 0, 0) :: (.sipush 999, 0, 0, 0, 0) :: (.if_icmp .le 9, 36, 0, 0, 0) :: mB_207_30
def mT_207 : List (Nat × List mm_I) := [(0, mB_207_0), (30, mB_207_30), (36, mB_207_36), (42, mB_207_42), (63, mB_207_63)]
-- 208: VillageBoardModel.hangs(I)I
def mB_208_22 : List mm_I := (.ireturn, 0, 0, 0, 0) :: []
def mB_208_21 : List mm_I := (.iconst 0, 0, 0, 0, 0) :: mB_208_22
def mB_208_0 : List mm_I := (.aload_n 0, 0, 0, 0, 0) :: (.iconst 0, 0, 0, 0, 0) :: (.putfield 93, 8, 0, 118, 0) :: (.aload_n 0, 0, 0, 0, 0) :: (.iload_n 1, 0, 0, 0, 0) :: (.invokevirtual 314, 194, 2, 179, 7) :: (.ifCond .eq 11, 21, 0, 0, 0) :: (.aload_n 0, 0, 0, 0, 0) :: (.iload_n 1, 0, 0, 0, 0) :: (.invokevirtual 323, 191, 2, 182, 15) :: (.goto 4, 22, 0, 0, 0) :: []
def mT_208 : List (Nat × List mm_I) := [(0, mB_208_0), (21, mB_208_21), (22, mB_208_22)]
-- 209: VillageBoardModel.scoreFor(II)I
def mB_209_0 : List mm_I := (.aload_n 0, 0, 0, 0, 0) :: (.iload_n 1, 0, 0, 0, 0) :: (.iload_n 2, 0, 0, 0, 0) :: (.invokevirtual 335, 188, 3, 186, 3) :: (.aload_n 0, 0, 0, 0, 0) :: (.iload_n 1, 0, 0, 0, 0) :: (.iconst 1, 0, 0, 0, 0) :: (.iload_n 2, 0, 0, 0, 0) :: (.isub, 0, 0, 0, 0) :: (.invokevirtual 335, 188, 3, 186, 11) :: (.isub, 0, 0, 0, 0) :: (.ireturn, 0, 0, 0, 0) :: []
def mT_209 : List (Nat × List mm_I) := [(0, mB_209_0)]
-- 210: VillageBoardModel.lookOne(I)I
def mB_210_97 : List mm_I := (.aload_n 0, 0, 0, 0, 0) :: (.iload 4, 0, 0, 0, 0) :: (.putfield 357, 8, 43, 142, 0) :: (.iload_n 3, 0, 0, 0, 0) :: (.ireturn, 0, 0, 0, 0) :: []
def mB_210_91 : List mm_I := (.iinc 5 1, 0, 0, 0, 0) :: (.goto (-76), 18, 0, 0, 0) :: []
def mB_210_84 : List mm_I := (.iload 6, 0, 0, 0, 0) :: (.istore_n 3, 0, 0, 0, 0) :: (.iload 5, 0, 0, 0, 0) :: (.istore 4, 0, 0, 0, 0) :: mB_210_91
def mB_210_39 : List mm_I := (.aload_n 0, 0, 0, 0, 0) :: (.iload_n 1, 0, 0, 0, 0) :: (.iload_n 1, 0, 0, 0, 0) :: (.bipush 46, 0, 0, 0, 0) :: (.iadd, 0, 0, 0, 0) :: (.invokevirtual 351, 175, 3, 191, 45) :: (.aload_n 0, 0, 0, 0, 0) :: (.iload_n 1, 0, 0, 0, 0) :: (.bipush 46, 0, 0, 0, 0) :: (.iadd, 0, 0, 0, 0) :: (.iload 5, 0, 0, 0, 0) :: (.invokevirtual 344, 183, 3, 189, 55) :: (.aload_n 0, 0, 0, 0, 0) :: (.iload_n 1, 0, 0, 0, 0) :: (.bipush 46, 0, 0, 0, 0) :: (.iadd, 0, 0, 0, 0) :: (.iload_n 2, 0, 0, 0, 0) :: (.invokevirtual 354, 209, 3, 192, 64) :: (.istore 6, 0, 0, 0, 0) :: (.iload 4, 0, 0, 0, 0) :: (.iconst (-1), 0, 0, 0, 0) :: (.if_icmp .eq 12, 84, 0, 0, 0) :: (.iload 6, 0, 0, 0, 0) :: (.iload_n 3, 0, 0, 0, 0) :: (.if_icmp .gt 6, 84, 0, 0, 0) :: (.goto 10, 91, 0, 0, 0) :: []
def mB_210_18 : List mm_I := (.iload 5, 0, 0, 0, 0) :: (.bipush 100, 0, 0, 0, 0) :: (.if_icmp .gt 75, 97, 0, 0, 0) :: (.aload_n 0, 0, 0, 0, 0) :: (.iload_n 1, 0, 0, 0, 0) :: (.iload 5, 0, 0, 0, 0) :: (.iload_n 2, 0, 0, 0, 0) :: (.invokevirtual 292, 181, 4, 172, 30) :: (.ifCond .ne 6, 39, 0, 0, 0) :: (.goto 55, 91, 0, 0, 0) :: []
def mB_210_0 : List mm_I := (.aload_n 0, 0, 0, 0, 0) :: (.getfield 63, 8, 38, 108, 0) :: (.iload_n 1, 0, 0, 0, 0) :: (.bipush 43, 0, 0, 0, 0) :: (.iadd, 0, 0, 0, 0) :: (.iaload, 0, 0, 0, 0) :: (.istore_n 2, 0, 0, 0, 0) :: (.iconst 0, 0, 0, 0, 0) :: (.istore_n 3, 0, 0, 0, 0) :: (.iconst (-1), 0, 0, 0, 0) :: (.istore 4, 0, 0, 0, 0) :: (.iconst 0, 0, 0, 0, 0) :: (.istore 5, 0, 0, 0, 0) :: mB_210_18
def mT_210 : List (Nat × List mm_I) := [(0, mB_210_0), (18, mB_210_18), (39, mB_210_39), (84, mB_210_84), (91, mB_210_91), (97, mB_210_97)]
-- 211: VillageBoardModel.lookTwo(I)I
def mB_211_93 : List mm_I := (.aload_n 0, 0, 0, 0, 0) :: (.iload_n 3, 0, 0, 0, 0) :: (.putfield 357, 8, 43, 142, 0) :: (.iload_n 2, 0, 0, 0, 0) :: (.ireturn, 0, 0, 0, 0) :: []
def mB_211_87 : List mm_I := (.iinc 4 1, 0, 0, 0, 0) :: (.goto (-83), 7, 0, 0, 0) :: []
def mB_211_81 : List mm_I := (.iload 5, 0, 0, 0, 0) :: (.istore_n 2, 0, 0, 0, 0) :: (.iload 4, 0, 0, 0, 0) :: (.istore_n 3, 0, 0, 0, 0) :: mB_211_87
def mB_211_36 : List mm_I := (.aload_n 0, 0, 0, 0, 0) :: (.iload_n 1, 0, 0, 0, 0) :: (.iload_n 1, 0, 0, 0, 0) :: (.bipush 46, 0, 0, 0, 0) :: (.iadd, 0, 0, 0, 0) :: (.invokevirtual 351, 175, 3, 191, 42) :: (.aload_n 0, 0, 0, 0, 0) :: (.iload_n 1, 0, 0, 0, 0) :: (.bipush 46, 0, 0, 0, 0) :: (.iadd, 0, 0, 0, 0) :: (.iload 4, 0, 0, 0, 0) :: (.invokevirtual 344, 183, 3, 189, 52) :: (.iconst 0, 0, 0, 0, 0) :: (.aload_n 0, 0, 0, 0, 0) :: (.iload_n 1, 0, 0, 0, 0) :: (.bipush 46, 0, 0, 0, 0) :: (.iadd, 0, 0, 0, 0) :: (.invokevirtual 360, 210, 2, 193, 61) :: (.isub, 0, 0, 0, 0) :: (.istore 5, 0, 0, 0, 0) :: (.iload_n 3, 0, 0, 0, 0) :: (.iconst (-1), 0, 0, 0, 0) :: (.if_icmp .eq 12, 81, 0, 0, 0) :: (.iload 5, 0, 0, 0, 0) :: (.iload_n 2, 0, 0, 0, 0) :: (.if_icmp .gt 6, 81, 0, 0, 0) :: (.goto 9, 87, 0, 0, 0) :: []
def mB_211_7 : List mm_I := (.iload 4, 0, 0, 0, 0) :: (.bipush 100, 0, 0, 0, 0) :: (.if_icmp .gt 82, 93, 0, 0, 0) :: (.aload_n 0, 0, 0, 0, 0) :: (.iload_n 1, 0, 0, 0, 0) :: (.iload 4, 0, 0, 0, 0) :: (.aload_n 0, 0, 0, 0, 0) :: (.getfield 63, 8, 38, 108, 0) :: (.iload_n 1, 0, 0, 0, 0) :: (.bipush 43, 0, 0, 0, 0) :: (.iadd, 0, 0, 0, 0) :: (.iaload, 0, 0, 0, 0) :: (.invokevirtual 292, 181, 4, 172, 27) :: (.ifCond .ne 6, 36, 0, 0, 0) :: (.goto 54, 87, 0, 0, 0) :: []
def mB_211_0 : List mm_I := (.iconst 0, 0, 0, 0, 0) :: (.istore_n 2, 0, 0, 0, 0) :: (.iconst (-1), 0, 0, 0, 0) :: (.istore_n 3, 0, 0, 0, 0) :: (.iconst 0, 0, 0, 0, 0) :: (.istore 4, 0, 0, 0, 0) :: mB_211_7
def mT_211 : List (Nat × List mm_I) := [(0, mB_211_0), (7, mB_211_7), (36, mB_211_36), (81, mB_211_81), (87, mB_211_87), (93, mB_211_93)]
-- 212: VillageBoardModel.lookThree(I)I
def mB_212_93 : List mm_I := (.aload_n 0, 0, 0, 0, 0) :: (.iload_n 3, 0, 0, 0, 0) :: (.putfield 357, 8, 43, 142, 0) :: (.iload_n 2, 0, 0, 0, 0) :: (.ireturn, 0, 0, 0, 0) :: []
def mB_212_87 : List mm_I := (.iinc 4 1, 0, 0, 0, 0) :: (.goto (-83), 7, 0, 0, 0) :: []
def mB_212_81 : List mm_I := (.iload 5, 0, 0, 0, 0) :: (.istore_n 2, 0, 0, 0, 0) :: (.iload 4, 0, 0, 0, 0) :: (.istore_n 3, 0, 0, 0, 0) :: mB_212_87
def mB_212_36 : List mm_I := (.aload_n 0, 0, 0, 0, 0) :: (.iload_n 1, 0, 0, 0, 0) :: (.iload_n 1, 0, 0, 0, 0) :: (.bipush 46, 0, 0, 0, 0) :: (.iadd, 0, 0, 0, 0) :: (.invokevirtual 351, 175, 3, 191, 42) :: (.aload_n 0, 0, 0, 0, 0) :: (.iload_n 1, 0, 0, 0, 0) :: (.bipush 46, 0, 0, 0, 0) :: (.iadd, 0, 0, 0, 0) :: (.iload 4, 0, 0, 0, 0) :: (.invokevirtual 344, 183, 3, 189, 52) :: (.iconst 0, 0, 0, 0, 0) :: (.aload_n 0, 0, 0, 0, 0) :: (.iload_n 1, 0, 0, 0, 0) :: (.bipush 46, 0, 0, 0, 0) :: (.iadd, 0, 0, 0, 0) :: (.invokevirtual 363, 211, 2, 194, 61) :: (.isub, 0, 0, 0, 0) :: (.istore 5, 0, 0, 0, 0) :: (.iload_n 3, 0, 0, 0, 0) :: (.iconst (-1), 0, 0, 0, 0) :: (.if_icmp .eq 12, 81, 0, 0, 0) :: (.iload 5, 0, 0, 0, 0) :: (.iload_n 2, 0, 0, 0, 0) :: (.if_icmp .gt 6, 81, 0, 0, 0) :: (.goto 9, 87, 0, 0, 0) :: []
def mB_212_7 : List mm_I := (.iload 4, 0, 0, 0, 0) :: (.bipush 100, 0, 0, 0, 0) :: (.if_icmp .gt 82, 93, 0, 0, 0) :: (.aload_n 0, 0, 0, 0, 0) :: (.iload_n 1, 0, 0, 0, 0) :: (.iload 4, 0, 0, 0, 0) :: (.aload_n 0, 0, 0, 0, 0) :: (.getfield 63, 8, 38, 108, 0) :: (.iload_n 1, 0, 0, 0, 0) :: (.bipush 43, 0, 0, 0, 0) :: (.iadd, 0, 0, 0, 0) :: (.iaload, 0, 0, 0, 0) :: (.invokevirtual 292, 181, 4, 172, 27) :: (.ifCond .ne 6, 36, 0, 0, 0) :: (.goto 54, 87, 0, 0, 0) :: []
def mB_212_0 : List mm_I := (.iconst 0, 0, 0, 0, 0) :: (.istore_n 2, 0, 0, 0, 0) :: (.iconst (-1), 0, 0, 0, 0) :: (.istore_n 3, 0, 0, 0, 0) :: (.iconst 0, 0, 0, 0, 0) :: (.istore 4, 0, 0, 0, 0) :: mB_212_7
def mT_212 : List (Nat × List mm_I) := [(0, mB_212_0), (7, mB_212_7), (36, mB_212_36), (81, mB_212_81), (87, mB_212_87), (93, mB_212_93)]
-- 213: VillageBoardModel.toldMove(I)I
def mB_213_22 : List mm_I := (.ireturn, 0, 0, 0, 0) :: []
def mB_213_10 : List mm_I := (.iload_n 0, 0, 0, 0, 0) :: (.bipush 10, 0, 0, 0, 0) :: (.idiv, 0, 0, 0, 0) :: (.bipush 100, 0, 0, 0, 0) :: (.imul, 0, 0, 0, 0) :: (.iload_n 0, 0, 0, 0, 0) :: (.bipush 10, 0, 0, 0, 0) :: (.irem, 0, 0, 0, 0) :: (.iadd, 0, 0, 0, 0) :: mB_213_22
def mB_213_0 : List mm_I := (.iload_n 0, 0, 0, 0, 0) :: (.bipush 100, 0, 0, 0, 0) :: (.if_icmp .ne 7, 10, 0, 0, 0) :: (.iconst (-1), 0, 0, 0, 0) :: (.goto 15, 22, 0, 0, 0) :: []
def mT_213 : List (Nat × List mm_I) := [(0, mB_213_0), (10, mB_213_10), (22, mB_213_22)]
-- 214: VillageBoardModel.look(II)I
def mB_214_102 : List mm_I := (.ireturn, 0, 0, 0, 0) :: []
def mB_214_95 : List mm_I := (.aload_n 0, 0, 0, 0, 0) :: (.getfield 357, 8, 43, 142, 0) :: (.invokestatic 369, 213, 1, 196, 99) :: mB_214_102
def mB_214_86 : List mm_I := (.istore_n 3, 0, 0, 0, 0) :: (.iload_n 2, 0, 0, 0, 0) :: (.ifCond .ne 7, 95, 0, 0, 0) :: (.iload_n 3, 0, 0, 0, 0) :: (.goto 10, 102, 0, 0, 0) :: []
def mB_214_81 : List mm_I := (.aload_n 0, 0, 0, 0, 0) :: (.iconst 0, 0, 0, 0, 0) :: (.invokevirtual 366, 212, 2, 195, 83) :: mB_214_86
def mB_214_68 : List mm_I := (.iload_n 1, 0, 0, 0, 0) :: (.iconst 2, 0, 0, 0, 0) :: (.if_icmp .ne 11, 81, 0, 0, 0) :: (.aload_n 0, 0, 0, 0, 0) :: (.iconst 0, 0, 0, 0, 0) :: (.invokevirtual 363, 211, 2, 194, 75) :: (.goto 8, 86, 0, 0, 0) :: []
def mB_214_55 : List mm_I := (.iload_n 1, 0, 0, 0, 0) :: (.iconst 1, 0, 0, 0, 0) :: (.if_icmp .ne 11, 68, 0, 0, 0) :: (.aload_n 0, 0, 0, 0, 0) :: (.iconst 0, 0, 0, 0, 0) :: (.invokevirtual 360, 210, 2, 193, 62) :: (.goto 21, 86, 0, 0, 0) :: []
def mB_214_30 : List mm_I := (.aload_n 0, 0, 0, 0, 0) :: (.bipush 100, 0, 0, 0, 0) :: (.putfield 357, 8, 43, 142, 0) :: (.iload_n 1, 0, 0, 0, 0) :: (.ifCond .ne 18, 55, 0, 0, 0) :: (.aload_n 0, 0, 0, 0, 0) :: (.iconst 0, 0, 0, 0, 0) :: (.aload_n 0, 0, 0, 0, 0) :: (.getfield 63, 8, 38, 108, 0) :: (.bipush 43, 0, 0, 0, 0) :: (.iaload, 0, 0, 0, 0) :: (.invokevirtual 354, 209, 3, 192, 49) :: (.goto 34, 86, 0, 0, 0) :: []
def mB_214_28 : List mm_I := (.iconst 0, 0, 0, 0, 0) :: (.ireturn, 0, 0, 0, 0) :: []
def mB_214_0 : List mm_I := (.aload_n 0, 0, 0, 0, 0) :: (.iconst 0, 0, 0, 0, 0) :: (.putfield 93, 8, 0, 118, 0) :: (.aload_n 0, 0, 0, 0, 0) :: (.iload_n 2, 0, 0, 0, 0) :: (.iconst 1, 0, 0, 0, 0) :: (.invokevirtual 317, 196, 3, 180, 8) :: (.ifCond .eq 17, 28, 0, 0, 0) :: (.aload_n 0, 0, 0, 0, 0) :: (.iload_n 1, 0, 0, 0, 0) :: (.iconst 0, 0, 0, 0, 0) :: (.iconst 3, 0, 0, 0, 0) :: (.invokestatic 305, 138, 3, 176, 18) :: (.iconst 2, 0, 0, 0, 0) :: (.invokevirtual 240, 137, 3, 163, 22) :: (.ifCond .ne 5, 30, 0, 0, 0) :: mB_214_28
def mT_214 : List (Nat × List mm_I) := [(0, mB_214_0), (28, mB_214_28), (30, mB_214_30), (55, mB_214_55), (68, mB_214_68), (81, mB_214_81), (86, mB_214_86), (95, mB_214_95), (102, mB_214_102)]
-- 215: VillageBoardModel.winsAtOnce(I)Z
def mB_215_71 : List mm_I := (.iconst 0, 0, 0, 0, 0) :: (.ireturn, 0, 0, 0, 0) :: []
def mB_215_65 : List mm_I := (.iinc 3 1, 0, 0, 0, 0) :: (.goto (-56), 12, 0, 0, 0) :: []
def mB_215_31 : List mm_I := (.aload_n 0, 0, 0, 0, 0) :: (.iload_n 1, 0, 0, 0, 0) :: (.iload_n 1, 0, 0, 0, 0) :: (.bipush 46, 0, 0, 0, 0) :: (.iadd, 0, 0, 0, 0) :: (.invokevirtual 351, 175, 3, 191, 37) :: (.aload_n 0, 0, 0, 0, 0) :: (.iload_n 1, 0, 0, 0, 0) :: (.bipush 46, 0, 0, 0, 0) :: (.iadd, 0, 0, 0, 0) :: (.iload_n 3, 0, 0, 0, 0) :: (.invokevirtual 344, 183, 3, 189, 46) :: (.aload_n 0, 0, 0, 0, 0) :: (.iload_n 1, 0, 0, 0, 0) :: (.bipush 46, 0, 0, 0, 0) :: (.iadd, 0, 0, 0, 0) :: (.iconst 1, 0, 0, 0, 0) :: (.iload_n 2, 0, 0, 0, 0) :: (.isub, 0, 0, 0, 0) :: (.invokevirtual 308, 186, 3, 177, 57) :: (.ifCond .ne 5, 65, 0, 0, 0) :: (.iconst 1, 0, 0, 0, 0) :: (.ireturn, 0, 0, 0, 0) :: []
def mB_215_12 : List mm_I := (.iload_n 3, 0, 0, 0, 0) :: (.bipush 100, 0, 0, 0, 0) :: (.if_icmp .ge 56, 71, 0, 0, 0) :: (.aload_n 0, 0, 0, 0, 0) :: (.iload_n 1, 0, 0, 0, 0) :: (.iload_n 3, 0, 0, 0, 0) :: (.iload_n 2, 0, 0, 0, 0) :: (.invokevirtual 292, 181, 4, 172, 22) :: (.ifCond .ne 6, 31, 0, 0, 0) :: (.goto 37, 65, 0, 0, 0) :: []
def mB_215_0 : List mm_I := (.aload_n 0, 0, 0, 0, 0) :: (.getfield 63, 8, 38, 108, 0) :: (.iload_n 1, 0, 0, 0, 0) :: (.bipush 43, 0, 0, 0, 0) :: (.iadd, 0, 0, 0, 0) :: (.iaload, 0, 0, 0, 0) :: (.istore_n 2, 0, 0, 0, 0) :: (.iconst 0, 0, 0, 0, 0) :: (.istore_n 3, 0, 0, 0, 0) :: mB_215_12
def mT_215 : List (Nat × List mm_I) := [(0, mB_215_0), (12, mB_215_12), (31, mB_215_31), (65, mB_215_65), (71, mB_215_71)]
-- 216: VillageBoardModel.winsByAll(I)Z
def mB_216_66 : List mm_I := (.iconst 1, 0, 0, 0, 0) :: (.ireturn, 0, 0, 0, 0) :: []
def mB_216_60 : List mm_I := (.iinc 2 1, 0, 0, 0, 0) :: (.goto (-61), 2, 0, 0, 0) :: []
def mB_216_29 : List mm_I := (.aload_n 0, 0, 0, 0, 0) :: (.iload_n 1, 0, 0, 0, 0) :: (.iload_n 1, 0, 0, 0, 0) :: (.bipush 46, 0, 0, 0, 0) :: (.iadd, 0, 0, 0, 0) :: (.invokevirtual 351, 175, 3, 191, 35) :: (.aload_n 0, 0, 0, 0, 0) :: (.iload_n 1, 0, 0, 0, 0) :: (.bipush 46, 0, 0, 0, 0) :: (.iadd, 0, 0, 0, 0) :: (.iload_n 2, 0, 0, 0, 0) :: (.invokevirtual 344, 183, 3, 189, 44) :: (.aload_n 0, 0, 0, 0, 0) :: (.iload_n 1, 0, 0, 0, 0) :: (.bipush 46, 0, 0, 0, 0) :: (.iadd, 0, 0, 0, 0) :: (.invokevirtual 372, 215, 2, 197, 52) :: (.ifCond .ne 5, 60, 0, 0, 0) :: (.iconst 0, 0, 0, 0, 0) :: (.ireturn, 0, 0, 0, 0) :: []
def mB_216_2 : List mm_I := (.iload_n 2, 0, 0, 0, 0) :: (.bipush 100, 0, 0, 0, 0) :: (.if_icmp .gt 61, 66, 0, 0, 0) :: (.aload_n 0, 0, 0, 0, 0) :: (.iload_n 1, 0, 0, 0, 0) :: (.iload_n 2, 0, 0, 0, 0) :: (.aload_n 0, 0, 0, 0, 0) :: (.getfield 63, 8, 38, 108, 0) :: (.iload_n 1, 0, 0, 0, 0) :: (.bipush 43, 0, 0, 0, 0) :: (.iadd, 0, 0, 0, 0) :: (.iaload, 0, 0, 0, 0) :: (.invokevirtual 292, 181, 4, 172, 20) :: (.ifCond .ne 6, 29, 0, 0, 0) :: (.goto 34, 60, 0, 0, 0) :: []
def mB_216_0 : List mm_I := (.iconst 0, 0, 0, 0, 0) :: (.istore_n 2, 0, 0, 0, 0) :: mB_216_2
def mT_216 : List (Nat × List mm_I) := [(0, mB_216_0), (2, mB_216_2), (29, mB_216_29), (60, mB_216_60), (66, mB_216_66)]
-- 217: VillageBoardModel.win()I
def mB_217_88 : List mm_I := (.iconst (-1), 0, 0, 0, 0) :: (.ireturn, 0, 0, 0, 0) :: []
def mB_217_82 : List mm_I := (.iinc 2 1, 0, 0, 0, 0) :: (.goto (-47), 38, 0, 0, 0) :: []
def mB_217_57 : List mm_I := (.aload_n 0, 0, 0, 0, 0) :: (.iconst 0, 0, 0, 0, 0) :: (.bipush 46, 0, 0, 0, 0) :: (.invokevirtual 351, 175, 3, 191, 61) :: (.aload_n 0, 0, 0, 0, 0) :: (.bipush 46, 0, 0, 0, 0) :: (.iload_n 2, 0, 0, 0, 0) :: (.invokevirtual 344, 183, 3, 189, 68) :: (.aload_n 0, 0, 0, 0, 0) :: (.bipush 46, 0, 0, 0, 0) :: (.invokevirtual 375, 216, 2, 198, 74) :: (.ifCond .eq 5, 82, 0, 0, 0) :: (.iconst 3, 0, 0, 0, 0) :: (.ireturn, 0, 0, 0, 0) :: []
def mB_217_38 : List mm_I := (.iload_n 2, 0, 0, 0, 0) :: (.bipush 100, 0, 0, 0, 0) :: (.if_icmp .gt 47, 88, 0, 0, 0) :: (.aload_n 0, 0, 0, 0, 0) :: (.iconst 0, 0, 0, 0, 0) :: (.iload_n 2, 0, 0, 0, 0) :: (.iload_n 1, 0, 0, 0, 0) :: (.invokevirtual 292, 181, 4, 172, 48) :: (.ifCond .ne 6, 57, 0, 0, 0) :: (.goto 28, 82, 0, 0, 0) :: []
def mB_217_36 : List mm_I := (.iconst 0, 0, 0, 0, 0) :: (.istore_n 2, 0, 0, 0, 0) :: mB_217_38
def mB_217_26 : List mm_I := (.aload_n 0, 0, 0, 0, 0) :: (.iconst 0, 0, 0, 0, 0) :: (.invokevirtual 372, 215, 2, 197, 28) :: (.ifCond .eq 5, 36, 0, 0, 0) :: (.iconst 1, 0, 0, 0, 0) :: (.ireturn, 0, 0, 0, 0) :: []
def mB_217_0 : List mm_I := (.aload_n 0, 0, 0, 0, 0) :: (.iconst 0, 0, 0, 0, 0) :: (.putfield 93, 8, 0, 118, 0) :: (.aload_n 0, 0, 0, 0, 0) :: (.getfield 63, 8, 38, 108, 0) :: (.bipush 43, 0, 0, 0, 0) :: (.iaload, 0, 0, 0, 0) :: (.istore_n 1, 0, 0, 0, 0) :: (.aload_n 0, 0, 0, 0, 0) :: (.iconst 0, 0, 0, 0, 0) :: (.iconst 1, 0, 0, 0, 0) :: (.iload_n 1, 0, 0, 0, 0) :: (.isub, 0, 0, 0, 0) :: (.invokevirtual 308, 186, 3, 177, 18) :: (.ifCond .ne 5, 26, 0, 0, 0) :: (.iconst (-1), 0, 0, 0, 0) :: (.ireturn, 0, 0, 0, 0) :: []
def mT_217 : List (Nat × List mm_I) := [(0, mB_217_0), (26, mB_217_26), (36, mB_217_36), (38, mB_217_38), (57, mB_217_57), (82, mB_217_82), (88, mB_217_88)]
-- 218: VillageBoardModel.walks(I)V
def mB_218_143 : List mm_I := (.return_, 0, 0, 0, 0) :: []
def mB_218_137 : List mm_I := (.iinc 2 1, 0, 0, 0, 0) :: (.goto (-106), 34, 0, 0, 0) :: []
def mB_218_131 : List mm_I := (.iinc 3 1, 0, 0, 0, 0) :: (.goto (-90), 44, 0, 0, 0) :: []
def mB_218_125 : List mm_I := (.iinc 4 1, 0, 0, 0, 0) :: (.goto (-73), 55, 0, 0, 0) :: []
def mB_218_55 : List mm_I := (.iload 4, 0, 0, 0, 0) :: (.aload_n 0, 0, 0, 0, 0) :: (.getfield 247, 8, 1, 136, 0) :: (.if_icmp .ge 70, 131, 0, 0, 0) :: (.aload_n 0, 0, 0, 0, 0) :: (.getfield 26, 8, 9, 96, 0) :: (.bipush 10, 0, 0, 0, 0) :: (.iload_n 3, 0, 0, 0, 0) :: (.imul, 0, 0, 0, 0) :: (.iload 4, 0, 0, 0, 0) :: (.iadd, 0, 0, 0, 0) :: (.baload, 0, 0, 0, 0) :: (.ifCond .eq 49, 125, 0, 0, 0) :: (.aload_n 0, 0, 0, 0, 0) :: (.getfield 63, 8, 38, 108, 0) :: (.iconst 0, 0, 0, 0, 0) :: (.iload 4, 0, 0, 0, 0) :: (.iadd, 0, 0, 0, 0) :: (.iaload, 0, 0, 0, 0) :: (.iconst 2, 0, 0, 0, 0) :: (.if_icmp .ne 36, 125, 0, 0, 0) :: (.aload_n 0, 0, 0, 0, 0) :: (.getfield 75, 8, 44, 112, 0) :: (.iload_n 3, 0, 0, 0, 0) :: (.iaload, 0, 0, 0, 0) :: (.iconst 1, 0, 0, 0, 0) :: (.iadd, 0, 0, 0, 0) :: (.aload_n 0, 0, 0, 0, 0) :: (.getfield 75, 8, 44, 112, 0) :: (.iload 4, 0, 0, 0, 0) :: (.iaload, 0, 0, 0, 0) :: (.if_icmp .ge 18, 125, 0, 0, 0) :: (.aload_n 0, 0, 0, 0, 0) :: (.getfield 75, 8, 44, 112, 0) :: (.iload 4, 0, 0, 0, 0) :: (.aload_n 0, 0, 0, 0, 0) :: (.getfield 75, 8, 44, 112, 0) :: (.iload_n 3, 0, 0, 0, 0) :: (.iaload, 0, 0, 0, 0) :: (.iconst 1, 0, 0, 0, 0) :: (.iadd, 0, 0, 0, 0) :: (.iastore, 0, 0, 0, 0) :: mB_218_125
def mB_218_44 : List mm_I := (.iload_n 3, 0, 0, 0, 0) :: (.aload_n 0, 0, 0, 0, 0) :: (.getfield 247, 8, 1, 136, 0) :: (.if_icmp .ge 88, 137, 0, 0, 0) :: (.iconst 0, 0, 0, 0, 0) :: (.istore 4, 0, 0, 0, 0) :: mB_218_55
def mB_218_34 : List mm_I := (.iload_n 2, 0, 0, 0, 0) :: (.aload_n 0, 0, 0, 0, 0) :: (.getfield 247, 8, 1, 136, 0) :: (.if_icmp .ge 104, 143, 0, 0, 0) :: (.iconst 0, 0, 0, 0, 0) :: (.istore_n 3, 0, 0, 0, 0) :: mB_218_44
def mB_218_32 : List mm_I := (.iconst 0, 0, 0, 0, 0) :: (.istore_n 2, 0, 0, 0, 0) :: mB_218_34
def mB_218_25 : List mm_I := (.iastore, 0, 0, 0, 0) :: (.iinc 2 1, 0, 0, 0, 0) :: (.goto (-27), 2, 0, 0, 0) :: []
def mB_218_22 : List mm_I := (.sipush 9999, 0, 0, 0, 0) :: mB_218_25
def mB_218_2 : List mm_I := (.iload_n 2, 0, 0, 0, 0) :: (.bipush 10, 0, 0, 0, 0) :: (.if_icmp .ge 27, 32, 0, 0, 0) :: (.aload_n 0, 0, 0, 0, 0) :: (.getfield 75, 8, 44, 112, 0) :: (.iload_n 2, 0, 0, 0, 0) :: (.iload_n 2, 0, 0, 0, 0) :: (.iload_n 1, 0, 0, 0, 0) :: (.if_icmp .ne 7, 22, 0, 0, 0) :: (.iconst 0, 0, 0, 0, 0) :: (.goto 6, 25, 0, 0, 0) :: []
def mB_218_0 : List mm_I := (.iconst 0, 0, 0, 0, 0) :: (.istore_n 2, 0, 0, 0, 0) :: mB_218_2
def mT_218 : List (Nat × List mm_I) := [(0, mB_218_0), (2, mB_218_2), (22, mB_218_22), (25, mB_218_25), (32, mB_218_32), (34, mB_218_34), (44, mB_218_44), (55, mB_218_55), (125, mB_218_125), (131, mB_218_131), (137, mB_218_137), (143, mB_218_143)]
-- 219: VillageBoardModel.journey(II)I
def mB_219_64 : List mm_I := (.ireturn, 0, 0, 0, 0) :: []
def mB_219_58 : List mm_I := (.aload_n 0, 0, 0, 0, 0) :: (.getfield 75, 8, 44, 112, 0) :: (.iload_n 2, 0, 0, 0, 0) :: (.iaload, 0, 0, 0, 0) :: mB_219_64
def mB_219_37 : List mm_I := (.aload_n 0, 0, 0, 0, 0) :: (.iload_n 1, 0, 0, 0, 0) :: (.invokevirtual 378, 218, 2, 199, 39) :: (.aload_n 0, 0, 0, 0, 0) :: (.getfield 75, 8, 44, 112, 0) :: (.iload_n 2, 0, 0, 0, 0) :: (.iaload, 0, 0, 0, 0) :: (.sipush 9999, 0, 0, 0, 0) :: (.if_icmp .lt 7, 58, 0, 0, 0) :: (.iconst (-1), 0, 0, 0, 0) :: (.goto 9, 64, 0, 0, 0) :: []
def mB_219_23 : List mm_I := (.aload_n 0, 0, 0, 0, 0) :: (.getfield 63, 8, 38, 108, 0) :: (.iconst 0, 0, 0, 0, 0) :: (.iload_n 1, 0, 0, 0, 0) :: (.iadd, 0, 0, 0, 0) :: (.iaload, 0, 0, 0, 0) :: (.iconst 2, 0, 0, 0, 0) :: (.if_icmp .ne 5, 37, 0, 0, 0) :: (.iconst (-1), 0, 0, 0, 0) :: (.ireturn, 0, 0, 0, 0) :: []
def mB_219_21 : List mm_I := (.iconst 0, 0, 0, 0, 0) :: (.ireturn, 0, 0, 0, 0) :: []
def mB_219_0 : List mm_I := (.aload_n 0, 0, 0, 0, 0) :: (.iconst 0, 0, 0, 0, 0) :: (.putfield 93, 8, 0, 118, 0) :: (.aload_n 0, 0, 0, 0, 0) :: (.iload_n 1, 0, 0, 0, 0) :: (.invokevirtual 314, 194, 2, 179, 7) :: (.ifCond .eq 11, 21, 0, 0, 0) :: (.aload_n 0, 0, 0, 0, 0) :: (.iload_n 2, 0, 0, 0, 0) :: (.invokevirtual 314, 194, 2, 179, 15) :: (.ifCond .ne 5, 23, 0, 0, 0) :: mB_219_21
def mT_219 : List (Nat × List mm_I) := [(0, mB_219_0), (21, mB_219_21), (23, mB_219_23), (37, mB_219_37), (58, mB_219_58), (64, mB_219_64)]
-- 220: VillageBoardModel.reach(I)I
def mB_220_77 : List mm_I := (.iload_n 2, 0, 0, 0, 0) :: (.ireturn, 0, 0, 0, 0) :: []
def mB_220_69 : List mm_I := (.ior, 0, 0, 0, 0) :: (.istore_n 2, 0, 0, 0, 0) :: (.iinc 3 1, 0, 0, 0, 0) :: (.goto (-38), 36, 0, 0, 0) :: []
def mB_220_68 : List mm_I := (.iconst 0, 0, 0, 0, 0) :: mB_220_69
def mB_220_36 : List mm_I := (.iload_n 3, 0, 0, 0, 0) :: (.aload_n 0, 0, 0, 0, 0) :: (.getfield 247, 8, 1, 136, 0) :: (.if_icmp .ge 36, 77, 0, 0, 0) :: (.iload_n 2, 0, 0, 0, 0) :: (.iload_n 3, 0, 0, 0, 0) :: (.iload_n 1, 0, 0, 0, 0) :: (.if_icmp .eq 21, 68, 0, 0, 0) :: (.aload_n 0, 0, 0, 0, 0) :: (.getfield 75, 8, 44, 112, 0) :: (.iload_n 3, 0, 0, 0, 0) :: (.iaload, 0, 0, 0, 0) :: (.sipush 9999, 0, 0, 0, 0) :: (.if_icmp .ge 9, 68, 0, 0, 0) :: (.iconst 1, 0, 0, 0, 0) :: (.iload_n 3, 0, 0, 0, 0) :: (.ishl, 0, 0, 0, 0) :: (.goto 4, 69, 0, 0, 0) :: []
def mB_220_27 : List mm_I := (.aload_n 0, 0, 0, 0, 0) :: (.iload_n 1, 0, 0, 0, 0) :: (.invokevirtual 378, 218, 2, 199, 29) :: (.iconst 0, 0, 0, 0, 0) :: (.istore_n 2, 0, 0, 0, 0) :: (.iconst 0, 0, 0, 0, 0) :: (.istore_n 3, 0, 0, 0, 0) :: mB_220_36
def mB_220_25 : List mm_I := (.iconst 0, 0, 0, 0, 0) :: (.ireturn, 0, 0, 0, 0) :: []
def mB_220_0 : List mm_I := (.aload_n 0, 0, 0, 0, 0) :: (.iconst 0, 0, 0, 0, 0) :: (.putfield 93, 8, 0, 118, 0) :: (.aload_n 0, 0, 0, 0, 0) :: (.iload_n 1, 0, 0, 0, 0) :: (.invokevirtual 314, 194, 2, 179, 7) :: (.ifCond .eq 15, 25, 0, 0, 0) :: (.aload_n 0, 0, 0, 0, 0) :: (.getfield 63, 8, 38, 108, 0) :: (.iconst 0, 0, 0, 0, 0) :: (.iload_n 1, 0, 0, 0, 0) :: (.iadd, 0, 0, 0, 0) :: (.iaload, 0, 0, 0, 0) :: (.iconst 2, 0, 0, 0, 0) :: (.if_icmp .ne 5, 27, 0, 0, 0) :: mB_220_25
def mT_220 : List (Nat × List mm_I) := [(0, mB_220_0), (25, mB_220_25), (27, mB_220_27), (36, mB_220_36), (68, mB_220_68), (69, mB_220_69), (77, mB_220_77)]
-- 221: VillageBoardModel.played(I)I
def mB_221_49 : List mm_I := (.aload_n 0, 0, 0, 0, 0) :: (.bipush 46, 0, 0, 0, 0) :: (.invokevirtual 348, 185, 2, 190, 52) :: (.invokestatic 369, 213, 1, 196, 55) :: (.ireturn, 0, 0, 0, 0) :: []
def mB_221_26 : List mm_I := (.iload_n 2, 0, 0, 0, 0) :: (.iload_n 1, 0, 0, 0, 0) :: (.if_icmp .ge 21, 49, 0, 0, 0) :: (.aload_n 0, 0, 0, 0, 0) :: (.bipush 46, 0, 0, 0, 0) :: (.aload_n 0, 0, 0, 0, 0) :: (.bipush 46, 0, 0, 0, 0) :: (.invokevirtual 348, 185, 2, 190, 37) :: (.invokevirtual 344, 183, 3, 189, 40) :: (.iinc 2 1, 0, 0, 0, 0) :: (.goto (-20), 26, 0, 0, 0) :: []
def mB_221_17 : List mm_I := (.aload_n 0, 0, 0, 0, 0) :: (.iconst 0, 0, 0, 0, 0) :: (.bipush 46, 0, 0, 0, 0) :: (.invokevirtual 351, 175, 3, 191, 21) :: (.iconst 0, 0, 0, 0, 0) :: (.istore_n 2, 0, 0, 0, 0) :: mB_221_26
def mB_221_0 : List mm_I := (.aload_n 0, 0, 0, 0, 0) :: (.iconst 0, 0, 0, 0, 0) :: (.putfield 93, 8, 0, 118, 0) :: (.aload_n 0, 0, 0, 0, 0) :: (.iload_n 1, 0, 0, 0, 0) :: (.bipush 29, 0, 0, 0, 0) :: (.invokevirtual 317, 196, 3, 180, 9) :: (.ifCond .ne 5, 17, 0, 0, 0) :: (.iconst 0, 0, 0, 0, 0) :: (.ireturn, 0, 0, 0, 0) :: []
def mT_221 : List (Nat × List mm_I) := [(0, mB_221_0), (17, mB_221_17), (26, mB_221_26), (49, mB_221_49)]
-- 222: VillageBoardModel.turned(I)I
def mB_222_71 : List mm_I := (.iconst (-1), 0, 0, 0, 0) :: (.ireturn, 0, 0, 0, 0) :: []
def mB_222_65 : List mm_I := (.iinc 2 1, 0, 0, 0, 0) :: (.goto (-44), 24, 0, 0, 0) :: []
def mB_222_24 : List mm_I := (.iload_n 2, 0, 0, 0, 0) :: (.bipush 30, 0, 0, 0, 0) :: (.if_icmp .gt 44, 71, 0, 0, 0) :: (.aload_n 0, 0, 0, 0, 0) :: (.bipush 46, 0, 0, 0, 0) :: (.aload_n 0, 0, 0, 0, 0) :: (.bipush 46, 0, 0, 0, 0) :: (.invokevirtual 348, 185, 2, 190, 36) :: (.invokevirtual 344, 183, 3, 189, 39) :: (.aload_n 0, 0, 0, 0, 0) :: (.getfield 63, 8, 38, 108, 0) :: (.bipush 56, 0, 0, 0, 0) :: (.iload_n 1, 0, 0, 0, 0) :: (.iadd, 0, 0, 0, 0) :: (.iaload, 0, 0, 0, 0) :: (.aload_n 0, 0, 0, 0, 0) :: (.getfield 63, 8, 38, 108, 0) :: (.bipush 10, 0, 0, 0, 0) :: (.iload_n 1, 0, 0, 0, 0) :: (.iadd, 0, 0, 0, 0) :: (.iaload, 0, 0, 0, 0) :: (.if_icmp .eq 5, 65, 0, 0, 0) :: (.iload_n 2, 0, 0, 0, 0) :: (.ireturn, 0, 0, 0, 0) :: []
def mB_222_15 : List mm_I := (.aload_n 0, 0, 0, 0, 0) :: (.iconst 0, 0, 0, 0, 0) :: (.bipush 46, 0, 0, 0, 0) :: (.invokevirtual 351, 175, 3, 191, 19) :: (.iconst 1, 0, 0, 0, 0) :: (.istore_n 2, 0, 0, 0, 0) :: mB_222_24
def mB_222_0 : List mm_I := (.aload_n 0, 0, 0, 0, 0) :: (.iconst 0, 0, 0, 0, 0) :: (.putfield 93, 8, 0, 118, 0) :: (.aload_n 0, 0, 0, 0, 0) :: (.iload_n 1, 0, 0, 0, 0) :: (.invokevirtual 314, 194, 2, 179, 7) :: (.ifCond .ne 5, 15, 0, 0, 0) :: (.iconst 0, 0, 0, 0, 0) :: (.ireturn, 0, 0, 0, 0) :: []
def mT_222 : List (Nat × List mm_I) := [(0, mB_222_0), (15, mB_222_15), (24, mB_222_24), (65, mB_222_65), (71, mB_222_71)]
-- 223: VillageBoardModel.treasury(II)I
def mB_223_62 : List mm_I := (.aload_n 0, 0, 0, 0, 0) :: (.getfield 63, 8, 38, 108, 0) :: (.bipush 86, 0, 0, 0, 0) :: (.iload_n 1, 0, 0, 0, 0) :: (.iadd, 0, 0, 0, 0) :: (.iaload, 0, 0, 0, 0) :: (.ireturn, 0, 0, 0, 0) :: []
def mB_223_39 : List mm_I := (.iload_n 3, 0, 0, 0, 0) :: (.iload_n 2, 0, 0, 0, 0) :: (.if_icmp .ge 21, 62, 0, 0, 0) :: (.aload_n 0, 0, 0, 0, 0) :: (.bipush 46, 0, 0, 0, 0) :: (.aload_n 0, 0, 0, 0, 0) :: (.bipush 46, 0, 0, 0, 0) :: (.invokevirtual 348, 185, 2, 190, 50) :: (.invokevirtual 344, 183, 3, 189, 53) :: (.iinc 3 1, 0, 0, 0, 0) :: (.goto (-20), 39, 0, 0, 0) :: []
def mB_223_30 : List mm_I := (.aload_n 0, 0, 0, 0, 0) :: (.iconst 0, 0, 0, 0, 0) :: (.bipush 46, 0, 0, 0, 0) :: (.invokevirtual 351, 175, 3, 191, 34) :: (.iconst 0, 0, 0, 0, 0) :: (.istore_n 3, 0, 0, 0, 0) :: mB_223_39
def mB_223_28 : List mm_I := (.iconst 0, 0, 0, 0, 0) :: (.ireturn, 0, 0, 0, 0) :: []
def mB_223_0 : List mm_I := (.aload_n 0, 0, 0, 0, 0) :: (.iconst 0, 0, 0, 0, 0) :: (.putfield 93, 8, 0, 118, 0) :: (.aload_n 0, 0, 0, 0, 0) :: (.iload_n 1, 0, 0, 0, 0) :: (.invokevirtual 326, 195, 2, 183, 7) :: (.ifCond .eq 18, 28, 0, 0, 0) :: (.aload_n 0, 0, 0, 0, 0) :: (.iload_n 2, 0, 0, 0, 0) :: (.iconst 0, 0, 0, 0, 0) :: (.bipush 30, 0, 0, 0, 0) :: (.invokestatic 305, 138, 3, 176, 18) :: (.iconst 2, 0, 0, 0, 0) :: (.invokevirtual 240, 137, 3, 163, 22) :: (.ifCond .ne 5, 30, 0, 0, 0) :: mB_223_28
def mT_223 : List (Nat × List mm_I) := [(0, mB_223_0), (28, mB_223_28), (30, mB_223_30), (39, mB_223_39), (62, mB_223_62)]
-- 224: VillageBoardModel.gift(II)I
def mB_224_229 : List mm_I := (.ireturn, 0, 0, 0, 0) :: []
def mB_224_226 : List mm_I := (.lload 8, 0, 0, 0, 0) :: (.l2i, 0, 0, 0, 0) :: mB_224_229
def mB_224_213 : List mm_I := (.lload 8, 0, 0, 0, 0) :: (.ldc2_w 381, 0, 0, 1700, 9999) :: (.lcmp, 0, 0, 0, 0) :: (.ifCond .le 7, 226, 0, 0, 0) :: (.iconst (-1), 0, 0, 0, 0) :: (.goto 6, 229, 0, 0, 0) :: []
def mB_224_178 : List mm_I := (.aload_n 0, 0, 0, 0, 0) :: (.iconst 0, 0, 0, 0, 0) :: (.iload_n 1, 0, 0, 0, 0) :: (.iload_n 2, 0, 0, 0, 0) :: (.invokevirtual 278, 179, 4, 168, 182) :: (.lload 6, 0, 0, 0, 0) :: (.aload_n 0, 0, 0, 0, 0) :: (.aload_n 0, 0, 0, 0, 0) :: (.getfield 20, 8, 7, 94, 0) :: (.iload 4, 0, 0, 0, 0) :: (.iaload, 0, 0, 0, 0) :: (.invokevirtual 282, 177, 2, 169, 195) :: (.i2l, 0, 0, 0, 0) :: (.lsub, 0, 0, 0, 0) :: (.lstore 8, 0, 0, 0, 0) :: (.lload 8, 0, 0, 0, 0) :: (.lconst 0, 0, 0, 0, 0) :: (.lcmp, 0, 0, 0, 0) :: (.ifCond .gt 7, 213, 0, 0, 0) :: (.iconst 0, 0, 0, 0, 0) :: (.goto 19, 229, 0, 0, 0) :: []
def mB_224_172 : List mm_I := (.iinc 8 1, 0, 0, 0, 0) :: (.goto (-100), 75, 0, 0, 0) :: []
def mB_224_170 : List mm_I := (.lstore 6, 0, 0, 0, 0) :: mB_224_172
def mB_224_168 : List mm_I := (.lload 6, 0, 0, 0, 0) :: mB_224_170
def mB_224_155 : List mm_I := (.lload 9, 0, 0, 0, 0) :: (.lload 6, 0, 0, 0, 0) :: (.lcmp, 0, 0, 0, 0) :: (.ifCond .le 8, 168, 0, 0, 0) :: (.lload 9, 0, 0, 0, 0) :: (.goto 5, 170, 0, 0, 0) :: []
def mB_224_142 : List mm_I := (.iload 8, 0, 0, 0, 0) :: (.iload 5, 0, 0, 0, 0) :: (.if_icmp .ge 9, 155, 0, 0, 0) :: (.lload 9, 0, 0, 0, 0) :: (.lconst 1, 0, 0, 0, 0) :: (.ladd, 0, 0, 0, 0) :: (.lstore 9, 0, 0, 0, 0) :: mB_224_155
def mB_224_103 : List mm_I := (.aload_n 0, 0, 0, 0, 0) :: (.iconst 0, 0, 0, 0, 0) :: (.iload 8, 0, 0, 0, 0) :: (.bipush 10, 0, 0, 0, 0) :: (.idiv, 0, 0, 0, 0) :: (.iload 8, 0, 0, 0, 0) :: (.bipush 10, 0, 0, 0, 0) :: (.irem, 0, 0, 0, 0) :: (.invokevirtual 278, 179, 4, 168, 115) :: (.aload_n 0, 0, 0, 0, 0) :: (.aload_n 0, 0, 0, 0, 0) :: (.getfield 20, 8, 7, 94, 0) :: (.iload 4, 0, 0, 0, 0) :: (.iaload, 0, 0, 0, 0) :: (.invokevirtual 282, 177, 2, 169, 126) :: (.i2l, 0, 0, 0, 0) :: (.lstore 9, 0, 0, 0, 0) :: (.lload 9, 0, 0, 0, 0) :: (.lconst 0, 0, 0, 0, 0) :: (.lcmp, 0, 0, 0, 0) :: (.ifCond .gt 6, 142, 0, 0, 0) :: (.goto 33, 172, 0, 0, 0) :: []
def mB_224_75 : List mm_I := (.iload 8, 0, 0, 0, 0) :: (.bipush 100, 0, 0, 0, 0) :: (.if_icmp .ge 99, 178, 0, 0, 0) :: (.iload 8, 0, 0, 0, 0) :: (.iload 5, 0, 0, 0, 0) :: (.if_icmp .eq 86, 172, 0, 0, 0) :: (.aload_n 0, 0, 0, 0, 0) :: (.iconst 0, 0, 0, 0, 0) :: (.iload 8, 0, 0, 0, 0) :: (.iload_n 3, 0, 0, 0, 0) :: (.invokevirtual 292, 181, 4, 172, 94) :: (.ifCond .ne 6, 103, 0, 0, 0) :: (.goto 72, 172, 0, 0, 0) :: []
def mB_224_69 : List mm_I := (.lconst 1, 0, 0, 0, 0) :: (.lstore 6, 0, 0, 0, 0) :: (.iconst 0, 0, 0, 0, 0) :: (.istore 8, 0, 0, 0, 0) :: mB_224_75
def mB_224_67 : List mm_I := (.iconst (-1), 0, 0, 0, 0) :: (.ireturn, 0, 0, 0, 0) :: []
def mB_224_23 : List mm_I := (.aload_n 0, 0, 0, 0, 0) :: (.getfield 63, 8, 38, 108, 0) :: (.bipush 43, 0, 0, 0, 0) :: (.iaload, 0, 0, 0, 0) :: (.istore_n 3, 0, 0, 0, 0) :: (.aload_n 0, 0, 0, 0, 0) :: (.getfield 63, 8, 38, 108, 0) :: (.bipush 44, 0, 0, 0, 0) :: (.iload_n 3, 0, 0, 0, 0) :: (.iadd, 0, 0, 0, 0) :: (.iaload, 0, 0, 0, 0) :: (.istore 4, 0, 0, 0, 0) :: (.bipush 10, 0, 0, 0, 0) :: (.iload_n 1, 0, 0, 0, 0) :: (.imul, 0, 0, 0, 0) :: (.iload_n 2, 0, 0, 0, 0) :: (.iadd, 0, 0, 0, 0) :: (.istore 5, 0, 0, 0, 0) :: (.iload 4, 0, 0, 0, 0) :: (.iconst (-1), 0, 0, 0, 0) :: (.if_icmp .eq 14, 67, 0, 0, 0) :: (.aload_n 0, 0, 0, 0, 0) :: (.iconst 0, 0, 0, 0, 0) :: (.iload 5, 0, 0, 0, 0) :: (.iload_n 3, 0, 0, 0, 0) :: (.invokevirtual 292, 181, 4, 172, 61) :: (.ifCond .ne 5, 69, 0, 0, 0) :: mB_224_67
def mB_224_21 : List mm_I := (.iconst 0, 0, 0, 0, 0) :: (.ireturn, 0, 0, 0, 0) :: []
def mB_224_0 : List mm_I := (.aload_n 0, 0, 0, 0, 0) :: (.iconst 0, 0, 0, 0, 0) :: (.putfield 93, 8, 0, 118, 0) :: (.aload_n 0, 0, 0, 0, 0) :: (.iload_n 1, 0, 0, 0, 0) :: (.invokevirtual 314, 194, 2, 179, 7) :: (.ifCond .eq 11, 21, 0, 0, 0) :: (.aload_n 0, 0, 0, 0, 0) :: (.iload_n 2, 0, 0, 0, 0) :: (.invokevirtual 314, 194, 2, 179, 15) :: (.ifCond .ne 5, 23, 0, 0, 0) :: mB_224_21
def mT_224 : List (Nat × List mm_I) := [(0, mB_224_0), (21, mB_224_21), (23, mB_224_23), (67, mB_224_67), (69, mB_224_69), (75, mB_224_75), (103, mB_224_103), (142, mB_224_142), (155, mB_224_155), (168, mB_224_168), (170, mB_224_170), (172, mB_224_172), (178, mB_224_178), (213, mB_224_213), (226, mB_224_226), (229, mB_224_229)]
-- 225: VillageBoardModel.plant(II)I
def mB_225_148 : List mm_I := (.ireturn, 0, 0, 0, 0) :: []
def mB_225_147 : List mm_I := (.iconst 0, 0, 0, 0, 0) :: mB_225_148
def mB_225_128 : List mm_I := (.bipush 6, 0, 0, 0, 0) :: (.iload 5, 0, 0, 0, 0) :: (.iload 4, 0, 0, 0, 0) :: (.isub, 0, 0, 0, 0) :: (.imul, 0, 0, 0, 0) :: (.iconst 2, 0, 0, 0, 0) :: (.iload 5, 0, 0, 0, 0) :: (.imul, 0, 0, 0, 0) :: (.if_icmp .le 7, 147, 0, 0, 0) :: (.iconst 1, 0, 0, 0, 0) :: (.goto 4, 148, 0, 0, 0) :: []
def mB_225_118 : List mm_I := (.iload_n 2, 0, 0, 0, 0) :: (.iconst 1, 0, 0, 0, 0) :: (.if_icmp .ne 8, 128, 0, 0, 0) :: (.iload 5, 0, 0, 0, 0) :: (.goto 23, 148, 0, 0, 0) :: []
def mB_225_97 : List mm_I := (.aload_n 0, 0, 0, 0, 0) :: (.iconst 0, 0, 0, 0, 0) :: (.iconst 1, 0, 0, 0, 0) :: (.iload_n 3, 0, 0, 0, 0) :: (.isub, 0, 0, 0, 0) :: (.invokevirtual 332, 192, 3, 185, 102) :: (.iconst 1, 0, 0, 0, 0) :: (.iadd, 0, 0, 0, 0) :: (.istore 5, 0, 0, 0, 0) :: (.iload_n 2, 0, 0, 0, 0) :: (.ifCond .ne 8, 118, 0, 0, 0) :: (.iload 4, 0, 0, 0, 0) :: (.goto 33, 148, 0, 0, 0) :: []
def mB_225_88 : List mm_I := (.iadd, 0, 0, 0, 0) :: (.istore 4, 0, 0, 0, 0) :: (.iinc 5 1, 0, 0, 0, 0) :: (.goto (-48), 46, 0, 0, 0) :: []
def mB_225_87 : List mm_I := (.iconst 0, 0, 0, 0, 0) :: mB_225_88
def mB_225_46 : List mm_I := (.iload 5, 0, 0, 0, 0) :: (.aload_n 0, 0, 0, 0, 0) :: (.getfield 247, 8, 1, 136, 0) :: (.if_icmp .ge 45, 97, 0, 0, 0) :: (.iload 4, 0, 0, 0, 0) :: (.aload_n 0, 0, 0, 0, 0) :: (.getfield 63, 8, 38, 108, 0) :: (.iconst 0, 0, 0, 0, 0) :: (.iload 5, 0, 0, 0, 0) :: (.iadd, 0, 0, 0, 0) :: (.iaload, 0, 0, 0, 0) :: (.iconst 1, 0, 0, 0, 0) :: (.iload_n 3, 0, 0, 0, 0) :: (.isub, 0, 0, 0, 0) :: (.if_icmp .ne 18, 87, 0, 0, 0) :: (.aload_n 0, 0, 0, 0, 0) :: (.iconst 0, 0, 0, 0, 0) :: (.iload 5, 0, 0, 0, 0) :: (.iload_n 1, 0, 0, 0, 0) :: (.invokevirtual 285, 180, 4, 170, 77) :: (.ifCond .eq 7, 87, 0, 0, 0) :: (.iconst 1, 0, 0, 0, 0) :: (.goto 4, 88, 0, 0, 0) :: []
def mB_225_40 : List mm_I := (.iconst 0, 0, 0, 0, 0) :: (.istore 4, 0, 0, 0, 0) :: (.iconst 0, 0, 0, 0, 0) :: (.istore 5, 0, 0, 0, 0) :: mB_225_46
def mB_225_24 : List mm_I := (.aload_n 0, 0, 0, 0, 0) :: (.getfield 63, 8, 38, 108, 0) :: (.iconst 0, 0, 0, 0, 0) :: (.iload_n 1, 0, 0, 0, 0) :: (.iadd, 0, 0, 0, 0) :: (.iaload, 0, 0, 0, 0) :: (.istore_n 3, 0, 0, 0, 0) :: (.iload_n 3, 0, 0, 0, 0) :: (.iconst 2, 0, 0, 0, 0) :: (.if_icmp .ne 5, 40, 0, 0, 0) :: (.iconst (-1), 0, 0, 0, 0) :: (.ireturn, 0, 0, 0, 0) :: []
def mB_225_22 : List mm_I := (.iconst 0, 0, 0, 0, 0) :: (.ireturn, 0, 0, 0, 0) :: []
def mB_225_0 : List mm_I := (.aload_n 0, 0, 0, 0, 0) :: (.iconst 0, 0, 0, 0, 0) :: (.putfield 93, 8, 0, 118, 0) :: (.aload_n 0, 0, 0, 0, 0) :: (.iload_n 1, 0, 0, 0, 0) :: (.invokevirtual 314, 194, 2, 179, 7) :: (.ifCond .eq 12, 22, 0, 0, 0) :: (.aload_n 0, 0, 0, 0, 0) :: (.iload_n 2, 0, 0, 0, 0) :: (.iconst 2, 0, 0, 0, 0) :: (.invokevirtual 317, 196, 3, 180, 16) :: (.ifCond .ne 5, 24, 0, 0, 0) :: mB_225_22
def mT_225 : List (Nat × List mm_I) := [(0, mB_225_0), (22, mB_225_22), (24, mB_225_24), (40, mB_225_40), (46, mB_225_46), (87, mB_225_87), (88, mB_225_88), (97, mB_225_97), (118, mB_225_118), (128, mB_225_128), (147, mB_225_147), (148, mB_225_148)]
-- 226: VillageBoardModel.see(III)I
def mB_226_88 : List mm_I := (.iastore, 0, 0, 0, 0) :: (.aload_n 0, 0, 0, 0, 0) :: (.dup, 0, 0, 0, 0) :: (.getfield 263, 8, 45, 140, 0) :: (.iconst 1, 0, 0, 0, 0) :: (.iadd, 0, 0, 0, 0) :: (.putfield 263, 8, 45, 140, 0) :: (.aload_n 0, 0, 0, 0, 0) :: (.getfield 263, 8, 45, 140, 0) :: (.ireturn, 0, 0, 0, 0) :: []
def mB_226_82 : List mm_I := (.bipush 10, 0, 0, 0, 0) :: (.iload_n 2, 0, 0, 0, 0) :: (.imul, 0, 0, 0, 0) :: (.iload_n 3, 0, 0, 0, 0) :: (.iadd, 0, 0, 0, 0) :: mB_226_88
def mB_226_48 : List mm_I := (.aload_n 0, 0, 0, 0, 0) :: (.getfield 78, 8, 46, 113, 0) :: (.iconst 2, 0, 0, 0, 0) :: (.aload_n 0, 0, 0, 0, 0) :: (.getfield 263, 8, 45, 140, 0) :: (.imul, 0, 0, 0, 0) :: (.iload_n 1, 0, 0, 0, 0) :: (.iastore, 0, 0, 0, 0) :: (.aload_n 0, 0, 0, 0, 0) :: (.getfield 78, 8, 46, 113, 0) :: (.iconst 2, 0, 0, 0, 0) :: (.aload_n 0, 0, 0, 0, 0) :: (.getfield 263, 8, 45, 140, 0) :: (.imul, 0, 0, 0, 0) :: (.iconst 1, 0, 0, 0, 0) :: (.iadd, 0, 0, 0, 0) :: (.iload_n 2, 0, 0, 0, 0) :: (.iload_n 3, 0, 0, 0, 0) :: (.if_icmp .ne 8, 82, 0, 0, 0) :: (.bipush 100, 0, 0, 0, 0) :: (.goto 9, 88, 0, 0, 0) :: []
def mB_226_42 : List mm_I := (.aload_n 0, 0, 0, 0, 0) :: (.iconst 2, 0, 0, 0, 0) :: (.invokevirtual 338, 173, 2, 187, 44) :: (.ireturn, 0, 0, 0, 0) :: []
def mB_226_23 : List mm_I := (.aload_n 0, 0, 0, 0, 0) :: (.getfield 263, 8, 45, 140, 0) :: (.bipush 6, 0, 0, 0, 0) :: (.if_icmp .eq 13, 42, 0, 0, 0) :: (.iload_n 1, 0, 0, 0, 0) :: (.iconst 0, 0, 0, 0, 0) :: (.bipush 29, 0, 0, 0, 0) :: (.invokestatic 305, 138, 3, 176, 36) :: (.ifCond .ne 9, 48, 0, 0, 0) :: mB_226_42
def mB_226_21 : List mm_I := (.iconst 0, 0, 0, 0, 0) :: (.ireturn, 0, 0, 0, 0) :: []
def mB_226_0 : List mm_I := (.aload_n 0, 0, 0, 0, 0) :: (.iconst 0, 0, 0, 0, 0) :: (.putfield 93, 8, 0, 118, 0) :: (.aload_n 0, 0, 0, 0, 0) :: (.iload_n 2, 0, 0, 0, 0) :: (.invokevirtual 314, 194, 2, 179, 7) :: (.ifCond .eq 11, 21, 0, 0, 0) :: (.aload_n 0, 0, 0, 0, 0) :: (.iload_n 3, 0, 0, 0, 0) :: (.invokevirtual 314, 194, 2, 179, 15) :: (.ifCond .ne 5, 23, 0, 0, 0) :: mB_226_21
def mT_226 : List (Nat × List mm_I) := [(0, mB_226_0), (21, mB_226_21), (23, mB_226_23), (42, mB_226_42), (48, mB_226_48), (82, mB_226_82), (88, mB_226_88)]
-- 227: VillageBoardModel.forget()V
def mB_227_0 : List mm_I := (.aload_n 0, 0, 0, 0, 0) :: (.iconst 0, 0, 0, 0, 0) :: (.putfield 93, 8, 0, 118, 0) :: (.aload_n 0, 0, 0, 0, 0) :: (.iconst 0, 0, 0, 0, 0) :: (.putfield 263, 8, 45, 140, 0) :: (.return_, 0, 0, 0, 0) :: []
def mT_227 : List (Nat × List mm_I) := [(0, mB_227_0)]
-- 228: VillageBoardModel.fitting()I
def mB_228_191 : List mm_I := (.iload_n 1, 0, 0, 0, 0) :: (.ireturn, 0, 0, 0, 0) :: []
def mB_228_185 : List mm_I := (.iinc 2 1, 0, 0, 0, 0) :: (.goto (-184), 4, 0, 0, 0) :: []
def mB_228_183 : List mm_I := (.ior, 0, 0, 0, 0) :: (.istore_n 1, 0, 0, 0, 0) :: mB_228_185
def mB_228_182 : List mm_I := (.iconst 0, 0, 0, 0, 0) :: mB_228_183
def mB_228_171 : List mm_I := (.iload_n 1, 0, 0, 0, 0) :: (.iload_n 3, 0, 0, 0, 0) :: (.ifCond .eq 9, 182, 0, 0, 0) :: (.iconst 1, 0, 0, 0, 0) :: (.iload_n 2, 0, 0, 0, 0) :: (.ishl, 0, 0, 0, 0) :: (.goto 4, 183, 0, 0, 0) :: []
def mB_228_164 : List mm_I := (.istore_n 3, 0, 0, 0, 0) :: (.iinc 4 1, 0, 0, 0, 0) :: (.goto (-55), 113, 0, 0, 0) :: []
def mB_228_163 : List mm_I := (.iconst 0, 0, 0, 0, 0) :: mB_228_164
def mB_228_113 : List mm_I := (.iload 4, 0, 0, 0, 0) :: (.aload_n 0, 0, 0, 0, 0) :: (.getfield 263, 8, 45, 140, 0) :: (.if_icmp .ge 52, 171, 0, 0, 0) :: (.iload_n 3, 0, 0, 0, 0) :: (.ifCond .eq 40, 163, 0, 0, 0) :: (.aload_n 0, 0, 0, 0, 0) :: (.getfield 81, 8, 47, 114, 0) :: (.bipush 30, 0, 0, 0, 0) :: (.iload_n 2, 0, 0, 0, 0) :: (.imul, 0, 0, 0, 0) :: (.aload_n 0, 0, 0, 0, 0) :: (.getfield 78, 8, 46, 113, 0) :: (.iconst 2, 0, 0, 0, 0) :: (.iload 4, 0, 0, 0, 0) :: (.imul, 0, 0, 0, 0) :: (.iaload, 0, 0, 0, 0) :: (.iadd, 0, 0, 0, 0) :: (.iaload, 0, 0, 0, 0) :: (.aload_n 0, 0, 0, 0, 0) :: (.getfield 78, 8, 46, 113, 0) :: (.iconst 2, 0, 0, 0, 0) :: (.iload 4, 0, 0, 0, 0) :: (.imul, 0, 0, 0, 0) :: (.iconst 1, 0, 0, 0, 0) :: (.iadd, 0, 0, 0, 0) :: (.iaload, 0, 0, 0, 0) :: (.if_icmp .ne 7, 163, 0, 0, 0) :: (.iconst 1, 0, 0, 0, 0) :: (.goto 4, 164, 0, 0, 0) :: []
def mB_228_108 : List mm_I := (.iconst 1, 0, 0, 0, 0) :: (.istore_n 3, 0, 0, 0, 0) :: (.iconst 0, 0, 0, 0, 0) :: (.istore 4, 0, 0, 0, 0) :: mB_228_113
def mB_228_62 : List mm_I := (.iload_n 3, 0, 0, 0, 0) :: (.bipush 30, 0, 0, 0, 0) :: (.if_icmp .ge 43, 108, 0, 0, 0) :: (.aload_n 0, 0, 0, 0, 0) :: (.getfield 81, 8, 47, 114, 0) :: (.bipush 30, 0, 0, 0, 0) :: (.iload_n 2, 0, 0, 0, 0) :: (.imul, 0, 0, 0, 0) :: (.iload_n 3, 0, 0, 0, 0) :: (.iadd, 0, 0, 0, 0) :: (.aload_n 0, 0, 0, 0, 0) :: (.bipush 46, 0, 0, 0, 0) :: (.invokevirtual 348, 185, 2, 190, 81) :: (.iastore, 0, 0, 0, 0) :: (.aload_n 0, 0, 0, 0, 0) :: (.bipush 46, 0, 0, 0, 0) :: (.aload_n 0, 0, 0, 0, 0) :: (.getfield 81, 8, 47, 114, 0) :: (.bipush 30, 0, 0, 0, 0) :: (.iload_n 2, 0, 0, 0, 0) :: (.imul, 0, 0, 0, 0) :: (.iload_n 3, 0, 0, 0, 0) :: (.iadd, 0, 0, 0, 0) :: (.iaload, 0, 0, 0, 0) :: (.invokevirtual 344, 183, 3, 189, 99) :: (.iinc 3 1, 0, 0, 0, 0) :: (.goto (-43), 62, 0, 0, 0) :: []
def mB_228_33 : List mm_I := (.aload_n 0, 0, 0, 0, 0) :: (.iconst 0, 0, 0, 0, 0) :: (.bipush 46, 0, 0, 0, 0) :: (.invokevirtual 351, 175, 3, 191, 37) :: (.aload_n 0, 0, 0, 0, 0) :: (.getfield 63, 8, 38, 108, 0) :: (.bipush 90, 0, 0, 0, 0) :: (.iload_n 2, 0, 0, 0, 0) :: (.iconst 3, 0, 0, 0, 0) :: (.idiv, 0, 0, 0, 0) :: (.iastore, 0, 0, 0, 0) :: (.aload_n 0, 0, 0, 0, 0) :: (.getfield 63, 8, 38, 108, 0) :: (.bipush 91, 0, 0, 0, 0) :: (.iload_n 2, 0, 0, 0, 0) :: (.iconst 3, 0, 0, 0, 0) :: (.irem, 0, 0, 0, 0) :: (.iastore, 0, 0, 0, 0) :: (.iconst 0, 0, 0, 0, 0) :: (.istore_n 3, 0, 0, 0, 0) :: mB_228_62
def mB_228_4 : List mm_I := (.iload_n 2, 0, 0, 0, 0) :: (.bipush 9, 0, 0, 0, 0) :: (.if_icmp .ge 184, 191, 0, 0, 0) :: (.iload_n 2, 0, 0, 0, 0) :: (.iconst 3, 0, 0, 0, 0) :: (.idiv, 0, 0, 0, 0) :: (.aload_n 0, 0, 0, 0, 0) :: (.getfield 253, 8, 3, 138, 0) :: (.if_icmp .ge 168, 185, 0, 0, 0) :: (.iload_n 2, 0, 0, 0, 0) :: (.iconst 3, 0, 0, 0, 0) :: (.irem, 0, 0, 0, 0) :: (.aload_n 0, 0, 0, 0, 0) :: (.getfield 253, 8, 3, 138, 0) :: (.if_icmp .lt 6, 33, 0, 0, 0) :: (.goto 155, 185, 0, 0, 0) :: []
def mB_228_0 : List mm_I := (.iconst 0, 0, 0, 0, 0) :: (.istore_n 1, 0, 0, 0, 0) :: (.iconst 0, 0, 0, 0, 0) :: (.istore_n 2, 0, 0, 0, 0) :: mB_228_4
def mT_228 : List (Nat × List mm_I) := [(0, mB_228_0), (4, mB_228_4), (33, mB_228_33), (62, mB_228_62), (108, mB_228_108), (113, mB_228_113), (163, mB_228_163), (164, mB_228_164), (171, mB_228_171), (182, mB_228_182), (183, mB_228_183), (185, mB_228_185), (191, mB_228_191)]
-- 229: VillageBoardModel.styles(I)I
def mB_229_64 : List mm_I := (.iconst (-1), 0, 0, 0, 0) :: (.ireturn, 0, 0, 0, 0) :: []
def mB_229_58 : List mm_I := (.iinc 3 1, 0, 0, 0, 0) :: (.goto (-29), 32, 0, 0, 0) :: []
def mB_229_32 : List mm_I := (.iload_n 3, 0, 0, 0, 0) :: (.bipush 9, 0, 0, 0, 0) :: (.if_icmp .ge 29, 64, 0, 0, 0) :: (.iload_n 2, 0, 0, 0, 0) :: (.iload_n 3, 0, 0, 0, 0) :: (.ishr, 0, 0, 0, 0) :: (.iconst 1, 0, 0, 0, 0) :: (.iand, 0, 0, 0, 0) :: (.iconst 1, 0, 0, 0, 0) :: (.if_icmp .ne 14, 58, 0, 0, 0) :: (.bipush 10, 0, 0, 0, 0) :: (.iload_n 3, 0, 0, 0, 0) :: (.iconst 3, 0, 0, 0, 0) :: (.idiv, 0, 0, 0, 0) :: (.imul, 0, 0, 0, 0) :: (.iload_n 3, 0, 0, 0, 0) :: (.iconst 3, 0, 0, 0, 0) :: (.irem, 0, 0, 0, 0) :: (.iadd, 0, 0, 0, 0) :: (.ireturn, 0, 0, 0, 0) :: []
def mB_229_30 : List mm_I := (.iconst 0, 0, 0, 0, 0) :: (.istore_n 3, 0, 0, 0, 0) :: mB_229_32
def mB_229_16 : List mm_I := (.aload_n 0, 0, 0, 0, 0) :: (.invokevirtual 383, 228, 1, 200, 17) :: (.istore_n 2, 0, 0, 0, 0) :: (.iload_n 1, 0, 0, 0, 0) :: (.ifCond .ne 8, 30, 0, 0, 0) :: (.iload_n 2, 0, 0, 0, 0) :: (.invokestatic 386, 140, 1, 201, 26) :: (.ireturn, 0, 0, 0, 0) :: []
def mB_229_0 : List mm_I := (.aload_n 0, 0, 0, 0, 0) :: (.iconst 0, 0, 0, 0, 0) :: (.putfield 93, 8, 0, 118, 0) :: (.aload_n 0, 0, 0, 0, 0) :: (.iload_n 1, 0, 0, 0, 0) :: (.iconst 1, 0, 0, 0, 0) :: (.invokevirtual 317, 196, 3, 180, 8) :: (.ifCond .ne 5, 16, 0, 0, 0) :: (.iconst 0, 0, 0, 0, 0) :: (.ireturn, 0, 0, 0, 0) :: []
def mT_229 : List (Nat × List mm_I) := [(0, mB_229_0), (16, mB_229_16), (30, mB_229_30), (32, mB_229_32), (58, mB_229_58), (64, mB_229_64)]
-- 230: VillageBoardModel.next(I)I
def mB_230_184 : List mm_I := (.ireturn, 0, 0, 0, 0) :: []
def mB_230_182 : List mm_I := (.iload 4, 0, 0, 0, 0) :: mB_230_184
def mB_230_174 : List mm_I := (.iload_n 1, 0, 0, 0, 0) :: (.ifCond .ne 7, 182, 0, 0, 0) :: (.iload_n 3, 0, 0, 0, 0) :: (.goto 5, 184, 0, 0, 0) :: []
def mB_230_168 : List mm_I := (.iinc 5 1, 0, 0, 0, 0) :: (.goto (-142), 29, 0, 0, 0) :: []
def mB_230_161 : List mm_I := (.iload 5, 0, 0, 0, 0) :: (.istore_n 3, 0, 0, 0, 0) :: (.iload 6, 0, 0, 0, 0) :: (.istore 4, 0, 0, 0, 0) :: mB_230_168
def mB_230_151 : List mm_I := (.iload 6, 0, 0, 0, 0) :: (.iload 4, 0, 0, 0, 0) :: (.if_icmp .gt 6, 161, 0, 0, 0) :: (.goto 10, 168, 0, 0, 0) :: []
def mB_230_145 : List mm_I := (.iinc 7 1, 0, 0, 0, 0) :: (.goto (-106), 42, 0, 0, 0) :: []
def mB_230_142 : List mm_I := (.iadd, 0, 0, 0, 0) :: (.istore 6, 0, 0, 0, 0) :: mB_230_145
def mB_230_141 : List mm_I := (.iconst 0, 0, 0, 0, 0) :: mB_230_142
def mB_230_130 : List mm_I := (.iload 6, 0, 0, 0, 0) :: (.iload 8, 0, 0, 0, 0) :: (.ifCond .eq 7, 141, 0, 0, 0) :: (.iconst 1, 0, 0, 0, 0) :: (.goto 4, 142, 0, 0, 0) :: []
def mB_230_122 : List mm_I := (.istore 8, 0, 0, 0, 0) :: (.iinc 9 1, 0, 0, 0, 0) :: (.goto (-60), 67, 0, 0, 0) :: []
def mB_230_121 : List mm_I := (.iconst 0, 0, 0, 0, 0) :: mB_230_122
def mB_230_117 : List mm_I := (.iconst 1, 0, 0, 0, 0) :: (.goto 4, 122, 0, 0, 0) :: []
def mB_230_67 : List mm_I := (.iload 9, 0, 0, 0, 0) :: (.iload 7, 0, 0, 0, 0) :: (.if_icmp .ge 59, 130, 0, 0, 0) :: (.iload 8, 0, 0, 0, 0) :: (.ifCond .eq 45, 121, 0, 0, 0) :: (.iload_n 2, 0, 0, 0, 0) :: (.iload 9, 0, 0, 0, 0) :: (.ishr, 0, 0, 0, 0) :: (.iconst 1, 0, 0, 0, 0) :: (.iand, 0, 0, 0, 0) :: (.ifCond .eq 32, 117, 0, 0, 0) :: (.aload_n 0, 0, 0, 0, 0) :: (.getfield 81, 8, 47, 114, 0) :: (.bipush 30, 0, 0, 0, 0) :: (.iload 7, 0, 0, 0, 0) :: (.imul, 0, 0, 0, 0) :: (.iload 5, 0, 0, 0, 0) :: (.iadd, 0, 0, 0, 0) :: (.iaload, 0, 0, 0, 0) :: (.aload_n 0, 0, 0, 0, 0) :: (.getfield 81, 8, 47, 114, 0) :: (.bipush 30, 0, 0, 0, 0) :: (.iload 9, 0, 0, 0, 0) :: (.imul, 0, 0, 0, 0) :: (.iload 5, 0, 0, 0, 0) :: (.iadd, 0, 0, 0, 0) :: (.iaload, 0, 0, 0, 0) :: (.if_icmp .eq 7, 121, 0, 0, 0) :: mB_230_117
def mB_230_61 : List mm_I := (.iconst 1, 0, 0, 0, 0) :: (.istore 8, 0, 0, 0, 0) :: (.iconst 0, 0, 0, 0, 0) :: (.istore 9, 0, 0, 0, 0) :: mB_230_67
def mB_230_42 : List mm_I := (.iload 7, 0, 0, 0, 0) :: (.bipush 9, 0, 0, 0, 0) :: (.if_icmp .ge 105, 151, 0, 0, 0) :: (.iload_n 2, 0, 0, 0, 0) :: (.iload 7, 0, 0, 0, 0) :: (.ishr, 0, 0, 0, 0) :: (.iconst 1, 0, 0, 0, 0) :: (.iand, 0, 0, 0, 0) :: (.ifCond .ne 6, 61, 0, 0, 0) :: (.goto 87, 145, 0, 0, 0) :: []
def mB_230_29 : List mm_I := (.iload 5, 0, 0, 0, 0) :: (.bipush 30, 0, 0, 0, 0) :: (.if_icmp .ge 141, 174, 0, 0, 0) :: (.iconst 0, 0, 0, 0, 0) :: (.istore 6, 0, 0, 0, 0) :: (.iconst 0, 0, 0, 0, 0) :: (.istore 7, 0, 0, 0, 0) :: mB_230_42
def mB_230_16 : List mm_I := (.aload_n 0, 0, 0, 0, 0) :: (.invokevirtual 383, 228, 1, 200, 17) :: (.istore_n 2, 0, 0, 0, 0) :: (.iconst (-1), 0, 0, 0, 0) :: (.istore_n 3, 0, 0, 0, 0) :: (.iconst 0, 0, 0, 0, 0) :: (.istore 4, 0, 0, 0, 0) :: (.iconst 0, 0, 0, 0, 0) :: (.istore 5, 0, 0, 0, 0) :: mB_230_29
def mB_230_0 : List mm_I := (.aload_n 0, 0, 0, 0, 0) :: (.iconst 0, 0, 0, 0, 0) :: (.putfield 93, 8, 0, 118, 0) :: (.aload_n 0, 0, 0, 0, 0) :: (.iload_n 1, 0, 0, 0, 0) :: (.iconst 1, 0, 0, 0, 0) :: (.invokevirtual 317, 196, 3, 180, 8) :: (.ifCond .ne 5, 16, 0, 0, 0) :: (.iconst 0, 0, 0, 0, 0) :: (.ireturn, 0, 0, 0, 0) :: []
def mT_230 : List (Nat × List mm_I) := [(0, mB_230_0), (16, mB_230_16), (29, mB_230_29), (42, mB_230_42), (61, mB_230_61), (67, mB_230_67), (117, mB_230_117), (121, mB_230_121), (122, mB_230_122), (130, mB_230_130), (141, mB_230_141), (142, mB_230_142), (145, mB_230_145), (151, mB_230_151), (161, mB_230_161), (168, mB_230_168), (174, mB_230_174), (182, mB_230_182), (184, mB_230_184)]
-- 231: VillageBoardModel.answered(II)I
def mB_231_0 : List mm_I := (.aload_n 0, 0, 0, 0, 0) :: (.iload_n 1, 0, 0, 0, 0) :: (.iload_n 1, 0, 0, 0, 0) :: (.bipush 46, 0, 0, 0, 0) :: (.iadd, 0, 0, 0, 0) :: (.invokevirtual 351, 175, 3, 191, 6) :: (.aload_n 0, 0, 0, 0, 0) :: (.iload_n 1, 0, 0, 0, 0) :: (.bipush 46, 0, 0, 0, 0) :: (.iadd, 0, 0, 0, 0) :: (.iload_n 2, 0, 0, 0, 0) :: (.invokevirtual 344, 183, 3, 189, 15) :: (.iconst 0, 0, 0, 0, 0) :: (.aload_n 0, 0, 0, 0, 0) :: (.iload_n 1, 0, 0, 0, 0) :: (.bipush 46, 0, 0, 0, 0) :: (.iadd, 0, 0, 0, 0) :: (.invokevirtual 360, 210, 2, 193, 24) :: (.isub, 0, 0, 0, 0) :: (.ireturn, 0, 0, 0, 0) :: []
def mT_231 : List (Nat × List mm_I) := [(0, mB_231_0)]
-- 232: VillageBoardModel.treaty()Z
def mB_232_80 : List mm_I := (.iconst 1, 0, 0, 0, 0) :: (.ireturn, 0, 0, 0, 0) :: []
def mB_232_74 : List mm_I := (.iinc 1 1, 0, 0, 0, 0) :: (.goto (-70), 7, 0, 0, 0) :: []
def mB_232_68 : List mm_I := (.iinc 3 1, 0, 0, 0, 0) :: (.goto (-33), 38, 0, 0, 0) :: []
def mB_232_38 : List mm_I := (.iload_n 3, 0, 0, 0, 0) :: (.bipush 100, 0, 0, 0, 0) :: (.if_icmp .ge 33, 74, 0, 0, 0) :: (.aload_n 0, 0, 0, 0, 0) :: (.bipush 46, 0, 0, 0, 0) :: (.iload_n 3, 0, 0, 0, 0) :: (.iload_n 1, 0, 0, 0, 0) :: (.invokevirtual 292, 181, 4, 172, 49) :: (.ifCond .eq 16, 68, 0, 0, 0) :: (.aload_n 0, 0, 0, 0, 0) :: (.bipush 46, 0, 0, 0, 0) :: (.iload_n 3, 0, 0, 0, 0) :: (.invokevirtual 389, 231, 3, 202, 59) :: (.iload_n 2, 0, 0, 0, 0) :: (.if_icmp .le 5, 68, 0, 0, 0) :: (.iconst 0, 0, 0, 0, 0) :: (.ireturn, 0, 0, 0, 0) :: []
def mB_232_7 : List mm_I := (.iload_n 1, 0, 0, 0, 0) :: (.iconst 2, 0, 0, 0, 0) :: (.if_icmp .ge 71, 80, 0, 0, 0) :: (.aload_n 0, 0, 0, 0, 0) :: (.iconst 0, 0, 0, 0, 0) :: (.bipush 46, 0, 0, 0, 0) :: (.invokevirtual 351, 175, 3, 191, 16) :: (.aload_n 0, 0, 0, 0, 0) :: (.getfield 63, 8, 38, 108, 0) :: (.bipush 89, 0, 0, 0, 0) :: (.iload_n 1, 0, 0, 0, 0) :: (.iastore, 0, 0, 0, 0) :: (.aload_n 0, 0, 0, 0, 0) :: (.bipush 46, 0, 0, 0, 0) :: (.bipush 100, 0, 0, 0, 0) :: (.invokevirtual 389, 231, 3, 202, 32) :: (.istore_n 2, 0, 0, 0, 0) :: (.iconst 0, 0, 0, 0, 0) :: (.istore_n 3, 0, 0, 0, 0) :: mB_232_38
def mB_232_0 : List mm_I := (.aload_n 0, 0, 0, 0, 0) :: (.iconst 0, 0, 0, 0, 0) :: (.putfield 93, 8, 0, 118, 0) :: (.iconst 0, 0, 0, 0, 0) :: (.istore_n 1, 0, 0, 0, 0) :: mB_232_7
def mT_232 : List (Nat × List mm_I) := [(0, mB_232_0), (7, mB_232_7), (38, mB_232_38), (68, mB_232_68), (74, mB_232_74), (80, mB_232_80)]
-- 233: VillageBoardModel.richer(III)I
def mB_233_51 : List mm_I := (.aload_n 0, 0, 0, 0, 0) :: (.getfield 63, 8, 38, 108, 0) :: (.bipush 86, 0, 0, 0, 0) :: (.iload_n 1, 0, 0, 0, 0) :: (.iadd, 0, 0, 0, 0) :: (.iaload, 0, 0, 0, 0) :: (.aload_n 0, 0, 0, 0, 0) :: (.getfield 63, 8, 38, 108, 0) :: (.bipush 40, 0, 0, 0, 0) :: (.iload_n 1, 0, 0, 0, 0) :: (.iadd, 0, 0, 0, 0) :: (.iaload, 0, 0, 0, 0) :: (.isub, 0, 0, 0, 0) :: (.ireturn, 0, 0, 0, 0) :: []
def mB_233_26 : List mm_I := (.iload 4, 0, 0, 0, 0) :: (.bipush 10, 0, 0, 0, 0) :: (.if_icmp .ge 21, 51, 0, 0, 0) :: (.aload_n 0, 0, 0, 0, 0) :: (.bipush 46, 0, 0, 0, 0) :: (.aload_n 0, 0, 0, 0, 0) :: (.bipush 46, 0, 0, 0, 0) :: (.invokevirtual 348, 185, 2, 190, 39) :: (.invokevirtual 344, 183, 3, 189, 42) :: (.iinc 4 1, 0, 0, 0, 0) :: (.goto (-22), 26, 0, 0, 0) :: []
def mB_233_0 : List mm_I := (.aload_n 0, 0, 0, 0, 0) :: (.iconst 0, 0, 0, 0, 0) :: (.bipush 46, 0, 0, 0, 0) :: (.invokevirtual 351, 175, 3, 191, 4) :: (.aload_n 0, 0, 0, 0, 0) :: (.getfield 63, 8, 38, 108, 0) :: (.bipush 90, 0, 0, 0, 0) :: (.iload_n 2, 0, 0, 0, 0) :: (.iastore, 0, 0, 0, 0) :: (.aload_n 0, 0, 0, 0, 0) :: (.getfield 63, 8, 38, 108, 0) :: (.bipush 91, 0, 0, 0, 0) :: (.iload_n 3, 0, 0, 0, 0) :: (.iastore, 0, 0, 0, 0) :: (.iconst 0, 0, 0, 0, 0) :: (.istore 4, 0, 0, 0, 0) :: mB_233_26
def mT_233 : List (Nat × List mm_I) := [(0, mB_233_0), (26, mB_233_26), (51, mB_233_51)]
-- 234: VillageBoardModel.game(III)I
def mB_234_227 : List mm_I := (.ireturn, 0, 0, 0, 0) :: []
def mB_234_225 : List mm_I := (.iload 5, 0, 0, 0, 0) :: mB_234_227
def mB_234_216 : List mm_I := (.iload_n 3, 0, 0, 0, 0) :: (.ifCond .ne 8, 225, 0, 0, 0) :: (.iload 4, 0, 0, 0, 0) :: (.goto 5, 227, 0, 0, 0) :: []
def mB_234_210 : List mm_I := (.iinc 6 1, 0, 0, 0, 0) :: (.goto (-133), 80, 0, 0, 0) :: []
def mB_234_187 : List mm_I := (.iinc 4 1, 0, 0, 0, 0) :: (.iload 5, 0, 0, 0, 0) :: (.iconst (-1), 0, 0, 0, 0) :: (.if_icmp .ne 17, 210, 0, 0, 0) :: (.bipush 10, 0, 0, 0, 0) :: (.iload 6, 0, 0, 0, 0) :: (.iconst 2, 0, 0, 0, 0) :: (.idiv, 0, 0, 0, 0) :: (.imul, 0, 0, 0, 0) :: (.iload 6, 0, 0, 0, 0) :: (.iconst 2, 0, 0, 0, 0) :: (.irem, 0, 0, 0, 0) :: (.iadd, 0, 0, 0, 0) :: (.istore 5, 0, 0, 0, 0) :: mB_234_210
def mB_234_140 : List mm_I := (.istore 10, 0, 0, 0, 0) :: (.aload_n 0, 0, 0, 0, 0) :: (.iconst 0, 0, 0, 0, 0) :: (.iload 8, 0, 0, 0, 0) :: (.iload 9, 0, 0, 0, 0) :: (.invokevirtual 392, 233, 4, 203, 148) :: (.aload_n 0, 0, 0, 0, 0) :: (.iconst 0, 0, 0, 0, 0) :: (.iload 7, 0, 0, 0, 0) :: (.iload 9, 0, 0, 0, 0) :: (.invokevirtual 392, 233, 4, 203, 157) :: (.if_icmp .gt 50, 210, 0, 0, 0) :: (.aload_n 0, 0, 0, 0, 0) :: (.iconst 1, 0, 0, 0, 0) :: (.iload 7, 0, 0, 0, 0) :: (.iload 10, 0, 0, 0, 0) :: (.invokevirtual 392, 233, 4, 203, 169) :: (.aload_n 0, 0, 0, 0, 0) :: (.iconst 1, 0, 0, 0, 0) :: (.iload 7, 0, 0, 0, 0) :: (.iload 9, 0, 0, 0, 0) :: (.invokevirtual 392, 233, 4, 203, 178) :: (.if_icmp .le 6, 187, 0, 0, 0) :: (.goto 26, 210, 0, 0, 0) :: []
def mB_234_139 : List mm_I := (.iload_n 1, 0, 0, 0, 0) :: mB_234_140
def mB_234_126 : List mm_I := (.istore 9, 0, 0, 0, 0) :: (.iload 6, 0, 0, 0, 0) :: (.iconst 2, 0, 0, 0, 0) :: (.irem, 0, 0, 0, 0) :: (.ifCond .ne 7, 139, 0, 0, 0) :: (.iload_n 2, 0, 0, 0, 0) :: (.goto 4, 140, 0, 0, 0) :: []
def mB_234_125 : List mm_I := (.iload_n 2, 0, 0, 0, 0) :: mB_234_126
def mB_234_112 : List mm_I := (.istore 8, 0, 0, 0, 0) :: (.iload 6, 0, 0, 0, 0) :: (.iconst 2, 0, 0, 0, 0) :: (.irem, 0, 0, 0, 0) :: (.ifCond .ne 7, 125, 0, 0, 0) :: (.iload_n 1, 0, 0, 0, 0) :: (.goto 4, 126, 0, 0, 0) :: []
def mB_234_111 : List mm_I := (.iload_n 1, 0, 0, 0, 0) :: mB_234_112
def mB_234_98 : List mm_I := (.istore 7, 0, 0, 0, 0) :: (.iload 6, 0, 0, 0, 0) :: (.iconst 2, 0, 0, 0, 0) :: (.idiv, 0, 0, 0, 0) :: (.ifCond .ne 7, 111, 0, 0, 0) :: (.iload_n 2, 0, 0, 0, 0) :: (.goto 4, 112, 0, 0, 0) :: []
def mB_234_97 : List mm_I := (.iload_n 2, 0, 0, 0, 0) :: mB_234_98
def mB_234_80 : List mm_I := (.iload 6, 0, 0, 0, 0) :: (.iconst 4, 0, 0, 0, 0) :: (.if_icmp .ge 133, 216, 0, 0, 0) :: (.iload 6, 0, 0, 0, 0) :: (.iconst 2, 0, 0, 0, 0) :: (.idiv, 0, 0, 0, 0) :: (.ifCond .ne 7, 97, 0, 0, 0) :: (.iload_n 1, 0, 0, 0, 0) :: (.goto 4, 98, 0, 0, 0) :: []
def mB_234_71 : List mm_I := (.iconst 0, 0, 0, 0, 0) :: (.istore 4, 0, 0, 0, 0) :: (.iconst (-1), 0, 0, 0, 0) :: (.istore 5, 0, 0, 0, 0) :: (.iconst 0, 0, 0, 0, 0) :: (.istore 6, 0, 0, 0, 0) :: mB_234_80
def mB_234_69 : List mm_I := (.iconst 0, 0, 0, 0, 0) :: (.ireturn, 0, 0, 0, 0) :: []
def mB_234_62 : List mm_I := (.iconst 2, 0, 0, 0, 0) :: (.invokevirtual 240, 137, 3, 163, 63) :: (.ifCond .ne 5, 71, 0, 0, 0) :: mB_234_69
def mB_234_61 : List mm_I := (.iconst 0, 0, 0, 0, 0) :: mB_234_62
def mB_234_35 : List mm_I := (.iconst 1, 0, 0, 0, 0) :: (.invokevirtual 240, 137, 3, 163, 36) :: (.ifCond .eq 30, 69, 0, 0, 0) :: (.aload_n 0, 0, 0, 0, 0) :: (.iload_n 3, 0, 0, 0, 0) :: (.iconst 1, 0, 0, 0, 0) :: (.invokevirtual 317, 196, 3, 180, 45) :: (.ifCond .eq 21, 69, 0, 0, 0) :: (.aload_n 0, 0, 0, 0, 0) :: (.iload_n 1, 0, 0, 0, 0) :: (.iload_n 2, 0, 0, 0, 0) :: (.if_icmp .eq 7, 61, 0, 0, 0) :: (.iconst 1, 0, 0, 0, 0) :: (.goto 4, 62, 0, 0, 0) :: []
def mB_234_34 : List mm_I := (.iconst 0, 0, 0, 0, 0) :: mB_234_35
def mB_234_0 : List mm_I := (.aload_n 0, 0, 0, 0, 0) :: (.iconst 0, 0, 0, 0, 0) :: (.putfield 93, 8, 0, 118, 0) :: (.aload_n 0, 0, 0, 0, 0) :: (.iload_n 1, 0, 0, 0, 0) :: (.ifCond .lt 27, 34, 0, 0, 0) :: (.iload_n 1, 0, 0, 0, 0) :: (.aload_n 0, 0, 0, 0, 0) :: (.getfield 253, 8, 3, 138, 0) :: (.if_icmp .ge 19, 34, 0, 0, 0) :: (.iload_n 2, 0, 0, 0, 0) :: (.ifCond .lt 15, 34, 0, 0, 0) :: (.iload_n 2, 0, 0, 0, 0) :: (.aload_n 0, 0, 0, 0, 0) :: (.getfield 253, 8, 3, 138, 0) :: (.if_icmp .ge 7, 34, 0, 0, 0) :: (.iconst 1, 0, 0, 0, 0) :: (.goto 4, 35, 0, 0, 0) :: []
def mT_234 : List (Nat × List mm_I) := [(0, mB_234_0), (34, mB_234_34), (35, mB_234_35), (61, mB_234_61), (62, mB_234_62), (69, mB_234_69), (71, mB_234_71), (80, mB_234_80), (97, mB_234_97), (98, mB_234_98), (111, mB_234_111), (112, mB_234_112), (125, mB_234_125), (126, mB_234_126), (139, mB_234_139), (140, mB_234_140), (187, mB_234_187), (210, mB_234_210), (216, mB_234_216), (225, mB_234_225), (227, mB_234_227)]
-- 235: VillageBoardModel.draw(I)I
def mB_235_0 : List mm_I := (.aload_n 0, 0, 0, 0, 0) :: (.aload_n 0, 0, 0, 0, 0) :: (.getfield 395, 8, 48, 143, 0) :: (.ldc_w 398, 0, 0, 1752, 1103515245) :: (.imul, 0, 0, 0, 0) :: (.sipush 12345, 0, 0, 0, 0) :: (.iadd, 0, 0, 0, 0) :: (.putfield 395, 8, 48, 143, 0) :: (.aload_n 0, 0, 0, 0, 0) :: (.getfield 395, 8, 48, 143, 0) :: (.bipush 16, 0, 0, 0, 0) :: (.ishr, 0, 0, 0, 0) :: (.sipush 32767, 0, 0, 0, 0) :: (.iand, 0, 0, 0, 0) :: (.iload_n 1, 0, 0, 0, 0) :: (.irem, 0, 0, 0, 0) :: (.ireturn, 0, 0, 0, 0) :: []
def mT_235 : List (Nat × List mm_I) := [(0, mB_235_0)]
-- 236: VillageBoardModel.moveOf(II)I
def mB_236_50 : List mm_I := (.bipush 100, 0, 0, 0, 0) :: (.ireturn, 0, 0, 0, 0) :: []
def mB_236_44 : List mm_I := (.iinc 4 1, 0, 0, 0, 0) :: (.goto (-42), 5, 0, 0, 0) :: []
def mB_236_41 : List mm_I := (.iinc 3 (-1), 0, 0, 0, 0) :: mB_236_44
def mB_236_34 : List mm_I := (.iload_n 3, 0, 0, 0, 0) :: (.ifCond .ne 6, 41, 0, 0, 0) :: (.iload 4, 0, 0, 0, 0) :: (.ireturn, 0, 0, 0, 0) :: []
def mB_236_5 : List mm_I := (.iload 4, 0, 0, 0, 0) :: (.bipush 100, 0, 0, 0, 0) :: (.if_icmp .ge 41, 50, 0, 0, 0) :: (.aload_n 0, 0, 0, 0, 0) :: (.iload_n 1, 0, 0, 0, 0) :: (.iload 4, 0, 0, 0, 0) :: (.aload_n 0, 0, 0, 0, 0) :: (.getfield 63, 8, 38, 108, 0) :: (.iload_n 1, 0, 0, 0, 0) :: (.bipush 43, 0, 0, 0, 0) :: (.iadd, 0, 0, 0, 0) :: (.iaload, 0, 0, 0, 0) :: (.invokevirtual 292, 181, 4, 172, 25) :: (.ifCond .ne 6, 34, 0, 0, 0) :: (.goto 13, 44, 0, 0, 0) :: []
def mB_236_0 : List mm_I := (.iload_n 2, 0, 0, 0, 0) :: (.istore_n 3, 0, 0, 0, 0) :: (.iconst 0, 0, 0, 0, 0) :: (.istore 4, 0, 0, 0, 0) :: mB_236_5
def mT_236 : List (Nat × List mm_I) := [(0, mB_236_0), (5, mB_236_5), (34, mB_236_34), (41, mB_236_41), (44, mB_236_44), (50, mB_236_50)]
-- 237: VillageBoardModel.years(III)I
def mB_237_128 : List mm_I := (.ireturn, 0, 0, 0, 0) :: []
def mB_237_117 : List mm_I := (.aload_n 0, 0, 0, 0, 0) :: (.getfield 63, 8, 38, 108, 0) :: (.bipush 86, 0, 0, 0, 0) :: (.iload_n 3, 0, 0, 0, 0) :: (.iadd, 0, 0, 0, 0) :: (.iconst 1, 0, 0, 0, 0) :: (.isub, 0, 0, 0, 0) :: (.iaload, 0, 0, 0, 0) :: mB_237_128
def mB_237_89 : List mm_I := (.iload_n 3, 0, 0, 0, 0) :: (.ifCond .ne 27, 117, 0, 0, 0) :: (.aload_n 0, 0, 0, 0, 0) :: (.bipush 46, 0, 0, 0, 0) :: (.iconst 0, 0, 0, 0, 0) :: (.invokevirtual 308, 186, 3, 177, 97) :: (.invokestatic 386, 140, 1, 201, 100) :: (.aload_n 0, 0, 0, 0, 0) :: (.bipush 46, 0, 0, 0, 0) :: (.iconst 1, 0, 0, 0, 0) :: (.invokevirtual 308, 186, 3, 177, 107) :: (.invokestatic 386, 140, 1, 201, 110) :: (.iadd, 0, 0, 0, 0) :: (.goto 14, 128, 0, 0, 0) :: []
def mB_237_46 : List mm_I := (.iload 4, 0, 0, 0, 0) :: (.iload_n 2, 0, 0, 0, 0) :: (.if_icmp .ge 40, 89, 0, 0, 0) :: (.aload_n 0, 0, 0, 0, 0) :: (.bipush 46, 0, 0, 0, 0) :: (.aload_n 0, 0, 0, 0, 0) :: (.bipush 46, 0, 0, 0, 0) :: (.aload_n 0, 0, 0, 0, 0) :: (.aload_n 0, 0, 0, 0, 0) :: (.bipush 46, 0, 0, 0, 0) :: (.aload_n 0, 0, 0, 0, 0) :: (.getfield 63, 8, 38, 108, 0) :: (.bipush 89, 0, 0, 0, 0) :: (.iaload, 0, 0, 0, 0) :: (.invokevirtual 332, 192, 3, 185, 69) :: (.iconst 1, 0, 0, 0, 0) :: (.iadd, 0, 0, 0, 0) :: (.invokevirtual 399, 235, 2, 204, 74) :: (.invokevirtual 402, 236, 3, 205, 77) :: (.invokevirtual 344, 183, 3, 189, 80) :: (.iinc 4 1, 0, 0, 0, 0) :: (.goto (-40), 46, 0, 0, 0) :: []
def mB_237_31 : List mm_I := (.aload_n 0, 0, 0, 0, 0) :: (.iconst 0, 0, 0, 0, 0) :: (.bipush 46, 0, 0, 0, 0) :: (.invokevirtual 351, 175, 3, 191, 35) :: (.aload_n 0, 0, 0, 0, 0) :: (.iload_n 1, 0, 0, 0, 0) :: (.putfield 395, 8, 48, 143, 0) :: (.iconst 0, 0, 0, 0, 0) :: (.istore 4, 0, 0, 0, 0) :: mB_237_46
def mB_237_29 : List mm_I := (.iconst 0, 0, 0, 0, 0) :: (.ireturn, 0, 0, 0, 0) :: []
def mB_237_0 : List mm_I := (.aload_n 0, 0, 0, 0, 0) :: (.iconst 0, 0, 0, 0, 0) :: (.putfield 93, 8, 0, 118, 0) :: (.aload_n 0, 0, 0, 0, 0) :: (.iload_n 3, 0, 0, 0, 0) :: (.iconst 2, 0, 0, 0, 0) :: (.invokevirtual 317, 196, 3, 180, 8) :: (.ifCond .eq 18, 29, 0, 0, 0) :: (.aload_n 0, 0, 0, 0, 0) :: (.iload_n 2, 0, 0, 0, 0) :: (.iconst 0, 0, 0, 0, 0) :: (.bipush 60, 0, 0, 0, 0) :: (.invokestatic 305, 138, 3, 176, 19) :: (.iconst 2, 0, 0, 0, 0) :: (.invokevirtual 240, 137, 3, 163, 23) :: (.ifCond .ne 5, 31, 0, 0, 0) :: mB_237_29
def mT_237 : List (Nat × List mm_I) := [(0, mB_237_0), (29, mB_237_29), (31, mB_237_31), (46, mB_237_46), (89, mB_237_89), (117, mB_237_117), (128, mB_237_128)]
-- 238: VillageBoardModel.owes(I)I
def mB_238_76 : List mm_I := (.iload_n 2, 0, 0, 0, 0) :: (.ireturn, 0, 0, 0, 0) :: []
def mB_238_68 : List mm_I := (.iadd, 0, 0, 0, 0) :: (.istore_n 2, 0, 0, 0, 0) :: (.iinc 3 1, 0, 0, 0, 0) :: (.goto (-54), 19, 0, 0, 0) :: []
def mB_238_67 : List mm_I := (.iconst 0, 0, 0, 0, 0) :: mB_238_68
def mB_238_19 : List mm_I := (.iload_n 3, 0, 0, 0, 0) :: (.aload_n 0, 0, 0, 0, 0) :: (.getfield 247, 8, 1, 136, 0) :: (.if_icmp .ge 52, 76, 0, 0, 0) :: (.iload_n 2, 0, 0, 0, 0) :: (.aload_n 0, 0, 0, 0, 0) :: (.getfield 63, 8, 38, 108, 0) :: (.bipush 10, 0, 0, 0, 0) :: (.iload_n 3, 0, 0, 0, 0) :: (.iadd, 0, 0, 0, 0) :: (.iaload, 0, 0, 0, 0) :: (.iload_n 1, 0, 0, 0, 0) :: (.if_icmp .ne 29, 67, 0, 0, 0) :: (.aload_n 0, 0, 0, 0, 0) :: (.getfield 13, 8, 5, 92, 0) :: (.iload_n 3, 0, 0, 0, 0) :: (.iaload, 0, 0, 0, 0) :: (.aload_n 0, 0, 0, 0, 0) :: (.getfield 63, 8, 38, 108, 0) :: (.bipush 20, 0, 0, 0, 0) :: (.bipush 10, 0, 0, 0, 0) :: (.iconst 1, 0, 0, 0, 0) :: (.iload_n 1, 0, 0, 0, 0) :: (.isub, 0, 0, 0, 0) :: (.imul, 0, 0, 0, 0) :: (.iadd, 0, 0, 0, 0) :: (.iload_n 3, 0, 0, 0, 0) :: (.iadd, 0, 0, 0, 0) :: (.iaload, 0, 0, 0, 0) :: (.imul, 0, 0, 0, 0) :: (.goto 4, 68, 0, 0, 0) :: []
def mB_238_15 : List mm_I := (.iconst 0, 0, 0, 0, 0) :: (.istore_n 2, 0, 0, 0, 0) :: (.iconst 0, 0, 0, 0, 0) :: (.istore_n 3, 0, 0, 0, 0) :: mB_238_19
def mB_238_0 : List mm_I := (.aload_n 0, 0, 0, 0, 0) :: (.iconst 0, 0, 0, 0, 0) :: (.putfield 93, 8, 0, 118, 0) :: (.aload_n 0, 0, 0, 0, 0) :: (.iload_n 1, 0, 0, 0, 0) :: (.invokevirtual 326, 195, 2, 183, 7) :: (.ifCond .ne 5, 15, 0, 0, 0) :: (.iconst 0, 0, 0, 0, 0) :: (.ireturn, 0, 0, 0, 0) :: []
def mT_238 : List (Nat × List mm_I) := [(0, mB_238_0), (15, mB_238_15), (19, mB_238_19), (67, mB_238_67), (68, mB_238_68), (76, mB_238_76)]
-- 239: VillageBoardModel.front()I
def mB_239_86 : List mm_I := (.iload_n 1, 0, 0, 0, 0) :: (.ireturn, 0, 0, 0, 0) :: []
def mB_239_80 : List mm_I := (.iinc 2 1, 0, 0, 0, 0) :: (.goto (-74), 9, 0, 0, 0) :: []
def mB_239_72 : List mm_I := (.iadd, 0, 0, 0, 0) :: (.istore_n 1, 0, 0, 0, 0) :: (.iinc 3 1, 0, 0, 0, 0) :: (.goto (-58), 19, 0, 0, 0) :: []
def mB_239_71 : List mm_I := (.iconst 0, 0, 0, 0, 0) :: mB_239_72
def mB_239_19 : List mm_I := (.iload_n 3, 0, 0, 0, 0) :: (.aload_n 0, 0, 0, 0, 0) :: (.getfield 247, 8, 1, 136, 0) :: (.if_icmp .ge 56, 80, 0, 0, 0) :: (.iload_n 1, 0, 0, 0, 0) :: (.aload_n 0, 0, 0, 0, 0) :: (.getfield 26, 8, 9, 96, 0) :: (.bipush 10, 0, 0, 0, 0) :: (.iload_n 2, 0, 0, 0, 0) :: (.imul, 0, 0, 0, 0) :: (.iload_n 3, 0, 0, 0, 0) :: (.iadd, 0, 0, 0, 0) :: (.baload, 0, 0, 0, 0) :: (.ifCond .eq 32, 71, 0, 0, 0) :: (.aload_n 0, 0, 0, 0, 0) :: (.getfield 63, 8, 38, 108, 0) :: (.bipush 10, 0, 0, 0, 0) :: (.iload_n 2, 0, 0, 0, 0) :: (.iadd, 0, 0, 0, 0) :: (.iaload, 0, 0, 0, 0) :: (.ifCond .ne 20, 71, 0, 0, 0) :: (.aload_n 0, 0, 0, 0, 0) :: (.getfield 63, 8, 38, 108, 0) :: (.bipush 10, 0, 0, 0, 0) :: (.iload_n 3, 0, 0, 0, 0) :: (.iadd, 0, 0, 0, 0) :: (.iaload, 0, 0, 0, 0) :: (.iconst 1, 0, 0, 0, 0) :: (.if_icmp .ne 7, 71, 0, 0, 0) :: (.iconst 1, 0, 0, 0, 0) :: (.goto 4, 72, 0, 0, 0) :: []
def mB_239_9 : List mm_I := (.iload_n 2, 0, 0, 0, 0) :: (.aload_n 0, 0, 0, 0, 0) :: (.getfield 247, 8, 1, 136, 0) :: (.if_icmp .ge 72, 86, 0, 0, 0) :: (.iconst 0, 0, 0, 0, 0) :: (.istore_n 3, 0, 0, 0, 0) :: mB_239_19
def mB_239_0 : List mm_I := (.aload_n 0, 0, 0, 0, 0) :: (.iconst 0, 0, 0, 0, 0) :: (.putfield 93, 8, 0, 118, 0) :: (.iconst 0, 0, 0, 0, 0) :: (.istore_n 1, 0, 0, 0, 0) :: (.iconst 0, 0, 0, 0, 0) :: (.istore_n 2, 0, 0, 0, 0) :: mB_239_9
def mT_239 : List (Nat × List mm_I) := [(0, mB_239_0), (9, mB_239_9), (19, mB_239_19), (71, mB_239_71), (72, mB_239_72), (80, mB_239_80), (86, mB_239_86)]
-- 240: VillageBoardModel.parts(I)I
def mB_240_175 : List mm_I := (.iload_n 2, 0, 0, 0, 0) :: (.ireturn, 0, 0, 0, 0) :: []
def mB_240_169 : List mm_I := (.iinc 4 1, 0, 0, 0, 0) :: (.goto (-150), 22, 0, 0, 0) :: []
def mB_240_163 : List mm_I := (.iinc 5 1, 0, 0, 0, 0) :: (.goto (-95), 71, 0, 0, 0) :: []
def mB_240_157 : List mm_I := (.iinc 6 1, 0, 0, 0, 0) :: (.goto (-77), 83, 0, 0, 0) :: []
def mB_240_151 : List mm_I := (.iinc 7 1, 0, 0, 0, 0) :: (.goto (-59), 95, 0, 0, 0) :: []
def mB_240_95 : List mm_I := (.iload 7, 0, 0, 0, 0) :: (.aload_n 0, 0, 0, 0, 0) :: (.getfield 247, 8, 1, 136, 0) :: (.if_icmp .ge 56, 157, 0, 0, 0) :: (.iload_n 3, 0, 0, 0, 0) :: (.iload 6, 0, 0, 0, 0) :: (.ishr, 0, 0, 0, 0) :: (.iconst 1, 0, 0, 0, 0) :: (.iand, 0, 0, 0, 0) :: (.iconst 1, 0, 0, 0, 0) :: (.if_icmp .ne 40, 151, 0, 0, 0) :: (.aload_n 0, 0, 0, 0, 0) :: (.getfield 63, 8, 38, 108, 0) :: (.bipush 10, 0, 0, 0, 0) :: (.iload 7, 0, 0, 0, 0) :: (.iadd, 0, 0, 0, 0) :: (.iaload, 0, 0, 0, 0) :: (.iload_n 1, 0, 0, 0, 0) :: (.if_icmp .ne 26, 151, 0, 0, 0) :: (.aload_n 0, 0, 0, 0, 0) :: (.getfield 26, 8, 9, 96, 0) :: (.bipush 10, 0, 0, 0, 0) :: (.iload 6, 0, 0, 0, 0) :: (.imul, 0, 0, 0, 0) :: (.iload 7, 0, 0, 0, 0) :: (.iadd, 0, 0, 0, 0) :: (.baload, 0, 0, 0, 0) :: (.ifCond .eq 10, 151, 0, 0, 0) :: (.iload_n 3, 0, 0, 0, 0) :: (.iconst 1, 0, 0, 0, 0) :: (.iload 7, 0, 0, 0, 0) :: (.ishl, 0, 0, 0, 0) :: (.ior, 0, 0, 0, 0) :: (.istore_n 3, 0, 0, 0, 0) :: mB_240_151
def mB_240_83 : List mm_I := (.iload 6, 0, 0, 0, 0) :: (.aload_n 0, 0, 0, 0, 0) :: (.getfield 247, 8, 1, 136, 0) :: (.if_icmp .ge 74, 163, 0, 0, 0) :: (.iconst 0, 0, 0, 0, 0) :: (.istore 7, 0, 0, 0, 0) :: mB_240_95
def mB_240_71 : List mm_I := (.iload 5, 0, 0, 0, 0) :: (.aload_n 0, 0, 0, 0, 0) :: (.getfield 247, 8, 1, 136, 0) :: (.if_icmp .ge 92, 169, 0, 0, 0) :: (.iconst 0, 0, 0, 0, 0) :: (.istore 6, 0, 0, 0, 0) :: mB_240_83
def mB_240_58 : List mm_I := (.iinc 2 1, 0, 0, 0, 0) :: (.iload_n 3, 0, 0, 0, 0) :: (.iconst 1, 0, 0, 0, 0) :: (.iload 4, 0, 0, 0, 0) :: (.ishl, 0, 0, 0, 0) :: (.ior, 0, 0, 0, 0) :: (.istore_n 3, 0, 0, 0, 0) :: (.iconst 0, 0, 0, 0, 0) :: (.istore 5, 0, 0, 0, 0) :: mB_240_71
def mB_240_22 : List mm_I := (.iload 4, 0, 0, 0, 0) :: (.aload_n 0, 0, 0, 0, 0) :: (.getfield 247, 8, 1, 136, 0) :: (.if_icmp .ge 147, 175, 0, 0, 0) :: (.aload_n 0, 0, 0, 0, 0) :: (.getfield 63, 8, 38, 108, 0) :: (.bipush 10, 0, 0, 0, 0) :: (.iload 4, 0, 0, 0, 0) :: (.iadd, 0, 0, 0, 0) :: (.iaload, 0, 0, 0, 0) :: (.iload_n 1, 0, 0, 0, 0) :: (.if_icmp .ne 127, 169, 0, 0, 0) :: (.iload_n 3, 0, 0, 0, 0) :: (.iload 4, 0, 0, 0, 0) :: (.ishr, 0, 0, 0, 0) :: (.iconst 1, 0, 0, 0, 0) :: (.iand, 0, 0, 0, 0) :: (.iconst 1, 0, 0, 0, 0) :: (.if_icmp .ne 6, 58, 0, 0, 0) :: (.goto 114, 169, 0, 0, 0) :: []
def mB_240_15 : List mm_I := (.iconst 0, 0, 0, 0, 0) :: (.istore_n 2, 0, 0, 0, 0) :: (.iconst 0, 0, 0, 0, 0) :: (.istore_n 3, 0, 0, 0, 0) :: (.iconst 0, 0, 0, 0, 0) :: (.istore 4, 0, 0, 0, 0) :: mB_240_22
def mB_240_0 : List mm_I := (.aload_n 0, 0, 0, 0, 0) :: (.iconst 0, 0, 0, 0, 0) :: (.putfield 93, 8, 0, 118, 0) :: (.aload_n 0, 0, 0, 0, 0) :: (.iload_n 1, 0, 0, 0, 0) :: (.invokevirtual 326, 195, 2, 183, 7) :: (.ifCond .ne 5, 15, 0, 0, 0) :: (.iconst 0, 0, 0, 0, 0) :: (.ireturn, 0, 0, 0, 0) :: []
def mT_240 : List (Nat × List mm_I) := [(0, mB_240_0), (15, mB_240_15), (22, mB_240_22), (58, mB_240_58), (71, mB_240_71), (83, mB_240_83), (95, mB_240_95), (151, mB_240_151), (157, mB_240_157), (163, mB_240_163), (169, mB_240_169), (175, mB_240_175)]
-- 241: VillageBoardModel.safe(I)I
def mB_241_112 : List mm_I := (.iload_n 2, 0, 0, 0, 0) :: (.ireturn, 0, 0, 0, 0) :: []
def mB_241_106 : List mm_I := (.iinc 3 1, 0, 0, 0, 0) :: (.goto (-78), 31, 0, 0, 0) :: []
def mB_241_104 : List mm_I := (.ior, 0, 0, 0, 0) :: (.istore_n 2, 0, 0, 0, 0) :: mB_241_106
def mB_241_101 : List mm_I := (.iconst 1, 0, 0, 0, 0) :: (.iload_n 3, 0, 0, 0, 0) :: (.ishl, 0, 0, 0, 0) :: mB_241_104
def mB_241_52 : List mm_I := (.aload_n 0, 0, 0, 0, 0) :: (.iconst 0, 0, 0, 0, 0) :: (.bipush 46, 0, 0, 0, 0) :: (.invokevirtual 351, 175, 3, 191, 56) :: (.aload_n 0, 0, 0, 0, 0) :: (.getfield 63, 8, 38, 108, 0) :: (.bipush 89, 0, 0, 0, 0) :: (.aload_n 0, 0, 0, 0, 0) :: (.getfield 63, 8, 38, 108, 0) :: (.iconst 0, 0, 0, 0, 0) :: (.iload_n 1, 0, 0, 0, 0) :: (.iadd, 0, 0, 0, 0) :: (.iaload, 0, 0, 0, 0) :: (.iastore, 0, 0, 0, 0) :: (.aload_n 0, 0, 0, 0, 0) :: (.bipush 46, 0, 0, 0, 0) :: (.bipush 10, 0, 0, 0, 0) :: (.iload_n 1, 0, 0, 0, 0) :: (.imul, 0, 0, 0, 0) :: (.iload_n 3, 0, 0, 0, 0) :: (.iadd, 0, 0, 0, 0) :: (.invokevirtual 344, 183, 3, 189, 83) :: (.iload_n 2, 0, 0, 0, 0) :: (.aload_n 0, 0, 0, 0, 0) :: (.bipush 46, 0, 0, 0, 0) :: (.iload_n 3, 0, 0, 0, 0) :: (.invokevirtual 298, 189, 3, 174, 91) :: (.ifCond .eq 7, 101, 0, 0, 0) :: (.iconst 0, 0, 0, 0, 0) :: (.goto 6, 104, 0, 0, 0) :: []
def mB_241_31 : List mm_I := (.iload_n 3, 0, 0, 0, 0) :: (.aload_n 0, 0, 0, 0, 0) :: (.getfield 247, 8, 1, 136, 0) :: (.if_icmp .ge 76, 112, 0, 0, 0) :: (.aload_n 0, 0, 0, 0, 0) :: (.iconst 0, 0, 0, 0, 0) :: (.iload_n 1, 0, 0, 0, 0) :: (.iload_n 3, 0, 0, 0, 0) :: (.invokevirtual 285, 180, 4, 170, 43) :: (.ifCond .ne 6, 52, 0, 0, 0) :: (.goto 57, 106, 0, 0, 0) :: []
def mB_241_27 : List mm_I := (.iconst 0, 0, 0, 0, 0) :: (.istore_n 2, 0, 0, 0, 0) :: (.iconst 0, 0, 0, 0, 0) :: (.istore_n 3, 0, 0, 0, 0) :: mB_241_31
def mB_241_25 : List mm_I := (.iconst 0, 0, 0, 0, 0) :: (.ireturn, 0, 0, 0, 0) :: []
def mB_241_0 : List mm_I := (.aload_n 0, 0, 0, 0, 0) :: (.iconst 0, 0, 0, 0, 0) :: (.putfield 93, 8, 0, 118, 0) :: (.aload_n 0, 0, 0, 0, 0) :: (.iload_n 1, 0, 0, 0, 0) :: (.invokevirtual 314, 194, 2, 179, 7) :: (.ifCond .eq 15, 25, 0, 0, 0) :: (.aload_n 0, 0, 0, 0, 0) :: (.getfield 63, 8, 38, 108, 0) :: (.iconst 0, 0, 0, 0, 0) :: (.iload_n 1, 0, 0, 0, 0) :: (.iadd, 0, 0, 0, 0) :: (.iaload, 0, 0, 0, 0) :: (.iconst 2, 0, 0, 0, 0) :: (.if_icmp .ne 5, 27, 0, 0, 0) :: mB_241_25
def mT_241 : List (Nat × List mm_I) := [(0, mB_241_0), (25, mB_241_25), (27, mB_241_27), (31, mB_241_31), (52, mB_241_52), (101, mB_241_101), (104, mB_241_104), (106, mB_241_106), (112, mB_241_112)]
-- 242: VillageBoardModel.guard(I)I
def mB_242_153 : List mm_I := (.iload 4, 0, 0, 0, 0) :: (.ireturn, 0, 0, 0, 0) :: []
def mB_242_147 : List mm_I := (.iinc 5 1, 0, 0, 0, 0) :: (.goto (-106), 44, 0, 0, 0) :: []
def mB_242_145 : List mm_I := (.istore 4, 0, 0, 0, 0) :: mB_242_147
def mB_242_143 : List mm_I := (.iload 5, 0, 0, 0, 0) :: mB_242_145
def mB_242_128 : List mm_I := (.aload_n 0, 0, 0, 0, 0) :: (.bipush 46, 0, 0, 0, 0) :: (.iload_n 1, 0, 0, 0, 0) :: (.invokevirtual 298, 189, 3, 174, 132) :: (.ifCond .eq 8, 143, 0, 0, 0) :: (.iload 4, 0, 0, 0, 0) :: (.goto 5, 145, 0, 0, 0) :: []
def mB_242_122 : List mm_I := (.iinc 6 1, 0, 0, 0, 0) :: (.goto (-34), 91, 0, 0, 0) :: []
def mB_242_91 : List mm_I := (.iload 6, 0, 0, 0, 0) :: (.aload_n 0, 0, 0, 0, 0) :: (.getfield 247, 8, 1, 136, 0) :: (.if_icmp .ge 31, 128, 0, 0, 0) :: (.iload 5, 0, 0, 0, 0) :: (.iload 6, 0, 0, 0, 0) :: (.ishr, 0, 0, 0, 0) :: (.iconst 1, 0, 0, 0, 0) :: (.iand, 0, 0, 0, 0) :: (.iconst 1, 0, 0, 0, 0) :: (.if_icmp .ne 14, 122, 0, 0, 0) :: (.aload_n 0, 0, 0, 0, 0) :: (.getfield 63, 8, 38, 108, 0) :: (.bipush 46, 0, 0, 0, 0) :: (.iload 6, 0, 0, 0, 0) :: (.iadd, 0, 0, 0, 0) :: (.iload_n 2, 0, 0, 0, 0) :: (.iastore, 0, 0, 0, 0) :: mB_242_122
def mB_242_81 : List mm_I := (.aload_n 0, 0, 0, 0, 0) :: (.iconst 0, 0, 0, 0, 0) :: (.bipush 46, 0, 0, 0, 0) :: (.invokevirtual 351, 175, 3, 191, 85) :: (.iconst 0, 0, 0, 0, 0) :: (.istore 6, 0, 0, 0, 0) :: mB_242_91
def mB_242_44 : List mm_I := (.iload 5, 0, 0, 0, 0) :: (.iload_n 3, 0, 0, 0, 0) :: (.if_icmp .gt 106, 153, 0, 0, 0) :: (.iload 5, 0, 0, 0, 0) :: (.iload_n 3, 0, 0, 0, 0) :: (.iconst (-1), 0, 0, 0, 0) :: (.ixor, 0, 0, 0, 0) :: (.iand, 0, 0, 0, 0) :: (.ifCond .ne 91, 147, 0, 0, 0) :: (.iload 4, 0, 0, 0, 0) :: (.iconst (-1), 0, 0, 0, 0) :: (.if_icmp .eq 19, 81, 0, 0, 0) :: (.iload 5, 0, 0, 0, 0) :: (.invokestatic 386, 140, 1, 201, 67) :: (.iload 4, 0, 0, 0, 0) :: (.invokestatic 386, 140, 1, 201, 72) :: (.if_icmp .lt 6, 81, 0, 0, 0) :: (.goto 69, 147, 0, 0, 0) :: []
def mB_242_31 : List mm_I := (.aload_n 0, 0, 0, 0, 0) :: (.iconst 0, 0, 0, 0, 0) :: (.iconst 2, 0, 0, 0, 0) :: (.invokevirtual 308, 186, 3, 177, 34) :: (.istore_n 3, 0, 0, 0, 0) :: (.iconst (-1), 0, 0, 0, 0) :: (.istore 4, 0, 0, 0, 0) :: (.iconst 0, 0, 0, 0, 0) :: (.istore 5, 0, 0, 0, 0) :: mB_242_44
def mB_242_15 : List mm_I := (.aload_n 0, 0, 0, 0, 0) :: (.getfield 63, 8, 38, 108, 0) :: (.iconst 0, 0, 0, 0, 0) :: (.iload_n 1, 0, 0, 0, 0) :: (.iadd, 0, 0, 0, 0) :: (.iaload, 0, 0, 0, 0) :: (.istore_n 2, 0, 0, 0, 0) :: (.iload_n 2, 0, 0, 0, 0) :: (.iconst 2, 0, 0, 0, 0) :: (.if_icmp .ne 5, 31, 0, 0, 0) :: (.iconst (-1), 0, 0, 0, 0) :: (.ireturn, 0, 0, 0, 0) :: []
def mB_242_0 : List mm_I := (.aload_n 0, 0, 0, 0, 0) :: (.iconst 0, 0, 0, 0, 0) :: (.putfield 93, 8, 0, 118, 0) :: (.aload_n 0, 0, 0, 0, 0) :: (.iload_n 1, 0, 0, 0, 0) :: (.invokevirtual 314, 194, 2, 179, 7) :: (.ifCond .ne 5, 15, 0, 0, 0) :: (.iconst 0, 0, 0, 0, 0) :: (.ireturn, 0, 0, 0, 0) :: []
def mT_242 : List (Nat × List mm_I) := [(0, mB_242_0), (15, mB_242_15), (31, mB_242_31), (44, mB_242_44), (81, mB_242_81), (91, mB_242_91), (122, mB_242_122), (128, mB_242_128), (143, mB_242_143), (145, mB_242_145), (147, mB_242_147), (153, mB_242_153)]
-- 243: VillageBoardModel.key(I)I
def mB_243_80 : List mm_I := (.iload_n 2, 0, 0, 0, 0) :: (.ireturn, 0, 0, 0, 0) :: []
def mB_243_74 : List mm_I := (.iinc 4 1, 0, 0, 0, 0) :: (.goto (-55), 22, 0, 0, 0) :: []
def mB_243_68 : List mm_I := (.iload 4, 0, 0, 0, 0) :: (.istore_n 2, 0, 0, 0, 0) :: (.iload 5, 0, 0, 0, 0) :: (.istore_n 3, 0, 0, 0, 0) :: mB_243_74
def mB_243_57 : List mm_I := (.istore 5, 0, 0, 0, 0) :: (.iload 5, 0, 0, 0, 0) :: (.iload_n 3, 0, 0, 0, 0) :: (.if_icmp .gt 6, 68, 0, 0, 0) :: (.goto 9, 74, 0, 0, 0) :: []
def mB_243_56 : List mm_I := (.iconst 0, 0, 0, 0, 0) :: mB_243_57
def mB_243_22 : List mm_I := (.iload 4, 0, 0, 0, 0) :: (.aload_n 0, 0, 0, 0, 0) :: (.getfield 247, 8, 1, 136, 0) :: (.if_icmp .ge 52, 80, 0, 0, 0) :: (.aload_n 0, 0, 0, 0, 0) :: (.getfield 63, 8, 38, 108, 0) :: (.iconst 0, 0, 0, 0, 0) :: (.iload 4, 0, 0, 0, 0) :: (.iadd, 0, 0, 0, 0) :: (.iaload, 0, 0, 0, 0) :: (.iload_n 1, 0, 0, 0, 0) :: (.if_icmp .ne 15, 56, 0, 0, 0) :: (.aload_n 0, 0, 0, 0, 0) :: (.iload 4, 0, 0, 0, 0) :: (.invokevirtual 323, 191, 2, 182, 47) :: (.invokestatic 386, 140, 1, 201, 50) :: (.goto 4, 57, 0, 0, 0) :: []
def mB_243_15 : List mm_I := (.iconst (-1), 0, 0, 0, 0) :: (.istore_n 2, 0, 0, 0, 0) :: (.iconst 0, 0, 0, 0, 0) :: (.istore_n 3, 0, 0, 0, 0) :: (.iconst 0, 0, 0, 0, 0) :: (.istore 4, 0, 0, 0, 0) :: mB_243_22
def mB_243_0 : List mm_I := (.aload_n 0, 0, 0, 0, 0) :: (.iconst 0, 0, 0, 0, 0) :: (.putfield 93, 8, 0, 118, 0) :: (.aload_n 0, 0, 0, 0, 0) :: (.iload_n 1, 0, 0, 0, 0) :: (.invokevirtual 326, 195, 2, 183, 7) :: (.ifCond .ne 5, 15, 0, 0, 0) :: (.iconst 0, 0, 0, 0, 0) :: (.ireturn, 0, 0, 0, 0) :: []
def mT_243 : List (Nat × List mm_I) := [(0, mB_243_0), (15, mB_243_15), (22, mB_243_22), (56, mB_243_56), (57, mB_243_57), (68, mB_243_68), (74, mB_243_74), (80, mB_243_80)]
-- 244: VillageBoardModel.fork()I
def mB_244_92 : List mm_I := (.iload_n 2, 0, 0, 0, 0) :: (.invokestatic 369, 213, 1, 196, 93) :: (.ireturn, 0, 0, 0, 0) :: []
def mB_244_86 : List mm_I := (.iinc 4 1, 0, 0, 0, 0) :: (.goto (-68), 21, 0, 0, 0) :: []
def mB_244_80 : List mm_I := (.iload 4, 0, 0, 0, 0) :: (.istore_n 2, 0, 0, 0, 0) :: (.iload 5, 0, 0, 0, 0) :: (.istore_n 3, 0, 0, 0, 0) :: mB_244_86
def mB_244_42 : List mm_I := (.aload_n 0, 0, 0, 0, 0) :: (.iconst 0, 0, 0, 0, 0) :: (.bipush 46, 0, 0, 0, 0) :: (.invokevirtual 351, 175, 3, 191, 46) :: (.aload_n 0, 0, 0, 0, 0) :: (.bipush 46, 0, 0, 0, 0) :: (.iload 4, 0, 0, 0, 0) :: (.invokevirtual 344, 183, 3, 189, 54) :: (.aload_n 0, 0, 0, 0, 0) :: (.bipush 46, 0, 0, 0, 0) :: (.iconst 1, 0, 0, 0, 0) :: (.iload_n 1, 0, 0, 0, 0) :: (.isub, 0, 0, 0, 0) :: (.invokevirtual 302, 190, 3, 175, 63) :: (.invokestatic 386, 140, 1, 201, 66) :: (.istore 5, 0, 0, 0, 0) :: (.iload 5, 0, 0, 0, 0) :: (.iload_n 3, 0, 0, 0, 0) :: (.if_icmp .gt 6, 80, 0, 0, 0) :: (.goto 9, 86, 0, 0, 0) :: []
def mB_244_21 : List mm_I := (.iload 4, 0, 0, 0, 0) :: (.bipush 100, 0, 0, 0, 0) :: (.if_icmp .ge 67, 92, 0, 0, 0) :: (.aload_n 0, 0, 0, 0, 0) :: (.iconst 0, 0, 0, 0, 0) :: (.iload 4, 0, 0, 0, 0) :: (.iload_n 1, 0, 0, 0, 0) :: (.invokevirtual 292, 181, 4, 172, 33) :: (.ifCond .ne 6, 42, 0, 0, 0) :: (.goto 47, 86, 0, 0, 0) :: []
def mB_244_0 : List mm_I := (.aload_n 0, 0, 0, 0, 0) :: (.iconst 0, 0, 0, 0, 0) :: (.putfield 93, 8, 0, 118, 0) :: (.aload_n 0, 0, 0, 0, 0) :: (.getfield 63, 8, 38, 108, 0) :: (.bipush 43, 0, 0, 0, 0) :: (.iaload, 0, 0, 0, 0) :: (.istore_n 1, 0, 0, 0, 0) :: (.bipush 100, 0, 0, 0, 0) :: (.istore_n 2, 0, 0, 0, 0) :: (.iconst 1, 0, 0, 0, 0) :: (.istore_n 3, 0, 0, 0, 0) :: (.iconst 0, 0, 0, 0, 0) :: (.istore 4, 0, 0, 0, 0) :: mB_244_21
def mT_244 : List (Nat × List mm_I) := [(0, mB_244_0), (21, mB_244_21), (42, mB_244_42), (80, mB_244_80), (86, mB_244_86), (92, mB_244_92)]
-- 245: VillageBoardModel.regret(II)I
def mB_245_46 : List mm_I := (.aload_n 0, 0, 0, 0, 0) :: (.iconst 0, 0, 0, 0, 0) :: (.invokevirtual 363, 211, 2, 194, 48) :: (.istore_n 3, 0, 0, 0, 0) :: (.iload_n 3, 0, 0, 0, 0) :: (.aload_n 0, 0, 0, 0, 0) :: (.iconst 0, 0, 0, 0, 0) :: (.bipush 10, 0, 0, 0, 0) :: (.iload_n 1, 0, 0, 0, 0) :: (.imul, 0, 0, 0, 0) :: (.iload_n 2, 0, 0, 0, 0) :: (.iadd, 0, 0, 0, 0) :: (.invokevirtual 389, 231, 3, 202, 61) :: (.isub, 0, 0, 0, 0) :: (.ireturn, 0, 0, 0, 0) :: []
def mB_245_23 : List mm_I := (.aload_n 0, 0, 0, 0, 0) :: (.iconst 0, 0, 0, 0, 0) :: (.bipush 10, 0, 0, 0, 0) :: (.iload_n 1, 0, 0, 0, 0) :: (.imul, 0, 0, 0, 0) :: (.iload_n 2, 0, 0, 0, 0) :: (.iadd, 0, 0, 0, 0) :: (.aload_n 0, 0, 0, 0, 0) :: (.getfield 63, 8, 38, 108, 0) :: (.bipush 43, 0, 0, 0, 0) :: (.iaload, 0, 0, 0, 0) :: (.invokevirtual 292, 181, 4, 172, 38) :: (.ifCond .ne 5, 46, 0, 0, 0) :: (.iconst (-1), 0, 0, 0, 0) :: (.ireturn, 0, 0, 0, 0) :: []
def mB_245_21 : List mm_I := (.iconst 0, 0, 0, 0, 0) :: (.ireturn, 0, 0, 0, 0) :: []
def mB_245_0 : List mm_I := (.aload_n 0, 0, 0, 0, 0) :: (.iconst 0, 0, 0, 0, 0) :: (.putfield 93, 8, 0, 118, 0) :: (.aload_n 0, 0, 0, 0, 0) :: (.iload_n 1, 0, 0, 0, 0) :: (.invokevirtual 314, 194, 2, 179, 7) :: (.ifCond .eq 11, 21, 0, 0, 0) :: (.aload_n 0, 0, 0, 0, 0) :: (.iload_n 2, 0, 0, 0, 0) :: (.invokevirtual 314, 194, 2, 179, 15) :: (.ifCond .ne 5, 23, 0, 0, 0) :: mB_245_21
def mT_245 : List (Nat × List mm_I) := [(0, mB_245_0), (21, mB_245_21), (23, mB_245_23), (46, mB_245_46)]
-- 246: VillageBoardModel.whose(I)I
def mB_246_54 : List mm_I := (.ireturn, 0, 0, 0, 0) :: []
def mB_246_53 : List mm_I := (.iconst 2, 0, 0, 0, 0) :: mB_246_54
def mB_246_44 : List mm_I := (.iload_n 3, 0, 0, 0, 0) :: (.iload_n 2, 0, 0, 0, 0) :: (.if_icmp .le 7, 53, 0, 0, 0) :: (.iconst 1, 0, 0, 0, 0) :: (.goto 4, 54, 0, 0, 0) :: []
def mB_246_15 : List mm_I := (.aload_n 0, 0, 0, 0, 0) :: (.getfield 63, 8, 38, 108, 0) :: (.bipush 20, 0, 0, 0, 0) :: (.iload_n 1, 0, 0, 0, 0) :: (.iadd, 0, 0, 0, 0) :: (.iaload, 0, 0, 0, 0) :: (.istore_n 2, 0, 0, 0, 0) :: (.aload_n 0, 0, 0, 0, 0) :: (.getfield 63, 8, 38, 108, 0) :: (.bipush 30, 0, 0, 0, 0) :: (.iload_n 1, 0, 0, 0, 0) :: (.iadd, 0, 0, 0, 0) :: (.iaload, 0, 0, 0, 0) :: (.istore_n 3, 0, 0, 0, 0) :: (.iload_n 2, 0, 0, 0, 0) :: (.iload_n 3, 0, 0, 0, 0) :: (.if_icmp .le 7, 44, 0, 0, 0) :: (.iconst 0, 0, 0, 0, 0) :: (.goto 13, 54, 0, 0, 0) :: []
def mB_246_0 : List mm_I := (.aload_n 0, 0, 0, 0, 0) :: (.iconst 0, 0, 0, 0, 0) :: (.putfield 93, 8, 0, 118, 0) :: (.aload_n 0, 0, 0, 0, 0) :: (.iload_n 1, 0, 0, 0, 0) :: (.invokevirtual 314, 194, 2, 179, 7) :: (.ifCond .ne 5, 15, 0, 0, 0) :: (.iconst 0, 0, 0, 0, 0) :: (.ireturn, 0, 0, 0, 0) :: []
def mT_246 : List (Nat × List mm_I) := [(0, mB_246_0), (15, mB_246_15), (44, mB_246_44), (53, mB_246_53), (54, mB_246_54)]
-- 247: VillageBoardModel.image()V
def mB_247_52 : List mm_I := (.aload_n 0, 0, 0, 0, 0) :: (.aload_n 0, 0, 0, 0, 0) :: (.getfield 66, 8, 39, 109, 0) :: (.aload_n 0, 0, 0, 0, 0) :: (.getfield 87, 8, 53, 116, 0) :: (.invokevirtual 256, 139, 3, 165, 61) :: (.aload_n 0, 0, 0, 0, 0) :: (.aload_n 0, 0, 0, 0, 0) :: (.getfield 78, 8, 46, 113, 0) :: (.aload_n 0, 0, 0, 0, 0) :: (.getfield 90, 8, 54, 117, 0) :: (.invokevirtual 256, 139, 3, 165, 73) :: (.return_, 0, 0, 0, 0) :: []
def mB_247_28 : List mm_I := (.iload_n 1, 0, 0, 0, 0) :: (.bipush 46, 0, 0, 0, 0) :: (.if_icmp .ge 21, 52, 0, 0, 0) :: (.aload_n 0, 0, 0, 0, 0) :: (.getfield 84, 8, 52, 115, 0) :: (.iload_n 1, 0, 0, 0, 0) :: (.aload_n 0, 0, 0, 0, 0) :: (.getfield 63, 8, 38, 108, 0) :: (.iload_n 1, 0, 0, 0, 0) :: (.iaload, 0, 0, 0, 0) :: (.iastore, 0, 0, 0, 0) :: (.iinc 1 1, 0, 0, 0, 0) :: (.goto (-21), 28, 0, 0, 0) :: []
def mB_247_0 : List mm_I := (.aload_n 0, 0, 0, 0, 0) :: (.iconst 0, 0, 0, 0, 0) :: (.putfield 93, 8, 0, 118, 0) :: (.aload_n 0, 0, 0, 0, 0) :: (.iconst 1, 0, 0, 0, 0) :: (.putfield 266, 8, 49, 141, 0) :: (.aload_n 0, 0, 0, 0, 0) :: (.aload_n 0, 0, 0, 0, 0) :: (.getfield 260, 8, 40, 139, 0) :: (.putfield 405, 8, 50, 144, 0) :: (.aload_n 0, 0, 0, 0, 0) :: (.aload_n 0, 0, 0, 0, 0) :: (.getfield 263, 8, 45, 140, 0) :: (.putfield 408, 8, 51, 145, 0) :: (.iconst 0, 0, 0, 0, 0) :: (.istore_n 1, 0, 0, 0, 0) :: mB_247_28
def mT_247 : List (Nat × List mm_I) := [(0, mB_247_0), (28, mB_247_28), (52, mB_247_52)]
-- 248: VillageBoardModel.restore()Z
def mB_248_56 : List mm_I := (.aload_n 0, 0, 0, 0, 0) :: (.aload_n 0, 0, 0, 0, 0) :: (.getfield 87, 8, 53, 116, 0) :: (.aload_n 0, 0, 0, 0, 0) :: (.getfield 66, 8, 39, 109, 0) :: (.invokevirtual 256, 139, 3, 165, 65) :: (.aload_n 0, 0, 0, 0, 0) :: (.aload_n 0, 0, 0, 0, 0) :: (.getfield 90, 8, 54, 117, 0) :: (.aload_n 0, 0, 0, 0, 0) :: (.getfield 78, 8, 46, 113, 0) :: (.invokevirtual 256, 139, 3, 165, 77) :: (.iconst 1, 0, 0, 0, 0) :: (.ireturn, 0, 0, 0, 0) :: []
def mB_248_32 : List mm_I := (.iload_n 1, 0, 0, 0, 0) :: (.bipush 46, 0, 0, 0, 0) :: (.if_icmp .ge 21, 56, 0, 0, 0) :: (.aload_n 0, 0, 0, 0, 0) :: (.getfield 63, 8, 38, 108, 0) :: (.iload_n 1, 0, 0, 0, 0) :: (.aload_n 0, 0, 0, 0, 0) :: (.getfield 84, 8, 52, 115, 0) :: (.iload_n 1, 0, 0, 0, 0) :: (.iaload, 0, 0, 0, 0) :: (.iastore, 0, 0, 0, 0) :: (.iinc 1 1, 0, 0, 0, 0) :: (.goto (-21), 32, 0, 0, 0) :: []
def mB_248_14 : List mm_I := (.aload_n 0, 0, 0, 0, 0) :: (.aload_n 0, 0, 0, 0, 0) :: (.getfield 405, 8, 50, 144, 0) :: (.putfield 260, 8, 40, 139, 0) :: (.aload_n 0, 0, 0, 0, 0) :: (.aload_n 0, 0, 0, 0, 0) :: (.getfield 408, 8, 51, 145, 0) :: (.putfield 263, 8, 45, 140, 0) :: (.iconst 0, 0, 0, 0, 0) :: (.istore_n 1, 0, 0, 0, 0) :: mB_248_32
def mB_248_0 : List mm_I := (.aload_n 0, 0, 0, 0, 0) :: (.iconst 0, 0, 0, 0, 0) :: (.putfield 93, 8, 0, 118, 0) :: (.aload_n 0, 0, 0, 0, 0) :: (.getfield 266, 8, 49, 141, 0) :: (.ifCond .ne 5, 14, 0, 0, 0) :: (.iconst 0, 0, 0, 0, 0) :: (.ireturn, 0, 0, 0, 0) :: []
def mT_248 : List (Nat × List mm_I) := [(0, mB_248_0), (14, mB_248_14), (32, mB_248_32), (56, mB_248_56)]
-- 249: VillageBoardLaw.board(LVillageBoard;I[J)I
def mB_249_15 : List mm_I := (.iconst 0, 0, 0, 0, 0) :: (.ireturn, 0, 0, 0, 0) :: []
def mB_249_12 : List mm_I := (.astore_n 3, 0, 0, 0, 0) :: (.iconst 1, 0, 0, 0, 0) :: (.ireturn, 0, 0, 0, 0) :: []
def mB_249_0 : List mm_I := (.aload_n 2, 0, 0, 0, 0) :: (.iconst 0, 0, 0, 0, 0) :: (.aload_n 0, 0, 0, 0, 0) :: (.iload_n 1, 0, 0, 0, 0) :: (.invokevirtual 7, 77, 2, 206, 4) :: (.i2l, 0, 0, 0, 0) :: (.lastore, 0, 0, 0, 0) :: (.goto 6, 15, 0, 0, 0) :: []
def mT_249 : List (Nat × List mm_I) := [(0, mB_249_0), (12, mB_249_12), (15, mB_249_15)]
-- 250: VillageBoardLaw.count(LVillageBoard;I[J)I
def mB_250_15 : List mm_I := (.iconst 0, 0, 0, 0, 0) :: (.ireturn, 0, 0, 0, 0) :: []
def mB_250_12 : List mm_I := (.astore_n 3, 0, 0, 0, 0) :: (.iconst 1, 0, 0, 0, 0) :: (.ireturn, 0, 0, 0, 0) :: []
def mB_250_0 : List mm_I := (.aload_n 2, 0, 0, 0, 0) :: (.iconst 0, 0, 0, 0, 0) :: (.aload_n 0, 0, 0, 0, 0) :: (.iload_n 1, 0, 0, 0, 0) :: (.invokevirtual 15, 79, 2, 207, 4) :: (.i2l, 0, 0, 0, 0) :: (.lastore, 0, 0, 0, 0) :: (.goto 6, 15, 0, 0, 0) :: []
def mT_250 : List (Nat × List mm_I) := [(0, mB_250_0), (12, mB_250_12), (15, mB_250_15)]
-- 251: VillageBoardLaw.village(LVillageBoard;II[J)I
def mB_251_17 : List mm_I := (.iconst 0, 0, 0, 0, 0) :: (.ireturn, 0, 0, 0, 0) :: []
def mB_251_13 : List mm_I := (.astore 4, 0, 0, 0, 0) :: (.iconst 1, 0, 0, 0, 0) :: (.ireturn, 0, 0, 0, 0) :: []
def mB_251_0 : List mm_I := (.aload_n 3, 0, 0, 0, 0) :: (.iconst 0, 0, 0, 0, 0) :: (.aload_n 0, 0, 0, 0, 0) :: (.iload_n 1, 0, 0, 0, 0) :: (.iload_n 2, 0, 0, 0, 0) :: (.invokevirtual 20, 80, 3, 208, 5) :: (.i2l, 0, 0, 0, 0) :: (.lastore, 0, 0, 0, 0) :: (.goto 7, 17, 0, 0, 0) :: []
def mT_251 : List (Nat × List mm_I) := [(0, mB_251_0), (13, mB_251_13), (17, mB_251_17)]
-- 252: VillageBoardLaw.side(LVillageBoard;II[J)I
def mB_252_17 : List mm_I := (.iconst 0, 0, 0, 0, 0) :: (.ireturn, 0, 0, 0, 0) :: []
def mB_252_13 : List mm_I := (.astore 4, 0, 0, 0, 0) :: (.iconst 1, 0, 0, 0, 0) :: (.ireturn, 0, 0, 0, 0) :: []
def mB_252_0 : List mm_I := (.aload_n 3, 0, 0, 0, 0) :: (.iconst 0, 0, 0, 0, 0) :: (.aload_n 0, 0, 0, 0, 0) :: (.iload_n 1, 0, 0, 0, 0) :: (.iload_n 2, 0, 0, 0, 0) :: (.invokevirtual 24, 81, 3, 209, 5) :: (.i2l, 0, 0, 0, 0) :: (.lastore, 0, 0, 0, 0) :: (.goto 7, 17, 0, 0, 0) :: []
def mT_252 : List (Nat × List mm_I) := [(0, mB_252_0), (13, mB_252_13), (17, mB_252_17)]
-- 253: VillageBoardLaw.road(LVillageBoard;II[J)I
def mB_253_24 : List mm_I := (.iconst 0, 0, 0, 0, 0) :: (.ireturn, 0, 0, 0, 0) :: []
def mB_253_20 : List mm_I := (.astore 4, 0, 0, 0, 0) :: (.iconst 1, 0, 0, 0, 0) :: (.ireturn, 0, 0, 0, 0) :: []
def mB_253_16 : List mm_I := (.lastore, 0, 0, 0, 0) :: (.goto 7, 24, 0, 0, 0) :: []
def mB_253_15 : List mm_I := (.lconst 0, 0, 0, 0, 0) :: mB_253_16
def mB_253_0 : List mm_I := (.aload_n 3, 0, 0, 0, 0) :: (.iconst 0, 0, 0, 0, 0) :: (.aload_n 0, 0, 0, 0, 0) :: (.iload_n 1, 0, 0, 0, 0) :: (.iload_n 2, 0, 0, 0, 0) :: (.invokevirtual 27, 82, 3, 210, 5) :: (.ifCond .eq 7, 15, 0, 0, 0) :: (.lconst 1, 0, 0, 0, 0) :: (.goto 4, 16, 0, 0, 0) :: []
def mT_253 : List (Nat × List mm_I) := [(0, mB_253_0), (15, mB_253_15), (16, mB_253_16), (20, mB_253_20), (24, mB_253_24)]
-- 254: VillageBoardLaw.lawful(LVillageBoard;II[J)I
def mB_254_24 : List mm_I := (.iconst 0, 0, 0, 0, 0) :: (.ireturn, 0, 0, 0, 0) :: []
def mB_254_20 : List mm_I := (.astore 4, 0, 0, 0, 0) :: (.iconst 1, 0, 0, 0, 0) :: (.ireturn, 0, 0, 0, 0) :: []
def mB_254_16 : List mm_I := (.lastore, 0, 0, 0, 0) :: (.goto 7, 24, 0, 0, 0) :: []
def mB_254_15 : List mm_I := (.lconst 0, 0, 0, 0, 0) :: mB_254_16
def mB_254_0 : List mm_I := (.aload_n 3, 0, 0, 0, 0) :: (.iconst 0, 0, 0, 0, 0) :: (.aload_n 0, 0, 0, 0, 0) :: (.iload_n 1, 0, 0, 0, 0) :: (.iload_n 2, 0, 0, 0, 0) :: (.invokevirtual 31, 83, 3, 211, 5) :: (.ifCond .eq 7, 15, 0, 0, 0) :: (.lconst 1, 0, 0, 0, 0) :: (.goto 4, 16, 0, 0, 0) :: []
def mT_254 : List (Nat × List mm_I) := [(0, mB_254_0), (15, mB_254_15), (16, mB_254_16), (20, mB_254_20), (24, mB_254_24)]
-- 255: VillageBoardLaw.move(LVillageBoard;II[J)I
def mB_255_17 : List mm_I := (.iconst 0, 0, 0, 0, 0) :: (.ireturn, 0, 0, 0, 0) :: []
def mB_255_13 : List mm_I := (.astore 4, 0, 0, 0, 0) :: (.iconst 1, 0, 0, 0, 0) :: (.ireturn, 0, 0, 0, 0) :: []
def mB_255_0 : List mm_I := (.aload_n 3, 0, 0, 0, 0) :: (.iconst 0, 0, 0, 0, 0) :: (.aload_n 0, 0, 0, 0, 0) :: (.iload_n 1, 0, 0, 0, 0) :: (.iload_n 2, 0, 0, 0, 0) :: (.invokevirtual 34, 84, 3, 212, 5) :: (.i2l, 0, 0, 0, 0) :: (.lastore, 0, 0, 0, 0) :: (.goto 7, 17, 0, 0, 0) :: []
def mT_255 : List (Nat × List mm_I) := [(0, mB_255_0), (13, mB_255_13), (17, mB_255_17)]
-- 256: VillageBoardLaw.fly(LVillageBoard;II[J)I
def mB_256_24 : List mm_I := (.iconst 0, 0, 0, 0, 0) :: (.ireturn, 0, 0, 0, 0) :: []
def mB_256_20 : List mm_I := (.astore 4, 0, 0, 0, 0) :: (.iconst 1, 0, 0, 0, 0) :: (.ireturn, 0, 0, 0, 0) :: []
def mB_256_16 : List mm_I := (.lastore, 0, 0, 0, 0) :: (.goto 7, 24, 0, 0, 0) :: []
def mB_256_15 : List mm_I := (.lconst 0, 0, 0, 0, 0) :: mB_256_16
def mB_256_0 : List mm_I := (.aload_n 3, 0, 0, 0, 0) :: (.iconst 0, 0, 0, 0, 0) :: (.aload_n 0, 0, 0, 0, 0) :: (.iload_n 1, 0, 0, 0, 0) :: (.iload_n 2, 0, 0, 0, 0) :: (.invokevirtual 37, 86, 3, 213, 5) :: (.ifCond .eq 7, 15, 0, 0, 0) :: (.lconst 1, 0, 0, 0, 0) :: (.goto 4, 16, 0, 0, 0) :: []
def mT_256 : List (Nat × List mm_I) := [(0, mB_256_0), (15, mB_256_15), (16, mB_256_16), (20, mB_256_20), (24, mB_256_24)]
-- 257: VillageBoardLaw.teach(LVillageBoard;II[J)I
def mB_257_17 : List mm_I := (.iconst 0, 0, 0, 0, 0) :: (.ireturn, 0, 0, 0, 0) :: []
def mB_257_13 : List mm_I := (.astore 4, 0, 0, 0, 0) :: (.iconst 1, 0, 0, 0, 0) :: (.ireturn, 0, 0, 0, 0) :: []
def mB_257_0 : List mm_I := (.aload_n 3, 0, 0, 0, 0) :: (.iconst 0, 0, 0, 0, 0) :: (.aload_n 0, 0, 0, 0, 0) :: (.iload_n 1, 0, 0, 0, 0) :: (.iload_n 2, 0, 0, 0, 0) :: (.invokevirtual 40, 87, 3, 214, 5) :: (.i2l, 0, 0, 0, 0) :: (.lastore, 0, 0, 0, 0) :: (.goto 7, 17, 0, 0, 0) :: []
def mT_257 : List (Nat × List mm_I) := [(0, mB_257_0), (13, mB_257_13), (17, mB_257_17)]
-- 258: VillageBoardLaw.hangs(LVillageBoard;I[J)I
def mB_258_15 : List mm_I := (.iconst 0, 0, 0, 0, 0) :: (.ireturn, 0, 0, 0, 0) :: []
def mB_258_12 : List mm_I := (.astore_n 3, 0, 0, 0, 0) :: (.iconst 1, 0, 0, 0, 0) :: (.ireturn, 0, 0, 0, 0) :: []
def mB_258_0 : List mm_I := (.aload_n 2, 0, 0, 0, 0) :: (.iconst 0, 0, 0, 0, 0) :: (.aload_n 0, 0, 0, 0, 0) :: (.iload_n 1, 0, 0, 0, 0) :: (.invokevirtual 43, 90, 2, 215, 4) :: (.i2l, 0, 0, 0, 0) :: (.lastore, 0, 0, 0, 0) :: (.goto 6, 15, 0, 0, 0) :: []
def mT_258 : List (Nat × List mm_I) := [(0, mB_258_0), (12, mB_258_12), (15, mB_258_15)]
-- 259: VillageBoardLaw.look(LVillageBoard;II[J)I
def mB_259_21 : List mm_I := (.iconst 0, 0, 0, 0, 0) :: (.ireturn, 0, 0, 0, 0) :: []
def mB_259_17 : List mm_I := (.astore 4, 0, 0, 0, 0) :: (.iconst 2, 0, 0, 0, 0) :: (.ireturn, 0, 0, 0, 0) :: []
def mB_259_13 : List mm_I := (.astore 4, 0, 0, 0, 0) :: (.iconst 1, 0, 0, 0, 0) :: (.ireturn, 0, 0, 0, 0) :: []
def mB_259_0 : List mm_I := (.aload_n 3, 0, 0, 0, 0) :: (.iconst 0, 0, 0, 0, 0) :: (.aload_n 0, 0, 0, 0, 0) :: (.iload_n 1, 0, 0, 0, 0) :: (.iload_n 2, 0, 0, 0, 0) :: (.invokevirtual 46, 91, 3, 216, 5) :: (.i2l, 0, 0, 0, 0) :: (.lastore, 0, 0, 0, 0) :: (.goto 11, 21, 0, 0, 0) :: []
def mT_259 : List (Nat × List mm_I) := [(0, mB_259_0), (13, mB_259_13), (17, mB_259_17), (21, mB_259_21)]
-- 260: VillageBoardLaw.journey(LVillageBoard;II[J)I
def mB_260_17 : List mm_I := (.iconst 0, 0, 0, 0, 0) :: (.ireturn, 0, 0, 0, 0) :: []
def mB_260_13 : List mm_I := (.astore 4, 0, 0, 0, 0) :: (.iconst 1, 0, 0, 0, 0) :: (.ireturn, 0, 0, 0, 0) :: []
def mB_260_0 : List mm_I := (.aload_n 3, 0, 0, 0, 0) :: (.iconst 0, 0, 0, 0, 0) :: (.aload_n 0, 0, 0, 0, 0) :: (.iload_n 1, 0, 0, 0, 0) :: (.iload_n 2, 0, 0, 0, 0) :: (.invokevirtual 49, 93, 3, 217, 5) :: (.i2l, 0, 0, 0, 0) :: (.lastore, 0, 0, 0, 0) :: (.goto 7, 17, 0, 0, 0) :: []
def mT_260 : List (Nat × List mm_I) := [(0, mB_260_0), (13, mB_260_13), (17, mB_260_17)]
-- 261: VillageBoardLaw.played(LVillageBoard;I[J)I
def mB_261_15 : List mm_I := (.iconst 0, 0, 0, 0, 0) :: (.ireturn, 0, 0, 0, 0) :: []
def mB_261_12 : List mm_I := (.astore_n 3, 0, 0, 0, 0) :: (.iconst 1, 0, 0, 0, 0) :: (.ireturn, 0, 0, 0, 0) :: []
def mB_261_0 : List mm_I := (.aload_n 2, 0, 0, 0, 0) :: (.iconst 0, 0, 0, 0, 0) :: (.aload_n 0, 0, 0, 0, 0) :: (.iload_n 1, 0, 0, 0, 0) :: (.invokevirtual 52, 94, 2, 218, 4) :: (.i2l, 0, 0, 0, 0) :: (.lastore, 0, 0, 0, 0) :: (.goto 6, 15, 0, 0, 0) :: []
def mT_261 : List (Nat × List mm_I) := [(0, mB_261_0), (12, mB_261_12), (15, mB_261_15)]
-- 262: VillageBoardLaw.turned(LVillageBoard;I[J)I
def mB_262_15 : List mm_I := (.iconst 0, 0, 0, 0, 0) :: (.ireturn, 0, 0, 0, 0) :: []
def mB_262_12 : List mm_I := (.astore_n 3, 0, 0, 0, 0) :: (.iconst 1, 0, 0, 0, 0) :: (.ireturn, 0, 0, 0, 0) :: []
def mB_262_0 : List mm_I := (.aload_n 2, 0, 0, 0, 0) :: (.iconst 0, 0, 0, 0, 0) :: (.aload_n 0, 0, 0, 0, 0) :: (.iload_n 1, 0, 0, 0, 0) :: (.invokevirtual 55, 95, 2, 219, 4) :: (.i2l, 0, 0, 0, 0) :: (.lastore, 0, 0, 0, 0) :: (.goto 6, 15, 0, 0, 0) :: []
def mT_262 : List (Nat × List mm_I) := [(0, mB_262_0), (12, mB_262_12), (15, mB_262_15)]
-- 263: VillageBoardLaw.treasury(LVillageBoard;II[J)I
def mB_263_21 : List mm_I := (.iconst 0, 0, 0, 0, 0) :: (.ireturn, 0, 0, 0, 0) :: []
def mB_263_17 : List mm_I := (.astore 4, 0, 0, 0, 0) :: (.iconst 2, 0, 0, 0, 0) :: (.ireturn, 0, 0, 0, 0) :: []
def mB_263_13 : List mm_I := (.astore 4, 0, 0, 0, 0) :: (.iconst 1, 0, 0, 0, 0) :: (.ireturn, 0, 0, 0, 0) :: []
def mB_263_0 : List mm_I := (.aload_n 3, 0, 0, 0, 0) :: (.iconst 0, 0, 0, 0, 0) :: (.aload_n 0, 0, 0, 0, 0) :: (.iload_n 1, 0, 0, 0, 0) :: (.iload_n 2, 0, 0, 0, 0) :: (.invokevirtual 58, 96, 3, 220, 5) :: (.i2l, 0, 0, 0, 0) :: (.lastore, 0, 0, 0, 0) :: (.goto 11, 21, 0, 0, 0) :: []
def mT_263 : List (Nat × List mm_I) := [(0, mB_263_0), (13, mB_263_13), (17, mB_263_17), (21, mB_263_21)]
-- 264: VillageBoardLaw.gift(LVillageBoard;II[J)I
def mB_264_17 : List mm_I := (.iconst 0, 0, 0, 0, 0) :: (.ireturn, 0, 0, 0, 0) :: []
def mB_264_13 : List mm_I := (.astore 4, 0, 0, 0, 0) :: (.iconst 1, 0, 0, 0, 0) :: (.ireturn, 0, 0, 0, 0) :: []
def mB_264_0 : List mm_I := (.aload_n 3, 0, 0, 0, 0) :: (.iconst 0, 0, 0, 0, 0) :: (.aload_n 0, 0, 0, 0, 0) :: (.iload_n 1, 0, 0, 0, 0) :: (.iload_n 2, 0, 0, 0, 0) :: (.invokevirtual 61, 97, 3, 221, 5) :: (.i2l, 0, 0, 0, 0) :: (.lastore, 0, 0, 0, 0) :: (.goto 7, 17, 0, 0, 0) :: []
def mT_264 : List (Nat × List mm_I) := [(0, mB_264_0), (13, mB_264_13), (17, mB_264_17)]
-- 265: VillageBoardLaw.plant(LVillageBoard;II[J)I
def mB_265_17 : List mm_I := (.iconst 0, 0, 0, 0, 0) :: (.ireturn, 0, 0, 0, 0) :: []
def mB_265_13 : List mm_I := (.astore 4, 0, 0, 0, 0) :: (.iconst 1, 0, 0, 0, 0) :: (.ireturn, 0, 0, 0, 0) :: []
def mB_265_0 : List mm_I := (.aload_n 3, 0, 0, 0, 0) :: (.iconst 0, 0, 0, 0, 0) :: (.aload_n 0, 0, 0, 0, 0) :: (.iload_n 1, 0, 0, 0, 0) :: (.iload_n 2, 0, 0, 0, 0) :: (.invokevirtual 64, 98, 3, 222, 5) :: (.i2l, 0, 0, 0, 0) :: (.lastore, 0, 0, 0, 0) :: (.goto 7, 17, 0, 0, 0) :: []
def mT_265 : List (Nat × List mm_I) := [(0, mB_265_0), (13, mB_265_13), (17, mB_265_17)]
-- 266: VillageBoardLaw.see(LVillageBoard;III[J)I
def mB_266_19 : List mm_I := (.iconst 0, 0, 0, 0, 0) :: (.ireturn, 0, 0, 0, 0) :: []
def mB_266_15 : List mm_I := (.astore 5, 0, 0, 0, 0) :: (.iconst 1, 0, 0, 0, 0) :: (.ireturn, 0, 0, 0, 0) :: []
def mB_266_0 : List mm_I := (.aload 4, 0, 0, 0, 0) :: (.iconst 0, 0, 0, 0, 0) :: (.aload_n 0, 0, 0, 0, 0) :: (.iload_n 1, 0, 0, 0, 0) :: (.iload_n 2, 0, 0, 0, 0) :: (.iload_n 3, 0, 0, 0, 0) :: (.invokevirtual 67, 99, 4, 223, 7) :: (.i2l, 0, 0, 0, 0) :: (.lastore, 0, 0, 0, 0) :: (.goto 7, 19, 0, 0, 0) :: []
def mT_266 : List (Nat × List mm_I) := [(0, mB_266_0), (15, mB_266_15), (19, mB_266_19)]
-- 267: VillageBoardLaw.styles(LVillageBoard;I[J)I
def mB_267_15 : List mm_I := (.iconst 0, 0, 0, 0, 0) :: (.ireturn, 0, 0, 0, 0) :: []
def mB_267_12 : List mm_I := (.astore_n 3, 0, 0, 0, 0) :: (.iconst 1, 0, 0, 0, 0) :: (.ireturn, 0, 0, 0, 0) :: []
def mB_267_0 : List mm_I := (.aload_n 2, 0, 0, 0, 0) :: (.iconst 0, 0, 0, 0, 0) :: (.aload_n 0, 0, 0, 0, 0) :: (.iload_n 1, 0, 0, 0, 0) :: (.invokevirtual 71, 101, 2, 224, 4) :: (.i2l, 0, 0, 0, 0) :: (.lastore, 0, 0, 0, 0) :: (.goto 6, 15, 0, 0, 0) :: []
def mT_267 : List (Nat × List mm_I) := [(0, mB_267_0), (12, mB_267_12), (15, mB_267_15)]
-- 268: VillageBoardLaw.next(LVillageBoard;I[J)I
def mB_268_15 : List mm_I := (.iconst 0, 0, 0, 0, 0) :: (.ireturn, 0, 0, 0, 0) :: []
def mB_268_12 : List mm_I := (.astore_n 3, 0, 0, 0, 0) :: (.iconst 1, 0, 0, 0, 0) :: (.ireturn, 0, 0, 0, 0) :: []
def mB_268_0 : List mm_I := (.aload_n 2, 0, 0, 0, 0) :: (.iconst 0, 0, 0, 0, 0) :: (.aload_n 0, 0, 0, 0, 0) :: (.iload_n 1, 0, 0, 0, 0) :: (.invokevirtual 74, 102, 2, 225, 4) :: (.i2l, 0, 0, 0, 0) :: (.lastore, 0, 0, 0, 0) :: (.goto 6, 15, 0, 0, 0) :: []
def mT_268 : List (Nat × List mm_I) := [(0, mB_268_0), (12, mB_268_12), (15, mB_268_15)]
-- 269: VillageBoardLaw.game(LVillageBoard;III[J)I
def mB_269_23 : List mm_I := (.iconst 0, 0, 0, 0, 0) :: (.ireturn, 0, 0, 0, 0) :: []
def mB_269_19 : List mm_I := (.astore 5, 0, 0, 0, 0) :: (.iconst 2, 0, 0, 0, 0) :: (.ireturn, 0, 0, 0, 0) :: []
def mB_269_15 : List mm_I := (.astore 5, 0, 0, 0, 0) :: (.iconst 1, 0, 0, 0, 0) :: (.ireturn, 0, 0, 0, 0) :: []
def mB_269_0 : List mm_I := (.aload 4, 0, 0, 0, 0) :: (.iconst 0, 0, 0, 0, 0) :: (.aload_n 0, 0, 0, 0, 0) :: (.iload_n 1, 0, 0, 0, 0) :: (.iload_n 2, 0, 0, 0, 0) :: (.iload_n 3, 0, 0, 0, 0) :: (.invokevirtual 77, 105, 4, 226, 7) :: (.i2l, 0, 0, 0, 0) :: (.lastore, 0, 0, 0, 0) :: (.goto 11, 23, 0, 0, 0) :: []
def mT_269 : List (Nat × List mm_I) := [(0, mB_269_0), (15, mB_269_15), (19, mB_269_19), (23, mB_269_23)]
-- 270: VillageBoardLaw.years(LVillageBoard;III[J)I
def mB_270_23 : List mm_I := (.iconst 0, 0, 0, 0, 0) :: (.ireturn, 0, 0, 0, 0) :: []
def mB_270_19 : List mm_I := (.astore 5, 0, 0, 0, 0) :: (.iconst 2, 0, 0, 0, 0) :: (.ireturn, 0, 0, 0, 0) :: []
def mB_270_15 : List mm_I := (.astore 5, 0, 0, 0, 0) :: (.iconst 1, 0, 0, 0, 0) :: (.ireturn, 0, 0, 0, 0) :: []
def mB_270_0 : List mm_I := (.aload 4, 0, 0, 0, 0) :: (.iconst 0, 0, 0, 0, 0) :: (.aload_n 0, 0, 0, 0, 0) :: (.iload_n 1, 0, 0, 0, 0) :: (.iload_n 2, 0, 0, 0, 0) :: (.iload_n 3, 0, 0, 0, 0) :: (.invokevirtual 80, 108, 4, 227, 7) :: (.i2l, 0, 0, 0, 0) :: (.lastore, 0, 0, 0, 0) :: (.goto 11, 23, 0, 0, 0) :: []
def mT_270 : List (Nat × List mm_I) := [(0, mB_270_0), (15, mB_270_15), (19, mB_270_19), (23, mB_270_23)]
-- 271: VillageBoardLaw.owes(LVillageBoard;I[J)I
def mB_271_15 : List mm_I := (.iconst 0, 0, 0, 0, 0) :: (.ireturn, 0, 0, 0, 0) :: []
def mB_271_12 : List mm_I := (.astore_n 3, 0, 0, 0, 0) :: (.iconst 1, 0, 0, 0, 0) :: (.ireturn, 0, 0, 0, 0) :: []
def mB_271_0 : List mm_I := (.aload_n 2, 0, 0, 0, 0) :: (.iconst 0, 0, 0, 0, 0) :: (.aload_n 0, 0, 0, 0, 0) :: (.iload_n 1, 0, 0, 0, 0) :: (.invokevirtual 83, 109, 2, 228, 4) :: (.i2l, 0, 0, 0, 0) :: (.lastore, 0, 0, 0, 0) :: (.goto 6, 15, 0, 0, 0) :: []
def mT_271 : List (Nat × List mm_I) := [(0, mB_271_0), (12, mB_271_12), (15, mB_271_15)]
-- 272: VillageBoardLaw.parts(LVillageBoard;I[J)I
def mB_272_15 : List mm_I := (.iconst 0, 0, 0, 0, 0) :: (.ireturn, 0, 0, 0, 0) :: []
def mB_272_12 : List mm_I := (.astore_n 3, 0, 0, 0, 0) :: (.iconst 1, 0, 0, 0, 0) :: (.ireturn, 0, 0, 0, 0) :: []
def mB_272_0 : List mm_I := (.aload_n 2, 0, 0, 0, 0) :: (.iconst 0, 0, 0, 0, 0) :: (.aload_n 0, 0, 0, 0, 0) :: (.iload_n 1, 0, 0, 0, 0) :: (.invokevirtual 86, 111, 2, 229, 4) :: (.i2l, 0, 0, 0, 0) :: (.lastore, 0, 0, 0, 0) :: (.goto 6, 15, 0, 0, 0) :: []
def mT_272 : List (Nat × List mm_I) := [(0, mB_272_0), (12, mB_272_12), (15, mB_272_15)]
-- 273: VillageBoardLaw.safe(LVillageBoard;I[J)I
def mB_273_15 : List mm_I := (.iconst 0, 0, 0, 0, 0) :: (.ireturn, 0, 0, 0, 0) :: []
def mB_273_12 : List mm_I := (.astore_n 3, 0, 0, 0, 0) :: (.iconst 1, 0, 0, 0, 0) :: (.ireturn, 0, 0, 0, 0) :: []
def mB_273_0 : List mm_I := (.aload_n 2, 0, 0, 0, 0) :: (.iconst 0, 0, 0, 0, 0) :: (.aload_n 0, 0, 0, 0, 0) :: (.iload_n 1, 0, 0, 0, 0) :: (.invokevirtual 89, 112, 2, 230, 4) :: (.i2l, 0, 0, 0, 0) :: (.lastore, 0, 0, 0, 0) :: (.goto 6, 15, 0, 0, 0) :: []
def mT_273 : List (Nat × List mm_I) := [(0, mB_273_0), (12, mB_273_12), (15, mB_273_15)]
-- 274: VillageBoardLaw.reach(LVillageBoard;I[J)I
def mB_274_15 : List mm_I := (.iconst 0, 0, 0, 0, 0) :: (.ireturn, 0, 0, 0, 0) :: []
def mB_274_12 : List mm_I := (.astore_n 3, 0, 0, 0, 0) :: (.iconst 1, 0, 0, 0, 0) :: (.ireturn, 0, 0, 0, 0) :: []
def mB_274_0 : List mm_I := (.aload_n 2, 0, 0, 0, 0) :: (.iconst 0, 0, 0, 0, 0) :: (.aload_n 0, 0, 0, 0, 0) :: (.iload_n 1, 0, 0, 0, 0) :: (.invokevirtual 92, 113, 2, 231, 4) :: (.i2l, 0, 0, 0, 0) :: (.lastore, 0, 0, 0, 0) :: (.goto 6, 15, 0, 0, 0) :: []
def mT_274 : List (Nat × List mm_I) := [(0, mB_274_0), (12, mB_274_12), (15, mB_274_15)]
-- 275: VillageBoardLaw.guard(LVillageBoard;I[J)I
def mB_275_15 : List mm_I := (.iconst 0, 0, 0, 0, 0) :: (.ireturn, 0, 0, 0, 0) :: []
def mB_275_12 : List mm_I := (.astore_n 3, 0, 0, 0, 0) :: (.iconst 1, 0, 0, 0, 0) :: (.ireturn, 0, 0, 0, 0) :: []
def mB_275_0 : List mm_I := (.aload_n 2, 0, 0, 0, 0) :: (.iconst 0, 0, 0, 0, 0) :: (.aload_n 0, 0, 0, 0, 0) :: (.iload_n 1, 0, 0, 0, 0) :: (.invokevirtual 95, 114, 2, 232, 4) :: (.i2l, 0, 0, 0, 0) :: (.lastore, 0, 0, 0, 0) :: (.goto 6, 15, 0, 0, 0) :: []
def mT_275 : List (Nat × List mm_I) := [(0, mB_275_0), (12, mB_275_12), (15, mB_275_15)]
-- 276: VillageBoardLaw.key(LVillageBoard;I[J)I
def mB_276_15 : List mm_I := (.iconst 0, 0, 0, 0, 0) :: (.ireturn, 0, 0, 0, 0) :: []
def mB_276_12 : List mm_I := (.astore_n 3, 0, 0, 0, 0) :: (.iconst 1, 0, 0, 0, 0) :: (.ireturn, 0, 0, 0, 0) :: []
def mB_276_0 : List mm_I := (.aload_n 2, 0, 0, 0, 0) :: (.iconst 0, 0, 0, 0, 0) :: (.aload_n 0, 0, 0, 0, 0) :: (.iload_n 1, 0, 0, 0, 0) :: (.invokevirtual 98, 115, 2, 233, 4) :: (.i2l, 0, 0, 0, 0) :: (.lastore, 0, 0, 0, 0) :: (.goto 6, 15, 0, 0, 0) :: []
def mT_276 : List (Nat × List mm_I) := [(0, mB_276_0), (12, mB_276_12), (15, mB_276_15)]
-- 277: VillageBoardLaw.regret(LVillageBoard;II[J)I
def mB_277_17 : List mm_I := (.iconst 0, 0, 0, 0, 0) :: (.ireturn, 0, 0, 0, 0) :: []
def mB_277_13 : List mm_I := (.astore 4, 0, 0, 0, 0) :: (.iconst 1, 0, 0, 0, 0) :: (.ireturn, 0, 0, 0, 0) :: []
def mB_277_0 : List mm_I := (.aload_n 3, 0, 0, 0, 0) :: (.iconst 0, 0, 0, 0, 0) :: (.aload_n 0, 0, 0, 0, 0) :: (.iload_n 1, 0, 0, 0, 0) :: (.iload_n 2, 0, 0, 0, 0) :: (.invokevirtual 101, 118, 3, 234, 5) :: (.i2l, 0, 0, 0, 0) :: (.lastore, 0, 0, 0, 0) :: (.goto 7, 17, 0, 0, 0) :: []
def mT_277 : List (Nat × List mm_I) := [(0, mB_277_0), (13, mB_277_13), (17, mB_277_17)]
-- 278: VillageBoardLaw.whose(LVillageBoard;I[J)I
def mB_278_15 : List mm_I := (.iconst 0, 0, 0, 0, 0) :: (.ireturn, 0, 0, 0, 0) :: []
def mB_278_12 : List mm_I := (.astore_n 3, 0, 0, 0, 0) :: (.iconst 1, 0, 0, 0, 0) :: (.ireturn, 0, 0, 0, 0) :: []
def mB_278_0 : List mm_I := (.aload_n 2, 0, 0, 0, 0) :: (.iconst 0, 0, 0, 0, 0) :: (.aload_n 0, 0, 0, 0, 0) :: (.iload_n 1, 0, 0, 0, 0) :: (.invokevirtual 104, 119, 2, 235, 4) :: (.i2l, 0, 0, 0, 0) :: (.lastore, 0, 0, 0, 0) :: (.goto 6, 15, 0, 0, 0) :: []
def mT_278 : List (Nat × List mm_I) := [(0, mB_278_0), (12, mB_278_12), (15, mB_278_15)]
-- 279: VillageBoardLaw.law([I)Z
def mB_279_2383 : List mm_I := (.iconst 1, 0, 0, 0, 0) :: (.ireturn, 0, 0, 0, 0) :: []
def mB_279_2377 : List mm_I := (.iinc 4 6, 0, 0, 0, 0) :: (.goto (-2357), 23, 0, 0, 0) :: []
def mB_279_2364 : List mm_I := (.aload_n 1, 0, 0, 0, 0) :: (.invokevirtual 256, 121, 1, 321, 2365) :: (.aload_n 2, 0, 0, 0, 0) :: (.invokevirtual 259, 248, 1, 322, 2369) :: (.if_icmp .eq 5, 2377, 0, 0, 0) :: (.iconst 0, 0, 0, 0, 0) :: (.ireturn, 0, 0, 0, 0) :: []
def mB_279_2353 : List mm_I := (.aload_n 1, 0, 0, 0, 0) :: (.invokevirtual 252, 120, 1, 319, 2354) :: (.aload_n 2, 0, 0, 0, 0) :: (.invokevirtual 255, 247, 1, 320, 2358) :: (.goto 16, 2377, 0, 0, 0) :: []
def mB_279_2350 : List mm_I := (.goto 27, 2377, 0, 0, 0) :: []
def mB_279_2333 : List mm_I := (.iload 5, 0, 0, 0, 0) :: (.ifCond .ne 15, 2350, 0, 0, 0) :: (.aload_n 3, 0, 0, 0, 0) :: (.iconst 0, 0, 0, 0, 0) :: (.laload, 0, 0, 0, 0) :: (.iload 6, 0, 0, 0, 0) :: (.i2l, 0, 0, 0, 0) :: (.lcmp, 0, 0, 0, 0) :: (.ifCond .eq 5, 2350, 0, 0, 0) :: (.iconst 0, 0, 0, 0, 0) :: (.ireturn, 0, 0, 0, 0) :: []
def mB_279_2297 : List mm_I := (.aload_n 1, 0, 0, 0, 0) :: (.aload_n 0, 0, 0, 0, 0) :: (.iload 4, 0, 0, 0, 0) :: (.iconst 1, 0, 0, 0, 0) :: (.iadd, 0, 0, 0, 0) :: (.iaload, 0, 0, 0, 0) :: (.aload_n 3, 0, 0, 0, 0) :: (.invokestatic 249, 278, 3, 317, 2305) :: (.istore 5, 0, 0, 0, 0) :: (.aload_n 2, 0, 0, 0, 0) :: (.aload_n 0, 0, 0, 0, 0) :: (.iload 4, 0, 0, 0, 0) :: (.iconst 1, 0, 0, 0, 0) :: (.iadd, 0, 0, 0, 0) :: (.iaload, 0, 0, 0, 0) :: (.invokevirtual 251, 246, 2, 318, 2317) :: (.istore 6, 0, 0, 0, 0) :: (.aload_n 2, 0, 0, 0, 0) :: (.invokevirtual 122, 136, 1, 242, 2323) :: (.iload 5, 0, 0, 0, 0) :: (.if_icmp .eq 5, 2333, 0, 0, 0) :: (.iconst 0, 0, 0, 0, 0) :: (.ireturn, 0, 0, 0, 0) :: []
def mB_279_2294 : List mm_I := (.goto 83, 2377, 0, 0, 0) :: []
def mB_279_2277 : List mm_I := (.iload 5, 0, 0, 0, 0) :: (.ifCond .ne 15, 2294, 0, 0, 0) :: (.aload_n 3, 0, 0, 0, 0) :: (.iconst 0, 0, 0, 0, 0) :: (.laload, 0, 0, 0, 0) :: (.iload 6, 0, 0, 0, 0) :: (.i2l, 0, 0, 0, 0) :: (.lcmp, 0, 0, 0, 0) :: (.ifCond .eq 5, 2294, 0, 0, 0) :: (.iconst 0, 0, 0, 0, 0) :: (.ireturn, 0, 0, 0, 0) :: []
def mB_279_2229 : List mm_I := (.aload_n 1, 0, 0, 0, 0) :: (.aload_n 0, 0, 0, 0, 0) :: (.iload 4, 0, 0, 0, 0) :: (.iconst 1, 0, 0, 0, 0) :: (.iadd, 0, 0, 0, 0) :: (.iaload, 0, 0, 0, 0) :: (.aload_n 0, 0, 0, 0, 0) :: (.iload 4, 0, 0, 0, 0) :: (.iconst 2, 0, 0, 0, 0) :: (.iadd, 0, 0, 0, 0) :: (.iaload, 0, 0, 0, 0) :: (.aload_n 3, 0, 0, 0, 0) :: (.invokestatic 246, 277, 4, 315, 2243) :: (.istore 5, 0, 0, 0, 0) :: (.aload_n 2, 0, 0, 0, 0) :: (.aload_n 0, 0, 0, 0, 0) :: (.iload 4, 0, 0, 0, 0) :: (.iconst 1, 0, 0, 0, 0) :: (.iadd, 0, 0, 0, 0) :: (.iaload, 0, 0, 0, 0) :: (.aload_n 0, 0, 0, 0, 0) :: (.iload 4, 0, 0, 0, 0) :: (.iconst 2, 0, 0, 0, 0) :: (.iadd, 0, 0, 0, 0) :: (.iaload, 0, 0, 0, 0) :: (.invokevirtual 248, 245, 3, 316, 2261) :: (.istore 6, 0, 0, 0, 0) :: (.aload_n 2, 0, 0, 0, 0) :: (.invokevirtual 122, 136, 1, 242, 2267) :: (.iload 5, 0, 0, 0, 0) :: (.if_icmp .eq 5, 2277, 0, 0, 0) :: (.iconst 0, 0, 0, 0, 0) :: (.ireturn, 0, 0, 0, 0) :: []
def mB_279_2216 : List mm_I := (.aload_n 1, 0, 0, 0, 0) :: (.invokevirtual 242, 116, 1, 313, 2217) :: (.aload_n 2, 0, 0, 0, 0) :: (.invokevirtual 245, 244, 1, 314, 2221) :: (.if_icmp .eq 153, 2377, 0, 0, 0) :: (.iconst 0, 0, 0, 0, 0) :: (.ireturn, 0, 0, 0, 0) :: []
def mB_279_2213 : List mm_I := (.goto 164, 2377, 0, 0, 0) :: []
def mB_279_2196 : List mm_I := (.iload 5, 0, 0, 0, 0) :: (.ifCond .ne 15, 2213, 0, 0, 0) :: (.aload_n 3, 0, 0, 0, 0) :: (.iconst 0, 0, 0, 0, 0) :: (.laload, 0, 0, 0, 0) :: (.iload 6, 0, 0, 0, 0) :: (.i2l, 0, 0, 0, 0) :: (.lcmp, 0, 0, 0, 0) :: (.ifCond .eq 5, 2213, 0, 0, 0) :: (.iconst 0, 0, 0, 0, 0) :: (.ireturn, 0, 0, 0, 0) :: []
def mB_279_2160 : List mm_I := (.aload_n 1, 0, 0, 0, 0) :: (.aload_n 0, 0, 0, 0, 0) :: (.iload 4, 0, 0, 0, 0) :: (.iconst 1, 0, 0, 0, 0) :: (.iadd, 0, 0, 0, 0) :: (.iaload, 0, 0, 0, 0) :: (.aload_n 3, 0, 0, 0, 0) :: (.invokestatic 239, 276, 3, 311, 2168) :: (.istore 5, 0, 0, 0, 0) :: (.aload_n 2, 0, 0, 0, 0) :: (.aload_n 0, 0, 0, 0, 0) :: (.iload 4, 0, 0, 0, 0) :: (.iconst 1, 0, 0, 0, 0) :: (.iadd, 0, 0, 0, 0) :: (.iaload, 0, 0, 0, 0) :: (.invokevirtual 241, 243, 2, 312, 2180) :: (.istore 6, 0, 0, 0, 0) :: (.aload_n 2, 0, 0, 0, 0) :: (.invokevirtual 122, 136, 1, 242, 2186) :: (.iload 5, 0, 0, 0, 0) :: (.if_icmp .eq 5, 2196, 0, 0, 0) :: (.iconst 0, 0, 0, 0, 0) :: (.ireturn, 0, 0, 0, 0) :: []
def mB_279_2157 : List mm_I := (.goto 220, 2377, 0, 0, 0) :: []
def mB_279_2140 : List mm_I := (.iload 5, 0, 0, 0, 0) :: (.ifCond .ne 15, 2157, 0, 0, 0) :: (.aload_n 3, 0, 0, 0, 0) :: (.iconst 0, 0, 0, 0, 0) :: (.laload, 0, 0, 0, 0) :: (.iload 6, 0, 0, 0, 0) :: (.i2l, 0, 0, 0, 0) :: (.lcmp, 0, 0, 0, 0) :: (.ifCond .eq 5, 2157, 0, 0, 0) :: (.iconst 0, 0, 0, 0, 0) :: (.ireturn, 0, 0, 0, 0) :: []
def mB_279_2104 : List mm_I := (.aload_n 1, 0, 0, 0, 0) :: (.aload_n 0, 0, 0, 0, 0) :: (.iload 4, 0, 0, 0, 0) :: (.iconst 1, 0, 0, 0, 0) :: (.iadd, 0, 0, 0, 0) :: (.iaload, 0, 0, 0, 0) :: (.aload_n 3, 0, 0, 0, 0) :: (.invokestatic 236, 275, 3, 309, 2112) :: (.istore 5, 0, 0, 0, 0) :: (.aload_n 2, 0, 0, 0, 0) :: (.aload_n 0, 0, 0, 0, 0) :: (.iload 4, 0, 0, 0, 0) :: (.iconst 1, 0, 0, 0, 0) :: (.iadd, 0, 0, 0, 0) :: (.iaload, 0, 0, 0, 0) :: (.invokevirtual 238, 242, 2, 310, 2124) :: (.istore 6, 0, 0, 0, 0) :: (.aload_n 2, 0, 0, 0, 0) :: (.invokevirtual 122, 136, 1, 242, 2130) :: (.iload 5, 0, 0, 0, 0) :: (.if_icmp .eq 5, 2140, 0, 0, 0) :: (.iconst 0, 0, 0, 0, 0) :: (.ireturn, 0, 0, 0, 0) :: []
def mB_279_2101 : List mm_I := (.goto 276, 2377, 0, 0, 0) :: []
def mB_279_2084 : List mm_I := (.iload 5, 0, 0, 0, 0) :: (.ifCond .ne 15, 2101, 0, 0, 0) :: (.aload_n 3, 0, 0, 0, 0) :: (.iconst 0, 0, 0, 0, 0) :: (.laload, 0, 0, 0, 0) :: (.iload 6, 0, 0, 0, 0) :: (.i2l, 0, 0, 0, 0) :: (.lcmp, 0, 0, 0, 0) :: (.ifCond .eq 5, 2101, 0, 0, 0) :: (.iconst 0, 0, 0, 0, 0) :: (.ireturn, 0, 0, 0, 0) :: []
def mB_279_2048 : List mm_I := (.aload_n 1, 0, 0, 0, 0) :: (.aload_n 0, 0, 0, 0, 0) :: (.iload 4, 0, 0, 0, 0) :: (.iconst 1, 0, 0, 0, 0) :: (.iadd, 0, 0, 0, 0) :: (.iaload, 0, 0, 0, 0) :: (.aload_n 3, 0, 0, 0, 0) :: (.invokestatic 233, 274, 3, 307, 2056) :: (.istore 5, 0, 0, 0, 0) :: (.aload_n 2, 0, 0, 0, 0) :: (.aload_n 0, 0, 0, 0, 0) :: (.iload 4, 0, 0, 0, 0) :: (.iconst 1, 0, 0, 0, 0) :: (.iadd, 0, 0, 0, 0) :: (.iaload, 0, 0, 0, 0) :: (.invokevirtual 235, 220, 2, 308, 2068) :: (.istore 6, 0, 0, 0, 0) :: (.aload_n 2, 0, 0, 0, 0) :: (.invokevirtual 122, 136, 1, 242, 2074) :: (.iload 5, 0, 0, 0, 0) :: (.if_icmp .eq 5, 2084, 0, 0, 0) :: (.iconst 0, 0, 0, 0, 0) :: (.ireturn, 0, 0, 0, 0) :: []
def mB_279_2045 : List mm_I := (.goto 332, 2377, 0, 0, 0) :: []
def mB_279_2028 : List mm_I := (.iload 5, 0, 0, 0, 0) :: (.ifCond .ne 15, 2045, 0, 0, 0) :: (.aload_n 3, 0, 0, 0, 0) :: (.iconst 0, 0, 0, 0, 0) :: (.laload, 0, 0, 0, 0) :: (.iload 6, 0, 0, 0, 0) :: (.i2l, 0, 0, 0, 0) :: (.lcmp, 0, 0, 0, 0) :: (.ifCond .eq 5, 2045, 0, 0, 0) :: (.iconst 0, 0, 0, 0, 0) :: (.ireturn, 0, 0, 0, 0) :: []
def mB_279_1992 : List mm_I := (.aload_n 1, 0, 0, 0, 0) :: (.aload_n 0, 0, 0, 0, 0) :: (.iload 4, 0, 0, 0, 0) :: (.iconst 1, 0, 0, 0, 0) :: (.iadd, 0, 0, 0, 0) :: (.iaload, 0, 0, 0, 0) :: (.aload_n 3, 0, 0, 0, 0) :: (.invokestatic 230, 273, 3, 305, 2000) :: (.istore 5, 0, 0, 0, 0) :: (.aload_n 2, 0, 0, 0, 0) :: (.aload_n 0, 0, 0, 0, 0) :: (.iload 4, 0, 0, 0, 0) :: (.iconst 1, 0, 0, 0, 0) :: (.iadd, 0, 0, 0, 0) :: (.iaload, 0, 0, 0, 0) :: (.invokevirtual 232, 241, 2, 306, 2012) :: (.istore 6, 0, 0, 0, 0) :: (.aload_n 2, 0, 0, 0, 0) :: (.invokevirtual 122, 136, 1, 242, 2018) :: (.iload 5, 0, 0, 0, 0) :: (.if_icmp .eq 5, 2028, 0, 0, 0) :: (.iconst 0, 0, 0, 0, 0) :: (.ireturn, 0, 0, 0, 0) :: []
def mB_279_1989 : List mm_I := (.goto 388, 2377, 0, 0, 0) :: []
def mB_279_1972 : List mm_I := (.iload 5, 0, 0, 0, 0) :: (.ifCond .ne 15, 1989, 0, 0, 0) :: (.aload_n 3, 0, 0, 0, 0) :: (.iconst 0, 0, 0, 0, 0) :: (.laload, 0, 0, 0, 0) :: (.iload 6, 0, 0, 0, 0) :: (.i2l, 0, 0, 0, 0) :: (.lcmp, 0, 0, 0, 0) :: (.ifCond .eq 5, 1989, 0, 0, 0) :: (.iconst 0, 0, 0, 0, 0) :: (.ireturn, 0, 0, 0, 0) :: []
def mB_279_1936 : List mm_I := (.aload_n 1, 0, 0, 0, 0) :: (.aload_n 0, 0, 0, 0, 0) :: (.iload 4, 0, 0, 0, 0) :: (.iconst 1, 0, 0, 0, 0) :: (.iadd, 0, 0, 0, 0) :: (.iaload, 0, 0, 0, 0) :: (.aload_n 3, 0, 0, 0, 0) :: (.invokestatic 227, 272, 3, 303, 1944) :: (.istore 5, 0, 0, 0, 0) :: (.aload_n 2, 0, 0, 0, 0) :: (.aload_n 0, 0, 0, 0, 0) :: (.iload 4, 0, 0, 0, 0) :: (.iconst 1, 0, 0, 0, 0) :: (.iadd, 0, 0, 0, 0) :: (.iaload, 0, 0, 0, 0) :: (.invokevirtual 229, 240, 2, 304, 1956) :: (.istore 6, 0, 0, 0, 0) :: (.aload_n 2, 0, 0, 0, 0) :: (.invokevirtual 122, 136, 1, 242, 1962) :: (.iload 5, 0, 0, 0, 0) :: (.if_icmp .eq 5, 1972, 0, 0, 0) :: (.iconst 0, 0, 0, 0, 0) :: (.ireturn, 0, 0, 0, 0) :: []
def mB_279_1923 : List mm_I := (.aload_n 1, 0, 0, 0, 0) :: (.invokevirtual 223, 110, 1, 301, 1924) :: (.aload_n 2, 0, 0, 0, 0) :: (.invokevirtual 226, 239, 1, 302, 1928) :: (.if_icmp .eq 446, 2377, 0, 0, 0) :: (.iconst 0, 0, 0, 0, 0) :: (.ireturn, 0, 0, 0, 0) :: []
def mB_279_1920 : List mm_I := (.goto 457, 2377, 0, 0, 0) :: []
def mB_279_1903 : List mm_I := (.iload 5, 0, 0, 0, 0) :: (.ifCond .ne 15, 1920, 0, 0, 0) :: (.aload_n 3, 0, 0, 0, 0) :: (.iconst 0, 0, 0, 0, 0) :: (.laload, 0, 0, 0, 0) :: (.iload 6, 0, 0, 0, 0) :: (.i2l, 0, 0, 0, 0) :: (.lcmp, 0, 0, 0, 0) :: (.ifCond .eq 5, 1920, 0, 0, 0) :: (.iconst 0, 0, 0, 0, 0) :: (.ireturn, 0, 0, 0, 0) :: []
def mB_279_1867 : List mm_I := (.aload_n 1, 0, 0, 0, 0) :: (.aload_n 0, 0, 0, 0, 0) :: (.iload 4, 0, 0, 0, 0) :: (.iconst 1, 0, 0, 0, 0) :: (.iadd, 0, 0, 0, 0) :: (.iaload, 0, 0, 0, 0) :: (.aload_n 3, 0, 0, 0, 0) :: (.invokestatic 220, 271, 3, 299, 1875) :: (.istore 5, 0, 0, 0, 0) :: (.aload_n 2, 0, 0, 0, 0) :: (.aload_n 0, 0, 0, 0, 0) :: (.iload 4, 0, 0, 0, 0) :: (.iconst 1, 0, 0, 0, 0) :: (.iadd, 0, 0, 0, 0) :: (.iaload, 0, 0, 0, 0) :: (.invokevirtual 222, 238, 2, 300, 1887) :: (.istore 6, 0, 0, 0, 0) :: (.aload_n 2, 0, 0, 0, 0) :: (.invokevirtual 122, 136, 1, 242, 1893) :: (.iload 5, 0, 0, 0, 0) :: (.if_icmp .eq 5, 1903, 0, 0, 0) :: (.iconst 0, 0, 0, 0, 0) :: (.ireturn, 0, 0, 0, 0) :: []
def mB_279_1864 : List mm_I := (.goto 513, 2377, 0, 0, 0) :: []
def mB_279_1847 : List mm_I := (.iload 5, 0, 0, 0, 0) :: (.ifCond .ne 15, 1864, 0, 0, 0) :: (.aload_n 3, 0, 0, 0, 0) :: (.iconst 0, 0, 0, 0, 0) :: (.laload, 0, 0, 0, 0) :: (.iload 6, 0, 0, 0, 0) :: (.i2l, 0, 0, 0, 0) :: (.lcmp, 0, 0, 0, 0) :: (.ifCond .eq 5, 1864, 0, 0, 0) :: (.iconst 0, 0, 0, 0, 0) :: (.ireturn, 0, 0, 0, 0) :: []
def mB_279_1787 : List mm_I := (.aload_n 1, 0, 0, 0, 0) :: (.aload_n 0, 0, 0, 0, 0) :: (.iload 4, 0, 0, 0, 0) :: (.iconst 1, 0, 0, 0, 0) :: (.iadd, 0, 0, 0, 0) :: (.iaload, 0, 0, 0, 0) :: (.aload_n 0, 0, 0, 0, 0) :: (.iload 4, 0, 0, 0, 0) :: (.iconst 2, 0, 0, 0, 0) :: (.iadd, 0, 0, 0, 0) :: (.iaload, 0, 0, 0, 0) :: (.aload_n 0, 0, 0, 0, 0) :: (.iload 4, 0, 0, 0, 0) :: (.iconst 3, 0, 0, 0, 0) :: (.iadd, 0, 0, 0, 0) :: (.iaload, 0, 0, 0, 0) :: (.aload_n 3, 0, 0, 0, 0) :: (.invokestatic 217, 270, 5, 297, 1807) :: (.istore 5, 0, 0, 0, 0) :: (.aload_n 2, 0, 0, 0, 0) :: (.aload_n 0, 0, 0, 0, 0) :: (.iload 4, 0, 0, 0, 0) :: (.iconst 1, 0, 0, 0, 0) :: (.iadd, 0, 0, 0, 0) :: (.iaload, 0, 0, 0, 0) :: (.aload_n 0, 0, 0, 0, 0) :: (.iload 4, 0, 0, 0, 0) :: (.iconst 2, 0, 0, 0, 0) :: (.iadd, 0, 0, 0, 0) :: (.iaload, 0, 0, 0, 0) :: (.aload_n 0, 0, 0, 0, 0) :: (.iload 4, 0, 0, 0, 0) :: (.iconst 3, 0, 0, 0, 0) :: (.iadd, 0, 0, 0, 0) :: (.iaload, 0, 0, 0, 0) :: (.invokevirtual 219, 237, 4, 298, 1831) :: (.istore 6, 0, 0, 0, 0) :: (.aload_n 2, 0, 0, 0, 0) :: (.invokevirtual 122, 136, 1, 242, 1837) :: (.iload 5, 0, 0, 0, 0) :: (.if_icmp .eq 5, 1847, 0, 0, 0) :: (.iconst 0, 0, 0, 0, 0) :: (.ireturn, 0, 0, 0, 0) :: []
def mB_279_1784 : List mm_I := (.goto 593, 2377, 0, 0, 0) :: []
def mB_279_1767 : List mm_I := (.iload 5, 0, 0, 0, 0) :: (.ifCond .ne 15, 1784, 0, 0, 0) :: (.aload_n 3, 0, 0, 0, 0) :: (.iconst 0, 0, 0, 0, 0) :: (.laload, 0, 0, 0, 0) :: (.iload 6, 0, 0, 0, 0) :: (.i2l, 0, 0, 0, 0) :: (.lcmp, 0, 0, 0, 0) :: (.ifCond .eq 5, 1784, 0, 0, 0) :: (.iconst 0, 0, 0, 0, 0) :: (.ireturn, 0, 0, 0, 0) :: []
def mB_279_1707 : List mm_I := (.aload_n 1, 0, 0, 0, 0) :: (.aload_n 0, 0, 0, 0, 0) :: (.iload 4, 0, 0, 0, 0) :: (.iconst 1, 0, 0, 0, 0) :: (.iadd, 0, 0, 0, 0) :: (.iaload, 0, 0, 0, 0) :: (.aload_n 0, 0, 0, 0, 0) :: (.iload 4, 0, 0, 0, 0) :: (.iconst 2, 0, 0, 0, 0) :: (.iadd, 0, 0, 0, 0) :: (.iaload, 0, 0, 0, 0) :: (.aload_n 0, 0, 0, 0, 0) :: (.iload 4, 0, 0, 0, 0) :: (.iconst 3, 0, 0, 0, 0) :: (.iadd, 0, 0, 0, 0) :: (.iaload, 0, 0, 0, 0) :: (.aload_n 3, 0, 0, 0, 0) :: (.invokestatic 214, 269, 5, 295, 1727) :: (.istore 5, 0, 0, 0, 0) :: (.aload_n 2, 0, 0, 0, 0) :: (.aload_n 0, 0, 0, 0, 0) :: (.iload 4, 0, 0, 0, 0) :: (.iconst 1, 0, 0, 0, 0) :: (.iadd, 0, 0, 0, 0) :: (.iaload, 0, 0, 0, 0) :: (.aload_n 0, 0, 0, 0, 0) :: (.iload 4, 0, 0, 0, 0) :: (.iconst 2, 0, 0, 0, 0) :: (.iadd, 0, 0, 0, 0) :: (.iaload, 0, 0, 0, 0) :: (.aload_n 0, 0, 0, 0, 0) :: (.iload 4, 0, 0, 0, 0) :: (.iconst 3, 0, 0, 0, 0) :: (.iadd, 0, 0, 0, 0) :: (.iaload, 0, 0, 0, 0) :: (.invokevirtual 216, 234, 4, 296, 1751) :: (.istore 6, 0, 0, 0, 0) :: (.aload_n 2, 0, 0, 0, 0) :: (.invokevirtual 122, 136, 1, 242, 1757) :: (.iload 5, 0, 0, 0, 0) :: (.if_icmp .eq 5, 1767, 0, 0, 0) :: (.iconst 0, 0, 0, 0, 0) :: (.ireturn, 0, 0, 0, 0) :: []
def mB_279_1694 : List mm_I := (.aload_n 1, 0, 0, 0, 0) :: (.invokevirtual 209, 103, 1, 293, 1695) :: (.aload_n 2, 0, 0, 0, 0) :: (.invokevirtual 213, 232, 1, 294, 1699) :: (.if_icmp .eq 675, 2377, 0, 0, 0) :: (.iconst 0, 0, 0, 0, 0) :: (.ireturn, 0, 0, 0, 0) :: []
def mB_279_1691 : List mm_I := (.goto 686, 2377, 0, 0, 0) :: []
def mB_279_1674 : List mm_I := (.iload 5, 0, 0, 0, 0) :: (.ifCond .ne 15, 1691, 0, 0, 0) :: (.aload_n 3, 0, 0, 0, 0) :: (.iconst 0, 0, 0, 0, 0) :: (.laload, 0, 0, 0, 0) :: (.iload 6, 0, 0, 0, 0) :: (.i2l, 0, 0, 0, 0) :: (.lcmp, 0, 0, 0, 0) :: (.ifCond .eq 5, 1691, 0, 0, 0) :: (.iconst 0, 0, 0, 0, 0) :: (.ireturn, 0, 0, 0, 0) :: []
def mB_279_1638 : List mm_I := (.aload_n 1, 0, 0, 0, 0) :: (.aload_n 0, 0, 0, 0, 0) :: (.iload 4, 0, 0, 0, 0) :: (.iconst 1, 0, 0, 0, 0) :: (.iadd, 0, 0, 0, 0) :: (.iaload, 0, 0, 0, 0) :: (.aload_n 3, 0, 0, 0, 0) :: (.invokestatic 206, 268, 3, 291, 1646) :: (.istore 5, 0, 0, 0, 0) :: (.aload_n 2, 0, 0, 0, 0) :: (.aload_n 0, 0, 0, 0, 0) :: (.iload 4, 0, 0, 0, 0) :: (.iconst 1, 0, 0, 0, 0) :: (.iadd, 0, 0, 0, 0) :: (.iaload, 0, 0, 0, 0) :: (.invokevirtual 208, 230, 2, 292, 1658) :: (.istore 6, 0, 0, 0, 0) :: (.aload_n 2, 0, 0, 0, 0) :: (.invokevirtual 122, 136, 1, 242, 1664) :: (.iload 5, 0, 0, 0, 0) :: (.if_icmp .eq 5, 1674, 0, 0, 0) :: (.iconst 0, 0, 0, 0, 0) :: (.ireturn, 0, 0, 0, 0) :: []
def mB_279_1635 : List mm_I := (.goto 742, 2377, 0, 0, 0) :: []
def mB_279_1618 : List mm_I := (.iload 5, 0, 0, 0, 0) :: (.ifCond .ne 15, 1635, 0, 0, 0) :: (.aload_n 3, 0, 0, 0, 0) :: (.iconst 0, 0, 0, 0, 0) :: (.laload, 0, 0, 0, 0) :: (.iload 6, 0, 0, 0, 0) :: (.i2l, 0, 0, 0, 0) :: (.lcmp, 0, 0, 0, 0) :: (.ifCond .eq 5, 1635, 0, 0, 0) :: (.iconst 0, 0, 0, 0, 0) :: (.ireturn, 0, 0, 0, 0) :: []
def mB_279_1582 : List mm_I := (.aload_n 1, 0, 0, 0, 0) :: (.aload_n 0, 0, 0, 0, 0) :: (.iload 4, 0, 0, 0, 0) :: (.iconst 1, 0, 0, 0, 0) :: (.iadd, 0, 0, 0, 0) :: (.iaload, 0, 0, 0, 0) :: (.aload_n 3, 0, 0, 0, 0) :: (.invokestatic 203, 267, 3, 289, 1590) :: (.istore 5, 0, 0, 0, 0) :: (.aload_n 2, 0, 0, 0, 0) :: (.aload_n 0, 0, 0, 0, 0) :: (.iload 4, 0, 0, 0, 0) :: (.iconst 1, 0, 0, 0, 0) :: (.iadd, 0, 0, 0, 0) :: (.iaload, 0, 0, 0, 0) :: (.invokevirtual 205, 229, 2, 290, 1602) :: (.istore 6, 0, 0, 0, 0) :: (.aload_n 2, 0, 0, 0, 0) :: (.invokevirtual 122, 136, 1, 242, 1608) :: (.iload 5, 0, 0, 0, 0) :: (.if_icmp .eq 5, 1618, 0, 0, 0) :: (.iconst 0, 0, 0, 0, 0) :: (.ireturn, 0, 0, 0, 0) :: []
def mB_279_1571 : List mm_I := (.aload_n 1, 0, 0, 0, 0) :: (.invokevirtual 199, 100, 1, 287, 1572) :: (.aload_n 2, 0, 0, 0, 0) :: (.invokevirtual 202, 227, 1, 288, 1576) :: (.goto 798, 2377, 0, 0, 0) :: []
def mB_279_1568 : List mm_I := (.goto 809, 2377, 0, 0, 0) :: []
def mB_279_1551 : List mm_I := (.iload 5, 0, 0, 0, 0) :: (.ifCond .ne 15, 1568, 0, 0, 0) :: (.aload_n 3, 0, 0, 0, 0) :: (.iconst 0, 0, 0, 0, 0) :: (.laload, 0, 0, 0, 0) :: (.iload 6, 0, 0, 0, 0) :: (.i2l, 0, 0, 0, 0) :: (.lcmp, 0, 0, 0, 0) :: (.ifCond .eq 5, 1568, 0, 0, 0) :: (.iconst 0, 0, 0, 0, 0) :: (.ireturn, 0, 0, 0, 0) :: []
def mB_279_1491 : List mm_I := (.aload_n 1, 0, 0, 0, 0) :: (.aload_n 0, 0, 0, 0, 0) :: (.iload 4, 0, 0, 0, 0) :: (.iconst 1, 0, 0, 0, 0) :: (.iadd, 0, 0, 0, 0) :: (.iaload, 0, 0, 0, 0) :: (.aload_n 0, 0, 0, 0, 0) :: (.iload 4, 0, 0, 0, 0) :: (.iconst 2, 0, 0, 0, 0) :: (.iadd, 0, 0, 0, 0) :: (.iaload, 0, 0, 0, 0) :: (.aload_n 0, 0, 0, 0, 0) :: (.iload 4, 0, 0, 0, 0) :: (.iconst 3, 0, 0, 0, 0) :: (.iadd, 0, 0, 0, 0) :: (.iaload, 0, 0, 0, 0) :: (.aload_n 3, 0, 0, 0, 0) :: (.invokestatic 195, 266, 5, 285, 1511) :: (.istore 5, 0, 0, 0, 0) :: (.aload_n 2, 0, 0, 0, 0) :: (.aload_n 0, 0, 0, 0, 0) :: (.iload 4, 0, 0, 0, 0) :: (.iconst 1, 0, 0, 0, 0) :: (.iadd, 0, 0, 0, 0) :: (.iaload, 0, 0, 0, 0) :: (.aload_n 0, 0, 0, 0, 0) :: (.iload 4, 0, 0, 0, 0) :: (.iconst 2, 0, 0, 0, 0) :: (.iadd, 0, 0, 0, 0) :: (.iaload, 0, 0, 0, 0) :: (.aload_n 0, 0, 0, 0, 0) :: (.iload 4, 0, 0, 0, 0) :: (.iconst 3, 0, 0, 0, 0) :: (.iadd, 0, 0, 0, 0) :: (.iaload, 0, 0, 0, 0) :: (.invokevirtual 198, 226, 4, 286, 1535) :: (.istore 6, 0, 0, 0, 0) :: (.aload_n 2, 0, 0, 0, 0) :: (.invokevirtual 122, 136, 1, 242, 1541) :: (.iload 5, 0, 0, 0, 0) :: (.if_icmp .eq 5, 1551, 0, 0, 0) :: (.iconst 0, 0, 0, 0, 0) :: (.ireturn, 0, 0, 0, 0) :: []
def mB_279_1488 : List mm_I := (.goto 889, 2377, 0, 0, 0) :: []
def mB_279_1471 : List mm_I := (.iload 5, 0, 0, 0, 0) :: (.ifCond .ne 15, 1488, 0, 0, 0) :: (.aload_n 3, 0, 0, 0, 0) :: (.iconst 0, 0, 0, 0, 0) :: (.laload, 0, 0, 0, 0) :: (.iload 6, 0, 0, 0, 0) :: (.i2l, 0, 0, 0, 0) :: (.lcmp, 0, 0, 0, 0) :: (.ifCond .eq 5, 1488, 0, 0, 0) :: (.iconst 0, 0, 0, 0, 0) :: (.ireturn, 0, 0, 0, 0) :: []
def mB_279_1423 : List mm_I := (.aload_n 1, 0, 0, 0, 0) :: (.aload_n 0, 0, 0, 0, 0) :: (.iload 4, 0, 0, 0, 0) :: (.iconst 1, 0, 0, 0, 0) :: (.iadd, 0, 0, 0, 0) :: (.iaload, 0, 0, 0, 0) :: (.aload_n 0, 0, 0, 0, 0) :: (.iload 4, 0, 0, 0, 0) :: (.iconst 2, 0, 0, 0, 0) :: (.iadd, 0, 0, 0, 0) :: (.iaload, 0, 0, 0, 0) :: (.aload_n 3, 0, 0, 0, 0) :: (.invokestatic 192, 265, 4, 283, 1437) :: (.istore 5, 0, 0, 0, 0) :: (.aload_n 2, 0, 0, 0, 0) :: (.aload_n 0, 0, 0, 0, 0) :: (.iload 4, 0, 0, 0, 0) :: (.iconst 1, 0, 0, 0, 0) :: (.iadd, 0, 0, 0, 0) :: (.iaload, 0, 0, 0, 0) :: (.aload_n 0, 0, 0, 0, 0) :: (.iload 4, 0, 0, 0, 0) :: (.iconst 2, 0, 0, 0, 0) :: (.iadd, 0, 0, 0, 0) :: (.iaload, 0, 0, 0, 0) :: (.invokevirtual 194, 225, 3, 284, 1455) :: (.istore 6, 0, 0, 0, 0) :: (.aload_n 2, 0, 0, 0, 0) :: (.invokevirtual 122, 136, 1, 242, 1461) :: (.iload 5, 0, 0, 0, 0) :: (.if_icmp .eq 5, 1471, 0, 0, 0) :: (.iconst 0, 0, 0, 0, 0) :: (.ireturn, 0, 0, 0, 0) :: []
def mB_279_1420 : List mm_I := (.goto 957, 2377, 0, 0, 0) :: []
def mB_279_1403 : List mm_I := (.iload 5, 0, 0, 0, 0) :: (.ifCond .ne 15, 1420, 0, 0, 0) :: (.aload_n 3, 0, 0, 0, 0) :: (.iconst 0, 0, 0, 0, 0) :: (.laload, 0, 0, 0, 0) :: (.iload 6, 0, 0, 0, 0) :: (.i2l, 0, 0, 0, 0) :: (.lcmp, 0, 0, 0, 0) :: (.ifCond .eq 5, 1420, 0, 0, 0) :: (.iconst 0, 0, 0, 0, 0) :: (.ireturn, 0, 0, 0, 0) :: []
def mB_279_1355 : List mm_I := (.aload_n 1, 0, 0, 0, 0) :: (.aload_n 0, 0, 0, 0, 0) :: (.iload 4, 0, 0, 0, 0) :: (.iconst 1, 0, 0, 0, 0) :: (.iadd, 0, 0, 0, 0) :: (.iaload, 0, 0, 0, 0) :: (.aload_n 0, 0, 0, 0, 0) :: (.iload 4, 0, 0, 0, 0) :: (.iconst 2, 0, 0, 0, 0) :: (.iadd, 0, 0, 0, 0) :: (.iaload, 0, 0, 0, 0) :: (.aload_n 3, 0, 0, 0, 0) :: (.invokestatic 189, 264, 4, 281, 1369) :: (.istore 5, 0, 0, 0, 0) :: (.aload_n 2, 0, 0, 0, 0) :: (.aload_n 0, 0, 0, 0, 0) :: (.iload 4, 0, 0, 0, 0) :: (.iconst 1, 0, 0, 0, 0) :: (.iadd, 0, 0, 0, 0) :: (.iaload, 0, 0, 0, 0) :: (.aload_n 0, 0, 0, 0, 0) :: (.iload 4, 0, 0, 0, 0) :: (.iconst 2, 0, 0, 0, 0) :: (.iadd, 0, 0, 0, 0) :: (.iaload, 0, 0, 0, 0) :: (.invokevirtual 191, 224, 3, 282, 1387) :: (.istore 6, 0, 0, 0, 0) :: (.aload_n 2, 0, 0, 0, 0) :: (.invokevirtual 122, 136, 1, 242, 1393) :: (.iload 5, 0, 0, 0, 0) :: (.if_icmp .eq 5, 1403, 0, 0, 0) :: (.iconst 0, 0, 0, 0, 0) :: (.ireturn, 0, 0, 0, 0) :: []
def mB_279_1352 : List mm_I := (.goto 1025, 2377, 0, 0, 0) :: []
def mB_279_1335 : List mm_I := (.iload 5, 0, 0, 0, 0) :: (.ifCond .ne 15, 1352, 0, 0, 0) :: (.aload_n 3, 0, 0, 0, 0) :: (.iconst 0, 0, 0, 0, 0) :: (.laload, 0, 0, 0, 0) :: (.iload 6, 0, 0, 0, 0) :: (.i2l, 0, 0, 0, 0) :: (.lcmp, 0, 0, 0, 0) :: (.ifCond .eq 5, 1352, 0, 0, 0) :: (.iconst 0, 0, 0, 0, 0) :: (.ireturn, 0, 0, 0, 0) :: []
def mB_279_1287 : List mm_I := (.aload_n 1, 0, 0, 0, 0) :: (.aload_n 0, 0, 0, 0, 0) :: (.iload 4, 0, 0, 0, 0) :: (.iconst 1, 0, 0, 0, 0) :: (.iadd, 0, 0, 0, 0) :: (.iaload, 0, 0, 0, 0) :: (.aload_n 0, 0, 0, 0, 0) :: (.iload 4, 0, 0, 0, 0) :: (.iconst 2, 0, 0, 0, 0) :: (.iadd, 0, 0, 0, 0) :: (.iaload, 0, 0, 0, 0) :: (.aload_n 3, 0, 0, 0, 0) :: (.invokestatic 186, 263, 4, 279, 1301) :: (.istore 5, 0, 0, 0, 0) :: (.aload_n 2, 0, 0, 0, 0) :: (.aload_n 0, 0, 0, 0, 0) :: (.iload 4, 0, 0, 0, 0) :: (.iconst 1, 0, 0, 0, 0) :: (.iadd, 0, 0, 0, 0) :: (.iaload, 0, 0, 0, 0) :: (.aload_n 0, 0, 0, 0, 0) :: (.iload 4, 0, 0, 0, 0) :: (.iconst 2, 0, 0, 0, 0) :: (.iadd, 0, 0, 0, 0) :: (.iaload, 0, 0, 0, 0) :: (.invokevirtual 188, 223, 3, 280, 1319) :: (.istore 6, 0, 0, 0, 0) :: (.aload_n 2, 0, 0, 0, 0) :: (.invokevirtual 122, 136, 1, 242, 1325) :: (.iload 5, 0, 0, 0, 0) :: (.if_icmp .eq 5, 1335, 0, 0, 0) :: (.iconst 0, 0, 0, 0, 0) :: (.ireturn, 0, 0, 0, 0) :: []
def mB_279_1284 : List mm_I := (.goto 1093, 2377, 0, 0, 0) :: []
def mB_279_1267 : List mm_I := (.iload 5, 0, 0, 0, 0) :: (.ifCond .ne 15, 1284, 0, 0, 0) :: (.aload_n 3, 0, 0, 0, 0) :: (.iconst 0, 0, 0, 0, 0) :: (.laload, 0, 0, 0, 0) :: (.iload 6, 0, 0, 0, 0) :: (.i2l, 0, 0, 0, 0) :: (.lcmp, 0, 0, 0, 0) :: (.ifCond .eq 5, 1284, 0, 0, 0) :: (.iconst 0, 0, 0, 0, 0) :: (.ireturn, 0, 0, 0, 0) :: []
def mB_279_1231 : List mm_I := (.aload_n 1, 0, 0, 0, 0) :: (.aload_n 0, 0, 0, 0, 0) :: (.iload 4, 0, 0, 0, 0) :: (.iconst 1, 0, 0, 0, 0) :: (.iadd, 0, 0, 0, 0) :: (.iaload, 0, 0, 0, 0) :: (.aload_n 3, 0, 0, 0, 0) :: (.invokestatic 183, 262, 3, 277, 1239) :: (.istore 5, 0, 0, 0, 0) :: (.aload_n 2, 0, 0, 0, 0) :: (.aload_n 0, 0, 0, 0, 0) :: (.iload 4, 0, 0, 0, 0) :: (.iconst 1, 0, 0, 0, 0) :: (.iadd, 0, 0, 0, 0) :: (.iaload, 0, 0, 0, 0) :: (.invokevirtual 185, 222, 2, 278, 1251) :: (.istore 6, 0, 0, 0, 0) :: (.aload_n 2, 0, 0, 0, 0) :: (.invokevirtual 122, 136, 1, 242, 1257) :: (.iload 5, 0, 0, 0, 0) :: (.if_icmp .eq 5, 1267, 0, 0, 0) :: (.iconst 0, 0, 0, 0, 0) :: (.ireturn, 0, 0, 0, 0) :: []
def mB_279_1228 : List mm_I := (.goto 1149, 2377, 0, 0, 0) :: []
def mB_279_1211 : List mm_I := (.iload 5, 0, 0, 0, 0) :: (.ifCond .ne 15, 1228, 0, 0, 0) :: (.aload_n 3, 0, 0, 0, 0) :: (.iconst 0, 0, 0, 0, 0) :: (.laload, 0, 0, 0, 0) :: (.iload 6, 0, 0, 0, 0) :: (.i2l, 0, 0, 0, 0) :: (.lcmp, 0, 0, 0, 0) :: (.ifCond .eq 5, 1228, 0, 0, 0) :: (.iconst 0, 0, 0, 0, 0) :: (.ireturn, 0, 0, 0, 0) :: []
def mB_279_1175 : List mm_I := (.aload_n 1, 0, 0, 0, 0) :: (.aload_n 0, 0, 0, 0, 0) :: (.iload 4, 0, 0, 0, 0) :: (.iconst 1, 0, 0, 0, 0) :: (.iadd, 0, 0, 0, 0) :: (.iaload, 0, 0, 0, 0) :: (.aload_n 3, 0, 0, 0, 0) :: (.invokestatic 180, 261, 3, 275, 1183) :: (.istore 5, 0, 0, 0, 0) :: (.aload_n 2, 0, 0, 0, 0) :: (.aload_n 0, 0, 0, 0, 0) :: (.iload 4, 0, 0, 0, 0) :: (.iconst 1, 0, 0, 0, 0) :: (.iadd, 0, 0, 0, 0) :: (.iaload, 0, 0, 0, 0) :: (.invokevirtual 182, 221, 2, 276, 1195) :: (.istore 6, 0, 0, 0, 0) :: (.aload_n 2, 0, 0, 0, 0) :: (.invokevirtual 122, 136, 1, 242, 1201) :: (.iload 5, 0, 0, 0, 0) :: (.if_icmp .eq 5, 1211, 0, 0, 0) :: (.iconst 0, 0, 0, 0, 0) :: (.ireturn, 0, 0, 0, 0) :: []
def mB_279_1172 : List mm_I := (.goto 1205, 2377, 0, 0, 0) :: []
def mB_279_1155 : List mm_I := (.iload 5, 0, 0, 0, 0) :: (.ifCond .ne 15, 1172, 0, 0, 0) :: (.aload_n 3, 0, 0, 0, 0) :: (.iconst 0, 0, 0, 0, 0) :: (.laload, 0, 0, 0, 0) :: (.iload 6, 0, 0, 0, 0) :: (.i2l, 0, 0, 0, 0) :: (.lcmp, 0, 0, 0, 0) :: (.ifCond .eq 5, 1172, 0, 0, 0) :: (.iconst 0, 0, 0, 0, 0) :: (.ireturn, 0, 0, 0, 0) :: []
def mB_279_1107 : List mm_I := (.aload_n 1, 0, 0, 0, 0) :: (.aload_n 0, 0, 0, 0, 0) :: (.iload 4, 0, 0, 0, 0) :: (.iconst 1, 0, 0, 0, 0) :: (.iadd, 0, 0, 0, 0) :: (.iaload, 0, 0, 0, 0) :: (.aload_n 0, 0, 0, 0, 0) :: (.iload 4, 0, 0, 0, 0) :: (.iconst 2, 0, 0, 0, 0) :: (.iadd, 0, 0, 0, 0) :: (.iaload, 0, 0, 0, 0) :: (.aload_n 3, 0, 0, 0, 0) :: (.invokestatic 177, 260, 4, 273, 1121) :: (.istore 5, 0, 0, 0, 0) :: (.aload_n 2, 0, 0, 0, 0) :: (.aload_n 0, 0, 0, 0, 0) :: (.iload 4, 0, 0, 0, 0) :: (.iconst 1, 0, 0, 0, 0) :: (.iadd, 0, 0, 0, 0) :: (.iaload, 0, 0, 0, 0) :: (.aload_n 0, 0, 0, 0, 0) :: (.iload 4, 0, 0, 0, 0) :: (.iconst 2, 0, 0, 0, 0) :: (.iadd, 0, 0, 0, 0) :: (.iaload, 0, 0, 0, 0) :: (.invokevirtual 179, 219, 3, 274, 1139) :: (.istore 6, 0, 0, 0, 0) :: (.aload_n 2, 0, 0, 0, 0) :: (.invokevirtual 122, 136, 1, 242, 1145) :: (.iload 5, 0, 0, 0, 0) :: (.if_icmp .eq 5, 1155, 0, 0, 0) :: (.iconst 0, 0, 0, 0, 0) :: (.ireturn, 0, 0, 0, 0) :: []
def mB_279_1094 : List mm_I := (.aload_n 1, 0, 0, 0, 0) :: (.invokevirtual 173, 92, 1, 271, 1095) :: (.aload_n 2, 0, 0, 0, 0) :: (.invokevirtual 176, 217, 1, 272, 1099) :: (.if_icmp .eq 1275, 2377, 0, 0, 0) :: (.iconst 0, 0, 0, 0, 0) :: (.ireturn, 0, 0, 0, 0) :: []
def mB_279_1091 : List mm_I := (.goto 1286, 2377, 0, 0, 0) :: []
def mB_279_1074 : List mm_I := (.iload 5, 0, 0, 0, 0) :: (.ifCond .ne 15, 1091, 0, 0, 0) :: (.aload_n 3, 0, 0, 0, 0) :: (.iconst 0, 0, 0, 0, 0) :: (.laload, 0, 0, 0, 0) :: (.iload 6, 0, 0, 0, 0) :: (.i2l, 0, 0, 0, 0) :: (.lcmp, 0, 0, 0, 0) :: (.ifCond .eq 5, 1091, 0, 0, 0) :: (.iconst 0, 0, 0, 0, 0) :: (.ireturn, 0, 0, 0, 0) :: []
def mB_279_1026 : List mm_I := (.aload_n 1, 0, 0, 0, 0) :: (.aload_n 0, 0, 0, 0, 0) :: (.iload 4, 0, 0, 0, 0) :: (.iconst 1, 0, 0, 0, 0) :: (.iadd, 0, 0, 0, 0) :: (.iaload, 0, 0, 0, 0) :: (.aload_n 0, 0, 0, 0, 0) :: (.iload 4, 0, 0, 0, 0) :: (.iconst 2, 0, 0, 0, 0) :: (.iadd, 0, 0, 0, 0) :: (.iaload, 0, 0, 0, 0) :: (.aload_n 3, 0, 0, 0, 0) :: (.invokestatic 170, 259, 4, 269, 1040) :: (.istore 5, 0, 0, 0, 0) :: (.aload_n 2, 0, 0, 0, 0) :: (.aload_n 0, 0, 0, 0, 0) :: (.iload 4, 0, 0, 0, 0) :: (.iconst 1, 0, 0, 0, 0) :: (.iadd, 0, 0, 0, 0) :: (.iaload, 0, 0, 0, 0) :: (.aload_n 0, 0, 0, 0, 0) :: (.iload 4, 0, 0, 0, 0) :: (.iconst 2, 0, 0, 0, 0) :: (.iadd, 0, 0, 0, 0) :: (.iaload, 0, 0, 0, 0) :: (.invokevirtual 172, 214, 3, 270, 1058) :: (.istore 6, 0, 0, 0, 0) :: (.aload_n 2, 0, 0, 0, 0) :: (.invokevirtual 122, 136, 1, 242, 1064) :: (.iload 5, 0, 0, 0, 0) :: (.if_icmp .eq 5, 1074, 0, 0, 0) :: (.iconst 0, 0, 0, 0, 0) :: (.ireturn, 0, 0, 0, 0) :: []
def mB_279_1023 : List mm_I := (.goto 1354, 2377, 0, 0, 0) :: []
def mB_279_1006 : List mm_I := (.iload 5, 0, 0, 0, 0) :: (.ifCond .ne 15, 1023, 0, 0, 0) :: (.aload_n 3, 0, 0, 0, 0) :: (.iconst 0, 0, 0, 0, 0) :: (.laload, 0, 0, 0, 0) :: (.iload 6, 0, 0, 0, 0) :: (.i2l, 0, 0, 0, 0) :: (.lcmp, 0, 0, 0, 0) :: (.ifCond .eq 5, 1023, 0, 0, 0) :: (.iconst 0, 0, 0, 0, 0) :: (.ireturn, 0, 0, 0, 0) :: []
def mB_279_970 : List mm_I := (.aload_n 1, 0, 0, 0, 0) :: (.aload_n 0, 0, 0, 0, 0) :: (.iload 4, 0, 0, 0, 0) :: (.iconst 1, 0, 0, 0, 0) :: (.iadd, 0, 0, 0, 0) :: (.iaload, 0, 0, 0, 0) :: (.aload_n 3, 0, 0, 0, 0) :: (.invokestatic 167, 258, 3, 267, 978) :: (.istore 5, 0, 0, 0, 0) :: (.aload_n 2, 0, 0, 0, 0) :: (.aload_n 0, 0, 0, 0, 0) :: (.iload 4, 0, 0, 0, 0) :: (.iconst 1, 0, 0, 0, 0) :: (.iadd, 0, 0, 0, 0) :: (.iaload, 0, 0, 0, 0) :: (.invokevirtual 169, 208, 2, 268, 990) :: (.istore 6, 0, 0, 0, 0) :: (.aload_n 2, 0, 0, 0, 0) :: (.invokevirtual 122, 136, 1, 242, 996) :: (.iload 5, 0, 0, 0, 0) :: (.if_icmp .eq 5, 1006, 0, 0, 0) :: (.iconst 0, 0, 0, 0, 0) :: (.ireturn, 0, 0, 0, 0) :: []
def mB_279_957 : List mm_I := (.aload_n 1, 0, 0, 0, 0) :: (.invokevirtual 163, 89, 1, 265, 958) :: (.aload_n 2, 0, 0, 0, 0) :: (.invokevirtual 166, 174, 1, 266, 962) :: (.if_icmp .eq 1412, 2377, 0, 0, 0) :: (.iconst 0, 0, 0, 0, 0) :: (.ireturn, 0, 0, 0, 0) :: []
def mB_279_932 : List mm_I := (.aload_n 1, 0, 0, 0, 0) :: (.aload_n 0, 0, 0, 0, 0) :: (.iload 4, 0, 0, 0, 0) :: (.iconst 1, 0, 0, 0, 0) :: (.iadd, 0, 0, 0, 0) :: (.iaload, 0, 0, 0, 0) :: (.invokevirtual 159, 88, 2, 263, 939) :: (.aload_n 2, 0, 0, 0, 0) :: (.aload_n 0, 0, 0, 0, 0) :: (.iload 4, 0, 0, 0, 0) :: (.iconst 1, 0, 0, 0, 0) :: (.iadd, 0, 0, 0, 0) :: (.iaload, 0, 0, 0, 0) :: (.invokevirtual 162, 207, 2, 264, 949) :: (.if_icmp .eq 1425, 2377, 0, 0, 0) :: (.iconst 0, 0, 0, 0, 0) :: (.ireturn, 0, 0, 0, 0) :: []
def mB_279_929 : List mm_I := (.goto 1448, 2377, 0, 0, 0) :: []
def mB_279_912 : List mm_I := (.iload 5, 0, 0, 0, 0) :: (.ifCond .ne 15, 929, 0, 0, 0) :: (.aload_n 3, 0, 0, 0, 0) :: (.iconst 0, 0, 0, 0, 0) :: (.laload, 0, 0, 0, 0) :: (.iload 6, 0, 0, 0, 0) :: (.i2l, 0, 0, 0, 0) :: (.lcmp, 0, 0, 0, 0) :: (.ifCond .eq 5, 929, 0, 0, 0) :: (.iconst 0, 0, 0, 0, 0) :: (.ireturn, 0, 0, 0, 0) :: []
def mB_279_864 : List mm_I := (.aload_n 1, 0, 0, 0, 0) :: (.aload_n 0, 0, 0, 0, 0) :: (.iload 4, 0, 0, 0, 0) :: (.iconst 1, 0, 0, 0, 0) :: (.iadd, 0, 0, 0, 0) :: (.iaload, 0, 0, 0, 0) :: (.aload_n 0, 0, 0, 0, 0) :: (.iload 4, 0, 0, 0, 0) :: (.iconst 2, 0, 0, 0, 0) :: (.iadd, 0, 0, 0, 0) :: (.iaload, 0, 0, 0, 0) :: (.aload_n 3, 0, 0, 0, 0) :: (.invokestatic 156, 257, 4, 261, 878) :: (.istore 5, 0, 0, 0, 0) :: (.aload_n 2, 0, 0, 0, 0) :: (.aload_n 0, 0, 0, 0, 0) :: (.iload 4, 0, 0, 0, 0) :: (.iconst 1, 0, 0, 0, 0) :: (.iadd, 0, 0, 0, 0) :: (.iaload, 0, 0, 0, 0) :: (.aload_n 0, 0, 0, 0, 0) :: (.iload 4, 0, 0, 0, 0) :: (.iconst 2, 0, 0, 0, 0) :: (.iadd, 0, 0, 0, 0) :: (.iaload, 0, 0, 0, 0) :: (.invokevirtual 158, 206, 3, 262, 896) :: (.istore 6, 0, 0, 0, 0) :: (.aload_n 2, 0, 0, 0, 0) :: (.invokevirtual 122, 136, 1, 242, 902) :: (.iload 5, 0, 0, 0, 0) :: (.if_icmp .eq 5, 912, 0, 0, 0) :: (.iconst 0, 0, 0, 0, 0) :: (.ireturn, 0, 0, 0, 0) :: []
def mB_279_861 : List mm_I := (.goto 1516, 2377, 0, 0, 0) :: []
def mB_279_855 : List mm_I := (.lcmp, 0, 0, 0, 0) :: (.ifCond .eq 5, 861, 0, 0, 0) :: (.iconst 0, 0, 0, 0, 0) :: (.ireturn, 0, 0, 0, 0) :: []
def mB_279_854 : List mm_I := (.lconst 0, 0, 0, 0, 0) :: mB_279_855
def mB_279_837 : List mm_I := (.iload 5, 0, 0, 0, 0) :: (.ifCond .ne 22, 861, 0, 0, 0) :: (.aload_n 3, 0, 0, 0, 0) :: (.iconst 0, 0, 0, 0, 0) :: (.laload, 0, 0, 0, 0) :: (.iload 6, 0, 0, 0, 0) :: (.ifCond .eq 7, 854, 0, 0, 0) :: (.lconst 1, 0, 0, 0, 0) :: (.goto 4, 855, 0, 0, 0) :: []
def mB_279_789 : List mm_I := (.aload_n 1, 0, 0, 0, 0) :: (.aload_n 0, 0, 0, 0, 0) :: (.iload 4, 0, 0, 0, 0) :: (.iconst 1, 0, 0, 0, 0) :: (.iadd, 0, 0, 0, 0) :: (.iaload, 0, 0, 0, 0) :: (.aload_n 0, 0, 0, 0, 0) :: (.iload 4, 0, 0, 0, 0) :: (.iconst 2, 0, 0, 0, 0) :: (.iadd, 0, 0, 0, 0) :: (.iaload, 0, 0, 0, 0) :: (.aload_n 3, 0, 0, 0, 0) :: (.invokestatic 153, 256, 4, 259, 803) :: (.istore 5, 0, 0, 0, 0) :: (.aload_n 2, 0, 0, 0, 0) :: (.aload_n 0, 0, 0, 0, 0) :: (.iload 4, 0, 0, 0, 0) :: (.iconst 1, 0, 0, 0, 0) :: (.iadd, 0, 0, 0, 0) :: (.iaload, 0, 0, 0, 0) :: (.aload_n 0, 0, 0, 0, 0) :: (.iload 4, 0, 0, 0, 0) :: (.iconst 2, 0, 0, 0, 0) :: (.iadd, 0, 0, 0, 0) :: (.iaload, 0, 0, 0, 0) :: (.invokevirtual 155, 205, 3, 260, 821) :: (.istore 6, 0, 0, 0, 0) :: (.aload_n 2, 0, 0, 0, 0) :: (.invokevirtual 122, 136, 1, 242, 827) :: (.iload 5, 0, 0, 0, 0) :: (.if_icmp .eq 5, 837, 0, 0, 0) :: (.iconst 0, 0, 0, 0, 0) :: (.ireturn, 0, 0, 0, 0) :: []
def mB_279_776 : List mm_I := (.aload_n 1, 0, 0, 0, 0) :: (.invokevirtual 149, 85, 1, 257, 777) :: (.aload_n 2, 0, 0, 0, 0) :: (.invokevirtual 152, 204, 1, 258, 781) :: (.if_icmp .eq 1593, 2377, 0, 0, 0) :: (.iconst 0, 0, 0, 0, 0) :: (.ireturn, 0, 0, 0, 0) :: []
def mB_279_773 : List mm_I := (.goto 1604, 2377, 0, 0, 0) :: []
def mB_279_756 : List mm_I := (.iload 5, 0, 0, 0, 0) :: (.ifCond .ne 15, 773, 0, 0, 0) :: (.aload_n 3, 0, 0, 0, 0) :: (.iconst 0, 0, 0, 0, 0) :: (.laload, 0, 0, 0, 0) :: (.iload 6, 0, 0, 0, 0) :: (.i2l, 0, 0, 0, 0) :: (.lcmp, 0, 0, 0, 0) :: (.ifCond .eq 5, 773, 0, 0, 0) :: (.iconst 0, 0, 0, 0, 0) :: (.ireturn, 0, 0, 0, 0) :: []
def mB_279_708 : List mm_I := (.aload_n 1, 0, 0, 0, 0) :: (.aload_n 0, 0, 0, 0, 0) :: (.iload 4, 0, 0, 0, 0) :: (.iconst 1, 0, 0, 0, 0) :: (.iadd, 0, 0, 0, 0) :: (.iaload, 0, 0, 0, 0) :: (.aload_n 0, 0, 0, 0, 0) :: (.iload 4, 0, 0, 0, 0) :: (.iconst 2, 0, 0, 0, 0) :: (.iadd, 0, 0, 0, 0) :: (.iaload, 0, 0, 0, 0) :: (.aload_n 3, 0, 0, 0, 0) :: (.invokestatic 146, 255, 4, 255, 722) :: (.istore 5, 0, 0, 0, 0) :: (.aload_n 2, 0, 0, 0, 0) :: (.aload_n 0, 0, 0, 0, 0) :: (.iload 4, 0, 0, 0, 0) :: (.iconst 1, 0, 0, 0, 0) :: (.iadd, 0, 0, 0, 0) :: (.iaload, 0, 0, 0, 0) :: (.aload_n 0, 0, 0, 0, 0) :: (.iload 4, 0, 0, 0, 0) :: (.iconst 2, 0, 0, 0, 0) :: (.iadd, 0, 0, 0, 0) :: (.iaload, 0, 0, 0, 0) :: (.invokevirtual 148, 203, 3, 256, 740) :: (.istore 6, 0, 0, 0, 0) :: (.aload_n 2, 0, 0, 0, 0) :: (.invokevirtual 122, 136, 1, 242, 746) :: (.iload 5, 0, 0, 0, 0) :: (.if_icmp .eq 5, 756, 0, 0, 0) :: (.iconst 0, 0, 0, 0, 0) :: (.ireturn, 0, 0, 0, 0) :: []
def mB_279_705 : List mm_I := (.goto 1672, 2377, 0, 0, 0) :: []
def mB_279_699 : List mm_I := (.lcmp, 0, 0, 0, 0) :: (.ifCond .eq 5, 705, 0, 0, 0) :: (.iconst 0, 0, 0, 0, 0) :: (.ireturn, 0, 0, 0, 0) :: []
def mB_279_698 : List mm_I := (.lconst 0, 0, 0, 0, 0) :: mB_279_699
def mB_279_681 : List mm_I := (.iload 5, 0, 0, 0, 0) :: (.ifCond .ne 22, 705, 0, 0, 0) :: (.aload_n 3, 0, 0, 0, 0) :: (.iconst 0, 0, 0, 0, 0) :: (.laload, 0, 0, 0, 0) :: (.iload 6, 0, 0, 0, 0) :: (.ifCond .eq 7, 698, 0, 0, 0) :: (.lconst 1, 0, 0, 0, 0) :: (.goto 4, 699, 0, 0, 0) :: []
def mB_279_633 : List mm_I := (.aload_n 1, 0, 0, 0, 0) :: (.aload_n 0, 0, 0, 0, 0) :: (.iload 4, 0, 0, 0, 0) :: (.iconst 1, 0, 0, 0, 0) :: (.iadd, 0, 0, 0, 0) :: (.iaload, 0, 0, 0, 0) :: (.aload_n 0, 0, 0, 0, 0) :: (.iload 4, 0, 0, 0, 0) :: (.iconst 2, 0, 0, 0, 0) :: (.iadd, 0, 0, 0, 0) :: (.iaload, 0, 0, 0, 0) :: (.aload_n 3, 0, 0, 0, 0) :: (.invokestatic 143, 254, 4, 253, 647) :: (.istore 5, 0, 0, 0, 0) :: (.aload_n 2, 0, 0, 0, 0) :: (.aload_n 0, 0, 0, 0, 0) :: (.iload 4, 0, 0, 0, 0) :: (.iconst 1, 0, 0, 0, 0) :: (.iadd, 0, 0, 0, 0) :: (.iaload, 0, 0, 0, 0) :: (.aload_n 0, 0, 0, 0, 0) :: (.iload 4, 0, 0, 0, 0) :: (.iconst 2, 0, 0, 0, 0) :: (.iadd, 0, 0, 0, 0) :: (.iaload, 0, 0, 0, 0) :: (.invokevirtual 145, 202, 3, 254, 665) :: (.istore 6, 0, 0, 0, 0) :: (.aload_n 2, 0, 0, 0, 0) :: (.invokevirtual 122, 136, 1, 242, 671) :: (.iload 5, 0, 0, 0, 0) :: (.if_icmp .eq 5, 681, 0, 0, 0) :: (.iconst 0, 0, 0, 0, 0) :: (.ireturn, 0, 0, 0, 0) :: []
def mB_279_630 : List mm_I := (.goto 1747, 2377, 0, 0, 0) :: []
def mB_279_624 : List mm_I := (.lcmp, 0, 0, 0, 0) :: (.ifCond .eq 5, 630, 0, 0, 0) :: (.iconst 0, 0, 0, 0, 0) :: (.ireturn, 0, 0, 0, 0) :: []
def mB_279_623 : List mm_I := (.lconst 0, 0, 0, 0, 0) :: mB_279_624
def mB_279_606 : List mm_I := (.iload 5, 0, 0, 0, 0) :: (.ifCond .ne 22, 630, 0, 0, 0) :: (.aload_n 3, 0, 0, 0, 0) :: (.iconst 0, 0, 0, 0, 0) :: (.laload, 0, 0, 0, 0) :: (.iload 6, 0, 0, 0, 0) :: (.ifCond .eq 7, 623, 0, 0, 0) :: (.lconst 1, 0, 0, 0, 0) :: (.goto 4, 624, 0, 0, 0) :: []
def mB_279_558 : List mm_I := (.aload_n 1, 0, 0, 0, 0) :: (.aload_n 0, 0, 0, 0, 0) :: (.iload 4, 0, 0, 0, 0) :: (.iconst 1, 0, 0, 0, 0) :: (.iadd, 0, 0, 0, 0) :: (.iaload, 0, 0, 0, 0) :: (.aload_n 0, 0, 0, 0, 0) :: (.iload 4, 0, 0, 0, 0) :: (.iconst 2, 0, 0, 0, 0) :: (.iadd, 0, 0, 0, 0) :: (.iaload, 0, 0, 0, 0) :: (.aload_n 3, 0, 0, 0, 0) :: (.invokestatic 140, 253, 4, 251, 572) :: (.istore 5, 0, 0, 0, 0) :: (.aload_n 2, 0, 0, 0, 0) :: (.aload_n 0, 0, 0, 0, 0) :: (.iload 4, 0, 0, 0, 0) :: (.iconst 1, 0, 0, 0, 0) :: (.iadd, 0, 0, 0, 0) :: (.iaload, 0, 0, 0, 0) :: (.aload_n 0, 0, 0, 0, 0) :: (.iload 4, 0, 0, 0, 0) :: (.iconst 2, 0, 0, 0, 0) :: (.iadd, 0, 0, 0, 0) :: (.iaload, 0, 0, 0, 0) :: (.invokevirtual 142, 201, 3, 252, 590) :: (.istore 6, 0, 0, 0, 0) :: (.aload_n 2, 0, 0, 0, 0) :: (.invokevirtual 122, 136, 1, 242, 596) :: (.iload 5, 0, 0, 0, 0) :: (.if_icmp .eq 5, 606, 0, 0, 0) :: (.iconst 0, 0, 0, 0, 0) :: (.ireturn, 0, 0, 0, 0) :: []
def mB_279_555 : List mm_I := (.goto 1822, 2377, 0, 0, 0) :: []
def mB_279_538 : List mm_I := (.iload 5, 0, 0, 0, 0) :: (.ifCond .ne 15, 555, 0, 0, 0) :: (.aload_n 3, 0, 0, 0, 0) :: (.iconst 0, 0, 0, 0, 0) :: (.laload, 0, 0, 0, 0) :: (.iload 6, 0, 0, 0, 0) :: (.i2l, 0, 0, 0, 0) :: (.lcmp, 0, 0, 0, 0) :: (.ifCond .eq 5, 555, 0, 0, 0) :: (.iconst 0, 0, 0, 0, 0) :: (.ireturn, 0, 0, 0, 0) :: []
def mB_279_490 : List mm_I := (.aload_n 1, 0, 0, 0, 0) :: (.aload_n 0, 0, 0, 0, 0) :: (.iload 4, 0, 0, 0, 0) :: (.iconst 1, 0, 0, 0, 0) :: (.iadd, 0, 0, 0, 0) :: (.iaload, 0, 0, 0, 0) :: (.aload_n 0, 0, 0, 0, 0) :: (.iload 4, 0, 0, 0, 0) :: (.iconst 2, 0, 0, 0, 0) :: (.iadd, 0, 0, 0, 0) :: (.iaload, 0, 0, 0, 0) :: (.aload_n 3, 0, 0, 0, 0) :: (.invokestatic 137, 252, 4, 249, 504) :: (.istore 5, 0, 0, 0, 0) :: (.aload_n 2, 0, 0, 0, 0) :: (.aload_n 0, 0, 0, 0, 0) :: (.iload 4, 0, 0, 0, 0) :: (.iconst 1, 0, 0, 0, 0) :: (.iadd, 0, 0, 0, 0) :: (.iaload, 0, 0, 0, 0) :: (.aload_n 0, 0, 0, 0, 0) :: (.iload 4, 0, 0, 0, 0) :: (.iconst 2, 0, 0, 0, 0) :: (.iadd, 0, 0, 0, 0) :: (.iaload, 0, 0, 0, 0) :: (.invokevirtual 139, 200, 3, 250, 522) :: (.istore 6, 0, 0, 0, 0) :: (.aload_n 2, 0, 0, 0, 0) :: (.invokevirtual 122, 136, 1, 242, 528) :: (.iload 5, 0, 0, 0, 0) :: (.if_icmp .eq 5, 538, 0, 0, 0) :: (.iconst 0, 0, 0, 0, 0) :: (.ireturn, 0, 0, 0, 0) :: []
def mB_279_487 : List mm_I := (.goto 1890, 2377, 0, 0, 0) :: []
def mB_279_470 : List mm_I := (.iload 5, 0, 0, 0, 0) :: (.ifCond .ne 15, 487, 0, 0, 0) :: (.aload_n 3, 0, 0, 0, 0) :: (.iconst 0, 0, 0, 0, 0) :: (.laload, 0, 0, 0, 0) :: (.iload 6, 0, 0, 0, 0) :: (.i2l, 0, 0, 0, 0) :: (.lcmp, 0, 0, 0, 0) :: (.ifCond .eq 5, 487, 0, 0, 0) :: (.iconst 0, 0, 0, 0, 0) :: (.ireturn, 0, 0, 0, 0) :: []
def mB_279_422 : List mm_I := (.aload_n 1, 0, 0, 0, 0) :: (.aload_n 0, 0, 0, 0, 0) :: (.iload 4, 0, 0, 0, 0) :: (.iconst 1, 0, 0, 0, 0) :: (.iadd, 0, 0, 0, 0) :: (.iaload, 0, 0, 0, 0) :: (.aload_n 0, 0, 0, 0, 0) :: (.iload 4, 0, 0, 0, 0) :: (.iconst 2, 0, 0, 0, 0) :: (.iadd, 0, 0, 0, 0) :: (.iaload, 0, 0, 0, 0) :: (.aload_n 3, 0, 0, 0, 0) :: (.invokestatic 133, 251, 4, 247, 436) :: (.istore 5, 0, 0, 0, 0) :: (.aload_n 2, 0, 0, 0, 0) :: (.aload_n 0, 0, 0, 0, 0) :: (.iload 4, 0, 0, 0, 0) :: (.iconst 1, 0, 0, 0, 0) :: (.iadd, 0, 0, 0, 0) :: (.iaload, 0, 0, 0, 0) :: (.aload_n 0, 0, 0, 0, 0) :: (.iload 4, 0, 0, 0, 0) :: (.iconst 2, 0, 0, 0, 0) :: (.iadd, 0, 0, 0, 0) :: (.iaload, 0, 0, 0, 0) :: (.invokevirtual 136, 198, 3, 248, 454) :: (.istore 6, 0, 0, 0, 0) :: (.aload_n 2, 0, 0, 0, 0) :: (.invokevirtual 122, 136, 1, 242, 460) :: (.iload 5, 0, 0, 0, 0) :: (.if_icmp .eq 5, 470, 0, 0, 0) :: (.iconst 0, 0, 0, 0, 0) :: (.ireturn, 0, 0, 0, 0) :: []
def mB_279_419 : List mm_I := (.goto 1958, 2377, 0, 0, 0) :: []
def mB_279_402 : List mm_I := (.iload 5, 0, 0, 0, 0) :: (.ifCond .ne 15, 419, 0, 0, 0) :: (.aload_n 3, 0, 0, 0, 0) :: (.iconst 0, 0, 0, 0, 0) :: (.laload, 0, 0, 0, 0) :: (.iload 6, 0, 0, 0, 0) :: (.i2l, 0, 0, 0, 0) :: (.lcmp, 0, 0, 0, 0) :: (.ifCond .eq 5, 419, 0, 0, 0) :: (.iconst 0, 0, 0, 0, 0) :: (.ireturn, 0, 0, 0, 0) :: []
def mB_279_366 : List mm_I := (.aload_n 1, 0, 0, 0, 0) :: (.aload_n 0, 0, 0, 0, 0) :: (.iload 4, 0, 0, 0, 0) :: (.iconst 1, 0, 0, 0, 0) :: (.iadd, 0, 0, 0, 0) :: (.iaload, 0, 0, 0, 0) :: (.aload_n 3, 0, 0, 0, 0) :: (.invokestatic 130, 250, 3, 245, 374) :: (.istore 5, 0, 0, 0, 0) :: (.aload_n 2, 0, 0, 0, 0) :: (.aload_n 0, 0, 0, 0, 0) :: (.iload 4, 0, 0, 0, 0) :: (.iconst 1, 0, 0, 0, 0) :: (.iadd, 0, 0, 0, 0) :: (.iaload, 0, 0, 0, 0) :: (.invokevirtual 132, 193, 2, 246, 386) :: (.istore 6, 0, 0, 0, 0) :: (.aload_n 2, 0, 0, 0, 0) :: (.invokevirtual 122, 136, 1, 242, 392) :: (.iload 5, 0, 0, 0, 0) :: (.if_icmp .eq 5, 402, 0, 0, 0) :: (.iconst 0, 0, 0, 0, 0) :: (.ireturn, 0, 0, 0, 0) :: []
def mB_279_353 : List mm_I := (.aload_n 1, 0, 0, 0, 0) :: (.invokevirtual 126, 78, 1, 243, 354) :: (.aload_n 2, 0, 0, 0, 0) :: (.invokevirtual 129, 171, 1, 244, 358) :: (.if_icmp .eq 2016, 2377, 0, 0, 0) :: (.iconst 0, 0, 0, 0, 0) :: (.ireturn, 0, 0, 0, 0) :: []
def mB_279_350 : List mm_I := (.goto 2027, 2377, 0, 0, 0) :: []
def mB_279_333 : List mm_I := (.iload 5, 0, 0, 0, 0) :: (.ifCond .ne 15, 350, 0, 0, 0) :: (.aload_n 3, 0, 0, 0, 0) :: (.iconst 0, 0, 0, 0, 0) :: (.laload, 0, 0, 0, 0) :: (.iload 6, 0, 0, 0, 0) :: (.i2l, 0, 0, 0, 0) :: (.lcmp, 0, 0, 0, 0) :: (.ifCond .eq 5, 350, 0, 0, 0) :: (.iconst 0, 0, 0, 0, 0) :: (.ireturn, 0, 0, 0, 0) :: []
def mB_279_297 : List mm_I := (.aload_n 1, 0, 0, 0, 0) :: (.aload_n 0, 0, 0, 0, 0) :: (.iload 4, 0, 0, 0, 0) :: (.iconst 1, 0, 0, 0, 0) :: (.iadd, 0, 0, 0, 0) :: (.iaload, 0, 0, 0, 0) :: (.aload_n 3, 0, 0, 0, 0) :: (.invokestatic 116, 249, 3, 240, 305) :: (.istore 5, 0, 0, 0, 0) :: (.aload_n 2, 0, 0, 0, 0) :: (.aload_n 0, 0, 0, 0, 0) :: (.iload 4, 0, 0, 0, 0) :: (.iconst 1, 0, 0, 0, 0) :: (.iadd, 0, 0, 0, 0) :: (.iaload, 0, 0, 0, 0) :: (.invokevirtual 121, 170, 2, 241, 317) :: (.istore 6, 0, 0, 0, 0) :: (.aload_n 2, 0, 0, 0, 0) :: (.invokevirtual 122, 136, 1, 242, 323) :: (.iload 5, 0, 0, 0, 0) :: (.if_icmp .eq 5, 333, 0, 0, 0) :: (.iconst 0, 0, 0, 0, 0) :: (.ireturn, 0, 0, 0, 0) :: []
def mB_279_224 : List mm_I := (.aload_n 1, 0, 0, 0, 0) :: (.aload_n 0, 0, 0, 0, 0) :: (.iload 4, 0, 0, 0, 0) :: (.iconst 1, 0, 0, 0, 0) :: (.iadd, 0, 0, 0, 0) :: (.iaload, 0, 0, 0, 0) :: (.aload_n 0, 0, 0, 0, 0) :: (.iload 4, 0, 0, 0, 0) :: (.iconst 2, 0, 0, 0, 0) :: (.iadd, 0, 0, 0, 0) :: (.iaload, 0, 0, 0, 0) :: (.aload_n 0, 0, 0, 0, 0) :: (.iload 4, 0, 0, 0, 0) :: (.iconst 3, 0, 0, 0, 0) :: (.iadd, 0, 0, 0, 0) :: (.iaload, 0, 0, 0, 0) :: (.aload_n 0, 0, 0, 0, 0) :: (.iload 4, 0, 0, 0, 0) :: (.iconst 4, 0, 0, 0, 0) :: (.iadd, 0, 0, 0, 0) :: (.iaload, 0, 0, 0, 0) :: (.aload_n 0, 0, 0, 0, 0) :: (.iload 4, 0, 0, 0, 0) :: (.iconst 5, 0, 0, 0, 0) :: (.iadd, 0, 0, 0, 0) :: (.iaload, 0, 0, 0, 0) :: (.invokevirtual 111, 75, 6, 238, 255) :: (.aload_n 2, 0, 0, 0, 0) :: (.aload_n 0, 0, 0, 0, 0) :: (.iload 4, 0, 0, 0, 0) :: (.iconst 1, 0, 0, 0, 0) :: (.iadd, 0, 0, 0, 0) :: (.iaload, 0, 0, 0, 0) :: (.aload_n 0, 0, 0, 0, 0) :: (.iload 4, 0, 0, 0, 0) :: (.iconst 2, 0, 0, 0, 0) :: (.iadd, 0, 0, 0, 0) :: (.iaload, 0, 0, 0, 0) :: (.aload_n 0, 0, 0, 0, 0) :: (.iload 4, 0, 0, 0, 0) :: (.iconst 3, 0, 0, 0, 0) :: (.iadd, 0, 0, 0, 0) :: (.iaload, 0, 0, 0, 0) :: (.aload_n 0, 0, 0, 0, 0) :: (.iload 4, 0, 0, 0, 0) :: (.iconst 4, 0, 0, 0, 0) :: (.iadd, 0, 0, 0, 0) :: (.iaload, 0, 0, 0, 0) :: (.aload_n 0, 0, 0, 0, 0) :: (.iload 4, 0, 0, 0, 0) :: (.iconst 5, 0, 0, 0, 0) :: (.iadd, 0, 0, 0, 0) :: (.iaload, 0, 0, 0, 0) :: (.invokevirtual 115, 141, 6, 239, 289) :: (.if_icmp .eq 2085, 2377, 0, 0, 0) :: (.iconst 0, 0, 0, 0, 0) :: (.ireturn, 0, 0, 0, 0) :: []
def mB_279_23 : List mm_I := (.iload 4, 0, 0, 0, 0) :: (.aload_n 0, 0, 0, 0, 0) :: (.arraylength, 0, 0, 0, 0) :: (.bipush 6, 0, 0, 0, 0) :: (.isub, 0, 0, 0, 0) :: (.if_icmp .gt 2353, 2383, 0, 0, 0) :: (.aload_n 0, 0, 0, 0, 0) :: (.iload 4, 0, 0, 0, 0) :: (.iaload, 0, 0, 0, 0) :: (.bipush 63, 0, 0, 0, 0) :: (.iand, 0, 0, 0, 0) :: (.tableswitch 2337 0 41 #[184, 257, 313, 326, 382, 450, 518, 593, 668, 736, 749, 824, 892, 917, 930, 986, 1054, 1067, 1135, 1191, 1247, 1315, 1383, 1451, 1531, 1542, 1598, 1654, 1667, 1747, 1827, 1883, 1896, 1952, 2008, 2064, 2120, 2176, 2189, 2257, 2313, 2324], 40, 0, 0, 0) :: []
def mB_279_0 : List mm_I := (.new 8, 7, 0, 120, 0) :: (.dup, 0, 0, 0, 0) :: (.invokespecial 107, 74, 1, 236, 4) :: (.astore_n 1, 0, 0, 0, 0) :: (.new 108, 8, 0, 1183, 0) :: (.dup, 0, 0, 0, 0) :: (.invokespecial 110, 135, 1, 237, 12) :: (.astore_n 2, 0, 0, 0, 0) :: (.iconst 1, 0, 0, 0, 0) :: (.newarray .long, 0, 0, 0, 0) :: (.astore_n 3, 0, 0, 0, 0) :: (.iconst 0, 0, 0, 0, 0) :: (.istore 4, 0, 0, 0, 0) :: mB_279_23
def mT_279 : List (Nat × List mm_I) := [(0, mB_279_0), (23, mB_279_23), (224, mB_279_224), (297, mB_279_297), (333, mB_279_333), (350, mB_279_350), (353, mB_279_353), (366, mB_279_366), (402, mB_279_402), (419, mB_279_419), (422, mB_279_422), (470, mB_279_470), (487, mB_279_487), (490, mB_279_490), (538, mB_279_538), (555, mB_279_555), (558, mB_279_558), (606, mB_279_606), (623, mB_279_623), (624, mB_279_624), (630, mB_279_630), (633, mB_279_633), (681, mB_279_681), (698, mB_279_698), (699, mB_279_699), (705, mB_279_705), (708, mB_279_708), (756, mB_279_756), (773, mB_279_773), (776, mB_279_776), (789, mB_279_789), (837, mB_279_837), (854, mB_279_854), (855, mB_279_855), (861, mB_279_861), (864, mB_279_864), (912, mB_279_912), (929, mB_279_929), (932, mB_279_932), (957, mB_279_957), (970, mB_279_970), (1006, mB_279_1006), (1023, mB_279_1023), (1026, mB_279_1026), (1074, mB_279_1074), (1091, mB_279_1091), (1094, mB_279_1094), (1107, mB_279_1107), (1155, mB_279_1155), (1172, mB_279_1172), (1175, mB_279_1175), (1211, mB_279_1211), (1228, mB_279_1228), (1231, mB_279_1231), (1267, mB_279_1267), (1284, mB_279_1284), (1287, mB_279_1287), (1335, mB_279_1335), (1352, mB_279_1352), (1355, mB_279_1355), (1403, mB_279_1403), (1420, mB_279_1420), (1423, mB_279_1423), (1471, mB_279_1471), (1488, mB_279_1488), (1491, mB_279_1491), (1551, mB_279_1551), (1568, mB_279_1568), (1571, mB_279_1571), (1582, mB_279_1582), (1618, mB_279_1618), (1635, mB_279_1635), (1638, mB_279_1638), (1674, mB_279_1674), (1691, mB_279_1691), (1694, mB_279_1694), (1707, mB_279_1707), (1767, mB_279_1767), (1784, mB_279_1784), (1787, mB_279_1787), (1847, mB_279_1847), (1864, mB_279_1864), (1867, mB_279_1867), (1903, mB_279_1903), (1920, mB_279_1920), (1923, mB_279_1923), (1936, mB_279_1936), (1972, mB_279_1972), (1989, mB_279_1989), (1992, mB_279_1992), (2028, mB_279_2028), (2045, mB_279_2045), (2048, mB_279_2048), (2084, mB_279_2084), (2101, mB_279_2101), (2104, mB_279_2104), (2140, mB_279_2140), (2157, mB_279_2157), (2160, mB_279_2160), (2196, mB_279_2196), (2213, mB_279_2213), (2216, mB_279_2216), (2229, mB_279_2229), (2277, mB_279_2277), (2294, mB_279_2294), (2297, mB_279_2297), (2333, mB_279_2333), (2350, mB_279_2350), (2353, mB_279_2353), (2364, mB_279_2364), (2377, mB_279_2377), (2383, mB_279_2383)]
def mm_tabs : List (List (Nat × List mm_I)) := [mT_0, mT_1, mT_2, mT_3, mT_4, mT_5, mT_6, mT_7, mT_8, mT_9, mT_10, mT_11, mT_12, mT_13, mT_14, mT_15, mT_16, mT_17, mT_18, mT_19, mT_20, mT_21, mT_22, mT_23, mT_24, mT_25, mT_26, mT_27, mT_28, mT_29, mT_30, mT_31, mT_32, mT_33, mT_34, mT_35, mT_36, mT_37, mT_38, mT_39, mT_40, mT_41, mT_42, mT_43, mT_44, mT_45, mT_46, mT_47, mT_48, mT_49, mT_50, mT_51, mT_52, mT_53, mT_54, mT_55, mT_56, mT_57, mT_58, mT_59, mT_60, mT_61, mT_62, mT_63, mT_64, mT_65, mT_66, mT_67, mT_68, mT_69, mT_70, mT_71, mT_72, mT_73, mT_74, mT_75, mT_76, mT_77, mT_78, mT_79, mT_80, mT_81, mT_82, mT_83, mT_84, mT_85, mT_86, mT_87, mT_88, mT_89, mT_90, mT_91, mT_92, mT_93, mT_94, mT_95, mT_96, mT_97, mT_98, mT_99, mT_100, mT_101, mT_102, mT_103, mT_104, mT_105, mT_106, mT_107, mT_108, mT_109, mT_110, mT_111, mT_112, mT_113, mT_114, mT_115, mT_116, mT_117, mT_118, mT_119, mT_120, mT_121, mT_122, mT_123, mT_124, mT_125, mT_126, mT_127, mT_128, mT_129, mT_130, mT_131, mT_132, mT_133, mT_134, mT_135, mT_136, mT_137, mT_138, mT_139, mT_140, mT_141, mT_142, mT_143, mT_144, mT_145, mT_146, mT_147, mT_148, mT_149, mT_150, mT_151, mT_152, mT_153, mT_154, mT_155, mT_156, mT_157, mT_158, mT_159, mT_160, mT_161, mT_162, mT_163, mT_164, mT_165, mT_166, mT_167, mT_168, mT_169, mT_170, mT_171, mT_172, mT_173, mT_174, mT_175, mT_176, mT_177, mT_178, mT_179, mT_180, mT_181, mT_182, mT_183, mT_184, mT_185, mT_186, mT_187, mT_188, mT_189, mT_190, mT_191, mT_192, mT_193, mT_194, mT_195, mT_196, mT_197, mT_198, mT_199, mT_200, mT_201, mT_202, mT_203, mT_204, mT_205, mT_206, mT_207, mT_208, mT_209, mT_210, mT_211, mT_212, mT_213, mT_214, mT_215, mT_216, mT_217, mT_218, mT_219, mT_220, mT_221, mT_222, mT_223, mT_224, mT_225, mT_226, mT_227, mT_228, mT_229, mT_230, mT_231, mT_232, mT_233, mT_234, mT_235, mT_236, mT_237, mT_238, mT_239, mT_240, mT_241, mT_242, mT_243, mT_244, mT_245, mT_246, mT_247, mT_248, mT_249, mT_250, mT_251, mT_252, mT_253, mT_254, mT_255, mT_256, mT_257, mT_258, mT_259, mT_260, mT_261, mT_262, mT_263, mT_264, mT_265, mT_266, mT_267, mT_268, mT_269, mT_270, mT_271, mT_272, mT_273, mT_274, mT_275, mT_276, mT_277, mT_278, mT_279]
/-- of a method: locals, kind of answer (0 none, 1 int, 2 boolean, 3 long, 4 reference), its class, its handlers -/
def mm_meta : List (Nat × Nat × Nat × List (Nat × Nat × Nat × Nat)) := [(1, 1, 99, []), (1, 0, 0, []), (1, 0, 0, []), (2, 0, 0, []), (2, 0, 0, []), (2, 0, 0, []), (1, 0, 1, []), (8, 0, 1, []), (3, 0, 1, []), (6, 1, 1, []), (15, 1, 99, []), (9, 2, 99, []), (9, 2, 99, []), (1, 0, 2, []), (1, 0, 2, []), (4, 0, 2, []), (3, 0, 2, []), (3, 0, 2, []), (2, 1, 2, []), (4, 1, 2, []), (4, 1, 2, []), (5, 1, 2, []), (8, 1, 2, []), (6, 2, 2, []), (4, 1, 2, []), (8, 1, 2, []), (6, 1, 2, []), (8, 1, 2, []), (10, 0, 2, []), (1, 0, 3, []), (3, 0, 3, []), (2, 0, 3, []), (3, 0, 3, []), (3, 0, 3, []), (1, 1, 3, []), (1, 1, 3, []), (2, 1, 3, []), (2, 1, 3, []), (4, 0, 3, []), (4, 0, 3, []), (3, 1, 3, []), (10, 1, 3, []), (5, 0, 3, []), (1, 0, 4, []), (4, 1, 4, []), (3, 4, 4, []), (2, 2, 4, []), (2, 2, 4, []), (4, 2, 4, []), (3, 2, 4, []), (3, 1, 4, []), (3, 2, 4, []), (5, 2, 4, []), (6, 2, 4, []), (3, 2, 4, []), (1, 2, 4, []), (2, 1, 4, []), (1, 1, 4, []), (4, 2, 4, []), (3, 0, 4, []), (2, 1, 4, []), (1, 1, 4, []), (1, 0, 5, []), (2, 0, 5, []), (2, 0, 5, []), (2, 0, 5, []), (2, 0, 5, []), (3, 0, 5, []), (8, 1, 5, []), (1, 0, 6, []), (1, 0, 6, []), (3, 0, 6, []), (2, 0, 6, []), (5, 2, 6, []), (1, 0, 7, []), (6, 1, 7, []), (3, 0, 7, []), (3, 1, 7, []), (1, 1, 7, []), (2, 1, 7, []), (3, 1, 7, []), (3, 1, 7, []), (3, 2, 7, []), (3, 2, 7, []), (5, 1, 7, []), (1, 1, 7, []), (4, 2, 7, []), (4, 1, 7, []), (3, 1, 7, []), (1, 1, 7, []), (2, 1, 7, []), (3, 1, 7, []), (4, 1, 7, []), (5, 1, 7, []), (4, 1, 7, []), (4, 1, 7, []), (4, 1, 7, []), (6, 1, 7, []), (8, 1, 7, []), (4, 1, 7, []), (1, 0, 7, []), (2, 1, 7, []), (6, 1, 7, []), (1, 2, 7, []), (5, 2, 7, []), (7, 1, 7, []), (5, 0, 7, []), (4, 2, 7, []), (6, 1, 7, []), (4, 1, 7, []), (3, 1, 7, []), (5, 1, 7, []), (8, 1, 7, []), (2, 1, 7, []), (9, 1, 7, []), (6, 1, 7, []), (7, 1, 7, []), (6, 1, 7, []), (4, 1, 7, []), (4, 1, 7, []), (1, 0, 7, []), (1, 2, 7, []), (2, 2, 7, []), (2, 0, 7, []), (2, 0, 7, []), (2, 2, 7, []), (3, 1, 7, []), (3, 2, 7, []), (6, 1, 7, []), (4, 1, 7, []), (3, 1, 7, []), (9, 1, 7, []), (8, 1, 7, []), (3, 1, 7, []), (10, 3, 7, []), (1, 0, 8, []), (1, 1, 8, []), (3, 2, 8, []), (3, 2, 8, []), (4, 0, 8, []), (3, 1, 8, []), (6, 1, 8, []), (3, 0, 8, []), (2, 1, 8, []), (1, 2, 8, []), (1, 2, 8, []), (2, 0, 8, []), (9, 3, 8, []), (1, 3, 8, []), (2, 1, 8, []), (2, 0, 8, []), (1, 2, 8, []), (2, 2, 8, []), (2, 0, 8, []), (4, 1, 8, []), (2, 2, 8, []), (2, 0, 8, []), (1, 2, 8, []), (1, 1, 8, []), (2, 0, 8, []), (2, 0, 8, []), (2, 0, 8, []), (1, 0, 8, []), (5, 0, 8, []), (2, 2, 8, []), (1, 0, 8, []), (3, 0, 8, []), (2, 0, 8, []), (3, 0, 8, []), (2, 0, 8, []), (3, 1, 8, []), (1, 1, 8, []), (2, 0, 8, []), (2, 1, 8, []), (2, 1, 8, []), (4, 0, 8, []), (3, 1, 8, []), (5, 1, 8, []), (7, 1, 8, []), (5, 0, 8, []), (6, 2, 8, []), (4, 2, 8, []), (4, 0, 8, []), (6, 0, 8, []), (7, 1, 8, []), (2, 1, 8, []), (5, 1, 8, []), (5, 1, 8, []), (5, 1, 8, []), (4, 2, 8, []), (5, 1, 8, []), (5, 1, 8, []), (5, 1, 8, []), (2, 1, 8, []), (2, 2, 8, []), (2, 2, 8, []), (3, 2, 8, []), (4, 1, 8, []), (3, 1, 8, []), (4, 1, 8, []), (3, 1, 8, []), (3, 2, 8, []), (3, 2, 8, []), (4, 1, 8, []), (1, 1, 8, []), (3, 2, 8, []), (4, 1, 8, []), (3, 1, 8, []), (2, 1, 8, []), (3, 1, 8, []), (7, 1, 8, []), (6, 1, 8, []), (6, 1, 8, []), (1, 1, 8, []), (4, 1, 8, []), (4, 2, 8, []), (3, 2, 8, []), (3, 1, 8, []), (5, 0, 8, []), (3, 1, 8, []), (4, 1, 8, []), (3, 1, 8, []), (3, 1, 8, []), (4, 1, 8, []), (11, 1, 8, []), (6, 1, 8, []), (4, 1, 8, []), (1, 0, 8, []), (5, 1, 8, []), (4, 1, 8, []), (10, 1, 8, []), (3, 1, 8, []), (4, 2, 8, []), (5, 1, 8, []), (11, 1, 8, []), (2, 1, 8, []), (5, 1, 8, []), (5, 1, 8, []), (4, 1, 8, []), (4, 1, 8, []), (8, 1, 8, []), (4, 1, 8, []), (7, 1, 8, []), (6, 1, 8, []), (6, 1, 8, []), (4, 1, 8, []), (4, 1, 8, []), (2, 0, 8, []), (2, 2, 8, []), (4, 1, 99, [(0, 9, 12, 1)]), (4, 1, 99, [(0, 9, 12, 0)]), (5, 1, 99, [(0, 10, 13, 0)]), (5, 1, 99, [(0, 10, 13, 0)]), (5, 1, 99, [(0, 17, 20, 0)]), (5, 1, 99, [(0, 17, 20, 0)]), (5, 1, 99, [(0, 10, 13, 0)]), (5, 1, 99, [(0, 17, 20, 0)]), (5, 1, 99, [(0, 10, 13, 0)]), (4, 1, 99, [(0, 9, 12, 0)]), (5, 1, 99, [(0, 10, 13, 0), (0, 10, 17, 1)]), (5, 1, 99, [(0, 10, 13, 0)]), (4, 1, 99, [(0, 9, 12, 0)]), (4, 1, 99, [(0, 9, 12, 0)]), (5, 1, 99, [(0, 10, 13, 0), (0, 10, 17, 1)]), (5, 1, 99, [(0, 10, 13, 0)]), (5, 1, 99, [(0, 10, 13, 0)]), (6, 1, 99, [(0, 12, 15, 0)]), (4, 1, 99, [(0, 9, 12, 0)]), (4, 1, 99, [(0, 9, 12, 0)]), (6, 1, 99, [(0, 12, 15, 0), (0, 12, 19, 1)]), (6, 1, 99, [(0, 12, 15, 0), (0, 12, 19, 1)]), (4, 1, 99, [(0, 9, 12, 0)]), (4, 1, 99, [(0, 9, 12, 0)]), (4, 1, 99, [(0, 9, 12, 0)]), (4, 1, 99, [(0, 9, 12, 0)]), (4, 1, 99, [(0, 9, 12, 0)]), (4, 1, 99, [(0, 9, 12, 0)]), (5, 1, 99, [(0, 10, 13, 0)]), (4, 1, 99, [(0, 9, 12, 0)]), (7, 2, 99, [])]
def mm_names : List (MethodName × ByteArray × Option FieldType × String) := [(yJ6_bitCount_0f7a4, cJ6_bitCount_0f7a4, some .int, RJ6), (yX0_init, cX0_init, none, RX0), (yX0_clear, cX0_clear, none, RX0), (yX0_keep, cX0_keep, none, RX0), (yX0_bringBack, cX0_bringBack, none, RX0), (yX0_copyFrom, cX0_copyFrom, none, RX0), (yX1_init, cX1_init, none, RX1), (yX1_find, cX1_find, none, RX1), (yX1_put, cX1_put, none, RX1), (yX1_unlikeOn, cX1_unlikeOn, some .int, RX1), (yX2_bestLead, cX2_bestLead, some .int, RX2), (yX2_canForceWin, cX2_canForceWin, some .boolean, RX2), (yX2_cannotEscape, cX2_cannotEscape, some .boolean, RX2), (yX3_init, cX3_init, none, RX3), (yX3_clear, cX3_clear, none, RX3), (yX3_addVillage, cX3_addVillage, none, RX3), (yX3_addRoad, cX3_addRoad, none, RX3), (yX3_addRule, cX3_addRule, none, RX3), (yX3_without, cX3_without, some .int, RX3), (yX3_worthOf, cX3_worthOf, some .int, RX3), (yX3_besideAnyOf, cX3_besideAnyOf, some .int, RX3), (yX3_reachedWithin, cX3_reachedWithin, some .int, RX3), (yX3_lawfulTargets, cX3_lawfulTargets, some .int, RX3), (yX3_mayTake, cX3_mayTake, some .boolean, RX3), (yX3_gainOfMoveTo, cX3_gainOfMoveTo, some .int, RX3), (yX3_takersOf, cX3_takersOf, some .int, RX3), (yX3_enPrise, cX3_enPrise, some .int, RX3), (yX3_listMoves, cX3_listMoves, some .int, RX3), (yX3_setValues, cX3_setValues, none, RX3), (yX4_init, cX4_init, none, RX4), (yX4_begin, cX4_begin, none, RX4), (yX4_copyFrom, cX4_copyFrom, none, RX4), (yX4_save, cX4_save, none, RX4), (yX4_load, cX4_load, none, RX4), (yX4_turn, cX4_turn, some .int, RX4), (yX4_allStones, cX4_allStones, some .int, RX4), (yX4_stoneIn, cX4_stoneIn, some .int, RX4), (yX4_flagOf, cX4_flagOf, some .int, RX4), (yX4_bringStone, cX4_bringStone, none, RX4), (yX4_endEvening, cX4_endEvening, none, RX4), (yX4_playEvening, cX4_playEvening, some .int, RX4), (yX4_moveByStyle, cX4_moveByStyle, some .int, RX4), (yX4_drawEvening, cX4_drawEvening, none, RX4), (yX5_init, cX5_init, none, RX5), (yX5_read, cX5_read, some .int, RX5), (yX5_handOver, cX5_handOver, some (Jvm.ClassFile.FieldType.object "VillageBoard$Land"), RX5), (yX5_refuse, cX5_refuse, some .boolean, RX5), (yX5_readLine, cX5_readLine, some .boolean, RX5), (yX5_readVillage, cX5_readVillage, some .boolean, RX5), (yX5_readRoad, cX5_readRoad, some .boolean, RX5), (yX5_readNumber, cX5_readNumber, some .int, RX5), (yX5_readRule, cX5_readRule, some .boolean, RX5), (yX5_readLevel, cX5_readLevel, some .boolean, RX5), (yX5_readNot, cX5_readNot, some .boolean, RX5), (yX5_readPart, cX5_readPart, some .boolean, RX5), (yX5_canBegin, cX5_canBegin, some .boolean, RX5), (yX5_joint, cX5_joint, some .int, RX5), (yX5_valueOfWord, cX5_valueOfWord, some .int, RX5), (yX5_isWord, cX5_isWord, some .boolean, RX5), (yX5_nextToken, cX5_nextToken, none, RX5), (yX5_byteAt, cX5_byteAt, some .int, RX5), (yX5_kindOf, cX5_kindOf, some .int, RX5), (yX6_init, cX6_init, none, RX6), (yX6_clear, cX6_clear, none, RX6), (yX6_addNumber, cX6_addNumber, none, RX6), (yX6_addSign, cX6_addSign, none, RX6), (yX6_put, cX6_put, none, RX6), (yX6_setRule, cX6_setRule, none, RX6), (yX6_give, cX6_give, some .int, RX6), (yX7_init, cX7_init, none, RX7), (yX7_clear, cX7_clear, none, RX7), (yX7_add, cX7_add, none, RX7), (yX7_copyFrom, cX7_copyFrom, none, RX7), (yX7_fit, cX7_fit, some .boolean, RX7), (yX8_init, cX8_init, none, RX8), (yX8_feed, cX8_feed, some .int, RX8), (yX8_putOnTape, cX8_putOnTape, none, RX8), (yX8_board, cX8_board, some .int, RX8), (yX8_fault, cX8_fault, some .int, RX8), (yX8_count, cX8_count, some .int, RX8), (yX8_village, cX8_village, some .int, RX8), (yX8_side, cX8_side, some .int, RX8), (yX8_road, cX8_road, some .boolean, RX8), (yX8_lawful, cX8_lawful, some .boolean, RX8), (yX8_move, cX8_move, some .int, RX8), (yX8_pass, cX8_pass, some .int, RX8), (yX8_fly, cX8_fly, some .boolean, RX8), (yX8_teach, cX8_teach, some .int, RX8), (yX8_play, cX8_play, some .int, RX8), (yX8_undo, cX8_undo, some .int, RX8), (yX8_hangs, cX8_hangs, some .int, RX8), (yX8_look, cX8_look, some .int, RX8), (yX8_win, cX8_win, some .int, RX8), (yX8_journey, cX8_journey, some .int, RX8), (yX8_played, cX8_played, some .int, RX8), (yX8_turned, cX8_turned, some .int, RX8), (yX8_treasury, cX8_treasury, some .int, RX8), (yX8_gift, cX8_gift, some .int, RX8), (yX8_plant, cX8_plant, some .int, RX8), (yX8_see, cX8_see, some .int, RX8), (yX8_forget, cX8_forget, none, RX8), (yX8_styles, cX8_styles, some .int, RX8), (yX8_next, cX8_next, some .int, RX8), (yX8_treaty, cX8_treaty, some .boolean, RX8), (yX8_keepsTreaty, cX8_keepsTreaty, some .boolean, RX8), (yX8_game, cX8_game, some .int, RX8), (yX8_playGame, cX8_playGame, none, RX8), (yX8_rests, cX8_rests, some .boolean, RX8), (yX8_years, cX8_years, some .int, RX8), (yX8_owes, cX8_owes, some .int, RX8), (yX8_front, cX8_front, some .int, RX8), (yX8_parts, cX8_parts, some .int, RX8), (yX8_safe, cX8_safe, some .int, RX8), (yX8_reach, cX8_reach, some .int, RX8), (yX8_guard, cX8_guard, some .int, RX8), (yX8_key, cX8_key, some .int, RX8), (yX8_fork, cX8_fork, some .int, RX8), (yX8_forkedBy, cX8_forkedBy, some .int, RX8), (yX8_regret, cX8_regret, some .int, RX8), (yX8_whose, cX8_whose, some .int, RX8), (yX8_image, cX8_image, none, RX8), (yX8_restore, cX8_restore, some .boolean, RX8), (yX8_has, cX8_has, some .boolean, RX8), (yX8_needVillage, cX8_needVillage, none, RX8), (yX8_needSide, cX8_needSide, none, RX8), (yX8_isStyle, cX8_isStyle, some .boolean, RX8), (yX8_targetsFrom, cX8_targetsFrom, some .int, RX8), (yX8_mayMoveInTurn, cX8_mayMoveInTurn, some .boolean, RX8), (yX8_hangingOn, cX8_hangingOn, some .int, RX8), (yX8_pinnedOf, cX8_pinnedOf, some .int, RX8), (yX8_leadIn, cX8_leadIn, some .int, RX8), (yX8_leadAfter, cX8_leadAfter, some .int, RX8), (yX8_bestMove, cX8_bestMove, some .int, RX8), (yX8_styleGives, cX8_styleGives, some .int, RX8), (yX8_leastThatWins, cX8_leastThatWins, some .long, RX8), (yX9_init, cX9_init, none, RX9), (yX9_thrown, cX9_thrown, some .int, RX9), (yX9_right, cX9_right, some .boolean, RX9), (yX9_within, cX9_within, some .boolean, RX9), (yX9_copies, cX9_copies, none, RX9), (yX9_bits, cX9_bits, some .int, RX9), (yX9_feed, cX9_feed, some .int, RX9), (yX9_lays, cX9_lays, none, RX9), (yX9_byteAt, cX9_byteAt, some .int, RX9), (yX9_isLetter, cX9_isLetter, some .boolean, RX9), (yX9_isDigit, cX9_isDigit, some .boolean, RX9), (yX9_goes, cX9_goes, none, RX9), (yX9_spelled, cX9_spelled, some .long, RX9), (yX9_letters, cX9_letters, some .long, RX9), (yX9_knownWord, cX9_knownWord, some .int, RX9), (yX9_wrong, cX9_wrong, none, RX9), (yX9_isGood, cX9_isGood, some .boolean, RX9), (yX9_isSign, cX9_isSign, some .boolean, RX9), (yX9_need, cX9_need, none, RX9), (yX9_number, cX9_number, some .int, RX9), (yX9_amongHere, cX9_amongHere, some .boolean, RX9), (yX9_puts, cX9_puts, none, RX9), (yX9_isOpen, cX9_isOpen, some .boolean, RX9), (yX9_strength, cX9_strength, some .int, RX9), (yX9_drops, cX9_drops, none, RX9), (yX9_waitsFor, cX9_waitsFor, none, RX9), (yX9_part, cX9_part, none, RX9), (yX9_deeper, cX9_deeper, none, RX9), (yX9_operand, cX9_operand, none, RX9), (yX9_isOpened, cX9_isOpened, some .boolean, RX9), (yX9_closes, cX9_closes, none, RX9), (yX9_expression, cX9_expression, none, RX9), (yX9_readsVillage, cX9_readsVillage, none, RX9), (yX9_readsRoad, cX9_readsRoad, none, RX9), (yX9_line, cX9_line, none, RX9), (yX9_board, cX9_board, some .int, RX9), (yX9_fault, cX9_fault, some .int, RX9), (yX9_keeps, cX9_keeps, none, RX9), (yX9_refuses, cX9_refuses, some .int, RX9), (yX9_undo, cX9_undo, some .int, RX9), (yX9_lays0, cX9_lays0, none, RX9), (yX9_works, cX9_works, some .int, RX9), (yX9_reckons, cX9_reckons, some .int, RX9), (yX9_near, cX9_near, some .int, RX9), (yX9_tells, cX9_tells, none, RX9), (yX9_mayGo, cX9_mayGo, some .boolean, RX9), (yX9_mayDo, cX9_mayDo, some .boolean, RX9), (yX9_brings, cX9_brings, none, RX9), (yX9_does, cX9_does, none, RX9), (yX9_byStyle, cX9_byStyle, some .int, RX9), (yX9_byItsStyle, cX9_byItsStyle, some .int, RX9), (yX9_stonesOf, cX9_stonesOf, some .int, RX9), (yX9_flagsOf, cX9_flagsOf, some .int, RX9), (yX9_worthOf, cX9_worthOf, some .int, RX9), (yX9_isTaken, cX9_isTaken, some .boolean, RX9), (yX9_prised, cX9_prised, some .int, RX9), (yX9_hanging, cX9_hanging, some .int, RX9), (yX9_movesOf, cX9_movesOf, some .int, RX9), (yX9_count, cX9_count, some .int, RX9), (yX9_isVillage, cX9_isVillage, some .boolean, RX9), (yX9_isSide, cX9_isSide, some .boolean, RX9), (yX9_isWhat, cX9_isWhat, some .boolean, RX9), (yX9_roadsOf, cX9_roadsOf, some .int, RX9), (yX9_village, cX9_village, some .int, RX9), (yX9_pinned, cX9_pinned, some .int, RX9), (yX9_side, cX9_side, some .int, RX9), (yX9_road, cX9_road, some .boolean, RX9), (yX9_lawful, cX9_lawful, some .boolean, RX9), (yX9_move, cX9_move, some .int, RX9), (yX9_pass, cX9_pass, some .int, RX9), (yX9_fly, cX9_fly, some .boolean, RX9), (yX9_teach, cX9_teach, some .int, RX9), (yX9_play, cX9_play, some .int, RX9), (yX9_hangs, cX9_hangs, some .int, RX9), (yX9_scoreFor, cX9_scoreFor, some .int, RX9), (yX9_lookOne, cX9_lookOne, some .int, RX9), (yX9_lookTwo, cX9_lookTwo, some .int, RX9), (yX9_lookThree, cX9_lookThree, some .int, RX9), (yX9_toldMove, cX9_toldMove, some .int, RX9), (yX9_look, cX9_look, some .int, RX9), (yX9_winsAtOnce, cX9_winsAtOnce, some .boolean, RX9), (yX9_winsByAll, cX9_winsByAll, some .boolean, RX9), (yX9_win, cX9_win, some .int, RX9), (yX9_walks, cX9_walks, none, RX9), (yX9_journey, cX9_journey, some .int, RX9), (yX9_reach, cX9_reach, some .int, RX9), (yX9_played, cX9_played, some .int, RX9), (yX9_turned, cX9_turned, some .int, RX9), (yX9_treasury, cX9_treasury, some .int, RX9), (yX9_gift, cX9_gift, some .int, RX9), (yX9_plant, cX9_plant, some .int, RX9), (yX9_see, cX9_see, some .int, RX9), (yX9_forget, cX9_forget, none, RX9), (yX9_fitting, cX9_fitting, some .int, RX9), (yX9_styles, cX9_styles, some .int, RX9), (yX9_next, cX9_next, some .int, RX9), (yX9_answered, cX9_answered, some .int, RX9), (yX9_treaty, cX9_treaty, some .boolean, RX9), (yX9_richer, cX9_richer, some .int, RX9), (yX9_game, cX9_game, some .int, RX9), (yX9_draw, cX9_draw, some .int, RX9), (yX9_moveOf, cX9_moveOf, some .int, RX9), (yX9_years, cX9_years, some .int, RX9), (yX9_owes, cX9_owes, some .int, RX9), (yX9_front, cX9_front, some .int, RX9), (yX9_parts, cX9_parts, some .int, RX9), (yX9_safe, cX9_safe, some .int, RX9), (yX9_guard, cX9_guard, some .int, RX9), (yX9_key, cX9_key, some .int, RX9), (yX9_fork, cX9_fork, some .int, RX9), (yX9_regret, cX9_regret, some .int, RX9), (yX9_whose, cX9_whose, some .int, RX9), (yX9_image, cX9_image, none, RX9), (yX9_restore, cX9_restore, some .boolean, RX9), (yL_board, cL_board, some .int, RL), (yL_count, cL_count, some .int, RL), (yL_village, cL_village, some .int, RL), (yL_side, cL_side, some .int, RL), (yL_road, cL_road, some .int, RL), (yL_lawful, cL_lawful, some .int, RL), (yL_move, cL_move, some .int, RL), (yL_fly, cL_fly, some .int, RL), (yL_teach, cL_teach, some .int, RL), (yL_hangs, cL_hangs, some .int, RL), (yL_look, cL_look, some .int, RL), (yL_journey, cL_journey, some .int, RL), (yL_played, cL_played, some .int, RL), (yL_turned, cL_turned, some .int, RL), (yL_treasury, cL_treasury, some .int, RL), (yL_gift, cL_gift, some .int, RL), (yL_plant, cL_plant, some .int, RL), (yL_see, cL_see, some .int, RL), (yL_styles, cL_styles, some .int, RL), (yL_next, cL_next, some .int, RL), (yL_game, cL_game, some .int, RL), (yL_years, cL_years, some .int, RL), (yL_owes, cL_owes, some .int, RL), (yL_parts, cL_parts, some .int, RL), (yL_safe, cL_safe, some .int, RL), (yL_reach, cL_reach, some .int, RL), (yL_guard, cL_guard, some .int, RL), (yL_key, cL_key, some .int, RL), (yL_regret, cL_regret, some .int, RL), (yL_whose, cL_whose, some .int, RL), (yL_law, cL_law, some .boolean, RL)]
end
section
/-! THE SMALL MACHINE: memory by kind (ints, references, longs), shapes of the cells, cells and slots made so far; a step, a run with fuel n and depth d. -/
abbrev mm_M : Type := (Nat → Nat → Int32) × (Nat → Nat → Nat) × (Nat → Nat → Int64) × List (Nat × Nat) × Nat × Nat
abbrev mm_R : Type := (Option Value ⊕ Nat) × mm_M
/-- the script: its length, its ints -/
abbrev mm_G : Type := Nat × (Nat → Int32)
/-- marks among the addresses: null, the exception that was caught, the script, the Strings -/
def mm_NU : Nat := 700000
def mm_XR : Nat := 800000
def mm_SC : Nat := 900000
def mm_SB : Nat := 1000000
/-- the String constants of the reader -/
def mm_str : List (List Int32) := [[110, 111, 114, 116, 104], [115, 111, 117, 116, 104], [102, 114, 101, 101], [114, 111, 97, 100], [116, 97, 107, 101, 115], [110, 111, 116], [111, 114], [97, 110, 100], [104, 101, 108, 112, 115], [103, 117, 97, 114, 100, 115], [102, 111, 114, 116], [119, 111, 114, 116, 104], [104, 111, 109, 101], [116, 117, 114, 110, 115], [101, 118, 101, 110, 105, 110, 103], [115, 116, 121, 108, 101]]
/-- kinds of fields: 0 int, 1 boolean, 2 reference, 3 long -/
def mm_fks : List (List Nat) := [[2, 0, 0], [2, 0, 0], [0, 0, 0, 1, 2, 2, 2, 2, 2, 2], [2, 2, 2, 2, 2, 0], [2, 0, 2, 0, 0, 0, 0, 0], [2, 0, 2, 2, 2, 2], [2, 2, 0], [2, 0, 0, 2, 2, 2, 2, 2, 2, 2, 1, 2, 2, 2, 2, 2], [0, 0, 0, 0, 0, 2, 2, 2, 2, 2, 2, 0, 0, 0, 2, 0, 0, 0, 0, 0, 0, 0, 3, 0, 0, 0, 0, 0, 0, 0, 2, 2, 2, 2, 2, 2, 2, 2, 2, 2, 0, 2, 2, 0, 2, 0, 2, 2, 0, 1, 0, 0, 2, 2, 2]]
def mm_fk (ci slot : Nat) : Nat := (mm_fks.getD ci []).getD slot 9
def mm_up {α : Type} (f : Nat → Nat → α) (a i : Nat) (v : α) : Nat → Nat → α := fun b j => if b = a then (if j = i then v else f b j) else f b j
def mm_blk (k pc : Nat) : List mm_I := ((mm_tabs.getD k []).lookup pc).getD []
def mm_mx (k : Nat) : Nat := (mm_meta.getD k (0, 0, 0, [])).1
def mm_rk (k : Nat) : Nat := (mm_meta.getD k (0, 0, 0, [])).2.1
def mm_ci (k : Nat) : Nat := (mm_meta.getD k (0, 0, 0, [])).2.2.1
def mm_hs (k : Nat) : List (Nat × Nat × Nat × Nat) := (mm_meta.getD k (0, 0, 0, [])).2.2.2
/-- the handler at a pc for an exception of kind E -/
def mm_hd (hs : List (Nat × Nat × Nat × Nat)) (pc E : Nat) : Option Nat := match hs with
  | [] => none
  | (a, b, h, x) :: hs => if a ≤ pc ∧ pc < b ∧ x = E then some h else mm_hd hs pc E
/-- a store of one word: a long that stood over it is gone -/
def mm_kill (i : Nat) (ls : List Value) : List Value := match i with
  | 0 => ls
  | j + 1 => match ls[j]? with
    | some v => if v.category = 2 then ls.set j .null else ls
    | none => ls
def mm_s1 (i : Nat) (v : Value) (ls : List Value) : List Value := (mm_kill i ls).set i v
def mm_s2 (i : Nat) (v : Value) (ls : List Value) : List Value := ((mm_kill i ls).set i v).set (i + 1) .null
def mm_ent1 (args : List Value) : List Value := match args with
  | [] => []
  | v :: vs => if v.category = 2 then v :: .null :: mm_ent1 vs else v :: mm_ent1 vs
def mm_ent (mx : Nat) (args : List Value) : List Value := mm_ent1 args ++ List.replicate (mx - (mm_ent1 args).length) .null
/-- a value that a new cell leaves as it was: no address between the made ones and the marks -/
def mm_okv (n : Nat) (v : Value) : Bool := match v with
  | .ref a => decide (a < n) || decide (mm_SC ≤ a)
  | _ => true
def mm_rv (r : Nat) : Value := if r = mm_NU then .null else .ref r
def mm_okP (P : Nat → Nat → Nat) (n : Nat) : Bool := (List.range n).all fun k => (List.range 60).all fun i => decide (P k i < n) || decide (P k i = mm_NU)
def mm_okS (P : Nat → Nat → Nat) (S : List (Nat × Nat)) : Bool := mm_okP P S.length && S.all (fun q => decide (q.1 = 100 ∨ q.1 = 101 ∨ q.1 = 102) || decide (q.2 ≤ 60))
/-- an index within -/
def mm_ix (i : Int32) (n : Nat) : Prop := ¬ (i < 0 ∨ n ≤ i.toNatClampNeg)
def mm_b01 (v : Int32) : Prop := v = 0 ∨ v = 1
/-- an instruction that goes on behind itself: locals, stack, memory -/
def mm_one (G : mm_G) (x : mm_I) (ls st : List Value) (μ : mm_M) : Option (List Value × List Value × mm_M) :=
  match x.1 with
  | .iconst n => some (ls, .int (Int32.ofInt n) :: st, μ)
  | .bipush n => some (ls, .int (Int8.ofInt n).toInt32 :: st, μ)
  | .sipush n => some (ls, .int (Int16.ofInt n).toInt32 :: st, μ)
  | .lconst n => some (ls, .long (Int64.ofNat (n : Nat)) :: st, μ)
  | .iload i => match ls[i]? with
    | some (.int v) => some (ls, .int v :: st, μ)
    | _ => none
  | .iload_n i => match ls[(i : Nat)]? with
    | some (.int v) => some (ls, .int v :: st, μ)
    | _ => none
  | .lload i => match ls[i]? with
    | some (.long v) => some (ls, .long v :: st, μ)
    | _ => none
  | .lload_n i => match ls[(i : Nat)]? with
    | some (.long v) => some (ls, .long v :: st, μ)
    | _ => none
  | .aload i => match ls[i]? with
    | some (.ref v) => some (ls, .ref v :: st, μ)
    | _ => none
  | .aload_n i => match ls[(i : Nat)]? with
    | some (.ref v) => some (ls, .ref v :: st, μ)
    | _ => none
  | .istore i => match st with
    | .int v :: st => if i < ls.length then some (mm_s1 i (.int v) ls, st, μ) else none
    | _ => none
  | .istore_n i => match st with
    | .int v :: st => if (i : Nat) < ls.length then some (mm_s1 i (.int v) ls, st, μ) else none
    | _ => none
  | .astore i => match st with
    | .ref v :: st => if i < ls.length then some (mm_s1 i (.ref v) ls, st, μ) else none
    | _ => none
  | .astore_n i => match st with
    | .ref v :: st => if (i : Nat) < ls.length then some (mm_s1 i (.ref v) ls, st, μ) else none
    | _ => none
  | .lstore i => match st with
    | .long v :: st => if i + 1 < ls.length then some (mm_s2 i (.long v) ls, st, μ) else none
    | _ => none
  | .lstore_n i => match st with
    | .long v :: st => if (i : Nat) + 1 < ls.length then some (mm_s2 i (.long v) ls, st, μ) else none
    | _ => none
  | .iinc i n => match ls[i]? with
    | some (.int v) => some (mm_s1 i (.int (v + Int32.ofInt n)) ls, st, μ)
    | _ => none
  | .iadd => match st with
    | .int y :: .int x :: st => some (ls, .int (x + y) :: st, μ)
    | _ => none
  | .isub => match st with
    | .int y :: .int x :: st => some (ls, .int (x - y) :: st, μ)
    | _ => none
  | .imul => match st with
    | .int y :: .int x :: st => some (ls, .int (x * y) :: st, μ)
    | _ => none
  | .idiv => match st with
    | .int y :: .int x :: st => if y = 0 then none else some (ls, .int (x / y) :: st, μ)
    | _ => none
  | .irem => match st with
    | .int y :: .int x :: st => if y = 0 then none else some (ls, .int (x - x / y * y) :: st, μ)
    | _ => none
  | .ineg => match st with
    | .int x :: st => some (ls, .int (-x) :: st, μ)
    | _ => none
  | .iand => match st with
    | .int y :: .int x :: st => some (ls, .int (x &&& y) :: st, μ)
    | _ => none
  | .ior => match st with
    | .int y :: .int x :: st => some (ls, .int (x ||| y) :: st, μ)
    | _ => none
  | .ixor => match st with
    | .int y :: .int x :: st => some (ls, .int (x ^^^ y) :: st, μ)
    | _ => none
  | .ishl => match st with
    | .int y :: .int x :: st => some (ls, .int (x <<< (y &&& 31)) :: st, μ)
    | _ => none
  | .ishr => match st with
    | .int y :: .int x :: st => some (ls, .int (x >>> (y &&& 31)) :: st, μ)
    | _ => none
  | .iushr => match st with
    | .int y :: .int x :: st => some (ls, .int (x.toUInt32 >>> (y.toUInt32 &&& Int32.toUInt32 31)).toInt32 :: st, μ)
    | _ => none
  | .ladd => match st with
    | .long y :: .long x :: st => some (ls, .long (x + y) :: st, μ)
    | _ => none
  | .lsub => match st with
    | .long y :: .long x :: st => some (ls, .long (x - y) :: st, μ)
    | _ => none
  | .lor => match st with
    | .long y :: .long x :: st => some (ls, .long (x ||| y) :: st, μ)
    | _ => none
  | .lshl => match st with
    | .int y :: .long x :: st => some (ls, .long (x <<< (y.toInt64 &&& 63)) :: st, μ)
    | _ => none
  | .lcmp => match st with
    | .long y :: .long x :: st => some (ls, .int (lg_cmp x y) :: st, μ)
    | _ => none
  | .i2l => match st with
    | .int x :: st => some (ls, .long x.toInt64 :: st, μ)
    | _ => none
  | .l2i => match st with
    | .long x :: st => some (ls, .int x.toInt32 :: st, μ)
    | _ => none
  | .dup => match st with
    | .int v :: st => some (ls, .int v :: .int v :: st, μ)
    | .ref v :: st => some (ls, .ref v :: .ref v :: st, μ)
    | _ => none
  | .pop => match st with
    | .int _ :: st => some (ls, st, μ)
    | .ref _ :: st => some (ls, st, μ)
    | _ => none
  | .dup2 => match st with
    | .int v :: .ref w :: st => some (ls, .int v :: .ref w :: .int v :: .ref w :: st, μ)
    | .int v :: .int w :: st => some (ls, .int v :: .int w :: .int v :: .int w :: st, μ)
    | _ => none
  | .ldc _ => if x.2.1 = 0 then some (ls, .int x.2.2.2.2 :: st, μ) else if x.2.1 = 1 then some (ls, .ref (mm_SB + x.2.2.1) :: st, μ) else none
  | .ldc_w _ => if x.2.1 = 0 then some (ls, .int x.2.2.2.2 :: st, μ) else none
  | .ldc2_w _ => some (ls, .long x.2.2.2.2.toInt64 :: st, μ)
  | .getfield _ => match st with
    | .ref a :: st => match μ.2.2.2.1[a]? with
      | some (ci, n) => if ci = x.2.1 ∧ x.2.2.1 < n then
          (if mm_fk ci x.2.2.1 ≤ 1 then some (ls, .int (μ.1 a x.2.2.1) :: st, μ)
          else if mm_fk ci x.2.2.1 = 2 then some (ls, mm_rv (μ.2.1 a x.2.2.1) :: st, μ)
          else if mm_fk ci x.2.2.1 = 3 then some (ls, .long (μ.2.2.1 a x.2.2.1) :: st, μ) else none) else none
      | none => none
    | _ => none
  | .putfield _ => match st with
    | .int v :: .ref a :: st => match μ.2.2.2.1[a]? with
      | some (ci, n) => if ci = x.2.1 ∧ x.2.2.1 < n ∧ (mm_fk ci x.2.2.1 = 0 ∨ (mm_fk ci x.2.2.1 = 1 ∧ (v = 0 ∨ v = 1))) then some (ls, st, (mm_up μ.1 a x.2.2.1 v, μ.2)) else none
      | none => none
    | .ref v :: .ref a :: st => match μ.2.2.2.1[a]? with
      | some (ci, n) => if ci = x.2.1 ∧ x.2.2.1 < n ∧ mm_fk ci x.2.2.1 = 2 ∧ v ≠ mm_NU then some (ls, st, (μ.1, mm_up μ.2.1 a x.2.2.1 v, μ.2.2)) else none
      | none => none
    | .long v :: .ref a :: st => match μ.2.2.2.1[a]? with
      | some (ci, n) => if ci = x.2.1 ∧ x.2.2.1 < n ∧ mm_fk ci x.2.2.1 = 3 then some (ls, st, (μ.1, μ.2.1, mm_up μ.2.2.1 a x.2.2.1 v, μ.2.2.2)) else none
      | none => none
    | _ => none
  | .iaload => match st with
    | .int i :: .ref a :: st => if a = mm_SC then (if i < 0 ∨ G.1 ≤ i.toNatClampNeg then none else some (ls, .int (G.2 i.toNatClampNeg) :: st, μ)) else match μ.2.2.2.1[a]? with
      | some (t, n) => if t = 100 ∧ ¬ (i < 0 ∨ n ≤ i.toNatClampNeg) then some (ls, .int (μ.1 a i.toNatClampNeg) :: st, μ) else none
      | none => none
    | _ => none
  | .iastore => match st with
    | .int v :: .int i :: .ref a :: st => match μ.2.2.2.1[a]? with
      | some (t, n) => if t = 100 ∧ ¬ (i < 0 ∨ n ≤ i.toNatClampNeg) then some (ls, st, (mm_up μ.1 a i.toNatClampNeg v, μ.2)) else none
      | none => none
    | _ => none
  | .baload => match st with
    | .int i :: .ref a :: st => match μ.2.2.2.1[a]? with
      | some (t, n) => if t = 101 ∧ ¬ (i < 0 ∨ n ≤ i.toNatClampNeg) then some (ls, .int (μ.1 a i.toNatClampNeg) :: st, μ) else none
      | none => none
    | _ => none
  | .bastore => match st with
    | .int v :: .int i :: .ref a :: st => match μ.2.2.2.1[a]? with
      | some (t, n) => if t = 101 ∧ ¬ (i < 0 ∨ n ≤ i.toNatClampNeg) ∧ (v = 0 ∨ v = 1) then some (ls, st, (mm_up μ.1 a i.toNatClampNeg v, μ.2)) else none
      | none => none
    | _ => none
  | .laload => match st with
    | .int i :: .ref a :: st => match μ.2.2.2.1[a]? with
      | some (t, n) => if t = 102 ∧ ¬ (i < 0 ∨ n ≤ i.toNatClampNeg) then some (ls, .long (μ.2.2.1 a i.toNatClampNeg) :: st, μ) else none
      | none => none
    | _ => none
  | .lastore => match st with
    | .long v :: .int i :: .ref a :: st => match μ.2.2.2.1[a]? with
      | some (t, n) => if t = 102 ∧ ¬ (i < 0 ∨ n ≤ i.toNatClampNeg) then some (ls, st, (μ.1, μ.2.1, mm_up μ.2.2.1 a i.toNatClampNeg v, μ.2.2.2)) else none
      | none => none
    | _ => none
  | .arraylength => match st with
    | .ref a :: st => if a = mm_SC then some (ls, .int (Int32.ofNat G.1) :: st, μ) else match μ.2.2.2.1[a]? with
      | some (t, n) => if t = 100 ∨ t = 101 ∨ t = 102 then some (ls, .int (Int32.ofNat n) :: st, μ) else none
      | none => none
    | _ => none
  | .invokespecial _ => if x.2.1 = 9000 then (match st with
    | .ref _ :: st => if (st.map fun v => v.category).sum ≤ 8 then some (ls, st, μ) else none
    | _ => none) else none
  | .invokevirtual _ => if x.2.1 = 9001 then (match st with
    | .ref a :: st => if mm_SB ≤ a ∧ a - mm_SB < mm_str.length ∧ (st.map fun v => v.category).sum ≤ 8 then some (ls, .int (Int32.ofNat (mm_str.getD (a - mm_SB) []).length) :: st, μ) else none
    | _ => none) else if x.2.1 = 9002 then (match st with
    | .int i :: .ref a :: st => if mm_SB ≤ a ∧ a - mm_SB < mm_str.length ∧ ¬ (i < 0 ∨ (mm_str.getD (a - mm_SB) []).length ≤ i.toNatClampNeg) ∧ (st.map fun v => v.category).sum ≤ 8 then some (ls, .int ((mm_str.getD (a - mm_SB) []).getD i.toNatClampNeg 0) :: st, μ) else none
    | _ => none) else none
  | .invokestatic _ => if x.2.1 = 9003 then (match st with
    | .int n :: .int dp :: .ref b :: .int sp :: .ref a :: st => match μ.2.2.2.1[a]?, μ.2.2.2.1[b]? with
      | some (ta, na), some (tb, nb) => if ta = 100 ∧ tb = 100 ∧ ¬ n < 0 ∧ ¬ sp < 0 ∧ ¬ dp < 0 ∧ sp.toNatClampNeg + n.toNatClampNeg ≤ na ∧ dp.toNatClampNeg + n.toNatClampNeg ≤ nb ∧ (st.map fun v => v.category).sum ≤ 8 then
          some (ls, st, ((fun c => if c = b then va_cpy (μ.1 a) (μ.1 b) sp.toNatClampNeg dp.toNatClampNeg n.toNatClampNeg else μ.1 c), μ.2)) else none
      | _, _ => none
    | _ => none) else if x.2.1 = 9004 then (match st with
    | .int z :: .int w :: st => if (st.map fun v => v.category).sum ≤ 8 then some (ls, .int (if w < z then z else w) :: st, μ) else none
    | _ => none) else if x.2.1 = 9005 then (match st with
    | .int z :: .int w :: st => if (st.map fun v => v.category).sum ≤ 8 then some (ls, .int (if z < w then z else w) :: st, μ) else none
    | _ => none) else if x.2.1 = 9006 then (match st with
    | .long z :: .long w :: st => if (st.map fun v => v.category).sum ≤ 8 then some (ls, .long (if z < w then w else z) :: st, μ) else none
    | _ => none) else none
  | .new _ => if x.2.1 < 9 ∧ st.all (mm_okv μ.2.2.2.1.length) = true ∧ ls.all (mm_okv μ.2.2.2.1.length) = true ∧ mm_okS μ.2.1 μ.2.2.2.1 = true ∧ μ.2.2.2.1.length < 1000 then
      some (ls, .ref μ.2.2.2.1.length :: st, ((fun c => if c = μ.2.2.2.1.length then (fun _ => 0) else μ.1 c), (fun c => if c = μ.2.2.2.1.length then (fun _ => mm_NU) else μ.2.1 c), (fun c => if c = μ.2.2.2.1.length then (fun _ => 0) else μ.2.2.1 c), μ.2.2.2.1 ++ [(x.2.1, (mm_fks.getD x.2.1 []).length)], μ.2.2.2.2.1 + 1, μ.2.2.2.2.2 + (mm_fks.getD x.2.1 []).length)) else none
  | .newarray ty => match st with
    | .int n :: st => if ¬ n < 0 ∧ n.toNatClampNeg ≤ 100000 ∧ st.all (mm_okv μ.2.2.2.1.length) = true ∧ ls.all (mm_okv μ.2.2.2.1.length) = true ∧ mm_okS μ.2.1 μ.2.2.2.1 = true ∧ μ.2.2.2.1.length < 1000 then
      (match newarray.typeOf ty with
      | .int => some (ls, .ref μ.2.2.2.1.length :: st, ((fun c => if c = μ.2.2.2.1.length then (fun _ => 0) else μ.1 c), (fun c => if c = μ.2.2.2.1.length then (fun _ => mm_NU) else μ.2.1 c), (fun c => if c = μ.2.2.2.1.length then (fun _ => 0) else μ.2.2.1 c), μ.2.2.2.1 ++ [(100, n.toNatClampNeg)], μ.2.2.2.2.1 + 1, μ.2.2.2.2.2 + n.toNatClampNeg))
      | .boolean => some (ls, .ref μ.2.2.2.1.length :: st, ((fun c => if c = μ.2.2.2.1.length then (fun _ => 0) else μ.1 c), (fun c => if c = μ.2.2.2.1.length then (fun _ => mm_NU) else μ.2.1 c), (fun c => if c = μ.2.2.2.1.length then (fun _ => 0) else μ.2.2.1 c), μ.2.2.2.1 ++ [(101, n.toNatClampNeg)], μ.2.2.2.2.1 + 1, μ.2.2.2.2.2 + n.toNatClampNeg))
      | .long => some (ls, .ref μ.2.2.2.1.length :: st, ((fun c => if c = μ.2.2.2.1.length then (fun _ => 0) else μ.1 c), (fun c => if c = μ.2.2.2.1.length then (fun _ => mm_NU) else μ.2.1 c), (fun c => if c = μ.2.2.2.1.length then (fun _ => 0) else μ.2.2.1 c), μ.2.2.2.1 ++ [(102, n.toNatClampNeg)], μ.2.2.2.2.1 + 1, μ.2.2.2.2.2 + n.toNatClampNeg))
      | _ => none) else none
    | _ => none
  | _ => none
/-- a jump: some label, or on -/
def mm_jmp (x : mm_I) (st : List Value) : Option (Option Nat × List Value) :=
  match x.1 with
  | .goto _ => some (some x.2.1, st)
  | .ifCond cd _ => match st with
    | .int v :: st => match cd with
      | .eq => if v = 0 then some (some x.2.1, st) else some (none, st)
      | .ne => if ¬ v = 0 then some (some x.2.1, st) else some (none, st)
      | .lt => if v < 0 then some (some x.2.1, st) else some (none, st)
      | .ge => if 0 ≤ v then some (some x.2.1, st) else some (none, st)
      | .gt => if 0 < v then some (some x.2.1, st) else some (none, st)
      | .le => if v ≤ 0 then some (some x.2.1, st) else some (none, st)
    | _ => none
  | .if_icmp cd _ => match st with
    | .int y :: .int v :: st => match cd with
      | .eq => if v = y then some (some x.2.1, st) else some (none, st)
      | .ne => if ¬ v = y then some (some x.2.1, st) else some (none, st)
      | .lt => if v < y then some (some x.2.1, st) else some (none, st)
      | .ge => if y ≤ v then some (some x.2.1, st) else some (none, st)
      | .gt => if y < v then some (some x.2.1, st) else some (none, st)
      | .le => if v ≤ y then some (some x.2.1, st) else some (none, st)
    | _ => none
  | .tableswitch dflt lo hi offs => match st with
    | .int v :: st => if v.toInt < lo ∨ hi < v.toInt then some (some ((x.2.1 : Int) + dflt).toNat, st) else match offs[(v.toInt - lo).toNat]? with
      | some off => some (some ((x.2.1 : Int) + off).toNat, st)
      | none => none
    | _ => none
  | .lookupswitch dflt ps => match st with
    | .int v :: st => some (some ((x.2.1 : Int) + Op.lookupswitch.offset ps.toList dflt v.toInt).toNat, st)
    | _ => none
  | _ => none
/-- an end: the answer -/
def mm_ret (rk : Nat) (x : mm_I) (st : List Value) : Option (Option Value) :=
  match x.1 with
  | .return_ => match st with
    | [] => if rk = 0 then some none else none
    | _ => none
  | .ireturn => match st with
    | [.int v] => if rk = 1 ∨ (rk = 2 ∧ (v = 0 ∨ v = 1)) then some (some (.int v)) else none
    | _ => none
  | .lreturn => match st with
    | [.long v] => if rk = 3 then some (some (.long v)) else none
    | _ => none
  | .areturn => match st with
    | [.ref v] => if rk = 4 then some (some (.ref v)) else none
    | _ => none
  | _ => none
/-- a throw: the kind of the exception -/
def mm_thr (x : mm_I) (st : List Value) : Option Nat :=
  match x.1 with
  | .new _ => if 900 ≤ x.2.1 ∧ x.2.1 < 902 ∧ (st.map fun v => v.category).sum ≤ 8 then some (x.2.1 - 900) else none
  | _ => none
/-- a call: the method, its arguments, what stays on the stack -/
def mm_call (x : mm_I) (st : List Value) (μ : mm_M) : Option (Nat × List Value × List Value) :=
  match x.1 with
  | .invokevirtual _ => if x.2.1 < 9000 ∧ x.2.2.1 ≤ st.length ∧ ((st.drop x.2.2.1).map fun v => v.category).sum ≤ 8 then (match (st.take x.2.2.1).reverse with
      | .ref a :: vs => (match μ.2.2.2.1[a]? with
        | some (ci, _) => if ci = mm_ci x.2.1 ∧ (mm_ent1 (.ref a :: vs)).length ≤ mm_mx x.2.1 then some (x.2.1, .ref a :: vs, st.drop x.2.2.1) else none
        | none => none)
      | _ => none) else none
  | .invokespecial _ => if x.2.1 < 9000 ∧ x.2.2.1 ≤ st.length ∧ ((st.drop x.2.2.1).map fun v => v.category).sum ≤ 8 then (match (st.take x.2.2.1).reverse with
      | .ref a :: vs => if (mm_ent1 (.ref a :: vs)).length ≤ mm_mx x.2.1 then some (x.2.1, .ref a :: vs, st.drop x.2.2.1) else none
      | _ => none) else none
  | .invokestatic _ => if x.2.1 < 9000 ∧ x.2.2.1 ≤ st.length ∧ ((st.drop x.2.2.1).map fun v => v.category).sum ≤ 8 ∧ (mm_ent1 (st.take x.2.2.1).reverse).length ≤ mm_mx x.2.1 then some (x.2.1, (st.take x.2.2.1).reverse, st.drop x.2.2.1) else none
  | _ => none
/-- no new cell has come, or what stays holds none of the addresses between -/
def mm_keep (μ μ1 : mm_M) (ls st : List Value) : Prop := μ1.2.2.2.1.length = μ.2.2.2.1.length ∨ (ls.all (mm_okv μ.2.2.2.1.length) = true ∧ st.all (mm_okv μ.2.2.2.1.length) = true)
def mm_run (G : mm_G) : Nat → Nat → Nat → List mm_I → List Value → List Value → mm_M → Option mm_R
  | 0, _, _, _, _, _, _ => none
  | n + 1, d, k, is, ls, st, μ => match is with
    | [] => none
    | x :: is => match mm_one G x ls st μ with
      | some (ls', st', μ') => mm_run G n d k is ls' st' μ'
      | none => match mm_jmp x st with
        | some (none, st') => mm_run G n d k is ls st' μ
        | some (some t, st') => mm_run G n d k (mm_blk k t) ls st' μ
        | none => match mm_ret (mm_rk k) x st with
          | some r => some (.inl r, μ)
          | none => match mm_thr x st with
            | some E => some (.inr E, (μ.1, μ.2.1, μ.2.2.1, μ.2.2.2.1, μ.2.2.2.2.1 + 1, μ.2.2.2.2.2 + 6))
            | none => match mm_call x st μ with
              | none => none
              | some (kk, args, rest) => match d with
                | 0 => none
                | d + 1 => match mm_run G n d kk (mm_blk kk 0) (mm_ent (mm_mx kk) args) [] μ with
                  | none => none
                  | some (.inl v, μ1) => if μ1.2.2.2.1.length = μ.2.2.2.1.length ∨ (ls.all (mm_okv μ.2.2.2.1.length) = true ∧ rest.all (mm_okv μ.2.2.2.1.length) = true) then mm_run G n (d + 1) k is ls (v.toList ++ rest) μ1 else none
                  | some (.inr E, μ1) => match mm_hd (mm_hs k) x.2.2.2.2.toNatClampNeg E with
                    | none => some (.inr E, μ1)
                    | some h => if ls.all (mm_okv μ.2.2.2.1.length) = true then mm_run G n (d + 1) k (mm_blk k h) ls [.ref mm_XR] μ1 else none
end
section
/-! RUNS OF THE SMALL MACHINE, goal first: mm_Go, and a row an instruction -/
def mm_Go (G : mm_G) (d k : Nat) (is : List mm_I) (ls st : List Value) (μ : mm_M) (r : mm_R) : Prop := ∃ n, mm_run G n d k is ls st μ = some r
def mm_Call (G : mm_G) (d k : Nat) (args : List Value) (μ : mm_M) (r : mm_R) : Prop := mm_Go G d k (mm_blk k 0) (mm_ent (mm_mx k) args) [] μ r
theorem mm_mono (G : mm_G) : ∀ (n d k : Nat) (is : List mm_I) (ls st : List Value) (μ : mm_M) (r : mm_R), mm_run G n d k is ls st μ = some r → ∀ (n' d' : Nat), n ≤ n' → d ≤ d' → mm_run G n' d' k is ls st μ = some r := by
  intro n
  induction n with
  | zero => intro d k is ls st μ r h; simp [mm_run] at h
  | succ n ih =>
    intro d k is ls st μ r h n' d' hn hd
    obtain ⟨n', rfl⟩ : ∃ j, n' = j + 1 := ⟨n' - 1, by omega⟩
    cases is with
    | nil => simp [mm_run] at h
    | cons x is =>
      simp only [mm_run] at h ⊢
      cases h1 : mm_one G x ls st μ with
      | some q => rw [h1] at h; obtain ⟨a, b, c⟩ := q; exact ih _ _ _ _ _ _ _ h _ _ (by omega) hd
      | none =>
        rw [h1] at h
        simp only at h ⊢
        cases h2 : mm_jmp x st with
        | some q =>
          rw [h2] at h
          obtain ⟨o, b⟩ := q
          cases o with
          | none => exact ih _ _ _ _ _ _ _ h _ _ (by omega) hd
          | some t => exact ih _ _ _ _ _ _ _ h _ _ (by omega) hd
        | none =>
          rw [h2] at h
          simp only at h ⊢
          cases h3 : mm_ret (mm_rk k) x st with
          | some q => rw [h3] at h; exact h
          | none =>
            rw [h3] at h
            simp only at h ⊢
            cases h4 : mm_thr x st with
            | some q => rw [h4] at h; exact h
            | none =>
              rw [h4] at h
              simp only at h ⊢
              cases h5 : mm_call x st μ with
              | none => rw [h5] at h; simp at h
              | some q =>
                rw [h5] at h
                obtain ⟨kk, args, rest⟩ := q
                simp only at h ⊢
                cases d with
                | zero => simp at h
                | succ d =>
                  obtain ⟨d', rfl⟩ : ∃ j, d' = j + 1 := ⟨d' - 1, by omega⟩
                  simp only at h ⊢
                  cases h6 : mm_run G n d kk (mm_blk kk 0) (mm_ent (mm_mx kk) args) [] μ with
                  | none => rw [h6] at h; simp at h
                  | some q =>
                    rw [h6] at h
                    rw [ih _ _ _ _ _ _ _ h6 n' d' (by omega) (by omega)]
                    obtain ⟨o, μ1⟩ := q
                    cases o with
                    | inl v =>
                      simp only at h ⊢
                      split at h
                      · rename_i hc; rw [if_pos hc]; exact ih _ _ _ _ _ _ _ h _ _ (by omega) (by omega)
                      · cases h
                    | inr E =>
                      simp only at h ⊢
                      cases h7 : mm_hd (mm_hs k) x.2.2.2.2.toNatClampNeg E with
                      | none => rw [h7] at h; exact h
                      | some t =>
                        rw [h7] at h
                        simp only at h ⊢
                        split at h
                        · rename_i hc; rw [if_pos hc]; exact ih _ _ _ _ _ _ _ h _ _ (by omega) (by omega)
                        · cases h
theorem mm_Go.deep {G : mm_G} {d d' k : Nat} {is : List mm_I} {ls st : List Value} {μ : mm_M} {r : mm_R} (h : mm_Go G d k is ls st μ r) (hd : d ≤ d') : mm_Go G d' k is ls st μ r := by
  obtain ⟨n, hn⟩ := h
  exact ⟨n, mm_mono G n d k is ls st μ r hn n d' (Nat.le_refl _) hd⟩
theorem mm_Call.deep {G : mm_G} {d d' k : Nat} {args : List Value} {μ : mm_M} {r : mm_R} (h : mm_Call G d k args μ r) (hd : d ≤ d') : mm_Call G d' k args μ r := mm_Go.deep h hd
section GO
variable {G : mm_G} {d k : Nat} {is : List mm_I} {ls st : List Value} {μ : mm_M} {r : mm_R} {x : mm_I}
/-- a straight instruction -/
theorem mm_g1 {ls' st' : List Value} {μ' : mm_M} (h : mm_one G x ls st μ = some (ls', st', μ')) (kk : mm_Go G d k is ls' st' μ' r) : mm_Go G d k (x :: is) ls st μ r := by
  obtain ⟨n, hn⟩ := kk
  exact ⟨n + 1, by simp only [mm_run, h]; exact hn⟩
theorem mm_gj (t : Nat) {st' : List Value} (h1 : mm_one G x ls st μ = none) (h : mm_jmp x st = some (some t, st')) (kk : mm_Go G d k (mm_blk k t) ls st' μ r) : mm_Go G d k (x :: is) ls st μ r := by
  obtain ⟨n, hn⟩ := kk
  exact ⟨n + 1, by simp only [mm_run, h1, h]; exact hn⟩
theorem mm_gn {st' : List Value} (h1 : mm_one G x ls st μ = none) (h : mm_jmp x st = some (none, st')) (kk : mm_Go G d k is ls st' μ r) : mm_Go G d k (x :: is) ls st μ r := by
  obtain ⟨n, hn⟩ := kk
  exact ⟨n + 1, by simp only [mm_run, h1, h]; exact hn⟩
theorem mm_gr {v : Option Value} (h1 : mm_one G x ls st μ = none) (h2 : mm_jmp x st = none) (h : mm_ret (mm_rk k) x st = some v) : mm_Go G d k (x :: is) ls st μ (.inl v, μ) := ⟨1, by simp only [mm_run, h1, h2, h]⟩
/-- a jump that is always taken -/
theorem mm_goto {off : Int} {t b w : Nat} {c : Int32} (kk : mm_Go G d k (mm_blk k t) ls st μ r) : mm_Go G d k ((.goto off, t, b, w, c) :: is) ls st μ r := mm_gj t rfl rfl kk
section IF
variable {off : Int} {t b w : Nat} {c v y : Int32}
theorem mm_ifeq (kt : v = 0 → mm_Go G d k (mm_blk k t) ls st μ r) (kf : ¬ v = 0 → mm_Go G d k is ls st μ r) : mm_Go G d k ((.ifCond .eq off, t, b, w, c) :: is) ls (.int v :: st) μ r := by
  by_cases h : v = 0
  · exact mm_gj t rfl (by simp [mm_jmp, h]) (kt h)
  · exact mm_gn rfl (by simp [mm_jmp, h]) (kf h)
theorem mm_ifne (kt : ¬ v = 0 → mm_Go G d k (mm_blk k t) ls st μ r) (kf : v = 0 → mm_Go G d k is ls st μ r) : mm_Go G d k ((.ifCond .ne off, t, b, w, c) :: is) ls (.int v :: st) μ r := by
  by_cases h : v = 0
  · exact mm_gn rfl (by simp [mm_jmp, h]) (kf h)
  · exact mm_gj t rfl (by simp [mm_jmp, h]) (kt h)
theorem mm_iflt (kt : v < 0 → mm_Go G d k (mm_blk k t) ls st μ r) (kf : ¬ v < 0 → mm_Go G d k is ls st μ r) : mm_Go G d k ((.ifCond .lt off, t, b, w, c) :: is) ls (.int v :: st) μ r := by
  by_cases h : v < 0
  · exact mm_gj t rfl (by simp [mm_jmp, h]) (kt h)
  · exact mm_gn rfl (by simp only [mm_jmp, if_neg h]) (kf h)
theorem mm_ifge (kt : 0 ≤ v → mm_Go G d k (mm_blk k t) ls st μ r) (kf : ¬ 0 ≤ v → mm_Go G d k is ls st μ r) : mm_Go G d k ((.ifCond .ge off, t, b, w, c) :: is) ls (.int v :: st) μ r := by
  by_cases h : 0 ≤ v
  · exact mm_gj t rfl (by simp [mm_jmp, h]) (kt h)
  · exact mm_gn rfl (by simp only [mm_jmp, if_neg h]) (kf h)
theorem mm_ifgt (kt : 0 < v → mm_Go G d k (mm_blk k t) ls st μ r) (kf : ¬ 0 < v → mm_Go G d k is ls st μ r) : mm_Go G d k ((.ifCond .gt off, t, b, w, c) :: is) ls (.int v :: st) μ r := by
  by_cases h : 0 < v
  · exact mm_gj t rfl (by simp [mm_jmp, h]) (kt h)
  · exact mm_gn rfl (by simp only [mm_jmp, if_neg h]) (kf h)
theorem mm_ifle (kt : v ≤ 0 → mm_Go G d k (mm_blk k t) ls st μ r) (kf : ¬ v ≤ 0 → mm_Go G d k is ls st μ r) : mm_Go G d k ((.ifCond .le off, t, b, w, c) :: is) ls (.int v :: st) μ r := by
  by_cases h : v ≤ 0
  · exact mm_gj t rfl (by simp [mm_jmp, h]) (kt h)
  · exact mm_gn rfl (by simp only [mm_jmp, if_neg h]) (kf h)
theorem mm_iceq (kt : v = y → mm_Go G d k (mm_blk k t) ls st μ r) (kf : ¬ v = y → mm_Go G d k is ls st μ r) : mm_Go G d k ((.if_icmp .eq off, t, b, w, c) :: is) ls (.int y :: .int v :: st) μ r := by
  by_cases h : v = y
  · exact mm_gj t rfl (by simp [mm_jmp, h]) (kt h)
  · exact mm_gn rfl (by simp [mm_jmp, h]) (kf h)
theorem mm_icne (kt : ¬ v = y → mm_Go G d k (mm_blk k t) ls st μ r) (kf : v = y → mm_Go G d k is ls st μ r) : mm_Go G d k ((.if_icmp .ne off, t, b, w, c) :: is) ls (.int y :: .int v :: st) μ r := by
  by_cases h : v = y
  · exact mm_gn rfl (by simp [mm_jmp, h]) (kf h)
  · exact mm_gj t rfl (by simp [mm_jmp, h]) (kt h)
theorem mm_iclt (kt : v < y → mm_Go G d k (mm_blk k t) ls st μ r) (kf : ¬ v < y → mm_Go G d k is ls st μ r) : mm_Go G d k ((.if_icmp .lt off, t, b, w, c) :: is) ls (.int y :: .int v :: st) μ r := by
  by_cases h : v < y
  · exact mm_gj t rfl (by simp [mm_jmp, h]) (kt h)
  · exact mm_gn rfl (by simp only [mm_jmp, if_neg h]) (kf h)
theorem mm_icge (kt : y ≤ v → mm_Go G d k (mm_blk k t) ls st μ r) (kf : ¬ y ≤ v → mm_Go G d k is ls st μ r) : mm_Go G d k ((.if_icmp .ge off, t, b, w, c) :: is) ls (.int y :: .int v :: st) μ r := by
  by_cases h : y ≤ v
  · exact mm_gj t rfl (by simp [mm_jmp, h]) (kt h)
  · exact mm_gn rfl (by simp only [mm_jmp, if_neg h]) (kf h)
theorem mm_icgt (kt : y < v → mm_Go G d k (mm_blk k t) ls st μ r) (kf : ¬ y < v → mm_Go G d k is ls st μ r) : mm_Go G d k ((.if_icmp .gt off, t, b, w, c) :: is) ls (.int y :: .int v :: st) μ r := by
  by_cases h : y < v
  · exact mm_gj t rfl (by simp [mm_jmp, h]) (kt h)
  · exact mm_gn rfl (by simp only [mm_jmp, if_neg h]) (kf h)
theorem mm_icle (kt : v ≤ y → mm_Go G d k (mm_blk k t) ls st μ r) (kf : ¬ v ≤ y → mm_Go G d k is ls st μ r) : mm_Go G d k ((.if_icmp .le off, t, b, w, c) :: is) ls (.int y :: .int v :: st) μ r := by
  by_cases h : v ≤ y
  · exact mm_gj t rfl (by simp [mm_jmp, h]) (kt h)
  · exact mm_gn rfl (by simp only [mm_jmp, if_neg h]) (kf h)
end IF
section MEM
variable {I : Nat → Nat → Int32} {P : Nat → Nat → Nat} {J : Nat → Nat → Int64} {S : List (Nat × Nat)} {nc ns : Nat} {idx a ci slot w n t b : Nat} {c i v : Int32}
theorem mm_geti (hS : S[a]? = some (ci, n)) (hs : slot < n) (hf : mm_fk ci slot ≤ 1) (kk : mm_Go G d k is ls (.int (I a slot) :: st) (I, P, J, S, nc, ns) r) : mm_Go G d k ((.getfield idx, ci, slot, w, c) :: is) ls (.ref a :: st) (I, P, J, S, nc, ns) r :=
  mm_g1 (by simp [mm_one, hS, hs, hf]) kk
theorem mm_getr {q : Nat} (hS : S[a]? = some (ci, n)) (hs : slot < n) (hf : mm_fk ci slot = 2) (hq : P a slot = q) (hq0 : q ≠ mm_NU) (kk : mm_Go G d k is ls (.ref q :: st) (I, P, J, S, nc, ns) r) : mm_Go G d k ((.getfield idx, ci, slot, w, c) :: is) ls (.ref a :: st) (I, P, J, S, nc, ns) r :=
  mm_g1 (by simp [mm_one, hS, hs, hf, hq, mm_rv, hq0]) kk
theorem mm_getl (hS : S[a]? = some (ci, n)) (hs : slot < n) (hf : mm_fk ci slot = 3) (kk : mm_Go G d k is ls (.long (J a slot) :: st) (I, P, J, S, nc, ns) r) : mm_Go G d k ((.getfield idx, ci, slot, w, c) :: is) ls (.ref a :: st) (I, P, J, S, nc, ns) r :=
  mm_g1 (by simp [mm_one, hS, hs, hf]) kk
theorem mm_puti (hS : S[a]? = some (ci, n)) (hs : slot < n) (hf : mm_fk ci slot = 0) (kk : mm_Go G d k is ls st (mm_up I a slot v, P, J, S, nc, ns) r) : mm_Go G d k ((.putfield idx, ci, slot, w, c) :: is) ls (.int v :: .ref a :: st) (I, P, J, S, nc, ns) r :=
  mm_g1 (by simp [mm_one, hS, hs, hf]) kk
theorem mm_putz (hS : S[a]? = some (ci, n)) (hs : slot < n) (hf : mm_fk ci slot = 1) (hv : v = 0 ∨ v = 1) (kk : mm_Go G d k is ls st (mm_up I a slot v, P, J, S, nc, ns) r) : mm_Go G d k ((.putfield idx, ci, slot, w, c) :: is) ls (.int v :: .ref a :: st) (I, P, J, S, nc, ns) r :=
  mm_g1 (by simp [mm_one, hS, hs, hf, hv]) kk
theorem mm_putr {q : Nat} (hS : S[a]? = some (ci, n)) (hs : slot < n) (hf : mm_fk ci slot = 2) (hq : q ≠ mm_NU) (kk : mm_Go G d k is ls st (I, mm_up P a slot q, J, S, nc, ns) r) : mm_Go G d k ((.putfield idx, ci, slot, w, c) :: is) ls (.ref q :: .ref a :: st) (I, P, J, S, nc, ns) r :=
  mm_g1 (by simp [mm_one, hS, hs, hf, hq]) kk
theorem mm_putl {q : Int64} (hS : S[a]? = some (ci, n)) (hs : slot < n) (hf : mm_fk ci slot = 3) (kk : mm_Go G d k is ls st (I, P, mm_up J a slot q, S, nc, ns) r) : mm_Go G d k ((.putfield idx, ci, slot, w, c) :: is) ls (.long q :: .ref a :: st) (I, P, J, S, nc, ns) r :=
  mm_g1 (by simp [mm_one, hS, hs, hf]) kk
theorem mm_iald (ha : a ≠ mm_SC) (hS : S[a]? = some (100, n)) (hi : mm_ix i n) (kk : mm_Go G d k is ls (.int (I a i.toNatClampNeg) :: st) (I, P, J, S, nc, ns) r) : mm_Go G d k ((.iaload, t, b, w, c) :: is) ls (.int i :: .ref a :: st) (I, P, J, S, nc, ns) r :=
  mm_g1 (by simp only [mm_one, hS, if_neg ha]; rw [if_pos ⟨trivial, hi⟩]) kk
theorem mm_iast (hS : S[a]? = some (100, n)) (hi : mm_ix i n) (kk : mm_Go G d k is ls st (mm_up I a i.toNatClampNeg v, P, J, S, nc, ns) r) : mm_Go G d k ((.iastore, t, b, w, c) :: is) ls (.int v :: .int i :: .ref a :: st) (I, P, J, S, nc, ns) r :=
  mm_g1 (by simp only [mm_one, hS]; rw [if_pos ⟨trivial, hi⟩]) kk
theorem mm_zald (hS : S[a]? = some (101, n)) (hi : mm_ix i n) (kk : mm_Go G d k is ls (.int (I a i.toNatClampNeg) :: st) (I, P, J, S, nc, ns) r) : mm_Go G d k ((.baload, t, b, w, c) :: is) ls (.int i :: .ref a :: st) (I, P, J, S, nc, ns) r :=
  mm_g1 (by simp only [mm_one, hS]; rw [if_pos ⟨trivial, hi⟩]) kk
theorem mm_zast (hS : S[a]? = some (101, n)) (hi : mm_ix i n) (hv : v = 0 ∨ v = 1) (kk : mm_Go G d k is ls st (mm_up I a i.toNatClampNeg v, P, J, S, nc, ns) r) : mm_Go G d k ((.bastore, t, b, w, c) :: is) ls (.int v :: .int i :: .ref a :: st) (I, P, J, S, nc, ns) r :=
  mm_g1 (by simp only [mm_one, hS]; rw [if_pos ⟨trivial, hi, hv⟩]) kk
theorem mm_lald (hS : S[a]? = some (102, n)) (hi : mm_ix i n) (kk : mm_Go G d k is ls (.long (J a i.toNatClampNeg) :: st) (I, P, J, S, nc, ns) r) : mm_Go G d k ((.laload, t, b, w, c) :: is) ls (.int i :: .ref a :: st) (I, P, J, S, nc, ns) r :=
  mm_g1 (by simp only [mm_one, hS]; rw [if_pos ⟨trivial, hi⟩]) kk
theorem mm_last {q : Int64} (hS : S[a]? = some (102, n)) (hi : mm_ix i n) (kk : mm_Go G d k is ls st (I, P, mm_up J a i.toNatClampNeg q, S, nc, ns) r) : mm_Go G d k ((.lastore, t, b, w, c) :: is) ls (.long q :: .int i :: .ref a :: st) (I, P, J, S, nc, ns) r :=
  mm_g1 (by simp only [mm_one, hS]; rw [if_pos ⟨trivial, hi⟩]) kk
theorem mm_alen (ha : a ≠ mm_SC) (hS : S[a]? = some (t, n)) (ht : t = 100 ∨ t = 101 ∨ t = 102) {x1 x2 x3 : Nat} (kk : mm_Go G d k is ls (.int (Int32.ofNat n) :: st) (I, P, J, S, nc, ns) r) : mm_Go G d k ((.arraylength, x1, x2, x3, c) :: is) ls (.ref a :: st) (I, P, J, S, nc, ns) r :=
  mm_g1 (by simp only [mm_one, hS, if_neg ha, if_pos ht]) kk
theorem mm_sald (hi : mm_ix i G.1) (kk : mm_Go G d k is ls (.int (G.2 i.toNatClampNeg) :: st) μ r) : mm_Go G d k ((.iaload, t, b, w, c) :: is) ls (.int i :: .ref mm_SC :: st) μ r :=
  mm_g1 (by simp only [mm_one, if_true]; rw [if_neg hi]) kk
theorem mm_div (hy : ¬ v = 0) (kk : mm_Go G d k is ls (.int (i / v) :: st) μ r) : mm_Go G d k ((.idiv, t, b, w, c) :: is) ls (.int v :: .int i :: st) μ r :=
  mm_g1 (by simp only [mm_one, if_neg hy]) kk
theorem mm_rem (hy : ¬ v = 0) (kk : mm_Go G d k is ls (.int (i - i / v * v) :: st) μ r) : mm_Go G d k ((.irem, t, b, w, c) :: is) ls (.int v :: .int i :: st) μ r :=
  mm_g1 (by simp only [mm_one, if_neg hy]) kk
theorem mm_cpy {sp dp q : Int32} {a2 n2 : Nat} (hS : S[a]? = some (100, n)) (hS2 : S[a2]? = some (100, n2)) (h1 : ¬ q < 0) (h2 : ¬ sp < 0) (h3 : ¬ dp < 0) (h4 : sp.toNatClampNeg + q.toNatClampNeg ≤ n) (h5 : dp.toNatClampNeg + q.toNatClampNeg ≤ n2) (h6 : (st.map fun v => v.category).sum ≤ 8)
    (kk : mm_Go G d k is ls st ((fun c => if c = a2 then va_cpy (I a) (I a2) sp.toNatClampNeg dp.toNatClampNeg q.toNatClampNeg else I c), P, J, S, nc, ns) r) : mm_Go G d k ((.invokestatic idx, 9003, b, w, c) :: is) ls (.int q :: .int dp :: .ref a2 :: .int sp :: .ref a :: st) (I, P, J, S, nc, ns) r :=
  mm_g1 (by simp only [mm_one, hS, hS2, if_true]; rw [if_pos ⟨trivial, trivial, h1, h2, h3, h4, h5, h6⟩]) kk
end MEM
section CALL
variable {idx kk nA w : Nat} {c : Int32} {v : Option Value} {μ1 : mm_M}
theorem mm_cret {args rest : List Value} (h1 : mm_one G x ls st μ = none) (h2 : mm_jmp x st = none) (h3 : mm_ret (mm_rk k) x st = none) (h4 : mm_thr x st = none) (h5 : mm_call x st μ = some (kk, args, rest)) (hc : mm_Call G d kk args μ (.inl v, μ1)) (hk : μ1.2.2.2.1.length = μ.2.2.2.1.length ∨ (ls.all (mm_okv μ.2.2.2.1.length) = true ∧ rest.all (mm_okv μ.2.2.2.1.length) = true)) (kk2 : mm_Go G (d + 1) k is ls (v.toList ++ rest) μ1 r) : mm_Go G (d + 1) k (x :: is) ls st μ r := by
  obtain ⟨n1, e1⟩ := hc
  obtain ⟨n2, e2⟩ := kk2
  refine ⟨max n1 n2 + 1, ?_⟩
  simp only [mm_run, h1, h2, h3, h4, h5]
  rw [mm_mono G _ _ _ _ _ _ _ _ e1 (max n1 n2) d (Nat.le_max_left _ _) (Nat.le_refl _)]
  simp only
  rw [if_pos hk]
  exact mm_mono G _ _ _ _ _ _ _ _ e2 (max n1 n2) (d + 1) (Nat.le_max_right _ _) (Nat.le_refl _)
/-- the callee throws, nobody here catches -/
theorem mm_cthr {args rest : List Value} {E : Nat} (h1 : mm_one G x ls st μ = none) (h2 : mm_jmp x st = none) (h3 : mm_ret (mm_rk k) x st = none) (h4 : mm_thr x st = none) (h5 : mm_call x st μ = some (kk, args, rest)) (hc : mm_Call G d kk args μ (.inr E, μ1)) (hh : mm_hd (mm_hs k) x.2.2.2.2.toNatClampNeg E = none) : mm_Go G (d + 1) k (x :: is) ls st μ (.inr E, μ1) := by
  obtain ⟨n1, e1⟩ := hc
  exact ⟨n1 + 1, by simp only [mm_run, h1, h2, h3, h4, h5, e1, hh]⟩
theorem mm_ccat {args rest : List Value} {E h : Nat} (h1 : mm_one G x ls st μ = none) (h2 : mm_jmp x st = none) (h3 : mm_ret (mm_rk k) x st = none) (h4 : mm_thr x st = none) (h5 : mm_call x st μ = some (kk, args, rest)) (hc : mm_Call G d kk args μ (.inr E, μ1)) (hh : mm_hd (mm_hs k) x.2.2.2.2.toNatClampNeg E = some h) (hk : ls.all (mm_okv μ.2.2.2.1.length) = true) (kk2 : mm_Go G (d + 1) k (mm_blk k h) ls [.ref mm_XR] μ1 r) : mm_Go G (d + 1) k (x :: is) ls st μ r := by
  obtain ⟨n1, e1⟩ := hc
  obtain ⟨n2, e2⟩ := kk2
  refine ⟨max n1 n2 + 1, ?_⟩
  simp only [mm_run, h1, h2, h3, h4, h5]
  rw [mm_mono G _ _ _ _ _ _ _ _ e1 (max n1 n2) d (Nat.le_max_left _ _) (Nat.le_refl _)]
  simp only [hh]
  rw [if_pos hk]
  exact mm_mono G _ _ _ _ _ _ _ _ e2 (max n1 n2) (d + 1) (Nat.le_max_right _ _) (Nat.le_refl _)
theorem mm_thrw {E : Nat} (h1 : mm_one G x ls st μ = none) (h2 : mm_jmp x st = none) (h3 : mm_ret (mm_rk k) x st = none) (h4 : mm_thr x st = some E) : mm_Go G d k (x :: is) ls st μ (.inr E, (μ.1, μ.2.1, μ.2.2.1, μ.2.2.2.1, μ.2.2.2.2.1 + 1, μ.2.2.2.2.2 + 6)) := ⟨1, by simp only [mm_run, h1, h2, h3, h4]⟩
/-- a static call -/
theorem mm_cs {args rest : List Value} (hl : idx = idx) (h5 : mm_call (.invokestatic idx, kk, nA, w, c) st μ = some (kk, args, rest)) (hc : mm_Call G d kk args μ (.inl v, μ1)) (hk : μ1.2.2.2.1.length = μ.2.2.2.1.length) (h9 : kk < 9000) (kk2 : mm_Go G (d + 1) k is ls (v.toList ++ rest) μ1 r) : mm_Go G (d + 1) k ((.invokestatic idx, kk, nA, w, c) :: is) ls st μ r :=
  mm_cret (by simp only [mm_one]; rw [if_neg (by omega), if_neg (by omega), if_neg (by omega), if_neg (by omega)]) rfl rfl rfl h5 hc (Or.inl hk) kk2
theorem mm_cv {args rest : List Value} (h5 : mm_call (.invokevirtual idx, kk, nA, w, c) st μ = some (kk, args, rest)) (hc : mm_Call G d kk args μ (.inl v, μ1)) (hk : μ1.2.2.2.1.length = μ.2.2.2.1.length) (h9 : kk < 9000) (kk2 : mm_Go G (d + 1) k is ls (v.toList ++ rest) μ1 r) : mm_Go G (d + 1) k ((.invokevirtual idx, kk, nA, w, c) :: is) ls st μ r :=
  mm_cret (by simp only [mm_one]; rw [if_neg (by omega), if_neg (by omega)]) rfl rfl rfl h5 hc (Or.inl hk) kk2
end CALL
end GO
end
section
/-! THE WORLD OF A SMALL MEMORY on the machine's heap: addresses by σ, the array classes by kA -/
def mm_tr (σ : Nat → Nat) (v : Value) : Value := match v with
  | .ref a => .ref (σ a)
  | v => v
def mm_fv (σ : Nat → Nat) (f : Nat) (i : Int32) (p : Nat) (j : Int64) : Value := if f ≤ 1 then .int i else if f = 2 then mm_tr σ (mm_rv p) else .long j
def mm_cell (σ : Nat → Nat) (kA : Nat → ClassId) (μ : mm_M) (k : Nat) (q : Nat × Nat) : va_E :=
  if q.1 = 100 ∨ q.1 = 101 then .inl (kA q.1, q.2, .inl (μ.1 k)) else if q.1 = 102 then .inl (kA 102, q.2, .inr (.inl (μ.2.2.1 k)))
  else .inr (q.1, (List.range q.2).map (fun i => mm_fv σ (mm_fk q.1 i) (μ.1 k i) (μ.2.1 k i) (μ.2.2.1 k i)))
def mm_wld (σ : Nat → Nat) (kA : Nat → ClassId) (μ : mm_M) : va_W := μ.2.2.2.1.mapIdx (fun k q => (σ k, mm_cell σ kA μ k q))
theorem mm_wld_get (σ : Nat → Nat) (kA : Nat → ClassId) (μ : mm_M) (a : Nat) : (mm_wld σ kA μ)[a]? = (μ.2.2.2.1[a]?).map (fun q => (σ a, mm_cell σ kA μ a q)) := by
  simp [mm_wld]
theorem mm_wld_at {σ : Nat → Nat} {kA : Nat → ClassId} {μ : mm_M} {a : Nat} {q : Nat × Nat} (h : μ.2.2.2.1[a]? = some q) : (mm_wld σ kA μ)[a]? = some (σ a, mm_cell σ kA μ a q) := by
  rw [mm_wld_get, h]; rfl
theorem mm_cat_tr (σ : Nat → Nat) (v : Value) : (mm_tr σ v).category = v.category := by cases v <;> rfl
theorem mm_cats_tr (σ : Nat → Nat) (st : List Value) : ((st.map (mm_tr σ)).map fun v => v.category) = st.map fun v => v.category := by
  simp [List.map_map, Function.comp_def, mm_cat_tr]
/-- a place of an int array is written -/
theorem mm_wld_seti {σ : Nat → Nat} {kA : Nat → ClassId} {I : Nat → Nat → Int32} {P : Nat → Nat → Nat} {J : Nat → Nat → Int64} {S : List (Nat × Nat)} {nc ns a t n i : Nat} {v : Int32} (h : S[a]? = some (t, n)) (ht : t = 100 ∨ t = 101) :
    (mm_wld σ kA (I, P, J, S, nc, ns)).set a (σ a, .inl (kA t, n, .inl (upd (I a) i v))) = mm_wld σ kA (mm_up I a i v, P, J, S, nc, ns) := by
  apply List.ext_getElem?
  intro b
  have hl : a < S.length := (List.getElem?_eq_some_iff.mp h).1
  rw [List.getElem?_set]
  by_cases hb : a = b
  · subst hb
    rw [if_pos rfl, if_pos (by simpa [mm_wld] using hl), mm_wld_at (μ := (mm_up I a i v, P, J, S, nc, ns)) h]
    simp only [mm_cell, if_pos ht]
    congr 6
    funext j
    simp [upd, mm_up]
  · rw [if_neg hb, mm_wld_get, mm_wld_get]
    congr 1
    funext q
    have e : mm_up I a i v b = I b := by funext j; simp [mm_up, Ne.symm hb]
    simp only [mm_cell, e]
/-- a place of a long array is written -/
theorem mm_wld_setl {σ : Nat → Nat} {kA : Nat → ClassId} {I : Nat → Nat → Int32} {P : Nat → Nat → Nat} {J : Nat → Nat → Int64} {S : List (Nat × Nat)} {nc ns a n i : Nat} {v : Int64} (h : S[a]? = some (102, n)) :
    (mm_wld σ kA (I, P, J, S, nc, ns)).set a (σ a, .inl (kA 102, n, .inr (.inl (vp_updL (J a) i v)))) = mm_wld σ kA (I, P, mm_up J a i v, S, nc, ns) := by
  apply List.ext_getElem?
  intro b
  have hl : a < S.length := (List.getElem?_eq_some_iff.mp h).1
  rw [List.getElem?_set]
  by_cases hb : a = b
  · subst hb
    rw [if_pos rfl, if_pos (by simpa [mm_wld] using hl), mm_wld_at (μ := (I, P, mm_up J a i v, S, nc, ns)) h]
    simp only [mm_cell]
    rw [if_neg (by decide), if_pos trivial]
    congr 7
    funext j
    simp [vp_updL, mm_up]
  · rw [if_neg hb, mm_wld_get, mm_wld_get]
    congr 1
    funext q
    have e : mm_up J a i v b = J b := by funext j; simp [mm_up, Ne.symm hb]
    simp only [mm_cell, e]
/-- a whole int array is written -/
theorem mm_wld_seta {σ : Nat → Nat} {kA : Nat → ClassId} {I : Nat → Nat → Int32} {P : Nat → Nat → Nat} {J : Nat → Nat → Int64} {S : List (Nat × Nat)} {nc ns a t n : Nat} {f : Nat → Int32} (h : S[a]? = some (t, n)) (ht : t = 100 ∨ t = 101) :
    (mm_wld σ kA (I, P, J, S, nc, ns)).set a (σ a, .inl (kA t, n, .inl f)) = mm_wld σ kA ((fun c => if c = a then f else I c), P, J, S, nc, ns) := by
  apply List.ext_getElem?
  intro b
  have hl : a < S.length := (List.getElem?_eq_some_iff.mp h).1
  rw [List.getElem?_set]
  by_cases hb : a = b
  · subst hb
    rw [if_pos rfl, if_pos (by simpa [mm_wld] using hl), mm_wld_at (μ := (_, P, J, S, nc, ns)) h]
    simp only [mm_cell, if_pos ht, if_true]
  · rw [if_neg hb, mm_wld_get, mm_wld_get]
    congr 1
    funext q
    simp only [mm_cell, if_neg (Ne.symm hb)]
/-- the fields of an object, one written -/
theorem mm_fs_set {N k : Nat} {f g : Nat → Value} {v : Value} (hk : k < N) (hv : g k = v) (ho : ∀ j, j ≠ k → g j = f j) : ((List.range N).map f).set k v = (List.range N).map g := by
  apply List.ext_getElem?
  intro b
  rw [List.getElem?_set]
  by_cases hb : k = b
  · subst hb
    simp [hk, hv]
  · rw [if_neg hb]
    by_cases hN : b < N
    · simp [hN, ho b (Ne.symm hb)]
    · simp [hN]
theorem mm_wld_setf {σ : Nat → Nat} {kA : Nat → ClassId} {μ μ' : mm_M} {a ci n k : Nat} {v : Value} (hS : μ'.2.2.2.1 = μ.2.2.2.1) (h : μ.2.2.2.1[a]? = some (ci, n)) (hc : ci < 100) (hk : k < n)
    (hv : mm_fv σ (mm_fk ci k) (μ'.1 a k) (μ'.2.1 a k) (μ'.2.2.1 a k) = v) (ho : ∀ j, j ≠ k → μ'.1 a j = μ.1 a j ∧ μ'.2.1 a j = μ.2.1 a j ∧ μ'.2.2.1 a j = μ.2.2.1 a j) (hb : ∀ b, b ≠ a → μ'.1 b = μ.1 b ∧ μ'.2.1 b = μ.2.1 b ∧ μ'.2.2.1 b = μ.2.2.1 b) :
    (mm_wld σ kA μ).set a (σ a, .inr (ci, ((List.range n).map (fun i => mm_fv σ (mm_fk ci i) (μ.1 a i) (μ.2.1 a i) (μ.2.2.1 a i))).set k v)) = mm_wld σ kA μ' := by
  apply List.ext_getElem?
  intro b
  have hl : a < μ.2.2.2.1.length := (List.getElem?_eq_some_iff.mp h).1
  rw [List.getElem?_set]
  by_cases hb' : a = b
  · subst hb'
    rw [if_pos rfl, if_pos (by simpa [mm_wld] using hl), mm_wld_at (μ := μ') (by rw [hS]; exact h)]
    simp only [mm_cell]
    rw [if_neg (by omega), if_neg (by omega)]
    congr 4
    exact mm_fs_set hk hv (fun j hj => by obtain ⟨h1, h2, h3⟩ := ho j hj; simp only [h1, h2, h3])
  · rw [if_neg hb', mm_wld_get, mm_wld_get, hS]
    congr 1
    funext q
    obtain ⟨h1, h2, h3⟩ := hb b (Ne.symm hb')
    simp only [mm_cell, h1, h2, h3]
/-- addresses that no new cell takes -/
def mm_ag (n : Nat) (σ σ' : Nat → Nat) : Prop := ∀ a, a < n ∨ mm_SC ≤ a → σ' a = σ a
theorem mm_ag.rf {n : Nat} {σ : Nat → Nat} : mm_ag n σ σ := fun _ _ => rfl
theorem mm_ag.tr {n n' : Nat} {σ σ' σ'' : Nat → Nat} (h : mm_ag n σ σ') (h' : mm_ag n' σ' σ'') (hn : n ≤ n') : mm_ag n σ σ'' := fun a ha => by
  rw [h' a (by omega), h a ha]
theorem mm_tr_ok {n : Nat} {σ σ' : Nat → Nat} (h : mm_ag n σ σ') {v : Value} (hv : mm_okv n v = true) : mm_tr σ' v = mm_tr σ v := by
  cases v with
  | ref a =>
    simp only [mm_okv, Bool.or_eq_true, decide_eq_true_eq] at hv
    simp only [mm_tr, h a hv]
  | _ => rfl
theorem mm_trs_ok {n : Nat} {σ σ' : Nat → Nat} (h : mm_ag n σ σ') {st : List Value} (hv : st.all (mm_okv n) = true) : st.map (mm_tr σ') = st.map (mm_tr σ) := by
  apply List.map_congr_left
  intro v hm
  exact mm_tr_ok h (List.all_eq_true.mp hv v hm)
/-! ===== locals ===== -/
def mm_LV (σ : Nat → Nat) (ls : List Value) (lj : Array Slot) : Prop := lj.size = ls.length ∧ lv_wf lj ∧ ∀ (i : Nat) (v : Value), ls[i]? = some v → v ≠ .null → lj[i]? = some (.val (mm_tr σ v))
def mm_as (σ : Nat → Nat) (ls : List Value) : List (Nat × Value) := (List.range ls.length).filterMap fun i => match ls[i]? with
  | some v => if v = .null then none else some (i, mm_tr σ v)
  | none => none
theorem mm_as_mem {σ : Nat → Nat} {ls : List Value} {q : Nat × Value} : q ∈ mm_as σ ls ↔ ∃ v, ls[q.1]? = some v ∧ v ≠ .null ∧ q.2 = mm_tr σ v := by
  constructor
  · intro h
    obtain ⟨i, -, hi⟩ := List.mem_filterMap.mp h
    split at hi
    · rename_i v hv
      split at hi
      · cases hi
      · rename_i hn
        cases hi
        exact ⟨v, hv, hn, rfl⟩
    · cases hi
  · rintro ⟨v, h1, h2, h3⟩
    refine List.mem_filterMap.mpr ⟨q.1, List.mem_range.mpr (List.getElem?_eq_some_iff.mp h1).1, ?_⟩
    rw [h1]
    simp only [if_neg h2]
    rw [← h3]
theorem mm_LV.has {σ : Nat → Nat} {ls : List Value} {lj : Array Slot} (h : mm_LV σ ls lj) : lv_has lj ls.length (mm_as σ ls) :=
  ⟨h.1, h.2.1, fun q hq => by obtain ⟨v, h1, h2, h3⟩ := mm_as_mem.mp hq; rw [h3]; exact h.2.2 _ _ h1 h2⟩
theorem mm_kill_len (i : Nat) (ls : List Value) : (mm_kill i ls).length = ls.length := by
  unfold mm_kill
  split
  · rfl
  · split
    · split <;> simp
    · rfl
theorem mm_kill_get {i j : Nat} {ls : List Value} {v : Value} (h : (mm_kill i ls)[j]? = some v) (hv : v ≠ .null) : ls[j]? = some v ∧ ¬ (j + 1 = i ∧ v.category = 2) := by
  unfold mm_kill at h
  split at h
  · exact ⟨h, by omega⟩
  · rename_i _ i'
    split at h
    · rename_i w hw
      split at h
      · rename_i hc
        rw [List.getElem?_set] at h
        split at h
        · split at h
          · cases h; exact absurd rfl hv
          · cases h
        · rename_i hne
          exact ⟨h, by omega⟩
      · rename_i hc
        refine ⟨h, fun ⟨e, hc2⟩ => hc ?_⟩
        have e2 : j = i' := by omega
        subst e2
        rw [hw] at h
        cases h
        exact hc2
    · rename_i hw
      refine ⟨h, fun ⟨e, hc2⟩ => ?_⟩
      have e2 : j = i' := by omega
      subst e2
      rw [hw] at h
      cases h
theorem mm_LV.st1 {σ : Nat → Nat} {ls : List Value} {i : Nat} {v : Value} {lj' : Array Slot} (h' : lv_has lj' ls.length ((i, mm_tr σ v) :: (mm_as σ ls).filter (fun q => !(q.1 == i) && !(q.1 + 1 == i && q.2.category == 2)))) : mm_LV σ (mm_s1 i v ls) lj' := by
  refine ⟨by rw [h'.1]; simp [mm_s1, mm_kill_len], h'.2.1, fun j w hj hw => ?_⟩
  unfold mm_s1 at hj
  rw [List.getElem?_set] at hj
  split at hj
  · rename_i e
    subst e
    split at hj
    · cases hj
      exact h'.2.2 _ List.mem_cons_self
    · cases hj
  · rename_i hne
    obtain ⟨h1, h2⟩ := mm_kill_get hj hw
    refine h'.2.2 (j, mm_tr σ w) (List.mem_cons_of_mem _ (List.mem_filter.mpr ⟨mm_as_mem.mpr ⟨w, h1, hw, rfl⟩, ?_⟩))
    simp only [Bool.and_eq_true, Bool.not_eq_true', beq_eq_false_iff_ne, Bool.and_eq_false_iff, mm_cat_tr]
    exact ⟨fun e => hne e.symm, by
      by_cases e : j + 1 = i
      · exact Or.inr (fun hc => h2 ⟨e, hc⟩)
      · exact Or.inl e⟩
theorem mm_LV.st2 {σ : Nat → Nat} {ls : List Value} {i : Nat} {v : Value} {lj' : Array Slot} (h' : lv_has lj' ls.length ((i, mm_tr σ v) :: (mm_as σ ls).filter (fun q => !(q.1 == i) && (!(q.1 == i + 1) && !(q.1 + 1 == i && q.2.category == 2))))) : mm_LV σ (mm_s2 i v ls) lj' := by
  refine ⟨by rw [h'.1]; simp [mm_s2, mm_kill_len], h'.2.1, fun j w hj hw => ?_⟩
  unfold mm_s2 at hj
  rw [List.getElem?_set] at hj
  split at hj
  · split at hj
    · cases hj; exact absurd rfl hw
    · cases hj
  · rename_i hne1
    rw [List.getElem?_set] at hj
    split at hj
    · rename_i e
      subst e
      split at hj
      · cases hj
        exact h'.2.2 _ List.mem_cons_self
      · cases hj
    · rename_i hne
      obtain ⟨h1, h2⟩ := mm_kill_get hj hw
      refine h'.2.2 (j, mm_tr σ w) (List.mem_cons_of_mem _ (List.mem_filter.mpr ⟨mm_as_mem.mpr ⟨w, h1, hw, rfl⟩, ?_⟩))
      simp only [Bool.and_eq_true, Bool.not_eq_true', beq_eq_false_iff_ne, Bool.and_eq_false_iff, mm_cat_tr]
      exact ⟨fun e => hne e.symm, fun e => hne1 e.symm, by
        by_cases e : j + 1 = i
        · exact Or.inr (fun hc => h2 ⟨e, hc⟩)
        · exact Or.inl e⟩
theorem mm_LV.re {n : Nat} {σ σ' : Nat → Nat} {ls : List Value} {lj : Array Slot} (h : mm_LV σ ls lj) (ha : mm_ag n σ σ') (hk : ls.all (mm_okv n) = true) : mm_LV σ' ls lj :=
  ⟨h.1, h.2.1, fun i v h1 h2 => by
    rw [mm_tr_ok ha (List.all_eq_true.mp hk v (List.mem_of_getElem? h1))]
    exact h.2.2 i v h1 h2⟩
theorem mm_ent1_len (vs : List Value) : (mm_ent1 vs).length = (lg_sl vs).length := by
  induction vs with
  | nil => rfl
  | cons v vs ih =>
    simp only [mm_ent1, lg_sl, List.flatMap_cons, List.length_append] at ih ⊢
    split <;> simp [ih, lg_sl] <;> omega
theorem mm_ent1_get (vs : List Value) : ∀ (b i : Nat) (v : Value), (mm_ent1 vs)[i]? = some v → v ≠ .null → (b + i, v) ∈ lv_args b vs := by
  induction vs with
  | nil => intro b i v h; simp [mm_ent1] at h
  | cons w vs ih =>
    intro b i v h hv
    simp only [mm_ent1] at h
    simp only [lv_args]
    split at h
    · rename_i hc
      match i, h with
      | 0, h => cases h; exact List.mem_cons_self
      | 1, h => cases h; exact absurd rfl hv
      | i + 2, h =>
        refine List.mem_cons_of_mem _ ?_
        rw [if_pos hc]
        have := ih (b + 2) i v (by simpa using h) hv
        rwa [show b + 2 + i = b + (i + 2) by omega] at this
    · rename_i hc
      match i, h with
      | 0, h => cases h; exact List.mem_cons_self
      | i + 1, h =>
        refine List.mem_cons_of_mem _ ?_
        rw [if_neg hc]
        have := ih (b + 1) i v (by simpa using h) hv
        rwa [show b + 1 + i = b + (i + 1) by omega] at this
theorem mm_args_map (σ : Nat → Nat) (vs : List Value) : ∀ b, lv_args b (vs.map (mm_tr σ)) = (lv_args b vs).map (fun q => (q.1, mm_tr σ q.2)) := by
  induction vs with
  | nil => intro b; rfl
  | cons v vs ih => intro b; simp only [List.map_cons, lv_args, mm_cat_tr, ih]
theorem mm_sl_len (σ : Nat → Nat) (vs : List Value) : (lg_sl (vs.map (mm_tr σ))).length = (lg_sl vs).length := by
  induction vs with
  | nil => rfl
  | cons v vs ih =>
    simp only [lg_sl, List.map_cons, List.flatMap_cons, List.length_append, mm_cat_tr] at ih ⊢
    rw [ih]
    split <;> rfl
/-- the locals at a method's entry -/
theorem mm_LV.entry {σ : Nat → Nat} {args : List Value} {mx : Nat} (h : (mm_ent1 args).length ≤ mx) {lj : Array Slot} (hl : lv_has lj mx (lv_args 0 (args.map (mm_tr σ)))) : mm_LV σ (mm_ent mx args) lj := by
  refine ⟨by rw [hl.1]; simp [mm_ent]; omega, hl.2.1, fun i v hi hv => ?_⟩
  unfold mm_ent at hi
  rw [List.getElem?_append] at hi
  split at hi
  · refine hl.2.2 (i, mm_tr σ v) ?_
    rw [mm_args_map]
    have := mm_ent1_get args 0 i v hi hv
    rw [Nat.zero_add] at this
    exact List.mem_map.mpr ⟨_, this, rfl⟩
  · have := List.eq_of_mem_replicate (List.mem_of_getElem? hi)
    exact absurd this hv
end
section
/-! THE MACHINE FOLLOWS THE SMALL ONE: instructions on locals and stack alone, jumps -/
def mm_len (i : Instr) : Nat := match i with
  | .bipush _ => 2
  | .sipush _ => 3
  | .iload _ => 2
  | .lload _ => 2
  | .aload _ => 2
  | .istore _ => 2
  | .lstore _ => 2
  | .astore _ => 2
  | .iinc _ _ => 3
  | .ldc _ => 2
  | .ldc_w _ => 3
  | .ldc2_w _ => 3
  | .getfield _ => 3
  | .putfield _ => 3
  | .invokevirtual _ => 3
  | .invokespecial _ => 3
  | .invokestatic _ => 3
  | .new _ => 3
  | .newarray _ => 2
  | .goto _ => 3
  | .ifCond _ _ => 3
  | .if_icmp _ _ => 3
  | _ => 1
/-- no memory, no link is needed -/
def mm_isP (i : Instr) : Bool := match i with
  | .iconst _ | .bipush _ | .sipush _ | .lconst _ | .iload _ | .iload_n _ | .lload _ | .lload_n _ | .aload _ | .aload_n _ | .istore _ | .istore_n _ | .astore _ | .astore_n _ | .lstore _ | .lstore_n _ | .iinc _ _
  | .iadd | .isub | .imul | .idiv | .irem | .ineg | .iand | .ior | .ixor | .ishl | .ishr | .iushr | .ladd | .lsub | .lor | .lshl | .lcmp | .i2l | .l2i | .dup | .pop | .dup2 => true
  | _ => false
section PU
variable {p : Program} {l : Launch} {e : Env} {R : Room} {s : State} {m : MethodId} {args : Array Value} {below : List Frame} {meth : Method} {c : Code} {H : Heap} {locs : List Loc} {cells slots : Nat} {Q : State → Prop}
variable {cc : ByteArray} {pc : Nat} {lj : Array Slot} {σ : Nat → Nat}
set_option maxHeartbeats 4000000 in
theorem mm_sp {G : mm_G} {x : mm_I} {ls st ls' st' : List Value} {μ μ' : mm_M} (hx : p.tables.exec = Jvm.exec) (hb : c.code = cc) (hi : mm_isP x.1 = true) (h : mm_one G x ls st μ = some (ls', st', μ')) (hd : decode cc pc = .ok (x.1, mm_len x.1)) (hl : mm_LV σ ls lj)
    (kk : ∀ lj' : Array Slot, mm_LV σ ls' lj' → μ' = μ → W p l e R s m args below meth c H locs cells slots Q (F0 m (pc + mm_len x.1) lj' (st'.map (mm_tr σ)))) : W p l e R s m args below meth c H locs cells slots Q (F0 m pc lj (st.map (mm_tr σ))) := by
  obtain ⟨i, x1, x2, x3, x4⟩ := x
  cases i <;> (first | (exfalso; simp only [mm_isP] at hi; cases hi; done) | skip)
  case iconst n =>
    simp only [mm_one] at h; cases h
    exact lv_iconst hx hb hd rfl (kk lj hl rfl)
  case bipush n =>
    simp only [mm_one] at h; cases h
    exact lv_bipush hx hb hd rfl (kk lj hl rfl)
  case sipush n =>
    simp only [mm_one] at h; cases h
    exact lv_sipush hx hb hd rfl (kk lj hl rfl)
  case lconst n =>
    simp only [mm_one] at h; cases h
    exact lv_lconst hx hb hd rfl (kk lj hl rfl)
  case iload i =>
    simp only [mm_one] at h
    split at h
    · rename_i v hv; cases h
      exact lv_iload hx hb hd (hl.2.2 _ _ hv (by simp)) (kk lj hl rfl)
    · cases h
  case iload_n i =>
    simp only [mm_one] at h
    split at h
    · rename_i v hv; cases h
      exact lv_iload_n hx hb hd rfl (hl.2.2 _ _ hv (by simp)) (kk lj hl rfl)
    · cases h
  case lload i =>
    simp only [mm_one] at h
    split at h
    · rename_i v hv; cases h
      exact lv_lload hx hb hd (hl.2.2 _ _ hv (by simp)) (kk lj hl rfl)
    · cases h
  case lload_n i =>
    simp only [mm_one] at h
    split at h
    · rename_i v hv; cases h
      exact lv_lload_n hx hb hd rfl (hl.2.2 _ _ hv (by simp)) (kk lj hl rfl)
    · cases h
  case aload i =>
    simp only [mm_one] at h
    split at h
    · rename_i v hv; cases h
      exact lv_aload hx hb hd (hl.2.2 _ _ hv (by simp)) (kk lj hl rfl)
    · cases h
  case aload_n i =>
    simp only [mm_one] at h
    split at h
    · rename_i v hv; cases h
      exact lv_aload_n hx hb hd rfl (hl.2.2 _ _ hv (by simp)) (kk lj hl rfl)
    · cases h
  case istore i =>
    simp only [mm_one] at h
    split at h
    · split at h
      · rename_i v st2 hlt; cases h
        exact lv_istore hx hb hd hl.has hlt rfl (fun lj' h' => kk lj' (mm_LV.st1 h') rfl)
      · cases h
    · cases h
  case istore_n i =>
    simp only [mm_one] at h
    split at h
    · split at h
      · rename_i v st2 hlt; cases h
        exact lv_istore_n hx hb hd rfl hl.has hlt rfl (fun lj' h' => kk lj' (mm_LV.st1 h') rfl)
      · cases h
    · cases h
  case astore i =>
    simp only [mm_one] at h
    split at h
    · split at h
      · rename_i v st2 hlt; cases h
        exact lv_astore hx hb hd hl.has hlt rfl (fun lj' h' => kk lj' (mm_LV.st1 h') rfl)
      · cases h
    · cases h
  case astore_n i =>
    simp only [mm_one] at h
    split at h
    · split at h
      · rename_i v st2 hlt; cases h
        exact lv_astore_n hx hb hd rfl hl.has hlt rfl (fun lj' h' => kk lj' (mm_LV.st1 h') rfl)
      · cases h
    · cases h
  case lstore i =>
    simp only [mm_one] at h
    split at h
    · split at h
      · rename_i v st2 hlt; cases h
        exact lv_lstore hx hb hd hl.has hlt rfl (fun lj' h' => kk lj' (mm_LV.st2 h') rfl)
      · cases h
    · cases h
  case lstore_n i =>
    simp only [mm_one] at h
    split at h
    · split at h
      · rename_i v st2 hlt; cases h
        exact lv_lstore_n hx hb hd rfl hl.has hlt rfl (fun lj' h' => kk lj' (mm_LV.st2 h') rfl)
      · cases h
    · cases h
  case iinc i n =>
    simp only [mm_one] at h
    split at h
    · rename_i v hv; cases h
      obtain ⟨k, hk⟩ := List.getElem?_of_mem (mm_as_mem (σ := σ) (q := (i, .int v)) |>.mpr ⟨.int v, hv, by simp, rfl⟩)
      exact lv_iinc hx hb hd hl.has hk rfl (List.getElem?_eq_some_iff.mp hv).1 rfl (fun lj' h' => kk lj' (mm_LV.st1 (v := .int (v + Int32.ofInt n)) h') rfl)
    · cases h
  case iadd =>
    simp only [mm_one] at h; split at h
    · cases h; exact lv_iadd hx hb hd (kk lj hl rfl)
    · cases h
  case isub =>
    simp only [mm_one] at h; split at h
    · cases h; exact lv_isub hx hb hd (kk lj hl rfl)
    · cases h
  case imul =>
    simp only [mm_one] at h; split at h
    · cases h; exact lv_imul hx hb hd (kk lj hl rfl)
    · cases h
  case idiv =>
    simp only [mm_one] at h; split at h
    · split at h
      · cases h
      · rename_i hne; cases h; exact lv_idiv hx hb hd hne (kk lj hl rfl)
    · cases h
  case irem =>
    simp only [mm_one] at h; split at h
    · split at h
      · cases h
      · rename_i hne; cases h; exact lv_irem hx hb hd hne (kk lj hl rfl)
    · cases h
  case ineg =>
    simp only [mm_one] at h; split at h
    · cases h; exact lv_ineg hx hb hd (kk lj hl rfl)
    · cases h
  case iand =>
    simp only [mm_one] at h; split at h
    · cases h; exact lv_iand hx hb hd (kk lj hl rfl)
    · cases h
  case ior =>
    simp only [mm_one] at h; split at h
    · cases h; exact lv_ior hx hb hd (kk lj hl rfl)
    · cases h
  case ixor =>
    simp only [mm_one] at h; split at h
    · cases h; exact lv_ixor hx hb hd (kk lj hl rfl)
    · cases h
  case ishl =>
    simp only [mm_one] at h; split at h
    · cases h; exact lv_ishl hx hb hd (kk lj hl rfl)
    · cases h
  case ishr =>
    simp only [mm_one] at h; split at h
    · cases h; exact lv_ishr hx hb hd (kk lj hl rfl)
    · cases h
  case iushr =>
    simp only [mm_one] at h; split at h
    · cases h; exact lv_iushr hx hb hd rfl (kk lj hl rfl)
    · cases h
  case ladd =>
    simp only [mm_one] at h; split at h
    · cases h; exact lv_ladd hx hb hd (kk lj hl rfl)
    · cases h
  case lsub =>
    simp only [mm_one] at h; split at h
    · cases h; exact lv_lsub hx hb hd (kk lj hl rfl)
    · cases h
  case lor =>
    simp only [mm_one] at h; split at h
    · cases h; exact lv_lor hx hb hd (kk lj hl rfl)
    · cases h
  case lshl =>
    simp only [mm_one] at h; split at h
    · cases h; exact lv_lshl hx hb hd rfl (kk lj hl rfl)
    · cases h
  case lcmp =>
    simp only [mm_one] at h; split at h
    · cases h; exact W.lcmp hx hb hd (kk lj hl rfl)
    · cases h
  case i2l =>
    simp only [mm_one] at h; split at h
    · cases h; exact lv_i2l hx hb hd rfl (kk lj hl rfl)
    · cases h
  case l2i =>
    simp only [mm_one] at h; split at h
    · cases h; exact lv_l2i hx hb hd rfl (kk lj hl rfl)
    · cases h
  case dup =>
    simp only [mm_one] at h; split at h
    · cases h; exact lv_dup hx hb hd rfl (kk lj hl rfl)
    · cases h; exact lv_dup hx hb hd rfl (kk lj hl rfl)
    · cases h
  case pop =>
    simp only [mm_one] at h; split at h
    · cases h; exact lv_pop hx hb hd rfl (kk lj hl rfl)
    · cases h; exact lv_pop hx hb hd rfl (kk lj hl rfl)
    · cases h
  case dup2 =>
    simp only [mm_one] at h; split at h
    · cases h; exact lv_dup2_11 hx hb hd rfl rfl (kk lj hl rfl)
    · cases h; exact lv_dup2_11 hx hb hd rfl rfl (kk lj hl rfl)
    · cases h
/-- what a jump's own numbers must be -/
def mm_okj (pc : Nat) (x : mm_I) : Bool := match x.1 with
  | .goto off => decide ((pc : Int) + off = (x.2.1 : Int))
  | .ifCond _ off => decide ((pc : Int) + off = (x.2.1 : Int))
  | .if_icmp _ off => decide ((pc : Int) + off = (x.2.1 : Int))
  | .tableswitch dflt _ _ offs => decide (x.2.1 = pc) && decide (0 ≤ (pc : Int) + dflt) && offs.toList.all (fun o => decide (0 ≤ (pc : Int) + o))
  | .lookupswitch dflt ps => decide (x.2.1 = pc) && decide (0 ≤ (pc : Int) + dflt) && ps.toList.all (fun o => decide (0 ≤ (pc : Int) + o.2)) && (ps.toList.zip (ps.toList.drop 1)).all (fun (a, next) => a.1 < next.1)
  | _ => true
theorem mm_off_in (dflt v : Int) : ∀ ps : List (Int × Int), Op.lookupswitch.offset ps dflt v = dflt ∨ ∃ q ∈ ps, Op.lookupswitch.offset ps dflt v = q.2 := by
  intro ps
  induction ps with
  | nil => exact Or.inl rfl
  | cons q ps ih =>
    unfold Op.lookupswitch.offset
    split
    · exact Or.inr ⟨q, List.mem_cons_self, rfl⟩
    · rcases ih with h | ⟨z, h1, h2⟩
      · exact Or.inl h
      · exact Or.inr ⟨z, List.mem_cons_of_mem _ h1, h2⟩
set_option maxHeartbeats 4000000 in
theorem mm_sj {x : mm_I} {st st' : List Value} {o : Option Nat} {lenS : Nat} (hx : p.tables.exec = Jvm.exec) (hb : c.code = cc) (hj : mm_okj pc x = true) (h : mm_jmp x st = some (o, st')) (hd : decode cc pc = .ok (x.1, lenS)) (hlg : (∀ a b c d, x.1 ≠ .tableswitch a b c d) → (∀ a b, x.1 ≠ .lookupswitch a b) → lenS = mm_len x.1)
    (kt : ∀ t, o = some t → W p l e R s m args below meth c H locs cells slots Q (F0 m t lj (st'.map (mm_tr σ)))) (kf : o = none → W p l e R s m args below meth c H locs cells slots Q (F0 m (pc + mm_len x.1) lj (st'.map (mm_tr σ)))) : W p l e R s m args below meth c H locs cells slots Q (F0 m pc lj (st.map (mm_tr σ))) := by
  obtain ⟨i, x1, x2, x3, x4⟩ := x
  cases i <;> (first | (exfalso; simp only [mm_jmp] at h; cases h; done) | skip)
  case goto off =>
    have hl : lenS = 3 := hlg (by intros; simp) (by intros; simp)
    subst hl
    simp only [mm_okj, decide_eq_true_eq] at hj
    simp only [mm_jmp] at h; cases h
    exact lv_goto hx hb hd hj (kt _ rfl)
  case ifCond cd off =>
    have hl : lenS = 3 := hlg (by intros; simp) (by intros; simp)
    subst hl
    simp only [mm_okj, decide_eq_true_eq] at hj
    simp only [mm_jmp] at h
    split at h
    · cases cd
      · simp only at h
        exact lv_if_eq hx hb hd hj (fun q => by rw [if_pos q] at h; cases h; exact kt _ rfl) (fun q => by rw [if_neg q] at h; cases h; exact kf rfl)
      · simp only at h
        exact lv_if_ne hx hb hd hj (fun q => by rw [if_pos q] at h; cases h; exact kt _ rfl) (fun q => by rw [if_neg (fun z => z q)] at h; cases h; exact kf rfl)
      · simp only at h
        exact lv_if_lt hx hb hd hj (fun q => by rw [if_pos q] at h; cases h; exact kt _ rfl) (fun q => by rw [if_neg q] at h; cases h; exact kf rfl)
      · simp only at h
        exact lv_if_ge hx hb hd hj (fun q => by rw [if_pos q] at h; cases h; exact kt _ rfl) (fun q => by rw [if_neg q] at h; cases h; exact kf rfl)
      · simp only at h
        exact lv_if_gt hx hb hd hj (fun q => by rw [if_pos q] at h; cases h; exact kt _ rfl) (fun q => by rw [if_neg q] at h; cases h; exact kf rfl)
      · simp only at h
        exact lv_if_le hx hb hd hj (fun q => by rw [if_pos q] at h; cases h; exact kt _ rfl) (fun q => by rw [if_neg q] at h; cases h; exact kf rfl)
    · cases h
  case if_icmp cd off =>
    have hl : lenS = 3 := hlg (by intros; simp) (by intros; simp)
    subst hl
    simp only [mm_okj, decide_eq_true_eq] at hj
    simp only [mm_jmp] at h
    split at h
    · cases cd
      · simp only at h
        exact lv_icmp_eq hx hb hd hj (fun q => by rw [if_pos q] at h; cases h; exact kt _ rfl) (fun q => by rw [if_neg q] at h; cases h; exact kf rfl)
      · simp only at h
        exact lv_icmp_ne hx hb hd hj (fun q => by rw [if_pos q] at h; cases h; exact kt _ rfl) (fun q => by rw [if_neg (fun z => z q)] at h; cases h; exact kf rfl)
      · simp only at h
        exact lv_icmp_lt hx hb hd hj (fun q => by rw [if_pos q] at h; cases h; exact kt _ rfl) (fun q => by rw [if_neg q] at h; cases h; exact kf rfl)
      · simp only at h
        exact lv_icmp_ge hx hb hd hj (fun q => by rw [if_pos q] at h; cases h; exact kt _ rfl) (fun q => by rw [if_neg q] at h; cases h; exact kf rfl)
      · simp only at h
        exact lv_icmp_gt hx hb hd hj (fun q => by rw [if_pos q] at h; cases h; exact kt _ rfl) (fun q => by rw [if_neg q] at h; cases h; exact kf rfl)
      · simp only at h
        exact lv_icmp_le hx hb hd hj (fun q => by rw [if_pos q] at h; cases h; exact kt _ rfl) (fun q => by rw [if_neg q] at h; cases h; exact kf rfl)
    · cases h
  case tableswitch dflt lo hi offs =>
    simp only [mm_okj, Bool.and_eq_true, decide_eq_true_eq] at hj
    obtain ⟨⟨e1, h1⟩, h2⟩ := hj
    subst e1
    simp only [mm_jmp] at h
    split at h
    · rename_i v st2
      split at h
      · rename_i hout
        cases h
        exact lv_tableOut hx hb hd hout (by omega) (kt _ rfl)
      · rename_i hin
        split at h
        · rename_i off ho
          cases h
          have h3 := List.all_eq_true.mp h2 off (by
            rw [Array.mem_toList_iff]; exact Array.mem_of_getElem? ho)
          simp only [decide_eq_true_eq] at h3
          exact lv_tableIn hx hb hd (fun q => hin (Or.inl q)) (fun q => hin (Or.inr q)) ho (by omega) (kt _ rfl)
        · cases h
    · cases h
  case lookupswitch dflt ps =>
    simp only [mm_okj, Bool.and_eq_true, decide_eq_true_eq] at hj
    obtain ⟨⟨⟨e1, h1⟩, h2⟩, h3⟩ := hj
    subst e1
    simp only [mm_jmp] at h
    split at h
    · rename_i v st2
      cases h
      refine lv_lookup hx hb hd h3 rfl ?_ (kt _ rfl)
      rcases mm_off_in dflt v.toInt ps.toList with q | ⟨z, q1, q2⟩
      · rw [q]; omega
      · rw [q2]
        have h4 := List.all_eq_true.mp h2 z q1
        simp only [decide_eq_true_eq] at h4
        omega
    · cases h
end PU
end
section
/-! THE MACHINE FOLLOWS THE SMALL ONE: fields, arrays, constants, new cells -/
def mm_TB : List Cond := lw_tbl.filter goodWord
theorem mm_TBof {w : Nat} {X : Cond} (h : lw_tbl[w]? = some X) (hg : goodWord X = true) : X ∈ mm_TB := List.mem_filter.mpr ⟨List.mem_of_getElem? h, hg⟩
def mm_tys (kA : Nat → ClassId) : List (ClassId × FieldType) := [(kA 100, .int), (kA 101, .boolean), (kA 102, .long)]
def mm_ty (ci : Nat) : Nat → FieldType := match ci with
  | 0 => tyX0
  | 1 => tyX1
  | 2 => tyX3
  | 3 => tyX4
  | 4 => tyX5
  | 5 => tyX6
  | 6 => tyX7
  | 7 => tyX8
  | _ => tyX9
/-- what a class's rows of the tables give -/
def mm_clsOk (ci : Nat) (q : vw_C) : Prop := (∀ w ∈ u_ws q.1 q.2.1 q.2.2, w ∈ mm_TB) ∧ (∀ k, k < q.2.2 → parseFieldDescriptor (q.2.1 k).2.2.1 = some (mm_ty ci k)) ∧ (∀ a, a < q.2.2 → ∀ b, b < q.2.2 → a ≠ b → (q.2.1 a).2.1 ≠ (q.2.1 b).2.1)
theorem mm_uin {C : String} {T : u_T} {N : Nat} (h : ((List.range N).all fun k => lw_tbl.contains (u_lay C T k) && goodWord (u_lay C T k)) = true) : ∀ w ∈ u_ws C T N, w ∈ mm_TB := by
  intro w hw
  obtain ⟨k, hk, rfl⟩ := List.mem_map.mp hw
  have h1 := List.all_eq_true.mp h k hk
  simp only [Bool.and_eq_true, List.contains_iff_mem] at h1
  exact List.mem_filter.mpr h1
theorem mm_u0 : ∀ w ∈ u_ws RX0 TX0 3, w ∈ mm_TB := mm_uin (by decide +kernel)
theorem mm_u1 : ∀ w ∈ u_ws RX1 TX1 3, w ∈ mm_TB := mm_uin (by decide +kernel)
theorem mm_u2 : ∀ w ∈ u_ws RX3 TX3 10, w ∈ mm_TB := mm_uin (by decide +kernel)
theorem mm_u3 : ∀ w ∈ u_ws RX4 TX4 6, w ∈ mm_TB := mm_uin (by decide +kernel)
theorem mm_u4 : ∀ w ∈ u_ws RX5 TX5 8, w ∈ mm_TB := mm_uin (by decide +kernel)
theorem mm_u5 : ∀ w ∈ u_ws RX6 TX6 6, w ∈ mm_TB := mm_uin (by decide +kernel)
theorem mm_u6 : ∀ w ∈ u_ws RX7 TX7 3, w ∈ mm_TB := mm_uin (by decide +kernel)
theorem mm_u7 : ∀ w ∈ u_ws RX8 TX8 16, w ∈ mm_TB := mm_uin (by decide +kernel)
theorem mm_u8 : ∀ w ∈ u_ws RX9 TX9 55, w ∈ mm_TB := mm_uin (by decide +kernel)
theorem mm_cls {ci : Nat} {q : vw_C} (h : vwCl[ci]? = some q) : mm_clsOk ci q := by
  match ci, h with
  | 0, h => cases h; exact ⟨mm_u0, tyX0_ok, nmX0⟩
  | 1, h => cases h; exact ⟨mm_u1, tyX1_ok, nmX1⟩
  | 2, h => cases h; exact ⟨mm_u2, tyX3_ok, nmX3⟩
  | 3, h => cases h; exact ⟨mm_u3, tyX4_ok, nmX4⟩
  | 4, h => cases h; exact ⟨mm_u4, tyX5_ok, nmX5⟩
  | 5, h => cases h; exact ⟨mm_u5, tyX6_ok, nmX6⟩
  | 6, h => cases h; exact ⟨mm_u6, tyX7_ok, nmX7⟩
  | 7, h => cases h; exact ⟨mm_u7, tyX8_ok, nmX8⟩
  | 8, h => cases h; exact ⟨mm_u8, tyX9_ok, nmX9⟩
  | n + 9, h => simp [vwCl] at h
theorem mm_ci9 {ci : Nat} {q : vw_C} (h : vwCl[ci]? = some q) : ci < 9 := (List.getElem?_eq_some_iff.mp h).1
/-- kind and type of a field agree -/
def mm_kt (f : Nat) (ty : FieldType) : Bool := match f, ty with
  | 0, .int => true
  | 1, .boolean => true
  | 2, .object _ => true
  | 2, .array _ => true
  | 3, .long => true
  | _, _ => false
def mm_okf (own : String) (x : mm_I) (idx : Nat) : Bool := match vwCl[x.2.1]? with
  | some (C, T, N) => decide (x.2.2.1 < N) && decide (lw_tbl[x.2.2.2.1]? = some (.fieldLink own idx C (T x.2.2.1).2.1 (T x.2.2.1).2.2.1)) && goodWord (.fieldLink own idx C (T x.2.2.1).2.1 (T x.2.2.1).2.2.1) && decide ((T x.2.2.1).1 = C) && mm_kt (mm_fk x.2.1 x.2.2.1) (mm_ty x.2.1 x.2.2.1)
  | none => false
def mm_okp (own nm : String) (x : mm_I) : Bool := match vwCl[x.2.1]? with
  | some (C, T, _) => decide ((T x.2.2.1).2.2.2 = false) || (decide (nm = "<init>") && decide (C = own))
  | none => false
section ME
variable {p : Program} {l : Launch} {e : Env} {R : Room} {s : State} {m : MethodId} {args : Array Value} {below : List Frame} {meth : Method} {c : Code} {H : Heap} {locs : List Loc} {cells slots : Nat} {Q : State → Prop}
variable {cc : ByteArray} {pc : Nat} {lj : Array Slot} {σ : Nat → Nat} {kA : Nat → ClassId} {D : va_G} {A : Nat → Prop} {H0 : Heap} {own nm : String} {idx : Nat} {rest : List Value} {x : mm_I} {μ : mm_M} {a : Nat}
theorem mm_sgf (hx : p.tables.exec = Jvm.exec) (hb : c.code = cc) (hown : s.vm.findClass own = some m.cls) (hts : ∀ w ∈ mm_TB, w.before args s = true) (hK : va_K D vwCl (mm_tys kA) s) (hP : va_P D vwCl (mm_wld σ kA μ) H)
    (hok : mm_okf own x idx = true) (hd : decode cc pc = .ok (.getfield idx, 3)) {n : Nat} (hS : μ.2.2.2.1[a]? = some (x.2.1, n)) (hn : x.2.2.1 < n)
    (kk : W p l e R s m args below meth c H locs cells slots Q (F0 m (pc + 3) lj (mm_fv σ (mm_fk x.2.1 x.2.2.1) (μ.1 a x.2.2.1) (μ.2.1 a x.2.2.1) (μ.2.2.1 a x.2.2.1) :: rest))) : W p l e R s m args below meth c H locs cells slots Q (F0 m pc lj (.ref (σ a) :: rest)) := by
  unfold mm_okf at hok
  split at hok
  · rename_i C T N hc
    simp only [Bool.and_eq_true, decide_eq_true_eq] at hok
    obtain ⟨⟨⟨⟨h1, h2⟩, h3⟩, h4⟩, -⟩ := hok
    have h9 := mm_ci9 hc
    have he := mm_wld_at (σ := σ) (kA := kA) hS
    rw [show mm_cell σ kA μ a (x.2.1, n) = .inr (x.2.1, (List.range n).map (fun i => mm_fv σ (mm_fk x.2.1 i) (μ.1 a i) (μ.2.1 a i) (μ.2.2.1 a i))) by simp only [mm_cell]; rw [if_neg (by omega), if_neg (by omega)]] at he
    refine va_get (D := D) (ci := x.2.1) (C := C) (T := T) (N := N) (ref := C) hx hb hts (mm_cls hc).1 hown hK hP a he hc x.2.2.1 h1 (hts _ (mm_TBof h2 h3)) (by rw [h4]; exact fun _ h => h) ?_ hd kk
    simp [hn]
  · cases hok
theorem mm_kt_i {ty : FieldType} (h : mm_kt 0 ty = true) (v : Int32) : narrow ty (.int v) = .int v ∧ fits ty (.int v) = true := by
  cases ty <;> simp_all [mm_kt, narrow, fits]
theorem mm_kt_z {ty : FieldType} (h : mm_kt 1 ty = true) {v : Int32} (hv : v = 0 ∨ v = 1) : narrow ty (.int v) = .int v ∧ fits ty (.int v) = true := by
  cases ty <;> simp [mm_kt] at h
  rcases hv with rfl | rfl <;> exact ⟨rfl, rfl⟩
theorem mm_kt_r {ty : FieldType} (h : mm_kt 2 ty = true) (v : Nat) : narrow ty (.ref v) = .ref v ∧ fits ty (.ref v) = true := by
  cases ty <;> simp_all [mm_kt, narrow, fits]
theorem mm_kt_l {ty : FieldType} (h : mm_kt 3 ty = true) (v : Int64) : narrow ty (.long v) = .long v ∧ fits ty (.long v) = true := by
  cases ty <;> simp_all [mm_kt, narrow, fits]
theorem mm_spf (hx : p.tables.exec = Jvm.exec) (hb : c.code = cc) (hown : s.vm.findClass own = some m.cls) (hnm : meth.name = nm) (hts : ∀ w ∈ mm_TB, w.before args s = true) (hK : va_K D vwCl (mm_tys kA) s) (hP : va_P D vwCl (mm_wld σ kA μ) H) (hD : va_D A (mm_wld σ kA μ)) (hS0 : va_S A H0 H locs)
    (hok : mm_okf own x idx = true) (hok2 : mm_okp own nm x = true) (hd : decode cc pc = .ok (.putfield idx, 3)) {n : Nat} (hS : μ.2.2.2.1[a]? = some (x.2.1, n)) (hn : x.2.2.1 < n) {v : Value} (hv : ∀ ty, mm_kt (mm_fk x.2.1 x.2.2.1) ty = true → narrow ty v = v ∧ fits ty v = true) {μ' : mm_M}
    (hS' : μ'.2.2.2.1 = μ.2.2.2.1) (hv' : mm_fv σ (mm_fk x.2.1 x.2.2.1) (μ'.1 a x.2.2.1) (μ'.2.1 a x.2.2.1) (μ'.2.2.1 a x.2.2.1) = v) (ho : ∀ j, j ≠ x.2.2.1 → μ'.1 a j = μ.1 a j ∧ μ'.2.1 a j = μ.2.1 a j ∧ μ'.2.2.1 a j = μ.2.2.1 a j) (hb' : ∀ b, b ≠ a → μ'.1 b = μ.1 b ∧ μ'.2.1 b = μ.2.1 b ∧ μ'.2.2.1 b = μ.2.2.1 b)
    (kk : ∀ (H1 : Heap) (locs1 : List Loc), va_P D vwCl (mm_wld σ kA μ') H1 → va_D A (mm_wld σ kA μ') → va_S A H0 H1 locs1 → W p l e R s m args below meth c H1 locs1 cells slots Q (F0 m (pc + 3) lj rest)) : W p l e R s m args below meth c H locs cells slots Q (F0 m pc lj (v :: .ref (σ a) :: rest)) := by
  unfold mm_okf at hok
  unfold mm_okp at hok2
  split at hok
  · rename_i C T N hc
    rw [hc] at hok2
    simp only [Bool.and_eq_true, decide_eq_true_eq, Bool.or_eq_true] at hok hok2
    obtain ⟨⟨⟨⟨h1, h2⟩, h3⟩, h4⟩, h5⟩ := hok
    have h9 := mm_ci9 hc
    have he := mm_wld_at (σ := σ) (kA := kA) hS
    rw [show mm_cell σ kA μ a (x.2.1, n) = .inr (x.2.1, (List.range n).map (fun i => mm_fv σ (mm_fk x.2.1 i) (μ.1 a i) (μ.2.1 a i) (μ.2.2.1 a i))) by simp only [mm_cell]; rw [if_neg (by omega), if_neg (by omega)]] at he
    obtain ⟨g1, g2, g3⟩ := mm_cls hc
    have e2 := mm_wld_setf (σ := σ) (kA := kA) (v := v) hS' hS (by omega) hn hv' ho hb'
    obtain ⟨n1, n2⟩ := hv _ h5
    rcases hok2 with hf | ⟨hf1, hf2⟩
    · refine va_put (D := D) (ci := x.2.1) (C := C) (T := T) (N := N) (ref := C) hx hb hts g1 (mm_ty x.2.1) g2 g3 hown hK hP hD hS0 a he hc x.2.2.1 h1 (hts _ (mm_TBof h2 h3)) (by rw [h4]; exact fun _ h => h) hf (g2 _ h1) n1 n2 (by simpa using hn) hd (fun H1 locs1 hP1 hD1 hS1 => ?_)
      rw [e2] at hP1 hD1
      exact kk H1 locs1 hP1 hD1 hS1
    · by_cases hfin : (T x.2.2.1).2.2.2 = true
      · refine va_putF (D := D) (ci := x.2.1) (C := C) (T := T) (N := N) (ref := C) hx hb hts g1 (mm_ty x.2.1) g2 g3 hown hK hP hD hS0 a he hc x.2.2.1 h1 (hts _ (mm_TBof h2 h3)) (by rw [h4]; exact fun _ h => h) hfin (hnm.trans hf1) (h4.trans hf2) (g2 _ h1) n1 n2 (by simpa using hn) hd (fun H1 locs1 hP1 hD1 hS1 => ?_)
        rw [e2] at hP1 hD1
        exact kk H1 locs1 hP1 hD1 hS1
      · refine va_put (D := D) (ci := x.2.1) (C := C) (T := T) (N := N) (ref := C) hx hb hts g1 (mm_ty x.2.1) g2 g3 hown hK hP hD hS0 a he hc x.2.2.1 h1 (hts _ (mm_TBof h2 h3)) (by rw [h4]; exact fun _ h => h) (by simpa using hfin) (g2 _ h1) n1 n2 (by simpa using hn) hd (fun H1 locs1 hP1 hD1 hS1 => ?_)
        rw [e2] at hP1 hD1
        exact kk H1 locs1 hP1 hD1 hS1
  · cases hok
/-! arrays -/
theorem mm_cell_i {t n : Nat} (ht : t = 100 ∨ t = 101) : mm_cell σ kA μ a (t, n) = .inl (kA t, n, .inl (μ.1 a)) := by simp only [mm_cell, if_pos ht]
theorem mm_cell_l {n : Nat} : mm_cell σ kA μ a (102, n) = .inl (kA 102, n, .inr (.inl (μ.2.2.1 a))) := by simp only [mm_cell]; rw [if_neg (by decide), if_pos trivial]
theorem mm_siald (hx : p.tables.exec = Jvm.exec) (hb : c.code = cc) (hK : va_K D vwCl (mm_tys kA) s) (hP : va_P D vwCl (mm_wld σ kA μ) H) {n : Nat} {i : Int32} (hS : μ.2.2.2.1[a]? = some (100, n)) (hin : mm_ix i n) (hd : decode cc pc = .ok (.iaload, 1))
    (kk : W p l e R s m args below meth c H locs cells slots Q (F0 m (pc + 1) lj (.int (μ.1 a i.toNatClampNeg) :: rest))) : W p l e R s m args below meth c H locs cells slots Q (F0 m pc lj (.int i :: .ref (σ a) :: rest)) := by
  have he := mm_wld_at (σ := σ) (kA := kA) hS
  rw [mm_cell_i (Or.inl rfl)] at he
  exact va_iald hx hb hK hP a 0 he rfl hin hd kk
theorem mm_szald (hx : p.tables.exec = Jvm.exec) (hb : c.code = cc) (hK : va_K D vwCl (mm_tys kA) s) (hP : va_P D vwCl (mm_wld σ kA μ) H) {n : Nat} {i : Int32} (hS : μ.2.2.2.1[a]? = some (101, n)) (hin : mm_ix i n) (hd : decode cc pc = .ok (.baload, 1))
    (kk : W p l e R s m args below meth c H locs cells slots Q (F0 m (pc + 1) lj (.int (μ.1 a i.toNatClampNeg) :: rest))) : W p l e R s m args below meth c H locs cells slots Q (F0 m pc lj (.int i :: .ref (σ a) :: rest)) := by
  have he := mm_wld_at (σ := σ) (kA := kA) hS
  rw [mm_cell_i (Or.inr rfl)] at he
  exact va_zald hx hb hK hP a 1 he rfl hin hd kk
theorem mm_slald (hx : p.tables.exec = Jvm.exec) (hb : c.code = cc) (hK : va_K D vwCl (mm_tys kA) s) (hP : va_P D vwCl (mm_wld σ kA μ) H) {n : Nat} {i : Int32} (hS : μ.2.2.2.1[a]? = some (102, n)) (hin : mm_ix i n) (hd : decode cc pc = .ok (.laload, 1))
    (kk : W p l e R s m args below meth c H locs cells slots Q (F0 m (pc + 1) lj (.long (μ.2.2.1 a i.toNatClampNeg) :: rest))) : W p l e R s m args below meth c H locs cells slots Q (F0 m pc lj (.int i :: .ref (σ a) :: rest)) := by
  have he := mm_wld_at (σ := σ) (kA := kA) hS
  rw [mm_cell_l] at he
  exact va_lald hx hb hK hP a 2 he rfl hin hd kk
theorem mm_salen (hx : p.tables.exec = Jvm.exec) (hb : c.code = cc) (hK : va_K D vwCl (mm_tys kA) s) (hP : va_P D vwCl (mm_wld σ kA μ) H) {t n : Nat} (hS : μ.2.2.2.1[a]? = some (t, n)) (ht : t = 100 ∨ t = 101 ∨ t = 102) (hd : decode cc pc = .ok (.arraylength, 1))
    (kk : W p l e R s m args below meth c H locs cells slots Q (F0 m (pc + 1) lj (.int (Int32.ofNat n) :: rest))) : W p l e R s m args below meth c H locs cells slots Q (F0 m pc lj (.ref (σ a) :: rest)) := by
  have he := mm_wld_at (σ := σ) (kA := kA) hS
  rcases ht with rfl | rfl | rfl
  · rw [mm_cell_i (Or.inl rfl)] at he
    exact va_alen hx hb hK hP a 0 he rfl rfl hd kk
  · rw [mm_cell_i (Or.inr rfl)] at he
    exact va_alen hx hb hK hP a 1 he rfl rfl hd kk
  · rw [mm_cell_l] at he
    exact va_alen hx hb hK hP a 2 he rfl rfl hd kk
theorem mm_siast (hx : p.tables.exec = Jvm.exec) (hb : c.code = cc) (hK : va_K D vwCl (mm_tys kA) s) (hP : va_P D vwCl (mm_wld σ kA μ) H) (hD : va_D A (mm_wld σ kA μ)) (hS0 : va_S A H0 H locs) {n : Nat} {i v : Int32} (hS : μ.2.2.2.1[a]? = some (100, n)) (hin : mm_ix i n) (hd : decode cc pc = .ok (.iastore, 1))
    (kk : ∀ (H1 : Heap) (locs1 : List Loc), va_P D vwCl (mm_wld σ kA (mm_up μ.1 a i.toNatClampNeg v, μ.2)) H1 → va_D A (mm_wld σ kA (mm_up μ.1 a i.toNatClampNeg v, μ.2)) → va_S A H0 H1 locs1 → W p l e R s m args below meth c H1 locs1 cells slots Q (F0 m (pc + 1) lj rest)) : W p l e R s m args below meth c H locs cells slots Q (F0 m pc lj (.int v :: .int i :: .ref (σ a) :: rest)) := by
  have he := mm_wld_at (σ := σ) (kA := kA) hS
  rw [mm_cell_i (Or.inl rfl)] at he
  refine va_iast hx hb hK hP hD hS0 a 0 he rfl hin hd (fun H1 locs1 hP1 hD1 hS1 => ?_)
  have e2 := mm_wld_seti (σ := σ) (kA := kA) (I := μ.1) (P := μ.2.1) (J := μ.2.2.1) (S := μ.2.2.2.1) (nc := μ.2.2.2.2.1) (ns := μ.2.2.2.2.2) (i := i.toNatClampNeg) (v := v) hS (Or.inl rfl)
  rw [show ((μ.1, μ.2.1, μ.2.2.1, μ.2.2.2.1, μ.2.2.2.2.1, μ.2.2.2.2.2) : mm_M) = μ from rfl] at e2
  rw [e2] at hP1 hD1
  exact kk H1 locs1 hP1 hD1 hS1
theorem mm_szast (hx : p.tables.exec = Jvm.exec) (hb : c.code = cc) (hK : va_K D vwCl (mm_tys kA) s) (hP : va_P D vwCl (mm_wld σ kA μ) H) (hD : va_D A (mm_wld σ kA μ)) (hS0 : va_S A H0 H locs) {n : Nat} {i v : Int32} (hS : μ.2.2.2.1[a]? = some (101, n)) (hin : mm_ix i n) (hv : v = 0 ∨ v = 1) (hd : decode cc pc = .ok (.bastore, 1))
    (kk : ∀ (H1 : Heap) (locs1 : List Loc), va_P D vwCl (mm_wld σ kA (mm_up μ.1 a i.toNatClampNeg v, μ.2)) H1 → va_D A (mm_wld σ kA (mm_up μ.1 a i.toNatClampNeg v, μ.2)) → va_S A H0 H1 locs1 → W p l e R s m args below meth c H1 locs1 cells slots Q (F0 m (pc + 1) lj rest)) : W p l e R s m args below meth c H locs cells slots Q (F0 m pc lj (.int v :: .int i :: .ref (σ a) :: rest)) := by
  have he := mm_wld_at (σ := σ) (kA := kA) hS
  rw [mm_cell_i (Or.inr rfl)] at he
  refine va_zast hx hb hK hP hD hS0 a 1 he rfl hin hd (fun H1 locs1 hP1 hD1 hS1 => ?_)
  have e2 := mm_wld_seti (σ := σ) (kA := kA) (I := μ.1) (P := μ.2.1) (J := μ.2.2.1) (S := μ.2.2.2.1) (nc := μ.2.2.2.2.1) (ns := μ.2.2.2.2.2) (i := i.toNatClampNeg) (v := v) hS (Or.inr rfl)
  rw [show ((μ.1, μ.2.1, μ.2.2.1, μ.2.2.2.1, μ.2.2.2.2.1, μ.2.2.2.2.2) : mm_M) = μ from rfl] at e2
  rw [show vp_nar .boolean v = v by rcases hv with rfl | rfl <;> rfl, e2] at hP1 hD1
  exact kk H1 locs1 hP1 hD1 hS1
theorem mm_slast (hx : p.tables.exec = Jvm.exec) (hb : c.code = cc) (hK : va_K D vwCl (mm_tys kA) s) (hP : va_P D vwCl (mm_wld σ kA μ) H) (hD : va_D A (mm_wld σ kA μ)) (hS0 : va_S A H0 H locs) {n : Nat} {i : Int32} {v : Int64} (hS : μ.2.2.2.1[a]? = some (102, n)) (hin : mm_ix i n) (hd : decode cc pc = .ok (.lastore, 1))
    (kk : ∀ (H1 : Heap) (locs1 : List Loc), va_P D vwCl (mm_wld σ kA (μ.1, μ.2.1, mm_up μ.2.2.1 a i.toNatClampNeg v, μ.2.2.2)) H1 → va_D A (mm_wld σ kA (μ.1, μ.2.1, mm_up μ.2.2.1 a i.toNatClampNeg v, μ.2.2.2)) → va_S A H0 H1 locs1 → W p l e R s m args below meth c H1 locs1 cells slots Q (F0 m (pc + 1) lj rest)) : W p l e R s m args below meth c H locs cells slots Q (F0 m pc lj (.long v :: .int i :: .ref (σ a) :: rest)) := by
  have he := mm_wld_at (σ := σ) (kA := kA) hS
  rw [mm_cell_l] at he
  refine va_last hx hb hK hP hD hS0 a 2 he rfl hin hd (fun H1 locs1 hP1 hD1 hS1 => ?_)
  have e2 := mm_wld_setl (σ := σ) (kA := kA) (I := μ.1) (P := μ.2.1) (J := μ.2.2.1) (S := μ.2.2.2.1) (nc := μ.2.2.2.2.1) (ns := μ.2.2.2.2.2) (i := i.toNatClampNeg) (v := v) hS
  rw [show ((μ.1, μ.2.1, μ.2.2.1, μ.2.2.2.1, μ.2.2.2.2.1, μ.2.2.2.2.2) : mm_M) = μ from rfl] at e2
  rw [e2] at hP1 hD1
  exact kk H1 locs1 hP1 hD1 hS1
theorem mm_scpy (hx : p.tables.exec = Jvm.exec) (hb : c.code = cc) (hml : c.maxLocals = lj.size) (hown : s.vm.findClass own = some m.cls) (hts : ∀ w ∈ mm_TB, w.before args s = true) (hlink : Cond.methodLink own idx arraycopyName ∈ mm_TB) (hnat : Cond.native arraycopyName ∈ mm_TB) (hstat : Cond.static arraycopyName ∈ mm_TB) (hini : Cond.initialized "java/lang/System" ∈ mm_TB)
    (hK : va_K D vwCl (mm_tys kA) s) (hP : va_P D vwCl (mm_wld σ kA μ) H) (hD : va_D A (mm_wld σ kA μ)) (hS0 : va_S A H0 H locs) {n n2 b : Nat} {sp dp q : Int32} (hS : μ.2.2.2.1[a]? = some (100, n)) (hS2 : μ.2.2.2.1[b]? = some (100, n2)) (h1 : ¬ q < 0) (h2 : ¬ sp < 0) (h3 : ¬ dp < 0) (h4 : sp.toNatClampNeg + q.toNatClampNeg ≤ n) (h5 : dp.toNatClampNeg + q.toNatClampNeg ≤ n2)
    (hframes : 1 ≤ R.frames) (hlocals : (rest.map fun v => v.category).sum + (nativeFrameWords "java/lang/System" "arraycopy" 5 + 11) ≤ R.locals) (hd : decode cc pc = .ok (.invokestatic idx, 3))
    (kk : ∀ (H1 : Heap) (locs1 : List Loc), va_P D vwCl (mm_wld σ kA ((fun c => if c = b then va_cpy (μ.1 a) (μ.1 b) sp.toNatClampNeg dp.toNatClampNeg q.toNatClampNeg else μ.1 c), μ.2)) H1 → va_D A (mm_wld σ kA ((fun c => if c = b then va_cpy (μ.1 a) (μ.1 b) sp.toNatClampNeg dp.toNatClampNeg q.toNatClampNeg else μ.1 c), μ.2)) → va_S A H0 H1 locs1 → W p l e R s m args below meth c H1 locs1 cells slots Q (F0 m (pc + 3) lj rest)) : W p l e R s m args below meth c H locs cells slots Q (F0 m pc lj (.int q :: .int dp :: .ref (σ b) :: .int sp :: .ref (σ a) :: rest)) := by
  have he := mm_wld_at (σ := σ) (kA := kA) hS
  have he2 := mm_wld_at (σ := σ) (kA := kA) hS2
  rw [mm_cell_i (Or.inl rfl)] at he he2
  refine va_copyi hx hb hml hown (hts _ hlink) (hts _ hnat) (hts _ hstat) (hts _ hini) hK hP hD hS0 a b 0 0 he he2 rfl rfl rfl h2 h3 h1 h4 h5 (fun i _ => rfl) hframes hlocals hd (fun H1 locs1 hP1 hD1 hS1 => ?_)
  have e2 := mm_wld_seta (σ := σ) (kA := kA) (I := μ.1) (P := μ.2.1) (J := μ.2.2.1) (S := μ.2.2.2.1) (nc := μ.2.2.2.2.1) (ns := μ.2.2.2.2.2) (f := va_cpy (μ.1 a) (μ.1 b) sp.toNatClampNeg dp.toNatClampNeg q.toNatClampNeg) hS2 (Or.inl rfl)
  rw [show ((μ.1, μ.2.1, μ.2.2.1, μ.2.2.2.1, μ.2.2.2.2.1, μ.2.2.2.2.2) : mm_M) = μ from rfl] at e2
  rw [e2] at hP1 hD1
  exact kk H1 locs1 hP1 hD1 hS1
end ME
end
section
/-! NEW CELLS; Object's constructor; constants -/
def mm_contains (w : Cond) : Bool := lw_tbl.contains w && goodWord w
theorem mm_TBc {w : Cond} (h : mm_contains w = true) : w ∈ mm_TB := by
  simp only [mm_contains, Bool.and_eq_true, List.contains_iff_mem] at h
  exact List.mem_filter.mpr h
def mm_cls2Ok (ci : Nat) (q : vw_C) : Bool := decide ((mm_fks.getD ci []).length = q.2.2) && (List.range q.2.2).all (fun j => mm_kt (mm_fk ci j) (mm_ty ci j)) && mm_contains (.instantiable q.1 q.2.2) && mm_contains (.initialized q.1) && decide (q.2.2 ≤ 60)
theorem mm_cls2_0 : mm_cls2Ok 0 (RX0, TX0, 3) = true := by decide +kernel
theorem mm_cls2_1 : mm_cls2Ok 1 (RX1, TX1, 3) = true := by decide +kernel
theorem mm_cls2_2 : mm_cls2Ok 2 (RX3, TX3, 10) = true := by decide +kernel
theorem mm_cls2_3 : mm_cls2Ok 3 (RX4, TX4, 6) = true := by decide +kernel
theorem mm_cls2_4 : mm_cls2Ok 4 (RX5, TX5, 8) = true := by decide +kernel
theorem mm_cls2_5 : mm_cls2Ok 5 (RX6, TX6, 6) = true := by decide +kernel
theorem mm_cls2_6 : mm_cls2Ok 6 (RX7, TX7, 3) = true := by decide +kernel
theorem mm_cls2_7 : mm_cls2Ok 7 (RX8, TX8, 16) = true := by decide +kernel
theorem mm_cls2_8 : mm_cls2Ok 8 (RX9, TX9, 55) = true := by decide +kernel
theorem mm_cls2 {ci : Nat} {q : vw_C} (h : vwCl[ci]? = some q) : mm_cls2Ok ci q = true := by
  match ci, h with
  | 0, h => cases h; exact mm_cls2_0
  | 1, h => cases h; exact mm_cls2_1
  | 2, h => cases h; exact mm_cls2_2
  | 3, h => cases h; exact mm_cls2_3
  | 4, h => cases h; exact mm_cls2_4
  | 5, h => cases h; exact mm_cls2_5
  | 6, h => cases h; exact mm_cls2_6
  | 7, h => cases h; exact mm_cls2_7
  | 8, h => cases h; exact mm_cls2_8
  | n + 9, h => simp [vwCl] at h
/-- the world with one cell more -/
theorem mm_wld_push {σ : Nat → Nat} {kA : Nat → ClassId} {μ : mm_M} {q : Nat} {sh : Nat × Nat} {c1 s1 : Nat} (hP : mm_okS μ.2.1 μ.2.2.2.1 = true) :
    mm_wld (fun x => if x = μ.2.2.2.1.length then q else σ x) kA ((fun c => if c = μ.2.2.2.1.length then (fun _ => 0) else μ.1 c), (fun c => if c = μ.2.2.2.1.length then (fun _ => mm_NU) else μ.2.1 c), (fun c => if c = μ.2.2.2.1.length then (fun _ => 0) else μ.2.2.1 c), μ.2.2.2.1 ++ [sh], c1, s1)
      = mm_wld σ kA μ ++ [(q, mm_cell σ kA ((fun _ _ => 0), (fun _ _ => mm_NU), (fun _ _ => 0), [], 0, 0) 0 sh)] := by
  simp only [mm_okS, mm_okP, Bool.and_eq_true, List.all_eq_true, List.mem_range, Bool.or_eq_true, decide_eq_true_eq] at hP
  obtain ⟨hP1, hP2⟩ := hP
  apply List.ext_getElem?
  intro b
  rw [mm_wld_get]
  simp only
  by_cases hb : b < μ.2.2.2.1.length
  · rw [List.getElem?_append_left hb, List.getElem?_append_left (by simpa [mm_wld] using hb), mm_wld_get]
    obtain ⟨z, hz⟩ : ∃ z, μ.2.2.2.1[b]? = some z := ⟨_, List.getElem?_eq_getElem hb⟩
    rw [hz]
    simp only [Option.map_some]
    have hne : b ≠ μ.2.2.2.1.length := by omega
    congr 1
    simp only [mm_cell, if_neg hne]
    split
    · rfl
    · split
      · rfl
      · rename_i h1 h2
        have hz60 : z.2 ≤ 60 := by
          rcases hP2 z (List.mem_of_getElem? hz) with h | h
          · exfalso
            rcases h with h | h | h
            · exact h1 (Or.inl h)
            · exact h1 (Or.inr h)
            · exact h2 h
          · exact h
        congr 3
        apply List.map_congr_left
        intro i hi
        have hi2 : i < z.2 := List.mem_range.mp hi
        simp only [mm_fv]
        split
        · rfl
        · split
          · rcases hP1 b hb i (by omega) with h | h
            · simp only [mm_rv]
              split
              · rfl
              · simp only [mm_tr]
                rw [if_neg (by omega)]
            · simp only [mm_rv, if_pos h, mm_tr]
          · rfl
  · have hl : (mm_wld σ kA μ).length = μ.2.2.2.1.length := by simp [mm_wld]
    by_cases hb2 : b = μ.2.2.2.1.length
    · subst hb2
      rw [List.getElem?_append_right (Nat.le_refl _), List.getElem?_append_right (by rw [hl]; exact Nat.le_refl _)]
      rw [hl]
      simp only [Nat.sub_self, List.getElem?_cons_zero, Option.map_some, if_true]
      congr 2
      simp only [mm_cell, if_true]
      split
      · rfl
      · split
        · rfl
        · congr 3
    · rw [List.getElem?_eq_none (by simp; omega), List.getElem?_eq_none (by simp [hl]; omega)]
      rfl
theorem mm_ag_push {σ : Nat → Nat} {n q : Nat} (hn : n < 1000) : mm_ag n σ (fun x => if x = n then q else σ x) := fun a ha => by
  have : a ≠ n := by
    rcases ha with h | h
    · omega
    · simp only [mm_SC] at h; omega
  simp only [if_neg this]
section NW
variable {p : Program} {l : Launch} {e : Env} {R : Room} {s : State} {m : MethodId} {args : Array Value} {below : List Frame} {meth : Method} {c : Code} {H : Heap} {locs : List Loc} {cells slots : Nat} {Q : State → Prop}
variable {cc : ByteArray} {pc : Nat} {lj : Array Slot} {σ : Nat → Nat} {kA : Nat → ClassId} {D : va_G} {A : Nat → Prop} {H0 : Heap} {own nm : String} {idx : Nat} {rest : List Value} {x : mm_I} {μ : mm_M} {a : Nat}
def mm_okn (own : String) (x : mm_I) (idx : Nat) : Bool := match vwCl[x.2.1]? with
  | some (C, _, _) => decide (lw_tbl[x.2.2.2.1]? = some (.classLink own idx C)) && goodWord (.classLink own idx C)
  | none => false
theorem mm_snew (hx : p.tables.exec = Jvm.exec) (hb : c.code = cc) (hown : s.vm.findClass own = some m.cls) (hts : ∀ w ∈ mm_TB, w.before args s = true) (hK : va_K D vwCl (mm_tys kA) s) (hP : va_P D vwCl (mm_wld σ kA μ) H) (hD : va_D A (mm_wld σ kA μ)) (hS0 : va_S A H0 H locs) (hA : ∀ q, H0.size ≤ q → A q)
    (hok : mm_okn own x idx = true) (hd : decode cc pc = .ok (.new idx, 3)) (hPk : mm_okS μ.2.1 μ.2.2.2.1 = true) (hcells : cells + 1 ≤ R.cells) (hslots : slots + (mm_fks.getD x.2.1 []).length ≤ R.slots) {c1 s1 : Nat}
    (kk : ∀ (q : Nat) (H1 : Heap), va_P D vwCl (mm_wld (fun x => if x = μ.2.2.2.1.length then q else σ x) kA ((fun c => if c = μ.2.2.2.1.length then (fun _ => 0) else μ.1 c), (fun c => if c = μ.2.2.2.1.length then (fun _ => mm_NU) else μ.2.1 c), (fun c => if c = μ.2.2.2.1.length then (fun _ => 0) else μ.2.2.1 c), μ.2.2.2.1 ++ [(x.2.1, (mm_fks.getD x.2.1 []).length)], c1, s1)) H1 →
      va_D A (mm_wld (fun x => if x = μ.2.2.2.1.length then q else σ x) kA ((fun c => if c = μ.2.2.2.1.length then (fun _ => 0) else μ.1 c), (fun c => if c = μ.2.2.2.1.length then (fun _ => mm_NU) else μ.2.1 c), (fun c => if c = μ.2.2.2.1.length then (fun _ => 0) else μ.2.2.1 c), μ.2.2.2.1 ++ [(x.2.1, (mm_fks.getD x.2.1 []).length)], c1, s1)) → va_S A H0 H1 locs →
      W p l e R s m args below meth c H1 locs (cells + 1) (slots + (mm_fks.getD x.2.1 []).length) Q (F0 m (pc + 3) lj (.ref q :: rest))) : W p l e R s m args below meth c H locs cells slots Q (F0 m pc lj rest) := by
  unfold mm_okn at hok
  split at hok
  · rename_i C T N hc
    simp only [Bool.and_eq_true, decide_eq_true_eq] at hok
    have h2 := mm_cls2 hc
    simp only [mm_cls2Ok, Bool.and_eq_true, decide_eq_true_eq, List.all_eq_true, List.mem_range] at h2
    obtain ⟨⟨⟨⟨g1, g2⟩, g3⟩, g4⟩, g5⟩ := h2
    obtain ⟨f1, f2, f3⟩ := mm_cls hc
    have h9 := mm_ci9 hc
    rw [g1] at hslots kk
    refine va_new (D := D) (ci := x.2.1) (fs := (List.range N).map (fun i => mm_fv σ (mm_fk x.2.1 i) 0 mm_NU 0)) (C := C) (T := T) (N := N) hx hb hts f1 (mm_ty x.2.1) f2 hown (hts _ (mm_TBof hok.1 hok.2)) (hts _ (mm_TBc g3)) (hts _ (mm_TBc g4)) hK hP hD hS0 hA hc (fun j hj => ?_) hcells hslots hd (fun q H1 hP1 hD1 hS1 => ?_)
    · have hk := g2 j hj
      simp only [vp_V]
      rw [List.getD_eq_getElem?_getD, List.getElem?_map, List.getElem?_range hj]
      simp only [Option.map_some, Option.getD_some, mm_fv]
      generalize mm_fk x.2.1 j = f at hk
      generalize mm_ty x.2.1 j = ty at hk
      unfold mm_kt at hk
      split at hk <;> first | rfl | (simp [defaultValue, mm_rv, mm_tr]; done) | cases hk
    · have e2 : mm_wld (fun x => if x = μ.2.2.2.1.length then q else σ x) kA ((fun c => if c = μ.2.2.2.1.length then (fun _ => 0) else μ.1 c), (fun c => if c = μ.2.2.2.1.length then (fun _ => mm_NU) else μ.2.1 c), (fun c => if c = μ.2.2.2.1.length then (fun _ => 0) else μ.2.2.1 c), μ.2.2.2.1 ++ [(x.2.1, N)], c1, s1) = mm_wld σ kA μ ++ [(q, .inr (x.2.1, (List.range N).map (fun i => mm_fv σ (mm_fk x.2.1 i) 0 mm_NU 0)))] := by
        rw [mm_wld_push hPk]
        simp only [mm_cell]
        rw [if_neg (by omega), if_neg (by omega)]
      refine kk q H1 ?_ ?_ hS1
      · rw [e2]; exact hP1
      · rw [e2]; exact hD1
  · cases hok
theorem mm_snewa {atype : ArrayType} {t : Nat} {n : Int32} {f0 : ((Nat → Int32) ⊕ (Nat → Int64) ⊕ (Nat → UInt32) ⊕ (Nat → UInt64) ⊕ (Nat → Option Nat))} (hx : p.tables.exec = Jvm.exec) (hb : c.code = cc) (hts : ∀ w ∈ mm_TB, w.before args s = true) (hK : va_K D vwCl (mm_tys kA) s) (hP : va_P D vwCl (mm_wld σ kA μ) H) (hD : va_D A (mm_wld σ kA μ)) (hS0 : va_S A H0 H locs) (hA : ∀ q, H0.size ≤ q → A q)
    (hok : mm_contains (.arrayClass (newarray.typeOf atype)) = true) (hd : decode cc pc = .ok (.newarray atype, 2)) (hPk : mm_okS μ.2.1 μ.2.2.2.1 = true) (hn : ¬ n < 0) (hn2 : n.toNatClampNeg ≤ 100000) (hcells : cells + 1 ≤ R.cells) (hslots : slots + n.toNatClampNeg ≤ R.slots) {c1 s1 j : Nat} {ty : FieldType} (hty : newarray.typeOf atype = ty) (hk : (mm_tys kA)[j]? = some (kA t, ty))
    (hcell : mm_cell σ kA ((fun _ _ => 0), (fun _ _ => mm_NU), (fun _ _ => 0), [], 0, 0) 0 (t, n.toNatClampNeg) = .inl (kA t, n.toNatClampNeg, f0)) (hdef : ∀ cA, vp_cell cA (n.toNatClampNeg, f0) = arrV cA n.toNatClampNeg (fun _ => defaultValue ty)) (hby : componentBytes ty ≤ 8) (hra : ∀ U cA, va_RA U cA ty → U.vm.findClass ("[" ++ ty.toString) = some cA)
    (kk : ∀ (q : Nat) (H1 : Heap), va_P D vwCl (mm_wld (fun x => if x = μ.2.2.2.1.length then q else σ x) kA ((fun c => if c = μ.2.2.2.1.length then (fun _ => 0) else μ.1 c), (fun c => if c = μ.2.2.2.1.length then (fun _ => mm_NU) else μ.2.1 c), (fun c => if c = μ.2.2.2.1.length then (fun _ => 0) else μ.2.2.1 c), μ.2.2.2.1 ++ [(t, n.toNatClampNeg)], c1, s1)) H1 →
      va_D A (mm_wld (fun x => if x = μ.2.2.2.1.length then q else σ x) kA ((fun c => if c = μ.2.2.2.1.length then (fun _ => 0) else μ.1 c), (fun c => if c = μ.2.2.2.1.length then (fun _ => mm_NU) else μ.2.1 c), (fun c => if c = μ.2.2.2.1.length then (fun _ => 0) else μ.2.2.1 c), μ.2.2.2.1 ++ [(t, n.toNatClampNeg)], c1, s1)) → va_S A H0 H1 locs →
      W p l e R s m args below meth c H1 locs (cells + 1) (slots + n.toNatClampNeg) Q (F0 m (pc + 2) lj (.ref q :: rest))) : W p l e R s m args below meth c H locs cells slots Q (F0 m pc lj (.int n :: rest)) := by
  refine va_newa (D := D) (a0 := (n.toNatClampNeg, f0)) hx hb (hts _ (mm_TBc hok)) hty hK hP hD hS0 hA hdef hn rfl (by have := Nat.mul_le_mul hn2 hby; omega) hcells hslots hd (fun q cA H1 hK1 hP1 hD1 hS1 => ?_)
  have hcA : cA = kA t := by
    have q1 := (hK1.2 (mm_tys kA).length (cA, ty) (by simp)).2
    have q2 := (hK.2 j _ hk).2
    exact Option.some.inj ((hra _ _ q1).symm.trans (hra _ _ q2))
  subst hcA
  have e2 : mm_wld (fun x => if x = μ.2.2.2.1.length then q else σ x) kA ((fun c => if c = μ.2.2.2.1.length then (fun _ => 0) else μ.1 c), (fun c => if c = μ.2.2.2.1.length then (fun _ => mm_NU) else μ.2.1 c), (fun c => if c = μ.2.2.2.1.length then (fun _ => 0) else μ.2.2.1 c), μ.2.2.2.1 ++ [(t, n.toNatClampNeg)], c1, s1) = mm_wld σ kA μ ++ [(q, .inl (kA t, n.toNatClampNeg, f0))] := by
    rw [mm_wld_push hPk, hcell]
  refine kk q H1 ?_ ?_ hS1
  · rw [e2]; exact hP1
  · rw [e2]; exact hD1
theorem mm_oi1 : mm_contains (.instanceMethod Lib.objectInit) = true := by decide +kernel
theorem mm_oi2 : mm_contains (.code Lib.objectInit object_method_1_code 1 none) = true := by decide +kernel
theorem mm_sobj (hx : p.tables.exec = Jvm.exec) (hb : c.code = cc) (hml : c.maxLocals = lj.size) (hown : s.vm.findClass own = some m.cls) (hts : ∀ w ∈ mm_TB, w.before args s = true) (hlink : Cond.methodLink own idx Lib.objectInit ∈ mm_TB) (hd : decode cc pc = .ok (.invokespecial idx, 3)) (h8 : (rest.map fun v => v.category).sum ≤ 8) (hf : 1 ≤ R.frames) (hlo : 20 ≤ R.locals)
    (kk : W p l e R s m args below meth c H locs cells slots Q (F0 m (pc + 3) lj rest)) : W p l e R s m args below meth c H locs cells slots Q (F0 m pc lj (.ref a :: rest)) := by
  refine W.objInit hx hb hown (hts _ hlink) (hts _ (mm_TBc mm_oi1)) (hts _ (mm_TBc mm_oi2)) rfl hml.symm rfl hd hf ?_ kk
  show 2 * 0 + _ + 12 ≤ _
  omega
theorem mm_ma1 : mm_contains (.static Lib.Math.max.name) = true := by decide +kernel
theorem mm_ma2 : mm_contains (.initialized "java/lang/Math") = true := by decide +kernel
theorem mm_ma3 : mm_contains (.code Lib.Math.max.name Lib.Math.max.code 2 (some .int)) = true := by decide +kernel
theorem mm_ma4 : mm_contains (.static Lib.Math.min.name) = true := by decide +kernel
theorem mm_ma5 : mm_contains (.code Lib.Math.min.name Lib.Math.min.code 2 (some .int)) = true := by decide +kernel
theorem mm_ma6 : mm_contains (.static Lib.MathLoose.max_long.x) = true := by decide +kernel
theorem mm_ma7 : mm_contains (.code Lib.MathLoose.max_long.x Lib.MathLoose.max_long.code 4 (some .long)) = true := by decide +kernel
end NW
end
section
/-! STRING CONSTANTS: length, charAt, by contract (the JDK's own code) -/
theorem dJ0_length_8abf5_0 : decode cJ0_length_8abf5 0 = .ok (.aload_n 0, 1) := by decide +kernel
theorem dJ0_length_8abf5_1 : decode cJ0_length_8abf5 1 = .ok (.getfield 9, 3) := by decide +kernel
theorem dJ0_length_8abf5_4 : decode cJ0_length_8abf5 4 = .ok (.arraylength, 1) := by decide +kernel
theorem dJ0_length_8abf5_5 : decode cJ0_length_8abf5 5 = .ok (.aload_n 0, 1) := by decide +kernel
theorem dJ0_length_8abf5_6 : decode cJ0_length_8abf5 6 = .ok (.invokevirtual 335, 3) := by decide +kernel
theorem dJ0_length_8abf5_9 : decode cJ0_length_8abf5 9 = .ok (.ishr, 1) := by decide +kernel
theorem dJ0_length_8abf5_10 : decode cJ0_length_8abf5 10 = .ok (.ireturn, 1) := by decide +kernel
theorem dJ0_charAt_5068e_0 : decode cJ0_charAt_5068e 0 = .ok (.aload_n 0, 1) := by decide +kernel
theorem dJ0_charAt_5068e_1 : decode cJ0_charAt_5068e 1 = .ok (.invokevirtual 492, 3) := by decide +kernel
theorem dJ0_charAt_5068e_4 : decode cJ0_charAt_5068e 4 = .ok (.ifCond .eq 12, 3) := by decide +kernel
theorem dJ0_charAt_5068e_7 : decode cJ0_charAt_5068e 7 = .ok (.aload_n 0, 1) := by decide +kernel
theorem dJ0_charAt_5068e_8 : decode cJ0_charAt_5068e 8 = .ok (.getfield 9, 3) := by decide +kernel
theorem dJ0_charAt_5068e_11 : decode cJ0_charAt_5068e 11 = .ok (.iload_n 1, 1) := by decide +kernel
theorem dJ0_charAt_5068e_12 : decode cJ0_charAt_5068e 12 = .ok (.invokestatic 495, 3) := by decide +kernel
theorem dJ0_charAt_5068e_15 : decode cJ0_charAt_5068e 15 = .ok (.ireturn, 1) := by decide +kernel
theorem dJ0_charAt_5068e_16 : decode cJ0_charAt_5068e 16 = .ok (.aload_n 0, 1) := by decide +kernel
theorem dJ0_charAt_5068e_17 : decode cJ0_charAt_5068e 17 = .ok (.getfield 9, 3) := by decide +kernel
theorem dJ0_charAt_5068e_20 : decode cJ0_charAt_5068e 20 = .ok (.iload_n 1, 1) := by decide +kernel
theorem dJ0_charAt_5068e_21 : decode cJ0_charAt_5068e 21 = .ok (.invokestatic 498, 3) := by decide +kernel
theorem dJ0_charAt_5068e_24 : decode cJ0_charAt_5068e 24 = .ok (.ireturn, 1) := by decide +kernel
theorem dJ0_coder_7d493_0 : decode cJ0_coder_7d493 0 = .ok (.getstatic 38, 3) := by decide +kernel
theorem dJ0_coder_7d493_3 : decode cJ0_coder_7d493 3 = .ok (.ifCond .eq 10, 3) := by decide +kernel
theorem dJ0_coder_7d493_6 : decode cJ0_coder_7d493 6 = .ok (.aload_n 0, 1) := by decide +kernel
theorem dJ0_coder_7d493_7 : decode cJ0_coder_7d493 7 = .ok (.getfield 15, 3) := by decide +kernel
theorem dJ0_coder_7d493_10 : decode cJ0_coder_7d493 10 = .ok (.goto 4, 3) := by decide +kernel
theorem dJ0_coder_7d493_13 : decode cJ0_coder_7d493 13 = .ok (.iconst 1, 1) := by decide +kernel
theorem dJ0_coder_7d493_14 : decode cJ0_coder_7d493 14 = .ok (.ireturn, 1) := by decide +kernel
theorem dJ0_isLatin1_aae02_0 : decode cJ0_isLatin1_aae02 0 = .ok (.getstatic 38, 3) := by decide +kernel
theorem dJ0_isLatin1_aae02_3 : decode cJ0_isLatin1_aae02 3 = .ok (.ifCond .eq 14, 3) := by decide +kernel
theorem dJ0_isLatin1_aae02_6 : decode cJ0_isLatin1_aae02 6 = .ok (.aload_n 0, 1) := by decide +kernel
theorem dJ0_isLatin1_aae02_7 : decode cJ0_isLatin1_aae02 7 = .ok (.getfield 15, 3) := by decide +kernel
theorem dJ0_isLatin1_aae02_10 : decode cJ0_isLatin1_aae02 10 = .ok (.ifCond .ne 7, 3) := by decide +kernel
theorem dJ0_isLatin1_aae02_13 : decode cJ0_isLatin1_aae02 13 = .ok (.iconst 1, 1) := by decide +kernel
theorem dJ0_isLatin1_aae02_14 : decode cJ0_isLatin1_aae02 14 = .ok (.goto 4, 3) := by decide +kernel
theorem dJ0_isLatin1_aae02_17 : decode cJ0_isLatin1_aae02 17 = .ok (.iconst 0, 1) := by decide +kernel
theorem dJ0_isLatin1_aae02_18 : decode cJ0_isLatin1_aae02 18 = .ok (.ireturn, 1) := by decide +kernel
theorem dJ0_checkIndex_df160_0 : decode cJ0_checkIndex_df160 0 = .ok (.iload_n 0, 1) := by decide +kernel
theorem dJ0_checkIndex_df160_1 : decode cJ0_checkIndex_df160 1 = .ok (.iload_n 1, 1) := by decide +kernel
theorem dJ0_checkIndex_df160_2 : decode cJ0_checkIndex_df160 2 = .ok (.getstatic 1053, 3) := by decide +kernel
theorem dJ0_checkIndex_df160_5 : decode cJ0_checkIndex_df160 5 = .ok (.invokestatic 1059, 3) := by decide +kernel
theorem dJ0_checkIndex_df160_8 : decode cJ0_checkIndex_df160 8 = .ok (.pop, 1) := by decide +kernel
theorem dJ0_checkIndex_df160_9 : decode cJ0_checkIndex_df160 9 = .ok (.return_, 1) := by decide +kernel
theorem dJ1_charAt_3b067_0 : decode cJ1_charAt_3b067 0 = .ok (.iload_n 1, 1) := by decide +kernel
theorem dJ1_charAt_3b067_1 : decode cJ1_charAt_3b067 1 = .ok (.aload_n 0, 1) := by decide +kernel
theorem dJ1_charAt_3b067_2 : decode cJ1_charAt_3b067 2 = .ok (.arraylength, 1) := by decide +kernel
theorem dJ1_charAt_3b067_3 : decode cJ1_charAt_3b067 3 = .ok (.invokestatic 9, 3) := by decide +kernel
theorem dJ1_charAt_3b067_6 : decode cJ1_charAt_3b067 6 = .ok (.aload_n 0, 1) := by decide +kernel
theorem dJ1_charAt_3b067_7 : decode cJ1_charAt_3b067 7 = .ok (.iload_n 1, 1) := by decide +kernel
theorem dJ1_charAt_3b067_8 : decode cJ1_charAt_3b067 8 = .ok (.baload, 1) := by decide +kernel
theorem dJ1_charAt_3b067_9 : decode cJ1_charAt_3b067 9 = .ok (.sipush 255, 3) := by decide +kernel
theorem dJ1_charAt_3b067_12 : decode cJ1_charAt_3b067 12 = .ok (.iand, 1) := by decide +kernel
theorem dJ1_charAt_3b067_13 : decode cJ1_charAt_3b067 13 = .ok (.i2c, 1) := by decide +kernel
theorem dJ1_charAt_3b067_14 : decode cJ1_charAt_3b067 14 = .ok (.ireturn, 1) := by decide +kernel
theorem dJ3_checkIndex_8e157_0 : decode cJ3_checkIndex_8e157 0 = .ok (.iload_n 0, 1) := by decide +kernel
theorem dJ3_checkIndex_8e157_1 : decode cJ3_checkIndex_8e157 1 = .ok (.ifCond .lt 8, 3) := by decide +kernel
theorem dJ3_checkIndex_8e157_4 : decode cJ3_checkIndex_8e157 4 = .ok (.iload_n 0, 1) := by decide +kernel
theorem dJ3_checkIndex_8e157_5 : decode cJ3_checkIndex_8e157 5 = .ok (.iload_n 1, 1) := by decide +kernel
theorem dJ3_checkIndex_8e157_6 : decode cJ3_checkIndex_8e157 6 = .ok (.if_icmp .lt 10, 3) := by decide +kernel
theorem dJ3_checkIndex_8e157_9 : decode cJ3_checkIndex_8e157 9 = .ok (.aload_n 2, 1) := by decide +kernel
theorem dJ3_checkIndex_8e157_10 : decode cJ3_checkIndex_8e157 10 = .ok (.iload_n 0, 1) := by decide +kernel
theorem dJ3_checkIndex_8e157_11 : decode cJ3_checkIndex_8e157 11 = .ok (.iload_n 1, 1) := by decide +kernel
theorem dJ3_checkIndex_8e157_12 : decode cJ3_checkIndex_8e157 12 = .ok (.invokestatic 95, 3) := by decide +kernel
theorem dJ3_checkIndex_8e157_15 : decode cJ3_checkIndex_8e157 15 = .ok (.athrow, 1) := by decide +kernel
theorem dJ3_checkIndex_8e157_16 : decode cJ3_checkIndex_8e157 16 = .ok (.iload_n 0, 1) := by decide +kernel
theorem dJ3_checkIndex_8e157_17 : decode cJ3_checkIndex_8e157 17 = .ok (.ireturn, 1) := by decide +kernel
theorem mm_goodTB : GoodIn mm_TB mm_TB := fun w h => ⟨h, good_of_word (List.mem_filter.mp h).2⟩
theorem mm_goodC {w0 : Cond} (h0 : w0 ∈ mm_TB) : GoodIn mm_TB (w0 :: mm_TB) := fun w h => (List.mem_cons.mp h).elim (fun e => by rw [e]; exact mm_goodTB _ h0) (mm_goodTB w)
theorem mm_cb {R : Room} {s : State} {args : Array Value} {own : String} {idx maxL n : Nat} {y : MethodName} {bytes : ByteArray} {ret : Option FieldType} {rm : Room} (hts : ∀ w ∈ mm_TB, w.before args s = true) (hc : Cond.code y bytes maxL ret ∈ mm_TB) (hi : Cond.initialized y.cls ∈ mm_TB) (hl : Cond.methodLink own idx y ∈ mm_TB)
    (hd : y.cls ≠ "java/lang/invoke/MethodHandle" ∧ y.cls ≠ "java/lang/invoke/VarHandle" ∧ (parseMethodDescriptor y.desc).map (fun d => d.parameters.length) = some n) (hR : rm.frames + 1 ≤ R.frames ∧ 8 + (maxL + 11) + rm.locals ≤ R.locals) : CallB R s args own idx y bytes maxL ret (Cond.code y bytes maxL ret :: mm_TB) rm rm.cells rm.slots n :=
  ⟨rfl, rfl, hR.1, hR.2, pay_in hts (mm_goodC hc), List.mem_cons_self, hts _ hc, hts _ hi, ⟨hd.1, hd.2.1⟩, fun sig h => by have h2 := hd.2.2; rw [h] at h2; exact (Option.some.inj h2).symm, hts _ hl⟩
/-- what stands of the String constants, and the two statics that String reads -/
def mm_Ss (adK adV : Nat → Nat) (A : Nat → Prop) (U : State) (H : Heap) : Prop := vk_S mm_str.length (mm_str.map List.length) mm_str adK adV A U H ∧ va_Z "java/lang/String" "COMPACT_STRINGS" "Z" (.int 1) A U H ∧ va_Zq "jdk/internal/util/Preconditions" "SIOOBE_FORMATTER" "Ljava/util/function/BiFunction;" A U H
theorem mm_Ss.moved {adK adV : Nat → Nat} {A : Nat → Prop} {u U : State} {H : Heap} (hvm : u.vm.Alike U.vm) (h : mm_Ss adK adV A u H) : mm_Ss adK adV A U H := ⟨h.1.moved hvm, h.2.1.moved hvm, h.2.2.moved hvm⟩
theorem mm_Ss.kept {adK adV : Nat → Nat} {A : Nat → Prop} {U : State} {H H1 : Heap} (h : mm_Ss adK adV A U H) (hq : ∀ a : Nat, a < H.size → ¬ A a → H1[a]? = H[a]?) : mm_Ss adK adV A U H1 := ⟨h.1.kept hq, h.2.1.kept hq, h.2.2.kept hq⟩
theorem mm_Ss.narrow {adK adV : Nat → Nat} {A B : Nat → Prop} {U : State} {H : Heap} (h : mm_Ss adK adV A U H) (hAB : ∀ q, B q → A q) : mm_Ss adK adV B U H := ⟨h.1.narrow hAB, h.2.1.narrow hAB, h.2.2.narrow hAB⟩
abbrev sc_A (U : State) : Nat → Prop := fun q => U.heap.size ≤ q
abbrev sc_P (adK adV : Nat → Nat) (av : List Value) : Array Value → State → Prop := fun v U => v = av.toArray ∧ mm_Ss adK adV (sc_A U) U U.heap
theorem sc_blind {adK adV : Nat → Nat} {av : List Value} : FrameBlind (sc_P adK adV av) := fun a U g mk h => ⟨h.1, mm_Ss.moved (u := U) (U := U.calling g mk a) (Vm.Alike.refl U.vm) h.2⟩
theorem sc_pre {adK adV : Nat → Nat} {av : List Value} {s : State} {H : Heap} {locs : List Loc} {A : Nat → Prop} (hE : mm_Ss adK adV A s s.heap) (hS : va_S A s.heap H locs) (hA : ∀ q, s.heap.size ≤ q → A q) : ∀ U : State, U.heap = H → s.WarmedH U.vm → sc_P adK adV av av.toArray U := fun U hU hW => ⟨rfl, by
  rw [hU]
  exact ((hE.kept hS.2.1).moved hW.alike).narrow (fun q (h : U.heap.size ≤ q) => hA q (by rw [hU] at h; exact Nat.le_trans hS.1 h))⟩
def sc_rm (d : Nat) : Room := { frames := d, cells := 0, slots := 0, locals := 40 * d }
theorem mm_W1 : mm_contains (.fieldLink RJ0 38 "java/lang/String" "COMPACT_STRINGS" "Z") = true := by decide +kernel
theorem mm_W2 : mm_contains (.fieldLink RJ0 15 "java/lang/String" "coder" "B") = true := by decide +kernel
theorem mm_W3 : mm_contains (.fieldLink RJ0 9 "java/lang/String" "value" "[B") = true := by decide +kernel
theorem mm_W4 : mm_contains (.fieldLink RJ0 1053 "jdk/internal/util/Preconditions" "SIOOBE_FORMATTER" "Ljava/util/function/BiFunction;") = true := by decide +kernel
theorem mm_W5 : mm_contains (.code yJ0_coder_7d493 cJ0_coder_7d493 1 (some .byte)) = true := by decide +kernel
theorem mm_W6 : mm_contains (.initialized RJ0) = true := by decide +kernel
theorem mm_W7 : mm_contains (.methodLink RJ0 335 yJ0_coder_7d493) = true := by decide +kernel
theorem mm_W8 : mm_contains (.instanceMethod yJ0_coder_7d493) = true := by decide +kernel
theorem mm_W9 : mm_contains (.selects RJ0 yJ0_coder_7d493 yJ0_coder_7d493) = true := by decide +kernel
theorem mm_W10 : mm_contains (.code yJ0_isLatin1_aae02 cJ0_isLatin1_aae02 1 (some .boolean)) = true := by decide +kernel
theorem mm_W11 : mm_contains (.methodLink RJ0 492 yJ0_isLatin1_aae02) = true := by decide +kernel
theorem mm_W12 : mm_contains (.instanceMethod yJ0_isLatin1_aae02) = true := by decide +kernel
theorem mm_W13 : mm_contains (.selects RJ0 yJ0_isLatin1_aae02 yJ0_isLatin1_aae02) = true := by decide +kernel
theorem mm_W14 : mm_contains (.code yJ1_charAt_3b067 cJ1_charAt_3b067 2 (some .char)) = true := by decide +kernel
theorem mm_W15 : mm_contains (.methodLink RJ0 495 yJ1_charAt_3b067) = true := by decide +kernel
theorem mm_W16 : mm_contains (.static yJ1_charAt_3b067) = true := by decide +kernel
theorem mm_W17 : mm_contains (.initialized RJ1) = true := by decide +kernel
theorem mm_W18 : mm_contains (.code yJ0_checkIndex_df160 cJ0_checkIndex_df160 2 none) = true := by decide +kernel
theorem mm_W19 : mm_contains (.methodLink RJ1 9 yJ0_checkIndex_df160) = true := by decide +kernel
theorem mm_W20 : mm_contains (.static yJ0_checkIndex_df160) = true := by decide +kernel
theorem mm_W21 : mm_contains (.code yJ3_checkIndex_8e157 cJ3_checkIndex_8e157 3 (some .int)) = true := by decide +kernel
theorem mm_W22 : mm_contains (.methodLink RJ0 1059 yJ3_checkIndex_8e157) = true := by decide +kernel
theorem mm_W23 : mm_contains (.static yJ3_checkIndex_8e157) = true := by decide +kernel
theorem mm_W24 : mm_contains (.initialized RJ3) = true := by decide +kernel
theorem mm_W25 : mm_contains (.code yJ0_length_8abf5 cJ0_length_8abf5 1 (some .int)) = true := by decide +kernel
theorem mm_W26 : mm_contains (.code yJ0_charAt_5068e cJ0_charAt_5068e 2 (some .char)) = true := by decide +kernel
theorem mm_W27 : mm_contains (.instanceMethod yJ0_length_8abf5) = true := by decide +kernel
theorem mm_W28 : mm_contains (.selects RJ0 yJ0_length_8abf5 yJ0_length_8abf5) = true := by decide +kernel
theorem mm_W29 : mm_contains (.instanceMethod yJ0_charAt_5068e) = true := by decide +kernel
theorem mm_W30 : mm_contains (.selects RJ0 yJ0_charAt_5068e yJ0_charAt_5068e) = true := by decide +kernel
section SC
variable {l : Launch} {adK adV : Nat → Nat} {j : Nat}
set_option maxHeartbeats 4000000 in
theorem sc_coder (d : Nat) (hj : j < mm_str.length) : Met l yJ0_coder_7d493 (.code yJ0_coder_7d493 cJ0_coder_7d493 1 (some .byte) :: mm_TB) (sc_rm d) (sc_P adK adV [.ref (adK j)]) (vp_Si (fun r => r = 0)) 0 0 (fun _ => False) := by
  refine Met.ofW (cc := cJ0_coder_7d493) (maxL := 1) (ret := some .byte) (by decide) rfl ?_
  intro p e s m args below meth c s₁ B hml hv
  obtain ⟨rfl, hE⟩ := hv
  have hx := B.exec
  have hb := B.bytes
  have hr := B.returns
  have hts : ∀ w ∈ mm_TB, w.before _ s = true := fun w h => atoms_spec (ws := .code yJ0_coder_7d493 cJ0_coder_7d493 1 (some .byte) :: mm_TB) B.pre w (List.mem_cons_of_mem _ h)
  have hown : s.vm.findClass RJ0 = some m.cls := findClass_of_methodNamed B.named
  have hlocks := B.notSynchronized
  have hS : va_S (sc_A s) s.heap s.heap [] := va_S.rf
  have hl := lv_entry ([.ref (adK j)]) (n := 1) (Nat.le_of_ble_eq_true rfl)
  rw [lg_entry_eq]
  generalize (lg_sl ([.ref (adK j)]) ++ List.replicate (1 - (lg_sl ([.ref (adK j)])).length) Slot.unset).toArray = ls at hl ⊢
  have hl : lv_has ls 1 [(0, .ref (adK j))] := hl
  refine va_gets (v := .int 1) hx hb hE.2.1 hS hown (hts _ (mm_TBc mm_W1)) (fun _ h => h) dJ0_coder_7d493_0 ?_
  refine lv_if_eq (tgt := 13) hx hb dJ0_coder_7d493_3 (by decide) (fun h => absurd h (by decide)) (fun _ => ?_)
  refine lv_aload_n hx hb dJ0_coder_7d493_6 rfl (lv_at hl 0 rfl) ?_
  refine vk_getf (v := .int 0) hx hb (hE.1.1 j hj).2.1 hS hown (hts _ (mm_TBc mm_W2)) (fun _ h => h) dJ0_coder_7d493_7 ?_
  refine lv_goto (tgt := 14) hx hb dJ0_coder_7d493_10 (by decide) ?_
  exact W.zret (v := 0) hx hb hr rfl (fun t ht hW => ⟨0, rfl, rfl, ht⟩) (fun q hq => nomatch hq) dJ0_coder_7d493_14
set_option maxHeartbeats 4000000 in
theorem sc_latin (d : Nat) (hj : j < mm_str.length) : Met l yJ0_isLatin1_aae02 (.code yJ0_isLatin1_aae02 cJ0_isLatin1_aae02 1 (some .boolean) :: mm_TB) (sc_rm d) (sc_P adK adV [.ref (adK j)]) (vp_Si (fun r => r = 1)) 0 0 (fun _ => False) := by
  refine Met.ofW (cc := cJ0_isLatin1_aae02) (maxL := 1) (ret := some .boolean) (by decide) rfl ?_
  intro p e s m args below meth c s₁ B hml hv
  obtain ⟨rfl, hE⟩ := hv
  have hx := B.exec
  have hb := B.bytes
  have hr := B.returns
  have hts : ∀ w ∈ mm_TB, w.before _ s = true := fun w h => atoms_spec (ws := .code yJ0_isLatin1_aae02 cJ0_isLatin1_aae02 1 (some .boolean) :: mm_TB) B.pre w (List.mem_cons_of_mem _ h)
  have hown : s.vm.findClass RJ0 = some m.cls := findClass_of_methodNamed B.named
  have hlocks := B.notSynchronized
  have hS : va_S (sc_A s) s.heap s.heap [] := va_S.rf
  have hl := lv_entry ([.ref (adK j)]) (n := 1) (Nat.le_of_ble_eq_true rfl)
  rw [lg_entry_eq]
  generalize (lg_sl ([.ref (adK j)]) ++ List.replicate (1 - (lg_sl ([.ref (adK j)])).length) Slot.unset).toArray = ls at hl ⊢
  have hl : lv_has ls 1 [(0, .ref (adK j))] := hl
  refine va_gets (v := .int 1) hx hb hE.2.1 hS hown (hts _ (mm_TBc mm_W1)) (fun _ h => h) dJ0_isLatin1_aae02_0 ?_
  refine lv_if_eq (tgt := 17) hx hb dJ0_isLatin1_aae02_3 (by decide) (fun h => absurd h (by decide)) (fun _ => ?_)
  refine lv_aload_n hx hb dJ0_isLatin1_aae02_6 rfl (lv_at hl 0 rfl) ?_
  refine vk_getf (v := .int 0) hx hb (hE.1.1 j hj).2.1 hS hown (hts _ (mm_TBc mm_W2)) (fun _ h => h) dJ0_isLatin1_aae02_7 ?_
  refine lv_if_ne (tgt := 17) hx hb dJ0_isLatin1_aae02_10 (by decide) (fun h => absurd rfl h) (fun _ => ?_)
  refine lv_iconst (v := 1) hx hb dJ0_isLatin1_aae02_13 (by decide) ?_
  refine lv_goto (tgt := 18) hx hb dJ0_isLatin1_aae02_14 (by decide) ?_
  exact W.zret (v := 1) hx hb hr rfl (fun t ht hW => ⟨1, rfl, rfl, ht⟩) (fun q hq => nomatch hq) dJ0_isLatin1_aae02_18
set_option maxHeartbeats 4000000 in
theorem sc_chk3 (d : Nat) {i n : Int32} {v : Value} (hv1 : v.category = 1) (hi : ¬ i < 0) (hn : i < n) : Met l yJ3_checkIndex_8e157 (.code yJ3_checkIndex_8e157 cJ3_checkIndex_8e157 3 (some .int) :: mm_TB) (sc_rm d) (sc_P adK adV [.int i, .int n, v]) (vp_Si (fun r => r = i)) 0 0 (fun _ => False) := by
  refine Met.ofW (cc := cJ3_checkIndex_8e157) (maxL := 3) (ret := some .int) (by decide) rfl ?_
  intro p e s m args below meth c s₁ B hml hv
  obtain ⟨rfl, hE⟩ := hv
  have hx := B.exec
  have hb := B.bytes
  have hr := B.returns
  have hlocks := B.notSynchronized
  have hl := lv_entry ([.int i, .int n, v]) (n := 3) (by simp only [lg_sl, List.flatMap_cons, List.flatMap_nil, hv1]; exact Nat.le_refl 3)
  rw [lg_entry_eq]
  generalize (lg_sl ([.int i, .int n, v]) ++ List.replicate (3 - (lg_sl ([.int i, .int n, v])).length) Slot.unset).toArray = ls at hl ⊢
  have hl : lv_has ls 3 [(0, .int i), (1, .int n), (2, v)] := hl
  refine lv_iload_n hx hb dJ3_checkIndex_8e157_0 rfl (lv_at hl 0 rfl) ?_
  refine lv_if_lt (tgt := 9) hx hb dJ3_checkIndex_8e157_1 (by decide) (fun h => absurd h hi) (fun _ => ?_)
  refine lv_iload_n hx hb dJ3_checkIndex_8e157_4 rfl (lv_at hl 0 rfl) ?_
  refine lv_iload_n hx hb dJ3_checkIndex_8e157_5 rfl (lv_at hl 1 rfl) ?_
  refine lv_icmp_lt (tgt := 16) hx hb dJ3_checkIndex_8e157_6 (by decide) (fun _ => ?_) (fun h => absurd hn h)
  refine lv_iload_n hx hb dJ3_checkIndex_8e157_16 rfl (lv_at hl 0 rfl) ?_
  exact W.iret (v := i) hx hb hr (fun t ht hW => ⟨i, rfl, rfl, ht⟩) (fun q hq => nomatch hq) dJ3_checkIndex_8e157_17
set_option maxHeartbeats 4000000 in
theorem sc_chk2 {i n : Int32} (hi : ¬ i < 0) (hn : i < n) : Met l yJ0_checkIndex_df160 (.code yJ0_checkIndex_df160 cJ0_checkIndex_df160 2 none :: mm_TB) (sc_rm 2) (sc_P adK adV [.int i, .int n]) (va_Sv (fun _ => True)) 0 0 (fun _ => False) := by
  refine Met.ofW (cc := cJ0_checkIndex_df160) (maxL := 2) (ret := none) (by decide) rfl ?_
  intro p e s m args below meth c s₁ B hml hv
  obtain ⟨rfl, hE⟩ := hv
  have hx := B.exec
  have hb := B.bytes
  have hr := B.returns
  have hts : ∀ w ∈ mm_TB, w.before _ s = true := fun w h => atoms_spec (ws := .code yJ0_checkIndex_df160 cJ0_checkIndex_df160 2 none :: mm_TB) B.pre w (List.mem_cons_of_mem _ h)
  have hown : s.vm.findClass RJ0 = some m.cls := findClass_of_methodNamed B.named
  have hlocks := B.notSynchronized
  have hS : va_S (sc_A s) s.heap s.heap [] := va_S.rf
  have hl := lv_entry ([.int i, .int n]) (n := 2) (Nat.le_of_ble_eq_true rfl)
  rw [lg_entry_eq]
  generalize (lg_sl ([.int i, .int n]) ++ List.replicate (2 - (lg_sl ([.int i, .int n])).length) Slot.unset).toArray = ls at hl ⊢
  have hl : lv_has ls 2 [(0, .int i), (1, .int n)] := hl
  refine lv_iload_n hx hb dJ0_checkIndex_df160_0 rfl (lv_at hl 0 rfl) ?_
  refine lv_iload_n hx hb dJ0_checkIndex_df160_1 rfl (lv_at hl 1 rfl) ?_
  have key : ∀ v : Value, v.category = 1 → W p l e (headSpec (.code yJ0_checkIndex_df160 cJ0_checkIndex_df160 2 none :: mm_TB) (sc_rm 2)).room s m ([.int i, .int n] : List Value).toArray below meth c s.heap [] 0 0 (MQ below (va_Sv (fun _ => True)) ([.int i, .int n] : List Value).toArray s 0 0 (fun _ => False)) (F0 m 5 ls [v, .int n, .int i]) := by
    intro v hv1
    refine vp_callSi (W.runS (As := [.int i, .int n, v]) (rest := []) ⟨hx, hb, hml, hown, hts⟩ (sc_chk3 (adK := adK) (adV := adV) 1 hv1 hi hn) ⟨mm_cb (n := 3) hts (mm_TBc mm_W21) (mm_TBc mm_W24) (mm_TBc mm_W22) ⟨by decide, by decide, by decide +kernel⟩ ⟨by decide, by decide⟩, hts _ (mm_TBc mm_W23)⟩ ⟨sc_blind, sc_pre hE hS (fun _ h => h)⟩ rfl rfl hl.1 rfl (lv_room (Nat.le_of_ble_eq_true rfl)) dJ0_checkIndex_df160_5 ⟨Nat.le_refl _, Nat.le_refl _⟩) (fun r hr9 => ?_)
    refine lv_pop hx hb dJ0_checkIndex_df160_8 rfl ?_
    exact W.vret hx hb hr (fun t ht hW => ⟨rfl, trivial, ht⟩) (fun q hq => nomatch hq) dJ0_checkIndex_df160_9
  rcases hE.2.2 with hz | ⟨t, hz⟩
  · exact va_gets (v := .null) hx hb hz hS hown (hts _ (mm_TBc mm_W4)) (fun _ h => h) dJ0_checkIndex_df160_2 (key _ rfl)
  · exact va_gets (v := .ref t) hx hb hz hS hown (hts _ (mm_TBc mm_W4)) (fun _ h => h) dJ0_checkIndex_df160_2 (key _ rfl)
theorem sc_byte {j : Nat} (hj : j < mm_str.length) (i : Nat) : ((mm_str.getD j []).getD i 0 &&& 255) = (mm_str.getD j []).getD i 0 ∧ (((mm_str.getD j []).getD i 0).toUInt32 % 65536).toInt32 = (mm_str.getD j []).getD i 0 ∧ narrow .char (.int ((mm_str.getD j []).getD i 0)) = .int ((mm_str.getD j []).getD i 0) := by
  have all : mm_str.all (fun b => b.all (fun x => decide (x &&& 255 = x) && decide ((x.toUInt32 % 65536).toInt32 = x) && decide (narrow .char (.int x) = .int x))) = true := by decide +kernel
  have e0 : mm_str.getD j [] = mm_str[j] := by rw [List.getD_eq_getElem?_getD, List.getElem?_eq_getElem hj, Option.getD_some]
  rw [e0]
  have h1 := List.all_eq_true.mp all _ (List.getElem_mem hj)
  rw [List.getD_eq_getElem?_getD]
  cases h2 : (mm_str[j])[i]? with
  | none => exact ⟨by decide, by decide, rfl⟩
  | some x =>
    have h3 := List.all_eq_true.mp h1 x (List.mem_of_getElem? h2)
    simp only [Bool.and_eq_true, decide_eq_true_eq] at h3
    exact ⟨h3.1.1, h3.1.2, h3.2⟩
theorem sc_lenI {j : Nat} (hj : j < mm_str.length) : (mm_str.map List.length).getD j 0 = (mm_str.getD j []).length := by
  rw [List.getD_eq_getElem?_getD, List.getElem?_map, List.getD_eq_getElem?_getD, List.getElem?_eq_getElem hj]
  rfl
theorem sc_len9 {j : Nat} (hj : j < mm_str.length) : (mm_str.getD j []).length < 10 := by
  have all : mm_str.all (fun b => decide (b.length < 10)) = true := by decide +kernel
  rw [List.getD_eq_getElem?_getD, List.getElem?_eq_getElem hj, Option.getD_some]
  exact of_decide_eq_true (List.all_eq_true.mp all _ (List.getElem_mem hj))
set_option maxHeartbeats 4000000 in
theorem sc_char1 {i : Int32} (hj : j < mm_str.length) (hi : mm_ix i (mm_str.getD j []).length) : Met l yJ1_charAt_3b067 (.code yJ1_charAt_3b067 cJ1_charAt_3b067 2 (some .char) :: mm_TB) (sc_rm 3) (sc_P adK adV [.ref (adV j), .int i]) (vp_Si (fun r => r = (mm_str.getD j []).getD i.toNatClampNeg 0)) 0 0 (fun _ => False) := by
  refine Met.ofW (cc := cJ1_charAt_3b067) (maxL := 2) (ret := some .char) (by decide) rfl ?_
  intro p e s m args below meth c s₁ B hml hv
  obtain ⟨rfl, hE⟩ := hv
  have hx := B.exec
  have hb := B.bytes
  have hr := B.returns
  have hts : ∀ w ∈ mm_TB, w.before _ s = true := fun w h => atoms_spec (ws := .code yJ1_charAt_3b067 cJ1_charAt_3b067 2 (some .char) :: mm_TB) B.pre w (List.mem_cons_of_mem _ h)
  have hown : s.vm.findClass RJ1 = some m.cls := findClass_of_methodNamed B.named
  have hlocks := B.notSynchronized
  have hS : va_S (sc_A s) s.heap s.heap [] := va_S.rf
  have hl := lv_entry ([.ref (adV j), .int i]) (n := 2) (Nat.le_of_ble_eq_true rfl)
  rw [lg_entry_eq]
  generalize (lg_sl ([.ref (adV j), .int i]) ++ List.replicate (2 - (lg_sl ([.ref (adV j), .int i])).length) Slot.unset).toArray = ls at hl ⊢
  have hl : lv_has ls 2 [(0, .ref (adV j)), (1, .int i)] := hl
  have hT := (hE.1.1 j hj).2.2.2
  rw [sc_lenI hj] at hT
  have h9 := sc_len9 hj
  obtain ⟨z, hz, rfl⟩ := vp_in_of hi (by omega)
  have hlt : nI z < nI (mm_str.getD j []).length := nI_lt hz (by omega)
  have hge : ¬ nI z < 0 := nI_pos (by omega)
  obtain ⟨b1, b2, b3⟩ := sc_byte hj (nI z).toNatClampNeg
  refine lv_iload_n hx hb dJ1_charAt_3b067_0 rfl (lv_at hl 1 rfl) ?_
  refine lv_aload_n hx hb dJ1_charAt_3b067_1 rfl (lv_at hl 0 rfl) ?_
  refine va_tlen (v := nI (mm_str.getD j []).length) hx hb hT hS rfl dJ1_charAt_3b067_2 ?_
  refine va_csv (W.runS (As := [.int (nI z), .int (nI (mm_str.getD j []).length)]) (rest := []) ⟨hx, hb, hml, hown, hts⟩ (sc_chk2 (adK := adK) (adV := adV) hge hlt) ⟨mm_cb (n := 2) hts (mm_TBc mm_W18) (mm_TBc mm_W6) (mm_TBc mm_W19) ⟨by decide, by decide, by decide +kernel⟩ ⟨by decide, by decide⟩, hts _ (mm_TBc mm_W20)⟩ ⟨sc_blind, sc_pre hE hS (fun _ h => h)⟩ rfl rfl hl.1 rfl (lv_room (Nat.le_of_ble_eq_true rfl)) dJ1_charAt_3b067_3 ⟨Nat.le_refl _, Nat.le_refl _⟩) (fun _ => ?_)
  refine lv_aload_n hx hb dJ1_charAt_3b067_6 rfl (lv_at hl 0 rfl) ?_
  refine lv_iload_n hx hb dJ1_charAt_3b067_7 rfl (lv_at hl 1 rfl) ?_
  refine va_tb (v := .int ((mm_str.getD j []).getD (nI z).toNatClampNeg 0)) hx hb hT hS hi rfl dJ1_charAt_3b067_8 ?_
  refine lv_sipush (v := 255) hx hb dJ1_charAt_3b067_9 (by decide) ?_
  refine lv_iand hx hb dJ1_charAt_3b067_12 ?_
  rw [b1]
  refine lv_i2c hx hb dJ1_charAt_3b067_13 b2 ?_
  exact W.zret (v := (mm_str.getD j []).getD (nI z).toNatClampNeg 0) hx hb hr b3 (fun t ht hW => ⟨_, rfl, rfl, ht⟩) (fun q hq => nomatch hq) dJ1_charAt_3b067_14
theorem sc_recv {s : State} {H : Heap} {locs : List Loc} {A : Nat → Prop} (hE : mm_Ss adK adV A s s.heap) (hj : j < mm_str.length) (hS : va_S A s.heap H locs) : ∃ cell : Cell, H[adK j]? = some cell ∧ cell.vm.isStatics = false ∧ s.vm.findClass RJ0 = some cell.cls := vk_recv hE.1 hj hS
set_option maxHeartbeats 4000000 in
theorem sc_len (hj : j < mm_str.length) : Met l yJ0_length_8abf5 (.code yJ0_length_8abf5 cJ0_length_8abf5 1 (some .int) :: mm_TB) (sc_rm 4) (sc_P adK adV [.ref (adK j)]) (vp_Si (fun r => r = Int32.ofNat (mm_str.getD j []).length)) 0 0 (fun _ => False) := by
  refine Met.ofW (cc := cJ0_length_8abf5) (maxL := 1) (ret := some .int) (by decide) rfl ?_
  intro p e s m args below meth c s₁ B hml hv
  obtain ⟨rfl, hE⟩ := hv
  have hx := B.exec
  have hb := B.bytes
  have hr := B.returns
  have hts : ∀ w ∈ mm_TB, w.before _ s = true := fun w h => atoms_spec (ws := .code yJ0_length_8abf5 cJ0_length_8abf5 1 (some .int) :: mm_TB) B.pre w (List.mem_cons_of_mem _ h)
  have hown : s.vm.findClass RJ0 = some m.cls := findClass_of_methodNamed B.named
  have hlocks := B.notSynchronized
  have hS : va_S (sc_A s) s.heap s.heap [] := va_S.rf
  have hl := lv_entry ([.ref (adK j)]) (n := 1) (Nat.le_of_ble_eq_true rfl)
  rw [lg_entry_eq]
  generalize (lg_sl ([.ref (adK j)]) ++ List.replicate (1 - (lg_sl ([.ref (adK j)])).length) Slot.unset).toArray = ls at hl ⊢
  have hl : lv_has ls 1 [(0, .ref (adK j))] := hl
  have hT := (hE.1.1 j hj).2.2.2
  rw [sc_lenI hj] at hT
  refine lv_aload_n hx hb dJ0_length_8abf5_0 rfl (lv_at hl 0 rfl) ?_
  refine vk_getf (v := .ref (adV j)) hx hb (hE.1.1 j hj).2.2.1 hS hown (hts _ (mm_TBc mm_W3)) (fun _ h => h) dJ0_length_8abf5_1 ?_
  refine va_tlen (v := Int32.ofNat (mm_str.getD j []).length) hx hb hT hS rfl dJ0_length_8abf5_4 ?_
  refine lv_aload_n hx hb dJ0_length_8abf5_5 rfl (lv_at hl 0 rfl) ?_
  refine vp_callSi (W.runV (C := RJ0) (As := []) (rest := [.int (Int32.ofNat (mm_str.getD j []).length)]) ⟨hx, hb, hml, hown, hts⟩ (sc_coder (adK := adK) (adV := adV) 1 hj) ⟨mm_cb (n := 0) hts (mm_TBc mm_W5) (mm_TBc mm_W6) (mm_TBc mm_W7) ⟨by decide, by decide, by decide +kernel⟩ ⟨by decide, by decide⟩, hts _ (mm_TBc mm_W8), hts _ (mm_TBc mm_W9)⟩ ⟨sc_blind, sc_recv hE hj hS, sc_pre hE hS (fun _ h => h)⟩ rfl rfl hl.1 rfl (lv_room (Nat.le_of_ble_eq_true rfl)) dJ0_length_8abf5_6 ⟨Nat.le_refl _, Nat.le_refl _⟩) (fun r hr9 => ?_)
  subst hr9
  refine lv_ishr hx hb dJ0_length_8abf5_9 ?_
  rw [sb_shr0]
  exact W.iret (v := Int32.ofNat (mm_str.getD j []).length) hx hb hr (fun t ht hW => ⟨_, rfl, rfl, ht⟩) (fun q hq => nomatch hq) dJ0_length_8abf5_10
set_option maxHeartbeats 4000000 in
theorem sc_chr {i : Int32} (hj : j < mm_str.length) (hi : mm_ix i (mm_str.getD j []).length) : Met l yJ0_charAt_5068e (.code yJ0_charAt_5068e cJ0_charAt_5068e 2 (some .char) :: mm_TB) (sc_rm 4) (sc_P adK adV [.ref (adK j), .int i]) (vp_Si (fun r => r = (mm_str.getD j []).getD i.toNatClampNeg 0)) 0 0 (fun _ => False) := by
  refine Met.ofW (cc := cJ0_charAt_5068e) (maxL := 2) (ret := some .char) (by decide) rfl ?_
  intro p e s m args below meth c s₁ B hml hv
  obtain ⟨rfl, hE⟩ := hv
  have hx := B.exec
  have hb := B.bytes
  have hr := B.returns
  have hts : ∀ w ∈ mm_TB, w.before _ s = true := fun w h => atoms_spec (ws := .code yJ0_charAt_5068e cJ0_charAt_5068e 2 (some .char) :: mm_TB) B.pre w (List.mem_cons_of_mem _ h)
  have hown : s.vm.findClass RJ0 = some m.cls := findClass_of_methodNamed B.named
  have hlocks := B.notSynchronized
  have hS : va_S (sc_A s) s.heap s.heap [] := va_S.rf
  have hl := lv_entry ([.ref (adK j), .int i]) (n := 2) (Nat.le_of_ble_eq_true rfl)
  rw [lg_entry_eq]
  generalize (lg_sl ([.ref (adK j), .int i]) ++ List.replicate (2 - (lg_sl ([.ref (adK j), .int i])).length) Slot.unset).toArray = ls at hl ⊢
  have hl : lv_has ls 2 [(0, .ref (adK j)), (1, .int i)] := hl
  refine lv_aload_n hx hb dJ0_charAt_5068e_0 rfl (lv_at hl 0 rfl) ?_
  refine vp_callSi (W.runV (C := RJ0) (As := []) (rest := []) ⟨hx, hb, hml, hown, hts⟩ (sc_latin (adK := adK) (adV := adV) 1 hj) ⟨mm_cb (n := 0) hts (mm_TBc mm_W10) (mm_TBc mm_W6) (mm_TBc mm_W11) ⟨by decide, by decide, by decide +kernel⟩ ⟨by decide, by decide⟩, hts _ (mm_TBc mm_W12), hts _ (mm_TBc mm_W13)⟩ ⟨sc_blind, sc_recv hE hj hS, sc_pre hE hS (fun _ h => h)⟩ rfl rfl hl.1 rfl (lv_room (Nat.le_of_ble_eq_true rfl)) dJ0_charAt_5068e_1 ⟨Nat.le_refl _, Nat.le_refl _⟩) (fun r hr9 => ?_)
  subst hr9
  refine lv_if_eq (tgt := 16) hx hb dJ0_charAt_5068e_4 (by decide) (fun h => absurd h (by decide)) (fun _ => ?_)
  refine lv_aload_n hx hb dJ0_charAt_5068e_7 rfl (lv_at hl 0 rfl) ?_
  refine vk_getf (v := .ref (adV j)) hx hb (hE.1.1 j hj).2.2.1 hS hown (hts _ (mm_TBc mm_W3)) (fun _ h => h) dJ0_charAt_5068e_8 ?_
  refine lv_iload_n hx hb dJ0_charAt_5068e_11 rfl (lv_at hl 1 rfl) ?_
  refine vp_callSi (W.runS (As := [.ref (adV j), .int i]) (rest := []) ⟨hx, hb, hml, hown, hts⟩ (sc_char1 (adK := adK) (adV := adV) hj hi) ⟨mm_cb (n := 2) hts (mm_TBc mm_W14) (mm_TBc mm_W17) (mm_TBc mm_W15) ⟨by decide, by decide, by decide +kernel⟩ ⟨by decide, by decide⟩, hts _ (mm_TBc mm_W16)⟩ ⟨sc_blind, sc_pre hE hS (fun _ h => h)⟩ rfl rfl hl.1 rfl (lv_room (Nat.le_of_ble_eq_true rfl)) dJ0_charAt_5068e_12 ⟨Nat.le_refl _, Nat.le_refl _⟩) (fun r hr9 => ?_)
  subst hr9
  exact W.zret (v := (mm_str.getD j []).getD i.toNatClampNeg 0) hx hb hr (sc_byte hj _).2.2 (fun t ht hW => ⟨_, rfl, rfl, ht⟩) (fun q hq => nomatch hq) dJ0_charAt_5068e_15
end SC
end
section
/-! A CALLEE'S EXCEPTION, CAUGHT HERE: the search through the table, with rows that are passed -/
section MX
/-- a row that doesn't take the class thrown -/
def mx_pass (pl : Platform) (s0 : State) (dc : ClassId) (pc : Nat) (cls : ClassId) (z : ExceptionTableEntry) : Prop := covers z pc = false ∨ (z.catchType ≠ 0 ∧ ∃ k, s0.vm.ClassLinks pl dc z.catchType k ∧ s0.vm.assignable cls k = false)
theorem mx_row {e : Env} {S s0 : State} {f : JFrame} {a : Addr} {cell : Cell} {z : ExceptionTableEntry} {k : ClassId} (hW : s0.WarmedH S.vm) (hcell : S.heap[a]? = some cell) (hobj : ∀ j, cell.vm ≠ .statics j) (hk0 : ∃ j, s0.vm.classes[cell.cls]? = some j) (hcov : covers z f.pc = true) (h0 : z.catchType ≠ 0) (hl : s0.vm.ClassLinks e.platform f.method.cls z.catchType k) :
    ∃ vm', s0.WarmedH vm' ∧ ∀ (tl : List ExceptionTableEntry) (Q : Handler → Pre) (E : CtlPost) (d : Bool) (acts : List Action), wp (findHandler.go f a (z :: tl)) Q E e d acts S ↔ if s0.vm.assignable cell.cls k = true then Q (.found z.handlerPc) d acts (S.setVm vm') else wp (findHandler.go f a tl) Q E e d acts (S.setVm vm') := by
  obtain ⟨dk, _, _, kt, hd, _, _, _, _, hkt, _, hopen⟩ := hl.here
  have hl' := hW.classLinks hl
  obtain ⟨ha, ht⟩ := (resolveClass_links e.toSetting hl').op (op := VmOp.resolveClass f.method.cls z.catchType) rfl
  have hal : S.vm.Alike (S.vm.noted f.method.cls z.catchType (.cls k)) := (Vm.Alike.refl S.vm).noted _ _ _
  obtain ⟨k0, hk0⟩ := hk0
  obtain ⟨k1, hk1, -⟩ := hW.alike.2.2 _ _ hk0
  obtain ⟨k2, hk2, -⟩ := hW.alike.2.2 _ _ hkt
  obtain ⟨k3, hk3, -⟩ := hal.2.2 _ _ hk1
  obtain ⟨k4, hk4, -⟩ := hal.2.2 _ _ hk2
  refine ⟨_, hW.noted hd hopen (State.rightAt_cls hl), fun tl Q E d acts => ?_⟩
  have hasg : (S.vm.noted f.method.cls z.catchType (.cls k)).assignable cell.cls k = s0.vm.assignable cell.cls k := by rw [hal.assignable, hW.alike.assignable]
  simp only [covers] at hcov
  cases hfit : s0.vm.assignable cell.cls k <;> rw [hfit] at hasg <;> simp [findHandler.go, hcov, h0, ha, ht, hcell, hobj, hk3, hk4, hasg, VmOp.dirties, VmOp.acts]
theorem mx_find {e : Env} {s0 : State} {f : JFrame} {a : Addr} {cell : Cell} (hobj : ∀ j, cell.vm ≠ .statics j) (hk0 : ∃ j, s0.vm.classes[cell.cls]? = some j) (x : ExceptionTableEntry) (suf : List ExceptionTableEntry) (hx : covers x f.pc = true) (h0 : x.catchType ≠ 0) {k : ClassId} (hl : s0.vm.ClassLinks e.platform f.method.cls x.catchType k) (hfit : s0.vm.assignable cell.cls k = true) :
    ∀ (pre : List ExceptionTableEntry) (S : State), s0.WarmedH S.vm → S.heap[a]? = some cell → (∀ z ∈ pre, mx_pass e.platform s0 f.method.cls f.pc cell.cls z) →
      ∃ vm', s0.WarmedH vm' ∧ ∀ (Q : Handler → Pre) (E : CtlPost) (d : Bool) (acts : List Action), wp (findHandler.go f a (pre ++ x :: suf)) Q E e d acts S ↔ Q (.found x.handlerPc) d acts (S.setVm vm') := by
  intro pre
  induction pre with
  | nil =>
    intro S hW hcell _
    obtain ⟨vm', hW', hq⟩ := mx_row (f := f) (z := x) hW hcell hobj hk0 hx h0 hl
    exact ⟨vm', hW', fun Q E d acts => by rw [List.nil_append, hq, if_pos hfit]⟩
  | cons z pre ih =>
    intro S hW hcell hp
    have hp' : ∀ y ∈ pre, mx_pass e.platform s0 f.method.cls f.pc cell.cls y := fun y hy => hp y (List.mem_cons_of_mem _ hy)
    by_cases hcov : covers z f.pc = true
    · rcases hp z List.mem_cons_self with h | ⟨hz0, kz, hlz, hno⟩
      · rw [h] at hcov; cases hcov
      · obtain ⟨vm1, hW1, hq1⟩ := mx_row (f := f) (z := z) hW hcell hobj hk0 hcov hz0 hlz
        obtain ⟨vm2, hW2, hq2⟩ := ih (S.setVm vm1) hW1 hcell hp'
        exact ⟨vm2, hW2, fun Q E d acts => by rw [List.cons_append, hq1, if_neg (by rw [hno]; decide)]; exact hq2 Q E d acts⟩
    · obtain ⟨vm2, hW2, hq2⟩ := ih S hW hcell hp'
      exact ⟨vm2, hW2, fun Q E d acts => by rw [List.cons_append, W.findHandler_go_skip (by simpa using hcov)]; exact hq2 Q E d acts⟩
variable {p : Program} {l : Launch} {e : Env} {R : Room} {s : State} {m : MethodId} {args : Array Value} {below : List Frame} {meth : Method} {c : Code} {T : State} {locs : List Loc} {cells slots : Nat}
theorem mx_caught (X : Stand p l e R s m args below meth c T locs cells slots) (a : Addr) {g : JFrame} (hg : g.method = m) {cell : Cell} (hcell : T.heap[a]? = some cell) (hobj : cell.vm.isStatics = false) (hk0 : ∃ j, s.vm.classes[cell.cls]? = some j)
    (pre : List ExceptionTableEntry) (x : ExceptionTableEntry) (suf : List ExceptionTableEntry) (hsplit : c.exceptionTable.toList = pre ++ x :: suf) (hp : ∀ z ∈ pre, mx_pass e.platform s m.cls g.pc cell.cls z) (hx : covers x g.pc = true) (h0 : x.catchType ≠ 0) {k : ClassId} (hl : s.vm.ClassLinks e.platform m.cls x.catchType k) (hfit : s.vm.assignable cell.cls k = true) :
    ∃ vm', Stand p l e R s m args below meth c (T.setVm vm') locs cells slots ∧ Steps p.tables e below ((T.setTop g).pushFrame (.throwing a)) ((T.setVm vm').setTop { g with pc := x.handlerPc, stack := [.ref a] }) := by
  subst hg
  obtain ⟨vm', hW', hq⟩ := mx_find (e := e) (s0 := s) (f := g) (a := a) (cell := cell) (VmData.ne_statics_of hobj) hk0 x suf hx h0 hl hfit pre ((T.setTop g).pushFrame (.throwing a)) (by rw [throwing_vm]; exact X.warmed) (by rw [throwing_heap]; exact hcell) hp
  refine ⟨vm', X.noted hW', ?_⟩
  have h := X.here
  obtain ⟨hgo, hw⟩ := h.throwing a (g := g)
  refine Steps.head hgo hw ?_
  rw [stepThread_throwing (frames_entered h.top _)]
  obtain ⟨g0, hg0⟩ := Option.isSome_iff_exists.mp h.top
  obtain ⟨r, hr⟩ := State.topJava?_eq_some.mp hg0
  have hmeth : ((T.setTop g).pushFrame (.throwing a)).vm.method? g.method = some meth := by rw [throwing_vm]; exact X.method'
  have hst : (stepThrowing e ((T.setTop g).pushFrame (.throwing a)) a (.java g :: r)).1 = (((T.setTop g).pushFrame (.throwing a)).setVm vm').setFrames (.java { g with pc := x.handlerPc, stack := [.ref a] } :: r) := by
    simp only [stepThrowing, searchFrame, vmDo]
    generalize hres : Sem.go _ e false [] ((T.setTop g).pushFrame (.throwing a)) = res
    obtain ⟨as, rfl, ha⟩ := Sem.eq_ok_of hres (a := Handler.found x.handlerPc) (s' := ((T.setTop g).pushFrame (.throwing a)).setVm vm') (acts' := []) (by
      have := hq (fun h d acts s' => h = Handler.found x.handlerPc ∧ s' = ((T.setTop g).pushFrame (.throwing a)).setVm vm' ∧ True)
      simp [W.findHandler_eq hmeth X.code, hsplit, hq])
    rfl
  rw [hr, List.tail_cons, hst]
  have hr' : (T.setVm vm').frames = .java g0 :: r := hr
  rw [State.setTop_of_frames _ hr']
  have e1 : (((T.setTop g).pushFrame (.throwing a)).setVm vm').setFrames (.java { g with pc := x.handlerPc, stack := [.ref a] } :: r) = (T.setVm vm').setFrames (.java { g with pc := x.handlerPc, stack := [.ref a] } :: r) := by
    have hsv : ∀ (u : State) (F1 F2 : List Frame), ((u.setFrames F1).setVm vm').setFrames F2 = (u.setVm vm').setFrames F2 := fun u F1 F2 => by rw [show (u.setFrames F1).setVm vm' = (u.setVm vm').setFrames F1 from rfl, State.setFrames_setFrames]
    rw [State.pushFrame, State.setTop_of_frames _ hr, hsv, hsv]
  rw [e1]
  exact Steps.refl _
end MX
section VXC
variable {p : Program} {l : Launch} {e : Env} {R : Room} {s : State} {m : MethodId} {args : Array Value} {below : List Frame} {meth : Method} {c : Code} {H : Heap} {locs : List Loc} {cells slots : Nat} {Q : State → Prop}
variable {mc ms : Nat} {free : Addr → Prop} {A0 A1 : Nat → Prop} {H0 : Heap} {a : Array Value} {pc : Nat} {ls : Array Slot} {st0 rest : List Value}
theorem vx_catch {own name : String} {E : String} {ce : Cell} {q : Addr} (hown : s.vm.findClass own = some m.cls) (pre : List ExceptionTableEntry) (x : ExceptionTableEntry) (suf : List ExceptionTableEntry) (hsplit : c.exceptionTable.toList = pre ++ x :: suf)
    (hpass : ∀ z ∈ pre, covers z pc = false ∨ (z.catchType ≠ 0 ∧ ∃ nm : String, (Cond.classLink own z.catchType nm).before args s = true ∧ va_Nc E nm s)) (hx : covers x pc = true) (h0 : x.catchType ≠ 0)
    (hlink : (Cond.classLink own x.catchType name).before args s = true) (hcast : (Cond.castable E name).before args s = true) (hcell : H[q]? = some ce) (hv : ce.vm = .none) (hcl : s.vm.findClass E = some ce.cls)
    (kk : W p l e R s m args below meth c H locs cells slots Q (F0 m x.handlerPc ls [.ref q])) : vx_W p l e R s m args below meth c H locs cells slots Q (F0 m pc ls rest) q := by
  intro T hT X
  have hpl : e.platform.magicAccessors = ({} : Platform).magicAccessors := by rw [X.admits.platform]
  obtain ⟨c3, c4, hc3, hc4, hasg⟩ := Cond.castable_spec hcast
  cases Option.some.inj (hc3.symm.trans hcl)
  obtain ⟨c5, hc5, hcl5⟩ := Cond.classLink_spec hown hlink e.platform hpl
  cases Option.some.inj (hc4.symm.trans hc5)
  obtain ⟨vm', X', st⟩ := mx_caught X q (g := F0 m pc ls rest) rfl (by rw [hT]; exact hcell) (by rw [hv]; rfl) (by obtain ⟨k9, h9, -⟩ := Vm.findClass_spec hcl; exact ⟨k9, h9⟩) pre x suf hsplit
    (fun z hz => by
      rcases hpass z hz with h | ⟨hz0, nm, hl1, hn1⟩
      · exact Or.inl h
      · obtain ⟨c6, hc6, hcl6⟩ := Cond.classLink_spec hown hl1 e.platform hpl
        obtain ⟨a8, b8, h1, h2, h3⟩ := hn1
        cases Option.some.inj (h1.symm.trans hcl)
        cases Option.some.inj (h2.symm.trans hc6)
        exact Or.inr ⟨hz0, _, hcl6, h3⟩) hx h0 hcl5 hasg
  obtain ⟨t, a1, b1⟩ := kk (T.setVm vm') hT X'
  exact ⟨t, st.trans a1, b1⟩
end VXC
end
section
/-! WHAT STANDS ROUND A RUN: Strings, statics, words of the tables that ride in another way, the script -/
def mm_isN (w : Cond) : Bool := match w with
  | .castable _ _ => true
  | .declares _ => true
  | .methodLinkNest _ _ _ _ => true
  | _ => false
def mm_NW : List Cond := lw_tbl.filter mm_isN
theorem mm_isN_warm {w : Cond} (hw : mm_isN w = true) {s U : State} (hW : s.WarmedH U.vm) (h : va_Nw w s) : va_Nw w U := by
  unfold mm_isN at hw
  split at hw
  · exact va_Nw.warmC hW h
  · exact va_Nw.warmD hW h
  · exact va_Nw.warmM hW h
  · cases hw
theorem mm_isN_tab {w : Cond} (hw : mm_isN w = true) : w.onTables = true := by
  unfold mm_isN at hw
  split at hw
  · rfl
  · rfl
  · rfl
  · cases hw
/-- the reader's String constants: their entries and texts -/
def mm_six : List (Nat × String) := [(57, "north"), (67, "south"), (69, "free"), (71, "road"), (76, "takes"), (144, "not"), (156, "or"), (158, "and"), (160, "helps"), (162, "guards"), (164, "fort"), (166, "worth"), (168, "home"), (170, "turns"), (172, "evening"), (90, "style")]
/-- the messages of the exceptions -/
def mm_msg : List (Nat × String) := [(90, "the tape has not so many bytes"), (142, "no such count"), (172, "no such thing of a village"), (196, "no such thing of a side"), (233, "no such thing of a look"), (235, "not 0 to 3 evenings"), (259, "not an evening of 0 to 29"), (264, "not 0 to 30 evenings"), (275, "no such thing of a planting"), (284, "no such thing of styles"), (296, "no such thing of the next evening"), (310, "no such style, or thing of a game"), (312, "both styles are one"), (321, "no such thing of years"), (323, "not 0 to 60 evenings"), (342, "no such village"), (344, "no such side")]
def mm_NSE : String := "java/util/NoSuchElementException"
def mm_IAE : String := "java/lang/IllegalArgumentException"
def mm_EN (E : Nat) : String := if E = 0 then mm_NSE else mm_IAE
def mm_Ev (σ : Nat → Nat) (G : mm_G) (A : Nat → Prop) (U : State) (H : Heap) : Prop :=
  (∃ adV : Nat → Nat, mm_Ss (fun j => σ (mm_SB + j)) adV A U H) ∧ (∀ (j : Nat) (q : Nat × String), mm_six[j]? = some q → vk_R "VillageBoard$Reader" q.1 q.2 (σ (mm_SB + j)) U) ∧ (∀ q ∈ mm_msg, ∃ sa, vk_R "VillageBoard" q.1 q.2 sa U) ∧
  vx_Zq Bundle.tN "UNASSIGNED_STACK" Bundle.steD A U H ∧ vx_Zq Bundle.tN "SUPPRESSED_SENTINEL" Bundle.listD A U H ∧ (∀ w ∈ mm_NW, va_Nw w U) ∧ va_Nc mm_IAE mm_NSE U ∧ va_Nc mm_NSE mm_IAE U ∧
  (va_X (σ mm_SC) G.1 G.2 U H ∧ σ mm_SC < H.size ∧ ¬ A (σ mm_SC))
theorem mm_Ev.warm {σ : Nat → Nat} {G : mm_G} {A : Nat → Prop} {u U : State} {H : Heap} (hW : u.WarmedH U.vm) (h : mm_Ev σ G A u H) : mm_Ev σ G A U H := by
  obtain ⟨⟨adV, h1⟩, h2, h3, h4, h5, h6, h7, h8, h9⟩ := h
  exact ⟨⟨adV, h1.moved hW.alike⟩, fun j q hq => (h2 j q hq).warm hW, fun q hq => by obtain ⟨sa, hs⟩ := h3 q hq; exact ⟨sa, hs.warm hW⟩, h4.moved hW.alike, h5.moved hW.alike, fun w hw => mm_isN_warm (List.mem_filter.mp hw).2 hW (h6 w hw), h7.moved hW.alike, h8.moved hW.alike, h9.1.moved hW.alike, h9.2⟩
theorem mm_Ev.same {σ : Nat → Nat} {G : mm_G} {A : Nat → Prop} {u U : State} {H : Heap} (hv : U.vm = u.vm) (h : mm_Ev σ G A u H) : mm_Ev σ G A U H := by
  obtain ⟨⟨adV, h1⟩, h2, h3, h4, h5, h6, h7, h8, h9⟩ := h
  have hal : u.vm.Alike U.vm := by rw [hv]; exact Vm.Alike.refl _
  exact ⟨⟨adV, h1.moved hal⟩, fun j q hq => (h2 j q hq).same hv, fun q hq => by obtain ⟨sa, hs⟩ := h3 q hq; exact ⟨sa, hs.same hv⟩, h4.moved hal, h5.moved hal, fun w hw => va_Nw.same (mm_isN_tab (List.mem_filter.mp hw).2) hv.symm (h6 w hw), h7.moved hal, h8.moved hal, h9.1.moved hal, h9.2⟩
theorem mm_Ev.kept {σ : Nat → Nat} {G : mm_G} {A : Nat → Prop} {U : State} {H H1 : Heap} (h : mm_Ev σ G A U H) (hz : H.size ≤ H1.size) (hq : ∀ a : Nat, a < H.size → ¬ A a → H1[a]? = H[a]?) : mm_Ev σ G A U H1 := by
  obtain ⟨⟨adV, h1⟩, h2, h3, h4, h5, h6, h7, h8, h9, h10, h11⟩ := h
  exact ⟨⟨adV, h1.kept hq⟩, h2, h3, h4.kept hq, h5.kept hq, h6, h7, h8, h9.kept (hq _ h10 h11), Nat.lt_of_lt_of_le h10 hz, h11⟩
theorem mm_Ev.narrow {σ : Nat → Nat} {G : mm_G} {A B : Nat → Prop} {U : State} {H : Heap} (h : mm_Ev σ G A U H) (hAB : ∀ q, B q → A q) : mm_Ev σ G B U H := by
  obtain ⟨⟨adV, h1⟩, h2, h3, h4, h5, h6, h7, h8, h9, h10, h11⟩ := h
  exact ⟨⟨adV, h1.narrow hAB⟩, h2, h3, h4.narrow hAB, h5.narrow hAB, h6, h7, h8, h9, h10, fun hb => h11 (hAB _ hb)⟩
theorem mm_Ev.re {n : Nat} {σ σ' : Nat → Nat} {G : mm_G} {A : Nat → Prop} {U : State} {H : Heap} (h : mm_Ev σ G A U H) (ha : mm_ag n σ σ') : mm_Ev σ' G A U H := by
  obtain ⟨⟨adV, h1⟩, h2, h3, h4, h5, h6, h7, h8, h9⟩ := h
  have e1 : ∀ j, σ' (mm_SB + j) = σ (mm_SB + j) := fun j => ha _ (Or.inr (by simp only [mm_SB, mm_SC]; omega))
  have e2 : σ' mm_SC = σ mm_SC := ha _ (Or.inr (Nat.le_refl _))
  refine ⟨⟨adV, ?_⟩, fun j q hq => by rw [e1]; exact h2 j q hq, h3, h4, h5, h6, h7, h8, by rw [e2]; exact h9⟩
  rw [show (fun j => σ' (mm_SB + j)) = (fun j => σ (mm_SB + j)) from funext e1]
  exact h1
end
section
/-! THE PROGRAM'S TEXT IS THE CODE: each block against the bytes, each link against the tables; by the kernel -/
def mm_nmD : MethodName × ByteArray × Option FieldType × String := (⟨"", "", ""⟩, ⟨#[]⟩, none, "")
def mm_y (k : Nat) : MethodName := (mm_names.getD k mm_nmD).1
def mm_c (k : Nat) : ByteArray := (mm_names.getD k mm_nmD).2.1
def mm_rt (k : Nat) : Option FieldType := (mm_names.getD k mm_nmD).2.2.1
/-- the classes that own code, by number -/
def mm_ons : List String := [RX0, RX1, RX3, RX4, RX5, RX6, RX7, RX8, RX9, RX2, RL, RJ6]
def mm_on (oc : Nat) : String := mm_ons.getD oc ""
/-- of a method: its kind (0 of an object, 1 static, 2 a constructor, 3 static with handlers, 4 the law), its class, how many parameters, the places of its words -/
def mm_kinds : List (Nat × Nat × Nat × List Nat) := [(1, 11, 1, [458, 457, 117]), (2, 0, 0, [285, 284, 103]), (0, 0, 0, [835, 833, 103, 834]), (0, 0, 1, [401, 399, 103, 400]), (0, 0, 1, [480, 478, 103, 479]), (0, 0, 1, [569, 567, 103, 568]), (2, 1, 0, [319, 318, 105]), (0, 1, 4, [1067, 1065, 105, 1066]), (0, 1, 2, [1073, 1072, 105, 34]), (0, 1, 1, [1089, 1087, 105, 1088]), (1, 9, 7, [522, 521, 119]), (1, 9, 5, [492, 491, 119]), (1, 9, 5, [498, 497, 119]), (2, 2, 0, [138, 137, 100]), (0, 2, 0, [663, 661, 100, 662]), (0, 2, 3, [751, 749, 100, 750]), (0, 2, 2, [763, 761, 100, 762]), (0, 2, 2, [818, 816, 100, 817]), (0, 2, 1, [991, 989, 100, 990]), (0, 2, 1, [526, 524, 100, 525]), (0, 2, 1, [983, 981, 100, 982]), (0, 2, 2, [1139, 1137, 100, 1138]), (0, 2, 4, [447, 445, 100, 446]), (0, 2, 4, [451, 450, 100, 2]), (0, 2, 3, [531, 529, 100, 530]), (0, 2, 4, [557, 555, 100, 556]), (0, 2, 3, [553, 551, 100, 552]), (0, 2, 3, [442, 440, 100, 441]), (0, 2, 5, [455, 453, 100, 454]), (2, 3, 0, [253, 252, 102]), (0, 3, 1, [831, 829, 102, 830]), (0, 3, 1, [565, 563, 102, 564]), (0, 3, 2, [405, 403, 102, 404]), (0, 3, 2, [484, 482, 102, 483]), (0, 3, 0, [438, 436, 102, 437]), (0, 3, 0, [987, 985, 102, 986]), (0, 3, 1, [875, 873, 102, 874]), (0, 3, 1, [416, 414, 102, 415]), (0, 3, 2, [471, 469, 102, 470]), (0, 3, 1, [412, 410, 102, 411]), (0, 3, 1, [430, 428, 102, 429]), (0, 3, 1, [434, 433, 102, 1]), (0, 3, 2, [1120, 1118, 102, 1119]), (2, 4, 0, [132, 131, 99]), (0, 4, 2, [658, 656, 99, 657]), (0, 4, 1, [827, 825, 99, 826]), (0, 4, 1, [743, 742, 99, 12]), (0, 4, 0, [682, 681, 99, 9]), (0, 4, 1, [739, 738, 99, 11]), (0, 4, 0, [758, 757, 99, 14]), (0, 4, 1, [747, 746, 99, 13]), (0, 4, 1, [768, 767, 99, 15]), (0, 4, 2, [772, 771, 99, 16]), (0, 4, 2, [776, 775, 99, 17]), (0, 4, 1, [799, 798, 99, 20]), (0, 4, 0, [803, 802, 99, 21]), (0, 4, 1, [781, 780, 99, 18]), (0, 4, 0, [807, 806, 99, 22]), (0, 4, 1, [687, 686, 99, 10]), (0, 4, 0, [671, 670, 99, 7]), (0, 4, 1, [675, 674, 99, 8]), (1, 4, 1, [678, 677, 99]), (2, 5, 0, [144, 143, 101]), (0, 5, 0, [667, 665, 101, 666]), (0, 5, 1, [795, 793, 101, 794]), (0, 5, 1, [787, 785, 101, 786]), (0, 5, 1, [791, 790, 101, 19]), (0, 5, 2, [822, 820, 101, 821]), (0, 5, 1, [465, 463, 101, 464]), (2, 6, 0, [302, 301, 104]), (0, 6, 0, [507, 505, 104, 506]), (0, 6, 2, [1055, 1053, 104, 1054]), (0, 6, 1, [574, 572, 104, 573]), (0, 6, 2, [1077, 1075, 104, 1076]), (2, 7, 0, [124, 123, 98]), (0, 7, 5, [385, 383, 98, 384]), (0, 7, 1, [389, 388, 98, 0]), (0, 7, 1, [587, 585, 98, 586]), (0, 7, 0, [393, 391, 98, 392]), (0, 7, 1, [843, 841, 98, 842]), (0, 7, 2, [866, 864, 98, 865]), (0, 7, 2, [884, 882, 98, 883]), (0, 7, 2, [906, 904, 98, 905]), (0, 7, 2, [913, 911, 98, 912]), (0, 7, 2, [925, 923, 98, 924]), (0, 7, 0, [397, 395, 98, 396]), (0, 7, 2, [937, 935, 98, 936]), (0, 7, 2, [944, 942, 98, 943]), (0, 7, 1, [426, 424, 98, 425]), (0, 7, 0, [476, 474, 98, 475]), (0, 7, 1, [955, 953, 98, 954]), (0, 7, 2, [962, 960, 98, 961]), (0, 7, 0, [488, 486, 98, 487]), (0, 7, 2, [979, 977, 98, 978]), (0, 7, 1, [998, 996, 98, 997]), (0, 7, 1, [1006, 1004, 98, 1005]), (0, 7, 2, [1013, 1011, 98, 1012]), (0, 7, 2, [1021, 1019, 98, 1020]), (0, 7, 2, [1042, 1040, 98, 1041]), (0, 7, 3, [1051, 1049, 98, 1050]), (0, 7, 0, [503, 501, 98, 502]), (0, 7, 1, [1062, 1060, 98, 1061]), (0, 7, 1, [1084, 1082, 98, 1083]), (0, 7, 0, [511, 509, 98, 510]), (0, 7, 1, [515, 514, 98, 3]), (0, 7, 3, [1096, 1094, 98, 1095]), (0, 7, 3, [1102, 1101, 98, 35]), (0, 7, 1, [1106, 1105, 98, 36]), (0, 7, 3, [1113, 1111, 98, 1112]), (0, 7, 1, [1128, 1126, 98, 1127]), (0, 7, 0, [539, 537, 98, 538]), (0, 7, 1, [1135, 1133, 98, 1134]), (0, 7, 1, [1147, 1145, 98, 1146]), (0, 7, 1, [1154, 1152, 98, 1153]), (0, 7, 1, [1161, 1159, 98, 1160]), (0, 7, 1, [1168, 1166, 98, 1167]), (0, 7, 0, [545, 543, 98, 544]), (0, 7, 2, [549, 548, 98, 5]), (0, 7, 2, [1175, 1173, 98, 1174]), (0, 7, 1, [1182, 1180, 98, 1181]), (0, 7, 0, [561, 559, 98, 560]), (0, 7, 0, [579, 577, 98, 578]), (1, 7, 2, [419, 418, 98]), (0, 7, 1, [870, 869, 98, 23]), (0, 7, 1, [888, 887, 98, 24]), (0, 7, 1, [948, 947, 98, 29]), (0, 7, 1, [917, 916, 98, 27]), (0, 7, 2, [929, 928, 98, 28]), (0, 7, 1, [897, 896, 98, 26]), (0, 7, 1, [893, 892, 98, 25]), (0, 7, 2, [968, 967, 98, 30]), (0, 7, 3, [519, 518, 98, 4]), (0, 7, 1, [972, 971, 98, 31]), (0, 7, 1, [1029, 1028, 98, 33]), (0, 7, 1, [1025, 1024, 98, 32]), (2, 8, 0, [1187, 1186, 106]), (0, 8, 0, [1359, 1357, 106, 1358]), (0, 8, 2, [1375, 1374, 106, 38]), (1, 8, 3, [1497, 1496, 106]), (0, 8, 2, [1482, 1481, 106, 60]), (1, 8, 1, [1723, 1722, 106]), (0, 8, 5, [1363, 1361, 106, 1362]), (0, 8, 1, [1367, 1366, 106, 37]), (0, 8, 1, [1383, 1382, 106, 40]), (1, 8, 1, [1386, 1385, 106]), (1, 8, 1, [1389, 1388, 106]), (0, 8, 0, [1379, 1378, 106, 39]), (1, 8, 7, [1407, 1406, 106]), (1, 8, 1, [1404, 1403, 106]), (0, 8, 0, [1401, 1400, 106, 43]), (0, 8, 1, [1416, 1415, 106, 45]), (0, 8, 0, [1393, 1392, 106, 41]), (0, 8, 1, [1440, 1439, 106, 51]), (0, 8, 1, [1478, 1477, 106, 59]), (0, 8, 2, [1420, 1419, 106, 46]), (0, 8, 1, [1428, 1427, 106, 48]), (0, 8, 1, [1456, 1455, 106, 55]), (1, 8, 1, [1463, 1462, 106]), (1, 8, 1, [1466, 1465, 106]), (0, 8, 1, [1460, 1459, 106, 56]), (0, 8, 1, [1448, 1447, 106, 53]), (0, 8, 0, [1452, 1451, 106, 54]), (0, 8, 0, [1436, 1435, 106, 50]), (0, 8, 1, [1444, 1443, 106, 52]), (0, 8, 0, [1470, 1469, 106, 57]), (0, 8, 0, [1474, 1473, 106, 58]), (0, 8, 0, [1432, 1431, 106, 49]), (0, 8, 1, [1412, 1411, 106, 44]), (0, 8, 0, [1424, 1423, 106, 47]), (0, 8, 0, [1397, 1396, 106, 42]), (0, 8, 1, [1371, 1369, 106, 1370]), (0, 8, 0, [1486, 1484, 106, 1485]), (0, 8, 0, [1596, 1595, 106, 79]), (0, 8, 1, [1592, 1591, 106, 78]), (0, 8, 0, [1490, 1488, 106, 1489]), (0, 8, 2, [1648, 1647, 106, 86]), (1, 8, 3, [1556, 1555, 106]), (0, 8, 1, [1553, 1552, 106, 72]), (0, 8, 4, [1549, 1548, 106, 71]), (0, 8, 3, [1545, 1544, 106, 70]), (0, 8, 3, [1541, 1540, 106, 69]), (0, 8, 3, [1572, 1571, 106, 76]), (0, 8, 3, [1604, 1603, 106, 81]), (0, 8, 2, [1600, 1599, 106, 80]), (0, 8, 2, [1628, 1627, 106, 83]), (0, 8, 1, [1624, 1623, 106, 82]), (0, 8, 2, [1501, 1500, 106, 61]), (0, 8, 2, [1505, 1504, 106, 62]), (0, 8, 2, [1576, 1575, 106, 77]), (0, 8, 2, [1537, 1536, 106, 68]), (0, 8, 2, [1533, 1532, 106, 67]), (0, 8, 1, [1564, 1563, 106, 74]), (0, 8, 2, [1568, 1567, 106, 75]), (0, 8, 1, [1494, 1492, 106, 1493]), (0, 8, 1, [1513, 1512, 106, 63]), (0, 8, 1, [1529, 1528, 106, 66]), (0, 8, 2, [1517, 1516, 106, 64]), (0, 8, 1, [1521, 1520, 106, 65]), (0, 8, 2, [1509, 1507, 106, 1508]), (0, 8, 1, [1560, 1559, 106, 73]), (0, 8, 2, [1525, 1523, 106, 1524]), (0, 8, 2, [1580, 1578, 106, 1579]), (0, 8, 2, [1584, 1582, 106, 1583]), (0, 8, 2, [1588, 1586, 106, 1587]), (0, 8, 0, [1608, 1606, 106, 1607]), (0, 8, 2, [1612, 1610, 106, 1611]), (0, 8, 2, [1616, 1614, 106, 1615]), (0, 8, 1, [1620, 1618, 106, 1619]), (0, 8, 1, [1632, 1630, 106, 1631]), (0, 8, 2, [1640, 1639, 106, 84]), (0, 8, 1, [1644, 1643, 106, 85]), (0, 8, 1, [1652, 1651, 106, 87]), (0, 8, 1, [1656, 1655, 106, 88]), (1, 8, 1, [1659, 1658, 106]), (0, 8, 2, [1636, 1634, 106, 1635]), (0, 8, 1, [1667, 1666, 106, 89]), (0, 8, 1, [1671, 1670, 106, 90]), (0, 8, 0, [1663, 1661, 106, 1662]), (0, 8, 1, [1679, 1678, 106, 91]), (0, 8, 2, [1675, 1673, 106, 1674]), (0, 8, 1, [1683, 1681, 106, 1682]), (0, 8, 1, [1687, 1685, 106, 1686]), (0, 8, 1, [1691, 1689, 106, 1690]), (0, 8, 2, [1695, 1693, 106, 1694]), (0, 8, 2, [1699, 1697, 106, 1698]), (0, 8, 2, [1704, 1702, 106, 1703]), (0, 8, 3, [1708, 1706, 106, 1707]), (0, 8, 0, [1712, 1710, 106, 1711]), (0, 8, 0, [1720, 1719, 106, 92]), (0, 8, 1, [1716, 1714, 106, 1715]), (0, 8, 1, [1727, 1725, 106, 1726]), (0, 8, 2, [1735, 1734, 106, 93]), (0, 8, 0, [1731, 1729, 106, 1730]), (0, 8, 3, [1743, 1742, 106, 94]), (0, 8, 3, [1739, 1737, 106, 1738]), (0, 8, 1, [1751, 1750, 106, 95]), (0, 8, 2, [1756, 1755, 106, 96]), (0, 8, 3, [1747, 1745, 106, 1746]), (0, 8, 1, [1760, 1758, 106, 1759]), (0, 8, 0, [1764, 1762, 106, 1763]), (0, 8, 1, [1768, 1766, 106, 1767]), (0, 8, 1, [1772, 1770, 106, 1771]), (0, 8, 1, [1776, 1774, 106, 1775]), (0, 8, 1, [1780, 1778, 106, 1779]), (0, 8, 0, [1784, 1782, 106, 1783]), (0, 8, 2, [1788, 1786, 106, 1787]), (0, 8, 1, [1792, 1790, 106, 1791]), (0, 8, 0, [1796, 1794, 106, 1795]), (0, 8, 0, [1800, 1798, 106, 1799]), (3, 10, 3, [582, 581, 97]), (3, 10, 3, [838, 837, 97]), (3, 10, 4, [862, 861, 97]), (3, 10, 4, [880, 879, 97]), (3, 10, 4, [902, 901, 97]), (3, 10, 4, [909, 908, 97]), (3, 10, 4, [921, 920, 97]), (3, 10, 4, [933, 932, 97]), (3, 10, 4, [940, 939, 97]), (3, 10, 3, [951, 950, 97]), (3, 10, 4, [958, 957, 97]), (3, 10, 4, [975, 974, 97]), (3, 10, 3, [994, 993, 97]), (3, 10, 3, [1002, 1001, 97]), (3, 10, 4, [1009, 1008, 97]), (3, 10, 4, [1017, 1016, 97]), (3, 10, 4, [1038, 1037, 97]), (3, 10, 5, [1047, 1046, 97]), (3, 10, 3, [1058, 1057, 97]), (3, 10, 3, [1080, 1079, 97]), (3, 10, 5, [1092, 1091, 97]), (3, 10, 5, [1109, 1108, 97]), (3, 10, 3, [1124, 1123, 97]), (3, 10, 3, [1131, 1130, 97]), (3, 10, 3, [1143, 1142, 97]), (3, 10, 3, [1150, 1149, 97]), (3, 10, 3, [1157, 1156, 97]), (3, 10, 3, [1164, 1163, 97]), (3, 10, 4, [1171, 1170, 97]), (3, 10, 3, [1178, 1177, 97]), (4, 10, 1, [])]
def mm_kd (k : Nat) : Nat := (mm_kinds.getD k (9, 0, 0, [])).1
def mm_oc (k : Nat) : Nat := (mm_kinds.getD k (9, 0, 0, [])).2.1
def mm_na (k : Nat) : Nat := (mm_kinds.getD k (9, 0, 0, [])).2.2.1
def mm_wx (k i : Nat) : Nat := ((mm_kinds.getD k (9, 0, 0, [])).2.2.2).getD i 0
def mm_ow (k : Nat) : String := mm_on (mm_oc k)
def mm_hhs : List (Nat × List (Nat × Nat × Nat × Nat)) := [(249, [(0, 9, 12, 13)]), (250, [(0, 9, 12, 18)]), (251, [(0, 10, 13, 18)]), (252, [(0, 10, 13, 18)]), (253, [(0, 17, 20, 18)]), (254, [(0, 17, 20, 18)]), (255, [(0, 10, 13, 18)]), (256, [(0, 17, 20, 18)]), (257, [(0, 10, 13, 18)]), (258, [(0, 9, 12, 18)]), (259, [(0, 10, 13, 18), (0, 10, 17, 13)]), (260, [(0, 10, 13, 18)]), (261, [(0, 9, 12, 18)]), (262, [(0, 9, 12, 18)]), (263, [(0, 10, 13, 18), (0, 10, 17, 13)]), (264, [(0, 10, 13, 18)]), (265, [(0, 10, 13, 18)]), (266, [(0, 12, 15, 18)]), (267, [(0, 9, 12, 18)]), (268, [(0, 9, 12, 18)]), (269, [(0, 12, 15, 18), (0, 12, 19, 13)]), (270, [(0, 12, 15, 18), (0, 12, 19, 13)]), (271, [(0, 9, 12, 18)]), (272, [(0, 9, 12, 18)]), (273, [(0, 9, 12, 18)]), (274, [(0, 9, 12, 18)]), (275, [(0, 9, 12, 18)]), (276, [(0, 9, 12, 18)]), (277, [(0, 10, 13, 18)]), (278, [(0, 9, 12, 18)])]
def mm_hh (k : Nat) : List (Nat × Nat × Nat × Nat) := (mm_hhs.lookup k).getD []
def mm_at (w : Nat) (X : Cond) : Bool := decide (lw_tbl[w]? = some X) && goodWord X
theorem mm_TBat {w : Nat} {X : Cond} (h : mm_at w X = true) : X ∈ mm_TB := by
  simp only [mm_at, Bool.and_eq_true, decide_eq_true_eq] at h
  exact mm_TBof h.1 h.2
def mm_atN (w : Nat) (X : Cond) : Bool := decide (lw_tbl[w]? = some X) && mm_isN X
theorem mm_NWat {w : Nat} {X : Cond} (h : mm_atN w X = true) : X ∈ mm_NW := by
  simp only [mm_atN, Bool.and_eq_true, decide_eq_true_eq] at h
  exact List.mem_filter.mpr ⟨List.mem_of_getElem? h.1, h.2⟩
def mm_rkOk (rk : Nat) (rt : Option FieldType) : Bool := match rk, rt with
  | 0, none => true
  | 1, some .int => true
  | 2, some .boolean => true
  | 3, some .long => true
  | 4, some (.object _) => true
  | _, _ => false
/-- the entries of the handlers' classes -/
def mm_ctE (ct : Nat) : Nat := if ct = 13 then 1 else if ct = 18 then 0 else 9
def mm_hsOk (hs hh : List (Nat × Nat × Nat × Nat)) : Bool := match hs, hh with
  | [], [] => true
  | (a, b, h, E) :: hs, (a', b', h', ct) :: hh => decide (a = a' ∧ b = b' ∧ h = h' ∧ E = mm_ctE ct ∧ E < 2) && mm_hsOk hs hh
  | _, _ => false
theorem mm_hl0 : mm_contains (.classLink RL 18 mm_NSE) = true := by decide +kernel
theorem mm_hl1 : mm_contains (.classLink RL 13 mm_IAE) = true := by decide +kernel
def mm_nargs (k : Nat) : Option Nat := (parseMethodDescriptor (mm_y k).desc).map (fun d => d.parameters.length)
/-- a method's own words -/
def mm_mok (k : Nat) : Bool := plainName (mm_y k).cls && decide ((mm_y k).cls = mm_ow k ∧ (mm_y k).cls ≠ "java/lang/invoke/MethodHandle" ∧ (mm_y k).cls ≠ "java/lang/invoke/VarHandle") && mm_rkOk (mm_rk k) (mm_rt k) && decide (mm_mx k ≤ 40) && mm_hsOk (mm_hs k) (mm_hh k) && decide (mm_nargs k = some (mm_na k)) && (match mm_kd k with
  | 0 => mm_at (mm_wx k 1) (.instanceMethod (mm_y k)) && mm_at (mm_wx k 2) (.initialized (mm_y k).cls) && mm_at (mm_wx k 3) (.selects (mm_y k).cls (mm_y k) (mm_y k)) && decide ((vwCl[mm_ci k]?).map (fun q => q.1) = some (mm_y k).cls) && decide (mm_hh k = [])
  | 1 => mm_at (mm_wx k 1) (.static (mm_y k)) && mm_at (mm_wx k 2) (.initialized (mm_y k).cls) && decide (mm_hh k = [])
  | 2 => mm_at (mm_wx k 1) (.instanceMethod (mm_y k)) && mm_at (mm_wx k 2) (.initialized (mm_y k).cls) && decide ((mm_y k).name = "<init>") && decide (mm_rt k = none) && decide (mm_hh k = [])
  | 3 => mm_at (mm_wx k 1) (.static (mm_y k)) && mm_at (mm_wx k 2) (.initialized (mm_y k).cls) && decide (mm_oc k = 10)
  | 4 => decide (mm_hh k = [])
  | _ => false)
def mm_sw (i : Instr) : Bool := match i with
  | .tableswitch _ _ _ _ => true
  | .lookupswitch _ _ => true
  | _ => false
/-- links of fields: whose pool, the entry, the class, the field's place, the word's place -/
def mm_fl : List (Nat × Nat × Nat × Nat × Nat) := [(0, 11, 0, 0, 287), (0, 17, 0, 1, 288), (0, 21, 0, 2, 289), (1, 9, 1, 0, 321), (1, 15, 1, 1, 322), (1, 19, 1, 2, 324), (1, 22, 2, 2, 177), (1, 33, 3, 3, 262), (9, 19, 2, 0, 169), (2, 9, 2, 0, 168), (2, 15, 2, 1, 173), (2, 18, 2, 2, 176), (2, 21, 2, 3, 181), (2, 25, 2, 4, 183), (2, 29, 2, 5, 186), (2, 32, 2, 6, 188), (2, 35, 2, 7, 191), (2, 38, 2, 8, 193), (2, 44, 2, 9, 196), (2, 74, 5, 4, 152), (3, 9, 3, 0, 255), (3, 15, 3, 1, 257), (3, 18, 3, 2, 259), (3, 21, 3, 3, 261), (3, 24, 3, 4, 264), (3, 27, 3, 5, 266), (3, 31, 2, 7, 192), (3, 36, 2, 2, 178), (3, 55, 2, 0, 172), (3, 62, 2, 4, 185), (3, 85, 2, 8, 194), (3, 92, 2, 9, 198), (4, 9, 4, 0, 221), (4, 15, 4, 1, 222), (4, 22, 4, 2, 223), (4, 26, 4, 3, 224), (4, 29, 4, 4, 225), (4, 32, 4, 5, 227), (4, 35, 4, 6, 228), (4, 38, 4, 7, 229), (4, 78, 2, 3, 182), (4, 92, 2, 2, 179), (4, 95, 2, 0, 170), (4, 106, 2, 1, 175), (4, 109, 2, 6, 190), (4, 120, 2, 9, 197), (4, 124, 5, 1, 148), (5, 9, 5, 0, 146), (5, 15, 5, 1, 147), (5, 19, 5, 2, 149), (5, 22, 5, 3, 150), (5, 25, 5, 4, 151), (5, 28, 5, 5, 153), (6, 9, 6, 0, 304), (6, 15, 6, 1, 305), (6, 18, 6, 2, 306), (7, 9, 7, 0, 333), (7, 13, 7, 1, 334), (7, 17, 7, 2, 335), (7, 20, 7, 3, 336), (7, 26, 7, 4, 337), (7, 33, 7, 5, 338), (7, 40, 7, 6, 339), (7, 44, 7, 7, 340), (7, 50, 7, 8, 341), (7, 57, 7, 9, 342), (7, 61, 7, 10, 343), (7, 65, 7, 11, 344), (7, 68, 7, 12, 345), (7, 71, 7, 13, 346), (7, 77, 7, 14, 347), (7, 81, 7, 15, 348), (7, 99, 4, 4, 226), (7, 114, 2, 0, 171), (7, 117, 2, 1, 174), (7, 120, 2, 2, 180), (7, 123, 3, 5, 267), (7, 130, 3, 0, 256), (7, 133, 3, 1, 258), (7, 136, 0, 2, 290), (7, 139, 6, 2, 307), (7, 148, 2, 4, 184), (7, 151, 2, 5, 187), (7, 161, 2, 6, 189), (7, 169, 3, 4, 265), (7, 177, 3, 2, 260), (7, 180, 3, 3, 263), (7, 290, 1, 1, 323), (7, 293, 1, 2, 325), (7, 307, 2, 8, 195), (7, 357, 2, 9, 199), (8, 9, 8, 4, 1193), (8, 13, 8, 5, 1194), (8, 17, 8, 6, 1195), (8, 20, 8, 7, 1196), (8, 23, 8, 8, 1197), (8, 26, 8, 9, 1198), (8, 30, 8, 10, 1199), (8, 33, 8, 13, 1202), (8, 36, 8, 14, 1203), (8, 39, 8, 30, 1219), (8, 42, 8, 31, 1220), (8, 45, 8, 32, 1221), (8, 48, 8, 33, 1222), (8, 51, 8, 34, 1223), (8, 54, 8, 35, 1224), (8, 57, 8, 36, 1225), (8, 60, 8, 37, 1226), (8, 63, 8, 38, 1227), (8, 66, 8, 39, 1228), (8, 69, 8, 41, 1230), (8, 72, 8, 42, 1231), (8, 75, 8, 44, 1233), (8, 78, 8, 46, 1235), (8, 81, 8, 47, 1236), (8, 84, 8, 52, 1241), (8, 87, 8, 53, 1242), (8, 90, 8, 54, 1243), (8, 93, 8, 0, 1189), (8, 96, 8, 11, 1200), (8, 103, 8, 15, 1204), (8, 106, 8, 16, 1205), (8, 113, 8, 18, 1207), (8, 116, 8, 22, 1211), (8, 120, 8, 20, 1209), (8, 123, 8, 21, 1210), (8, 126, 8, 17, 1206), (8, 136, 8, 19, 1208), (8, 149, 8, 12, 1201), (8, 162, 8, 27, 1216), (8, 165, 8, 28, 1217), (8, 181, 8, 29, 1218), (8, 209, 8, 23, 1212), (8, 216, 8, 24, 1213), (8, 228, 8, 26, 1215), (8, 234, 8, 25, 1214), (8, 247, 8, 1, 1190), (8, 250, 8, 2, 1191), (8, 253, 8, 3, 1192), (8, 260, 8, 40, 1229), (8, 263, 8, 45, 1234), (8, 266, 8, 49, 1238), (8, 357, 8, 43, 1232), (8, 395, 8, 48, 1237), (8, 405, 8, 50, 1239), (8, 408, 8, 51, 1240)]
def mm_flOk (q : Nat × Nat × Nat × Nat × Nat) : Bool := mm_okf (mm_on q.1) (.nop, q.2.2.1, q.2.2.2.1, q.2.2.2.2, 0) q.2.1
/-- links of methods: whose pool, the entry, the method, the word's place, whether it is a nest mate's private one -/
def mm_ml : List (Nat × Nat × Nat × Nat × Nat) := [(0, 3, 9000, 286, 0), (0, 24, 32, 402, 0), (0, 28, 33, 481, 0), (0, 31, 9003, 570, 0), (1, 3, 9000, 320, 0), (1, 27, 31, 1068, 0), (1, 36, 40, 1069, 0), (1, 40, 8, 1070, 0), (1, 44, 73, 1074, 0), (9, 7, 19, 523, 0), (9, 13, 10, 527, 0), (9, 23, 122, 494, 1), (9, 29, 22, 495, 0), (9, 33, 24, 528, 0), (9, 37, 9004, 532, 0), (9, 43, 0, 493, 0), (9, 48, 12, 496, 0), (9, 52, 11, 499, 0), (2, 3, 9000, 139, 0), (2, 43, 62, 142, 1), (2, 48, 63, 664, 0), (2, 51, 67, 819, 0), (2, 55, 122, 443, 1), (2, 59, 20, 1140, 0), (2, 63, 23, 448, 0), (2, 67, 28, 452, 0), (2, 71, 68, 462, 0), (2, 77, 25, 554, 0), (2, 81, 22, 444, 0), (2, 84, 0, 456, 0), (3, 3, 9000, 254, 0), (3, 39, 9005, 420, 0), (3, 45, 9003, 406, 0), (3, 51, 122, 417, 1), (3, 58, 37, 413, 0), (3, 65, 41, 431, 0), (3, 69, 34, 435, 0), (3, 73, 38, 468, 0), (3, 77, 39, 472, 0), (3, 81, 27, 439, 0), (3, 88, 28, 466, 0), (3, 96, 68, 467, 0), (3, 101, 9004, 1121, 0), (4, 3, 9000, 133, 0), (4, 21, 13, 136, 1), (4, 41, 9005, 659, 0), (4, 47, 14, 660, 0), (4, 50, 59, 668, 0), (4, 53, 47, 679, 0), (4, 59, 58, 684, 0), (4, 63, 48, 736, 0), (4, 73, 49, 755, 0), (4, 82, 46, 740, 0), (4, 87, 51, 765, 0), (4, 98, 50, 744, 0), (4, 102, 15, 748, 0), (4, 112, 122, 759, 1), (4, 116, 16, 760, 0), (4, 125, 52, 769, 0), (4, 128, 17, 815, 0), (4, 131, 53, 773, 0), (4, 134, 54, 796, 0), (4, 137, 56, 778, 0), (4, 140, 65, 784, 0), (4, 146, 64, 792, 0), (4, 149, 55, 800, 0), (4, 152, 57, 804, 0), (4, 174, 9001, 688, 0), (4, 178, 9002, 698, 0), (4, 182, 60, 672, 0), (4, 185, 61, 676, 0), (5, 3, 9000, 145, 0), (5, 31, 66, 788, 0), (6, 3, 9000, 303, 0), (6, 22, 9003, 575, 0), (7, 1, 9000, 125, 0), (7, 25, 43, 130, 1), (7, 32, 13, 248, 1), (7, 39, 29, 251, 1), (7, 49, 1, 283, 1), (7, 56, 69, 300, 1), (7, 76, 6, 317, 1), (7, 84, 76, 386, 0), (7, 95, 44, 655, 0), (7, 102, 45, 824, 0), (7, 106, 30, 828, 0), (7, 110, 2, 832, 0), (7, 113, 70, 504, 0), (7, 126, 34, 489, 0), (7, 145, 123, 867, 0), (7, 154, 36, 872, 0), (7, 158, 37, 876, 0), (7, 164, 0, 541, 0), (7, 174, 124, 885, 0), (7, 183, 26, 550, 0), (7, 187, 129, 890, 0), (7, 190, 27, 535, 0), (7, 193, 19, 898, 0), (7, 198, 122, 540, 0), (7, 202, 126, 914, 0), (7, 205, 127, 926, 0), (7, 208, 3, 398, 0), (7, 212, 38, 930, 0), (7, 216, 39, 409, 0), (7, 219, 125, 945, 0), (7, 223, 40, 427, 0), (7, 227, 4, 477, 0), (7, 230, 128, 894, 0), (7, 237, 130, 965, 0), (7, 241, 132, 969, 0), (7, 244, 11, 490, 0), (7, 250, 20, 980, 0), (7, 253, 35, 984, 0), (7, 256, 18, 988, 0), (7, 261, 31, 562, 0), (7, 266, 134, 1022, 0), (7, 270, 133, 1026, 0), (7, 277, 25, 1044, 0), (7, 281, 71, 1052, 0), (7, 286, 7, 1064, 0), (7, 298, 9, 1086, 0), (7, 301, 104, 512, 0), (7, 304, 131, 516, 0), (7, 314, 106, 1099, 0), (7, 318, 107, 1103, 0), (7, 326, 42, 1117, 0), (7, 330, 21, 1136, 0), (7, 333, 117, 546, 0), (7, 336, 5, 566, 0), (7, 339, 72, 571, 0), (7, 346, 22, 918, 0), (7, 349, 10, 520, 0), (7, 353, 28, 1030, 0), (7, 361, 68, 1031, 0), (7, 366, 9006, 1032, 0), (8, 1, 9000, 1188, 0), (8, 99, 142, 1364, 0), (8, 109, 143, 1380, 0), (8, 129, 144, 1384, 0), (8, 133, 145, 1387, 0), (8, 141, 147, 1405, 0), (8, 145, 148, 1402, 0), (8, 152, 151, 1390, 0), (8, 156, 146, 1376, 0), (8, 159, 150, 1413, 0), (8, 168, 157, 1461, 0), (8, 171, 158, 1464, 0), (8, 174, 156, 1453, 0), (8, 177, 149, 1398, 0), (8, 184, 152, 1437, 0), (8, 187, 160, 1445, 0), (8, 190, 162, 1433, 0), (8, 193, 161, 1449, 0), (8, 196, 159, 1457, 0), (8, 199, 163, 1441, 0), (8, 203, 164, 1467, 0), (8, 206, 165, 1471, 0), (8, 212, 154, 1417, 0), (8, 219, 155, 1425, 0), (8, 222, 167, 1409, 0), (8, 225, 168, 1421, 0), (8, 231, 166, 1429, 0), (8, 237, 153, 1475, 0), (8, 240, 137, 1372, 0), (8, 244, 169, 1394, 0), (8, 256, 139, 1479, 0), (8, 270, 176, 1554, 0), (8, 274, 178, 1546, 0), (8, 278, 179, 1542, 0), (8, 282, 177, 1550, 0), (8, 285, 180, 1538, 0), (8, 289, 182, 1601, 0), (8, 292, 181, 1569, 0), (8, 295, 184, 1625, 0), (8, 298, 189, 1534, 0), (8, 302, 190, 1530, 0), (8, 305, 138, 1495, 0), (8, 308, 186, 1498, 0), (8, 311, 187, 1502, 0), (8, 314, 194, 1510, 0), (8, 317, 196, 1514, 0), (8, 320, 197, 1518, 0), (8, 323, 191, 1561, 0), (8, 326, 195, 1526, 0), (8, 329, 199, 1557, 0), (8, 332, 192, 1565, 0), (8, 335, 188, 1573, 0), (8, 338, 173, 1589, 0), (8, 341, 172, 1593, 0), (8, 344, 183, 1597, 0), (8, 348, 185, 1621, 0), (8, 351, 175, 1645, 0), (8, 354, 209, 1637, 0), (8, 360, 210, 1641, 0), (8, 363, 211, 1649, 0), (8, 366, 212, 1653, 0), (8, 369, 213, 1657, 0), (8, 372, 215, 1664, 0), (8, 375, 216, 1668, 0), (8, 378, 218, 1676, 0), (8, 383, 228, 1717, 0), (8, 386, 140, 1721, 0), (8, 389, 231, 1732, 0), (8, 392, 233, 1740, 0), (8, 399, 235, 1748, 0), (8, 402, 236, 1753, 0), (10, 7, 77, 584, 0), (10, 15, 79, 840, 0), (10, 20, 80, 863, 0), (10, 24, 81, 881, 0), (10, 27, 82, 903, 0), (10, 31, 83, 910, 0), (10, 34, 84, 922, 0), (10, 37, 86, 934, 0), (10, 40, 87, 941, 0), (10, 43, 90, 952, 0), (10, 46, 91, 959, 0), (10, 49, 93, 976, 0), (10, 52, 94, 995, 0), (10, 55, 95, 1003, 0), (10, 58, 96, 1010, 0), (10, 61, 97, 1018, 0), (10, 64, 98, 1039, 0), (10, 67, 99, 1048, 0), (10, 71, 101, 1059, 0), (10, 74, 102, 1081, 0), (10, 77, 105, 1093, 0), (10, 80, 108, 1110, 0), (10, 83, 109, 1125, 0), (10, 86, 111, 1132, 0), (10, 89, 112, 1144, 0), (10, 92, 113, 1151, 0), (10, 95, 114, 1158, 0), (10, 98, 115, 1165, 0), (10, 101, 118, 1172, 0), (10, 104, 119, 1179, 0), (10, 107, 74, 122, 0), (10, 110, 135, 1185, 0), (10, 111, 75, 382, 0), (10, 115, 141, 1360, 0), (10, 116, 249, 580, 0), (10, 121, 170, 1368, 0), (10, 122, 136, 1356, 0), (10, 126, 78, 390, 0), (10, 129, 171, 1483, 0), (10, 130, 250, 836, 0), (10, 132, 193, 1491, 0), (10, 133, 251, 860, 0), (10, 136, 198, 1506, 0), (10, 137, 252, 878, 0), (10, 139, 200, 1522, 0), (10, 140, 253, 900, 0), (10, 142, 201, 1577, 0), (10, 143, 254, 907, 0), (10, 145, 202, 1581, 0), (10, 146, 255, 919, 0), (10, 148, 203, 1585, 0), (10, 149, 85, 394, 0), (10, 152, 204, 1605, 0), (10, 153, 256, 931, 0), (10, 155, 205, 1609, 0), (10, 156, 257, 938, 0), (10, 158, 206, 1613, 0), (10, 159, 88, 423, 0), (10, 162, 207, 1617, 0), (10, 163, 89, 473, 0), (10, 166, 174, 1487, 0), (10, 167, 258, 949, 0), (10, 169, 208, 1629, 0), (10, 170, 259, 956, 0), (10, 172, 214, 1633, 0), (10, 173, 92, 485, 0), (10, 176, 217, 1660, 0), (10, 177, 260, 973, 0), (10, 179, 219, 1672, 0), (10, 180, 261, 992, 0), (10, 182, 221, 1684, 0), (10, 183, 262, 1000, 0), (10, 185, 222, 1688, 0), (10, 186, 263, 1007, 0), (10, 188, 223, 1692, 0), (10, 189, 264, 1015, 0), (10, 191, 224, 1696, 0), (10, 192, 265, 1036, 0), (10, 194, 225, 1701, 0), (10, 195, 266, 1045, 0), (10, 198, 226, 1705, 0), (10, 199, 100, 500, 0), (10, 202, 227, 1709, 0), (10, 203, 267, 1056, 0), (10, 205, 229, 1713, 0), (10, 206, 268, 1078, 0), (10, 208, 230, 1724, 0), (10, 209, 103, 508, 0), (10, 213, 232, 1728, 0), (10, 214, 269, 1090, 0), (10, 216, 234, 1736, 0), (10, 217, 270, 1107, 0), (10, 219, 237, 1744, 0), (10, 220, 271, 1122, 0), (10, 222, 238, 1757, 0), (10, 223, 110, 536, 0), (10, 226, 239, 1761, 0), (10, 227, 272, 1129, 0), (10, 229, 240, 1765, 0), (10, 230, 273, 1141, 0), (10, 232, 241, 1769, 0), (10, 233, 274, 1148, 0), (10, 235, 220, 1680, 0), (10, 236, 275, 1155, 0), (10, 238, 242, 1773, 0), (10, 239, 276, 1162, 0), (10, 241, 243, 1777, 0), (10, 242, 116, 542, 0), (10, 245, 244, 1781, 0), (10, 246, 277, 1169, 0), (10, 248, 245, 1785, 0), (10, 249, 278, 1176, 0), (10, 251, 246, 1789, 0), (10, 252, 120, 558, 0), (10, 255, 247, 1793, 0), (10, 256, 121, 576, 0), (10, 259, 248, 1797, 0)]
def mm_yS (k : Nat) : MethodName := if k = 9000 then Lib.objectInit else if k = 9001 then yJ0_length_8abf5 else if k = 9002 then yJ0_charAt_5068e else if k = 9003 then arraycopyName else if k = 9004 then Lib.Math.max.name else if k = 9005 then Lib.Math.min.name else if k = 9006 then Lib.MathLoose.max_long.x else mm_y k
def mm_host : String := "VillageBoard"
def mm_mlOk (q : Nat × Nat × Nat × Nat × Nat) : Bool := if q.2.2.2.2 = 0 then mm_at q.2.2.2.1 (.methodLink (mm_on q.1) q.2.1 (mm_yS q.2.2.1)) else mm_atN q.2.2.2.1 (.methodLinkNest (mm_on q.1) q.2.1 (mm_yS q.2.2.1) mm_host)
/-- the sites of the throws: the class's entry, the message's number, the constructor's entry; whether the text's entry is a wide one -/
def mm_ths : List (Nat × Nat × Nat × Nat) := [(88, 0, 92, 0), (140, 1, 144, 0), (140, 2, 144, 0), (140, 3, 144, 0), (140, 4, 144, 0), (88, 5, 92, 0), (140, 6, 144, 1), (88, 7, 92, 1), (140, 8, 144, 1), (140, 9, 144, 1), (140, 10, 144, 1), (140, 11, 144, 1), (88, 12, 92, 1), (140, 13, 144, 1), (88, 14, 92, 1), (140, 15, 144, 1), (140, 16, 144, 1)]
def mm_thOk (k pc : Nat) (x : mm_I) (idx : Nat) : Bool := match mm_ths[x.2.2.1]? with
  | some (ik, j, ic, wd) => (match mm_msg[j]? with
    | some (is, _) => decide (ik = idx ∧ ((x.2.1 = 900 ∧ ik = 140 ∧ ic = 144) ∨ (x.2.1 = 901 ∧ ik = 88 ∧ ic = 92)) ∧ mm_oc k = 7) && decide (decode (mm_c k) (pc + 3) = .ok (.dup, 1)) && (if wd = 0 then decide (decode (mm_c k) (pc + 4) = .ok (.ldc is, 2)) && decide (decode (mm_c k) (pc + 6) = .ok (.invokespecial ic, 3)) && decide (decode (mm_c k) (pc + 9) = .ok (.athrow, 1))
      else decide (decode (mm_c k) (pc + 4) = .ok (.ldc_w is, 3)) && decide (decode (mm_c k) (pc + 7) = .ok (.invokespecial ic, 3)) && decide (decode (mm_c k) (pc + 10) = .ok (.athrow, 1))) && decide (mm_hh k = [])
    | none => false)
  | none => false
def mm_ckF (k : Nat) (x : mm_I) (idx : Nat) : Bool := match mm_fl[x.2.2.2.1]? with
  | some (oc, ix, ci, sl, _) => decide (oc = mm_oc k ∧ ix = idx ∧ ci = x.2.1 ∧ sl = x.2.2.1)
  | none => false
def mm_ckM (k : Nat) (x : mm_I) (idx : Nat) : Bool := match mm_ml[x.2.2.2.1]? with
  | some (oc, ix, kk, _, _) => decide (oc = mm_oc k ∧ ix = idx ∧ kk = x.2.1)
  | none => false
def mm_nst (x : mm_I) : Nat := (mm_ml.getD x.2.2.2.1 (0, 0, 0, 0, 9)).2.2.2.2
def mm_ckI (k pc : Nat) (x : mm_I) : Bool := match x.1 with
  | .getfield idx => mm_ckF k x idx
  | .putfield idx => mm_ckF k x idx && mm_okp (mm_ow k) (mm_y k).name x
  | .ldc idx => if x.2.1 = 0 then mm_at x.2.2.2.1 (.constant (mm_ow k) idx x.2.2.2.2) else if x.2.1 = 1 then decide (mm_oc k = 4) && decide ((mm_six[x.2.2.1]?).map (fun q => q.1) = some idx) else true
  | .ldc_w idx => if x.2.1 = 0 then mm_at x.2.2.2.1 (.constant (mm_ow k) idx x.2.2.2.2) else true
  | .ldc2_w idx => mm_at x.2.2.2.1 (.constantLong (mm_ow k) idx x.2.2.2.2.toInt64)
  | .new idx => if x.2.1 < 9 then mm_okn (mm_ow k) x idx else mm_thOk k pc x idx
  | .newarray ty => decide (newarray.typeOf ty = .int ∨ newarray.typeOf ty = .boolean ∨ newarray.typeOf ty = .long)
  | .invokevirtual idx => mm_ckM k x idx && (decide (x.2.1 = 9001 ∨ x.2.1 = 9002) || decide (mm_kd x.2.1 = 0 ∧ x.2.1 < 279 ∧ mm_na x.2.1 + 1 = x.2.2.1 ∧ mm_nst x = 0 ∧ x.2.2.2.2 = Int32.ofNat pc ∧ pc < 65536))
  | .invokespecial idx => decide (x.2.1 = 9100) || (mm_ckM k x idx && (decide (x.2.1 = 9000 ∧ mm_nst x = 0) || decide (mm_kd x.2.1 = 2 ∧ x.2.1 < 279 ∧ mm_na x.2.1 + 1 = x.2.2.1 ∧ x.2.2.2.2 = Int32.ofNat pc ∧ pc < 65536)))
  | .invokestatic idx => mm_ckM k x idx && (decide ((x.2.1 = 9003 ∨ x.2.1 = 9004 ∨ x.2.1 = 9005 ∨ x.2.1 = 9006) ∧ mm_nst x = 0) || decide ((mm_kd x.2.1 = 1 ∨ (mm_kd x.2.1 = 3 ∧ mm_nst x = 0)) ∧ x.2.1 < 279 ∧ mm_na x.2.1 = x.2.2.1 ∧ x.2.2.2.2 = Int32.ofNat pc ∧ pc < 65536))
  | _ => mm_okj pc x
def mm_okl (k : Nat) : Nat → List mm_I → Bool
  | _, [] => true
  | pc, x :: is => (match decode (mm_c k) pc with
      | .ok (i, len) => decide (i = x.1) && (decide (len = mm_len x.1) || mm_sw x.1)
      | _ => false) && mm_ckI k pc x && mm_okl k (pc + mm_len x.1) is
def mm_okm (k : Nat) : Bool := (mm_tabs.getD k []).all (fun q => mm_okl k q.1 q.2)
/-- a method's code word -/
def mm_cwd (k : Nat) : Cond := if mm_kd k = 3 then .codeWith (mm_y k) (mm_c k) (mm_mx k) (mm_rt k) (mm_hh k) else .code (mm_y k) (mm_c k) (mm_mx k) (mm_rt k)
theorem mm_cwG (k : Nat) : goodWord (mm_cwd k) = true := by
  unfold mm_cwd
  split <;> rfl
end
section
theorem mm_flk0 : ((mm_fl.drop 0).take 40).all mm_flOk = true := by decide +kernel
theorem mm_flk1 : ((mm_fl.drop 40).take 40).all mm_flOk = true := by decide +kernel
theorem mm_flk2 : ((mm_fl.drop 80).take 40).all mm_flOk = true := by decide +kernel
theorem mm_flk3 : ((mm_fl.drop 120).take 26).all mm_flOk = true := by decide +kernel
theorem mm_flAll {i : Nat} {q : Nat × Nat × Nat × Nat × Nat} (h : mm_fl[i]? = some q) : mm_flOk q = true := by
  have hi : i < mm_fl.length := (List.getElem?_eq_some_iff.mp h).1
  have hn : mm_fl.length = 146 := by decide +kernel
  by_cases h0 : i < 40
  · exact List.all_eq_true.mp mm_flk0 q (List.mem_of_getElem? (i := i - 0) (by rw [List.getElem?_take, if_pos (by omega), List.getElem?_drop, show 0 + (i - 0) = i by omega]; exact h))
  by_cases h1 : i < 80
  · exact List.all_eq_true.mp mm_flk1 q (List.mem_of_getElem? (i := i - 40) (by rw [List.getElem?_take, if_pos (by omega), List.getElem?_drop, show 40 + (i - 40) = i by omega]; exact h))
  by_cases h2 : i < 120
  · exact List.all_eq_true.mp mm_flk2 q (List.mem_of_getElem? (i := i - 80) (by rw [List.getElem?_take, if_pos (by omega), List.getElem?_drop, show 80 + (i - 80) = i by omega]; exact h))
  by_cases h3 : i < 146
  · exact List.all_eq_true.mp mm_flk3 q (List.mem_of_getElem? (i := i - 120) (by rw [List.getElem?_take, if_pos (by omega), List.getElem?_drop, show 120 + (i - 120) = i by omega]; exact h))
  omega
theorem mm_mlk0 : ((mm_ml.drop 0).take 40).all mm_mlOk = true := by decide +kernel
theorem mm_mlk1 : ((mm_ml.drop 40).take 40).all mm_mlOk = true := by decide +kernel
theorem mm_mlk2 : ((mm_ml.drop 80).take 40).all mm_mlOk = true := by decide +kernel
theorem mm_mlk3 : ((mm_ml.drop 120).take 40).all mm_mlOk = true := by decide +kernel
theorem mm_mlk4 : ((mm_ml.drop 160).take 40).all mm_mlOk = true := by decide +kernel
theorem mm_mlk5 : ((mm_ml.drop 200).take 40).all mm_mlOk = true := by decide +kernel
theorem mm_mlk6 : ((mm_ml.drop 240).take 40).all mm_mlOk = true := by decide +kernel
theorem mm_mlk7 : ((mm_ml.drop 280).take 40).all mm_mlOk = true := by decide +kernel
theorem mm_mlk8 : ((mm_ml.drop 320).take 3).all mm_mlOk = true := by decide +kernel
theorem mm_mlAll {i : Nat} {q : Nat × Nat × Nat × Nat × Nat} (h : mm_ml[i]? = some q) : mm_mlOk q = true := by
  have hi : i < mm_ml.length := (List.getElem?_eq_some_iff.mp h).1
  have hn : mm_ml.length = 323 := by decide +kernel
  by_cases h0 : i < 40
  · exact List.all_eq_true.mp mm_mlk0 q (List.mem_of_getElem? (i := i - 0) (by rw [List.getElem?_take, if_pos (by omega), List.getElem?_drop, show 0 + (i - 0) = i by omega]; exact h))
  by_cases h1 : i < 80
  · exact List.all_eq_true.mp mm_mlk1 q (List.mem_of_getElem? (i := i - 40) (by rw [List.getElem?_take, if_pos (by omega), List.getElem?_drop, show 40 + (i - 40) = i by omega]; exact h))
  by_cases h2 : i < 120
  · exact List.all_eq_true.mp mm_mlk2 q (List.mem_of_getElem? (i := i - 80) (by rw [List.getElem?_take, if_pos (by omega), List.getElem?_drop, show 80 + (i - 80) = i by omega]; exact h))
  by_cases h3 : i < 160
  · exact List.all_eq_true.mp mm_mlk3 q (List.mem_of_getElem? (i := i - 120) (by rw [List.getElem?_take, if_pos (by omega), List.getElem?_drop, show 120 + (i - 120) = i by omega]; exact h))
  by_cases h4 : i < 200
  · exact List.all_eq_true.mp mm_mlk4 q (List.mem_of_getElem? (i := i - 160) (by rw [List.getElem?_take, if_pos (by omega), List.getElem?_drop, show 160 + (i - 160) = i by omega]; exact h))
  by_cases h5 : i < 240
  · exact List.all_eq_true.mp mm_mlk5 q (List.mem_of_getElem? (i := i - 200) (by rw [List.getElem?_take, if_pos (by omega), List.getElem?_drop, show 200 + (i - 200) = i by omega]; exact h))
  by_cases h6 : i < 280
  · exact List.all_eq_true.mp mm_mlk6 q (List.mem_of_getElem? (i := i - 240) (by rw [List.getElem?_take, if_pos (by omega), List.getElem?_drop, show 240 + (i - 240) = i by omega]; exact h))
  by_cases h7 : i < 320
  · exact List.all_eq_true.mp mm_mlk7 q (List.mem_of_getElem? (i := i - 280) (by rw [List.getElem?_take, if_pos (by omega), List.getElem?_drop, show 280 + (i - 280) = i by omega]; exact h))
  by_cases h8 : i < 323
  · exact List.all_eq_true.mp mm_mlk8 q (List.mem_of_getElem? (i := i - 320) (by rw [List.getElem?_take, if_pos (by omega), List.getElem?_drop, show 320 + (i - 320) = i by omega]; exact h))
  omega
theorem mm_mk0 : ((List.range 40).map (fun i => i + 0)).all mm_mok = true := by decide +kernel
theorem mm_mk1 : ((List.range 40).map (fun i => i + 40)).all mm_mok = true := by decide +kernel
theorem mm_mk2 : ((List.range 40).map (fun i => i + 80)).all mm_mok = true := by decide +kernel
theorem mm_mk3 : ((List.range 40).map (fun i => i + 120)).all mm_mok = true := by decide +kernel
theorem mm_mk4 : ((List.range 40).map (fun i => i + 160)).all mm_mok = true := by decide +kernel
theorem mm_mk5 : ((List.range 40).map (fun i => i + 200)).all mm_mok = true := by decide +kernel
theorem mm_mk6 : ((List.range 40).map (fun i => i + 240)).all mm_mok = true := by decide +kernel
theorem mm_mAll {k : Nat} (h : k < 280) : mm_mok k = true := by
  by_cases h0 : k < 40
  · exact List.all_eq_true.mp mm_mk0 k (List.mem_map.mpr ⟨k - 0, List.mem_range.mpr (by omega), by omega⟩)
  by_cases h1 : k < 80
  · exact List.all_eq_true.mp mm_mk1 k (List.mem_map.mpr ⟨k - 40, List.mem_range.mpr (by omega), by omega⟩)
  by_cases h2 : k < 120
  · exact List.all_eq_true.mp mm_mk2 k (List.mem_map.mpr ⟨k - 80, List.mem_range.mpr (by omega), by omega⟩)
  by_cases h3 : k < 160
  · exact List.all_eq_true.mp mm_mk3 k (List.mem_map.mpr ⟨k - 120, List.mem_range.mpr (by omega), by omega⟩)
  by_cases h4 : k < 200
  · exact List.all_eq_true.mp mm_mk4 k (List.mem_map.mpr ⟨k - 160, List.mem_range.mpr (by omega), by omega⟩)
  by_cases h5 : k < 240
  · exact List.all_eq_true.mp mm_mk5 k (List.mem_map.mpr ⟨k - 200, List.mem_range.mpr (by omega), by omega⟩)
  by_cases h6 : k < 280
  · exact List.all_eq_true.mp mm_mk6 k (List.mem_map.mpr ⟨k - 240, List.mem_range.mpr (by omega), by omega⟩)
  omega
end
section
set_option maxRecDepth 20000 in
theorem mm_cw0 : mm_cwd 0 ∈ k2_sels lw_privs ++ (tables_1_1 ++ (tables_1_2 ++ (tables_1_3 ++ (tables_1_4 ++ (tables_1_5 ++ (tables_1_6 ++ (tables_1_7 ++ tables_1_8))))))) := List.mem_append_right _ (List.mem_append_right _ (List.mem_append_left _ (List.mem_of_getElem? (i := 121) rfl)))
set_option maxRecDepth 20000 in
theorem mm_cw1 : mm_cwd 1 ∈ k2_sels lw_privs ++ (tables_1_1 ++ (tables_1_2 ++ (tables_1_3 ++ (tables_1_4 ++ (tables_1_5 ++ (tables_1_6 ++ (tables_1_7 ++ tables_1_8))))))) := List.mem_append_right _ (List.mem_append_left _ (List.mem_of_getElem? (i := 188) rfl))
set_option maxRecDepth 20000 in
theorem mm_cw2 : mm_cwd 2 ∈ k2_sels lw_privs ++ (tables_1_1 ++ (tables_1_2 ++ (tables_1_3 ++ (tables_1_4 ++ (tables_1_5 ++ (tables_1_6 ++ (tables_1_7 ++ tables_1_8))))))) := List.mem_append_right _ (List.mem_append_right _ (List.mem_append_right _ (List.mem_append_right _ (List.mem_append_left _ (List.mem_of_getElem? (i := 18) rfl)))))
set_option maxRecDepth 20000 in
theorem mm_cw3 : mm_cwd 3 ∈ k2_sels lw_privs ++ (tables_1_1 ++ (tables_1_2 ++ (tables_1_3 ++ (tables_1_4 ++ (tables_1_5 ++ (tables_1_6 ++ (tables_1_7 ++ tables_1_8))))))) := List.mem_append_right _ (List.mem_append_right _ (List.mem_append_left _ (List.mem_of_getElem? (i := 64) rfl)))
set_option maxRecDepth 20000 in
theorem mm_cw4 : mm_cwd 4 ∈ k2_sels lw_privs ++ (tables_1_1 ++ (tables_1_2 ++ (tables_1_3 ++ (tables_1_4 ++ (tables_1_5 ++ (tables_1_6 ++ (tables_1_7 ++ tables_1_8))))))) := List.mem_append_right _ (List.mem_append_right _ (List.mem_append_left _ (List.mem_of_getElem? (i := 143) rfl)))
set_option maxRecDepth 20000 in
theorem mm_cw5 : mm_cwd 5 ∈ k2_sels lw_privs ++ (tables_1_1 ++ (tables_1_2 ++ (tables_1_3 ++ (tables_1_4 ++ (tables_1_5 ++ (tables_1_6 ++ (tables_1_7 ++ tables_1_8))))))) := List.mem_append_right _ (List.mem_append_right _ (List.mem_append_left _ (List.mem_of_getElem? (i := 232) rfl)))
set_option maxRecDepth 20000 in
theorem mm_cw6 : mm_cwd 6 ∈ k2_sels lw_privs ++ (tables_1_1 ++ (tables_1_2 ++ (tables_1_3 ++ (tables_1_4 ++ (tables_1_5 ++ (tables_1_6 ++ (tables_1_7 ++ tables_1_8))))))) := List.mem_append_right _ (List.mem_append_left _ (List.mem_of_getElem? (i := 222) rfl))
set_option maxRecDepth 20000 in
theorem mm_cw7 : mm_cwd 7 ∈ k2_sels lw_privs ++ (tables_1_1 ++ (tables_1_2 ++ (tables_1_3 ++ (tables_1_4 ++ (tables_1_5 ++ (tables_1_6 ++ (tables_1_7 ++ tables_1_8))))))) := List.mem_append_right _ (List.mem_append_right _ (List.mem_append_right _ (List.mem_append_right _ (List.mem_append_right _ (List.mem_append_left _ (List.mem_of_getElem? (i := 10) rfl))))))
set_option maxRecDepth 20000 in
theorem mm_cw8 : mm_cwd 8 ∈ k2_sels lw_privs ++ (tables_1_1 ++ (tables_1_2 ++ (tables_1_3 ++ (tables_1_4 ++ (tables_1_5 ++ (tables_1_6 ++ (tables_1_7 ++ tables_1_8))))))) := List.mem_append_right _ (List.mem_append_right _ (List.mem_append_right _ (List.mem_append_right _ (List.mem_append_right _ (List.mem_append_left _ (List.mem_of_getElem? (i := 16) rfl))))))
set_option maxRecDepth 20000 in
theorem mm_cw9 : mm_cwd 9 ∈ k2_sels lw_privs ++ (tables_1_1 ++ (tables_1_2 ++ (tables_1_3 ++ (tables_1_4 ++ (tables_1_5 ++ (tables_1_6 ++ (tables_1_7 ++ tables_1_8))))))) := List.mem_append_right _ (List.mem_append_right _ (List.mem_append_right _ (List.mem_append_right _ (List.mem_append_right _ (List.mem_append_left _ (List.mem_of_getElem? (i := 32) rfl))))))
set_option maxRecDepth 20000 in
theorem mm_cw10 : mm_cwd 10 ∈ k2_sels lw_privs ++ (tables_1_1 ++ (tables_1_2 ++ (tables_1_3 ++ (tables_1_4 ++ (tables_1_5 ++ (tables_1_6 ++ (tables_1_7 ++ tables_1_8))))))) := List.mem_append_right _ (List.mem_append_right _ (List.mem_append_left _ (List.mem_of_getElem? (i := 185) rfl)))
set_option maxRecDepth 20000 in
theorem mm_cw11 : mm_cwd 11 ∈ k2_sels lw_privs ++ (tables_1_1 ++ (tables_1_2 ++ (tables_1_3 ++ (tables_1_4 ++ (tables_1_5 ++ (tables_1_6 ++ (tables_1_7 ++ tables_1_8))))))) := List.mem_append_right _ (List.mem_append_right _ (List.mem_append_left _ (List.mem_of_getElem? (i := 155) rfl)))
set_option maxRecDepth 20000 in
theorem mm_cw12 : mm_cwd 12 ∈ k2_sels lw_privs ++ (tables_1_1 ++ (tables_1_2 ++ (tables_1_3 ++ (tables_1_4 ++ (tables_1_5 ++ (tables_1_6 ++ (tables_1_7 ++ tables_1_8))))))) := List.mem_append_right _ (List.mem_append_right _ (List.mem_append_left _ (List.mem_of_getElem? (i := 161) rfl)))
set_option maxRecDepth 20000 in
theorem mm_cw13 : mm_cwd 13 ∈ k2_sels lw_privs ++ (tables_1_1 ++ (tables_1_2 ++ (tables_1_3 ++ (tables_1_4 ++ (tables_1_5 ++ (tables_1_6 ++ (tables_1_7 ++ tables_1_8))))))) := List.mem_append_right _ (List.mem_append_left _ (List.mem_of_getElem? (i := 41) rfl))
set_option maxRecDepth 20000 in
theorem mm_cw14 : mm_cwd 14 ∈ k2_sels lw_privs ++ (tables_1_1 ++ (tables_1_2 ++ (tables_1_3 ++ (tables_1_4 ++ (tables_1_5 ++ (tables_1_6 ++ (tables_1_7 ++ tables_1_8))))))) := List.mem_append_right _ (List.mem_append_right _ (List.mem_append_right _ (List.mem_append_left _ (List.mem_of_getElem? (i := 86) rfl))))
set_option maxRecDepth 20000 in
theorem mm_cw15 : mm_cwd 15 ∈ k2_sels lw_privs ++ (tables_1_1 ++ (tables_1_2 ++ (tables_1_3 ++ (tables_1_4 ++ (tables_1_5 ++ (tables_1_6 ++ (tables_1_7 ++ tables_1_8))))))) := List.mem_append_right _ (List.mem_append_right _ (List.mem_append_right _ (List.mem_append_left _ (List.mem_of_getElem? (i := 174) rfl))))
set_option maxRecDepth 20000 in
theorem mm_cw16 : mm_cwd 16 ∈ k2_sels lw_privs ++ (tables_1_1 ++ (tables_1_2 ++ (tables_1_3 ++ (tables_1_4 ++ (tables_1_5 ++ (tables_1_6 ++ (tables_1_7 ++ tables_1_8))))))) := List.mem_append_right _ (List.mem_append_right _ (List.mem_append_right _ (List.mem_append_left _ (List.mem_of_getElem? (i := 186) rfl))))
set_option maxRecDepth 20000 in
theorem mm_cw17 : mm_cwd 17 ∈ k2_sels lw_privs ++ (tables_1_1 ++ (tables_1_2 ++ (tables_1_3 ++ (tables_1_4 ++ (tables_1_5 ++ (tables_1_6 ++ (tables_1_7 ++ tables_1_8))))))) := List.mem_append_right _ (List.mem_append_right _ (List.mem_append_right _ (List.mem_append_right _ (List.mem_append_left _ (List.mem_of_getElem? (i := 1) rfl)))))
set_option maxRecDepth 20000 in
theorem mm_cw18 : mm_cwd 18 ∈ k2_sels lw_privs ++ (tables_1_1 ++ (tables_1_2 ++ (tables_1_3 ++ (tables_1_4 ++ (tables_1_5 ++ (tables_1_6 ++ (tables_1_7 ++ tables_1_8))))))) := List.mem_append_right _ (List.mem_append_right _ (List.mem_append_right _ (List.mem_append_right _ (List.mem_append_left _ (List.mem_of_getElem? (i := 174) rfl)))))
set_option maxRecDepth 20000 in
theorem mm_cw19 : mm_cwd 19 ∈ k2_sels lw_privs ++ (tables_1_1 ++ (tables_1_2 ++ (tables_1_3 ++ (tables_1_4 ++ (tables_1_5 ++ (tables_1_6 ++ (tables_1_7 ++ tables_1_8))))))) := List.mem_append_right _ (List.mem_append_right _ (List.mem_append_left _ (List.mem_of_getElem? (i := 189) rfl)))
set_option maxRecDepth 20000 in
theorem mm_cw20 : mm_cwd 20 ∈ k2_sels lw_privs ++ (tables_1_1 ++ (tables_1_2 ++ (tables_1_3 ++ (tables_1_4 ++ (tables_1_5 ++ (tables_1_6 ++ (tables_1_7 ++ tables_1_8))))))) := List.mem_append_right _ (List.mem_append_right _ (List.mem_append_right _ (List.mem_append_right _ (List.mem_append_left _ (List.mem_of_getElem? (i := 166) rfl)))))
set_option maxRecDepth 20000 in
theorem mm_cw21 : mm_cwd 21 ∈ k2_sels lw_privs ++ (tables_1_1 ++ (tables_1_2 ++ (tables_1_3 ++ (tables_1_4 ++ (tables_1_5 ++ (tables_1_6 ++ (tables_1_7 ++ tables_1_8))))))) := List.mem_append_right _ (List.mem_append_right _ (List.mem_append_right _ (List.mem_append_right _ (List.mem_append_right _ (List.mem_append_left _ (List.mem_of_getElem? (i := 82) rfl))))))
set_option maxRecDepth 20000 in
theorem mm_cw22 : mm_cwd 22 ∈ k2_sels lw_privs ++ (tables_1_1 ++ (tables_1_2 ++ (tables_1_3 ++ (tables_1_4 ++ (tables_1_5 ++ (tables_1_6 ++ (tables_1_7 ++ tables_1_8))))))) := List.mem_append_right _ (List.mem_append_right _ (List.mem_append_left _ (List.mem_of_getElem? (i := 110) rfl)))
set_option maxRecDepth 20000 in
theorem mm_cw23 : mm_cwd 23 ∈ k2_sels lw_privs ++ (tables_1_1 ++ (tables_1_2 ++ (tables_1_3 ++ (tables_1_4 ++ (tables_1_5 ++ (tables_1_6 ++ (tables_1_7 ++ tables_1_8))))))) := List.mem_append_right _ (List.mem_append_right _ (List.mem_append_left _ (List.mem_of_getElem? (i := 114) rfl)))
set_option maxRecDepth 20000 in
theorem mm_cw24 : mm_cwd 24 ∈ k2_sels lw_privs ++ (tables_1_1 ++ (tables_1_2 ++ (tables_1_3 ++ (tables_1_4 ++ (tables_1_5 ++ (tables_1_6 ++ (tables_1_7 ++ tables_1_8))))))) := List.mem_append_right _ (List.mem_append_right _ (List.mem_append_left _ (List.mem_of_getElem? (i := 194) rfl)))
set_option maxRecDepth 20000 in
theorem mm_cw25 : mm_cwd 25 ∈ k2_sels lw_privs ++ (tables_1_1 ++ (tables_1_2 ++ (tables_1_3 ++ (tables_1_4 ++ (tables_1_5 ++ (tables_1_6 ++ (tables_1_7 ++ tables_1_8))))))) := List.mem_append_right _ (List.mem_append_right _ (List.mem_append_left _ (List.mem_of_getElem? (i := 220) rfl)))
set_option maxRecDepth 20000 in
theorem mm_cw26 : mm_cwd 26 ∈ k2_sels lw_privs ++ (tables_1_1 ++ (tables_1_2 ++ (tables_1_3 ++ (tables_1_4 ++ (tables_1_5 ++ (tables_1_6 ++ (tables_1_7 ++ tables_1_8))))))) := List.mem_append_right _ (List.mem_append_right _ (List.mem_append_left _ (List.mem_of_getElem? (i := 216) rfl)))
set_option maxRecDepth 20000 in
theorem mm_cw27 : mm_cwd 27 ∈ k2_sels lw_privs ++ (tables_1_1 ++ (tables_1_2 ++ (tables_1_3 ++ (tables_1_4 ++ (tables_1_5 ++ (tables_1_6 ++ (tables_1_7 ++ tables_1_8))))))) := List.mem_append_right _ (List.mem_append_right _ (List.mem_append_left _ (List.mem_of_getElem? (i := 105) rfl)))
set_option maxRecDepth 20000 in
theorem mm_cw28 : mm_cwd 28 ∈ k2_sels lw_privs ++ (tables_1_1 ++ (tables_1_2 ++ (tables_1_3 ++ (tables_1_4 ++ (tables_1_5 ++ (tables_1_6 ++ (tables_1_7 ++ tables_1_8))))))) := List.mem_append_right _ (List.mem_append_right _ (List.mem_append_left _ (List.mem_of_getElem? (i := 118) rfl)))
set_option maxRecDepth 20000 in
theorem mm_cw29 : mm_cwd 29 ∈ k2_sels lw_privs ++ (tables_1_1 ++ (tables_1_2 ++ (tables_1_3 ++ (tables_1_4 ++ (tables_1_5 ++ (tables_1_6 ++ (tables_1_7 ++ tables_1_8))))))) := List.mem_append_right _ (List.mem_append_left _ (List.mem_of_getElem? (i := 156) rfl))
set_option maxRecDepth 20000 in
theorem mm_cw30 : mm_cwd 30 ∈ k2_sels lw_privs ++ (tables_1_1 ++ (tables_1_2 ++ (tables_1_3 ++ (tables_1_4 ++ (tables_1_5 ++ (tables_1_6 ++ (tables_1_7 ++ tables_1_8))))))) := List.mem_append_right _ (List.mem_append_right _ (List.mem_append_right _ (List.mem_append_right _ (List.mem_append_left _ (List.mem_of_getElem? (i := 14) rfl)))))
set_option maxRecDepth 20000 in
theorem mm_cw31 : mm_cwd 31 ∈ k2_sels lw_privs ++ (tables_1_1 ++ (tables_1_2 ++ (tables_1_3 ++ (tables_1_4 ++ (tables_1_5 ++ (tables_1_6 ++ (tables_1_7 ++ tables_1_8))))))) := List.mem_append_right _ (List.mem_append_right _ (List.mem_append_left _ (List.mem_of_getElem? (i := 228) rfl)))
set_option maxRecDepth 20000 in
theorem mm_cw32 : mm_cwd 32 ∈ k2_sels lw_privs ++ (tables_1_1 ++ (tables_1_2 ++ (tables_1_3 ++ (tables_1_4 ++ (tables_1_5 ++ (tables_1_6 ++ (tables_1_7 ++ tables_1_8))))))) := List.mem_append_right _ (List.mem_append_right _ (List.mem_append_left _ (List.mem_of_getElem? (i := 68) rfl)))
set_option maxRecDepth 20000 in
theorem mm_cw33 : mm_cwd 33 ∈ k2_sels lw_privs ++ (tables_1_1 ++ (tables_1_2 ++ (tables_1_3 ++ (tables_1_4 ++ (tables_1_5 ++ (tables_1_6 ++ (tables_1_7 ++ tables_1_8))))))) := List.mem_append_right _ (List.mem_append_right _ (List.mem_append_left _ (List.mem_of_getElem? (i := 147) rfl)))
set_option maxRecDepth 20000 in
theorem mm_cw34 : mm_cwd 34 ∈ k2_sels lw_privs ++ (tables_1_1 ++ (tables_1_2 ++ (tables_1_3 ++ (tables_1_4 ++ (tables_1_5 ++ (tables_1_6 ++ (tables_1_7 ++ tables_1_8))))))) := List.mem_append_right _ (List.mem_append_right _ (List.mem_append_left _ (List.mem_of_getElem? (i := 101) rfl)))
set_option maxRecDepth 20000 in
theorem mm_cw35 : mm_cwd 35 ∈ k2_sels lw_privs ++ (tables_1_1 ++ (tables_1_2 ++ (tables_1_3 ++ (tables_1_4 ++ (tables_1_5 ++ (tables_1_6 ++ (tables_1_7 ++ tables_1_8))))))) := List.mem_append_right _ (List.mem_append_right _ (List.mem_append_right _ (List.mem_append_right _ (List.mem_append_left _ (List.mem_of_getElem? (i := 170) rfl)))))
set_option maxRecDepth 20000 in
theorem mm_cw36 : mm_cwd 36 ∈ k2_sels lw_privs ++ (tables_1_1 ++ (tables_1_2 ++ (tables_1_3 ++ (tables_1_4 ++ (tables_1_5 ++ (tables_1_6 ++ (tables_1_7 ++ tables_1_8))))))) := List.mem_append_right _ (List.mem_append_right _ (List.mem_append_right _ (List.mem_append_right _ (List.mem_append_left _ (List.mem_of_getElem? (i := 58) rfl)))))
set_option maxRecDepth 20000 in
theorem mm_cw37 : mm_cwd 37 ∈ k2_sels lw_privs ++ (tables_1_1 ++ (tables_1_2 ++ (tables_1_3 ++ (tables_1_4 ++ (tables_1_5 ++ (tables_1_6 ++ (tables_1_7 ++ tables_1_8))))))) := List.mem_append_right _ (List.mem_append_right _ (List.mem_append_left _ (List.mem_of_getElem? (i := 79) rfl)))
set_option maxRecDepth 20000 in
theorem mm_cw38 : mm_cwd 38 ∈ k2_sels lw_privs ++ (tables_1_1 ++ (tables_1_2 ++ (tables_1_3 ++ (tables_1_4 ++ (tables_1_5 ++ (tables_1_6 ++ (tables_1_7 ++ tables_1_8))))))) := List.mem_append_right _ (List.mem_append_right _ (List.mem_append_left _ (List.mem_of_getElem? (i := 134) rfl)))
set_option maxRecDepth 20000 in
theorem mm_cw39 : mm_cwd 39 ∈ k2_sels lw_privs ++ (tables_1_1 ++ (tables_1_2 ++ (tables_1_3 ++ (tables_1_4 ++ (tables_1_5 ++ (tables_1_6 ++ (tables_1_7 ++ tables_1_8))))))) := List.mem_append_right _ (List.mem_append_right _ (List.mem_append_left _ (List.mem_of_getElem? (i := 75) rfl)))
set_option maxRecDepth 20000 in
theorem mm_cw40 : mm_cwd 40 ∈ k2_sels lw_privs ++ (tables_1_1 ++ (tables_1_2 ++ (tables_1_3 ++ (tables_1_4 ++ (tables_1_5 ++ (tables_1_6 ++ (tables_1_7 ++ tables_1_8))))))) := List.mem_append_right _ (List.mem_append_right _ (List.mem_append_left _ (List.mem_of_getElem? (i := 93) rfl)))
set_option maxRecDepth 20000 in
theorem mm_cw41 : mm_cwd 41 ∈ k2_sels lw_privs ++ (tables_1_1 ++ (tables_1_2 ++ (tables_1_3 ++ (tables_1_4 ++ (tables_1_5 ++ (tables_1_6 ++ (tables_1_7 ++ tables_1_8))))))) := List.mem_append_right _ (List.mem_append_right _ (List.mem_append_left _ (List.mem_of_getElem? (i := 97) rfl)))
set_option maxRecDepth 20000 in
theorem mm_cw42 : mm_cwd 42 ∈ k2_sels lw_privs ++ (tables_1_1 ++ (tables_1_2 ++ (tables_1_3 ++ (tables_1_4 ++ (tables_1_5 ++ (tables_1_6 ++ (tables_1_7 ++ tables_1_8))))))) := List.mem_append_right _ (List.mem_append_right _ (List.mem_append_right _ (List.mem_append_right _ (List.mem_append_right _ (List.mem_append_left _ (List.mem_of_getElem? (i := 63) rfl))))))
set_option maxRecDepth 20000 in
theorem mm_cw43 : mm_cwd 43 ∈ k2_sels lw_privs ++ (tables_1_1 ++ (tables_1_2 ++ (tables_1_3 ++ (tables_1_4 ++ (tables_1_5 ++ (tables_1_6 ++ (tables_1_7 ++ tables_1_8))))))) := List.mem_append_right _ (List.mem_append_left _ (List.mem_of_getElem? (i := 35) rfl))
set_option maxRecDepth 20000 in
theorem mm_cw44 : mm_cwd 44 ∈ k2_sels lw_privs ++ (tables_1_1 ++ (tables_1_2 ++ (tables_1_3 ++ (tables_1_4 ++ (tables_1_5 ++ (tables_1_6 ++ (tables_1_7 ++ tables_1_8))))))) := List.mem_append_right _ (List.mem_append_right _ (List.mem_append_right _ (List.mem_append_left _ (List.mem_of_getElem? (i := 81) rfl))))
set_option maxRecDepth 20000 in
theorem mm_cw45 : mm_cwd 45 ∈ k2_sels lw_privs ++ (tables_1_1 ++ (tables_1_2 ++ (tables_1_3 ++ (tables_1_4 ++ (tables_1_5 ++ (tables_1_6 ++ (tables_1_7 ++ tables_1_8))))))) := List.mem_append_right _ (List.mem_append_right _ (List.mem_append_right _ (List.mem_append_right _ (List.mem_append_left _ (List.mem_of_getElem? (i := 10) rfl)))))
set_option maxRecDepth 20000 in
theorem mm_cw46 : mm_cwd 46 ∈ k2_sels lw_privs ++ (tables_1_1 ++ (tables_1_2 ++ (tables_1_3 ++ (tables_1_4 ++ (tables_1_5 ++ (tables_1_6 ++ (tables_1_7 ++ tables_1_8))))))) := List.mem_append_right _ (List.mem_append_right _ (List.mem_append_right _ (List.mem_append_left _ (List.mem_of_getElem? (i := 166) rfl))))
set_option maxRecDepth 20000 in
theorem mm_cw47 : mm_cwd 47 ∈ k2_sels lw_privs ++ (tables_1_1 ++ (tables_1_2 ++ (tables_1_3 ++ (tables_1_4 ++ (tables_1_5 ++ (tables_1_6 ++ (tables_1_7 ++ tables_1_8))))))) := List.mem_append_right _ (List.mem_append_right _ (List.mem_append_right _ (List.mem_append_left _ (List.mem_of_getElem? (i := 105) rfl))))
set_option maxRecDepth 20000 in
theorem mm_cw48 : mm_cwd 48 ∈ k2_sels lw_privs ++ (tables_1_1 ++ (tables_1_2 ++ (tables_1_3 ++ (tables_1_4 ++ (tables_1_5 ++ (tables_1_6 ++ (tables_1_7 ++ tables_1_8))))))) := List.mem_append_right _ (List.mem_append_right _ (List.mem_append_right _ (List.mem_append_left _ (List.mem_of_getElem? (i := 162) rfl))))
set_option maxRecDepth 20000 in
theorem mm_cw49 : mm_cwd 49 ∈ k2_sels lw_privs ++ (tables_1_1 ++ (tables_1_2 ++ (tables_1_3 ++ (tables_1_4 ++ (tables_1_5 ++ (tables_1_6 ++ (tables_1_7 ++ tables_1_8))))))) := List.mem_append_right _ (List.mem_append_right _ (List.mem_append_right _ (List.mem_append_left _ (List.mem_of_getElem? (i := 181) rfl))))
set_option maxRecDepth 20000 in
theorem mm_cw50 : mm_cwd 50 ∈ k2_sels lw_privs ++ (tables_1_1 ++ (tables_1_2 ++ (tables_1_3 ++ (tables_1_4 ++ (tables_1_5 ++ (tables_1_6 ++ (tables_1_7 ++ tables_1_8))))))) := List.mem_append_right _ (List.mem_append_right _ (List.mem_append_right _ (List.mem_append_left _ (List.mem_of_getElem? (i := 170) rfl))))
set_option maxRecDepth 20000 in
theorem mm_cw51 : mm_cwd 51 ∈ k2_sels lw_privs ++ (tables_1_1 ++ (tables_1_2 ++ (tables_1_3 ++ (tables_1_4 ++ (tables_1_5 ++ (tables_1_6 ++ (tables_1_7 ++ tables_1_8))))))) := List.mem_append_right _ (List.mem_append_right _ (List.mem_append_right _ (List.mem_append_left _ (List.mem_of_getElem? (i := 191) rfl))))
set_option maxRecDepth 20000 in
theorem mm_cw52 : mm_cwd 52 ∈ k2_sels lw_privs ++ (tables_1_1 ++ (tables_1_2 ++ (tables_1_3 ++ (tables_1_4 ++ (tables_1_5 ++ (tables_1_6 ++ (tables_1_7 ++ tables_1_8))))))) := List.mem_append_right _ (List.mem_append_right _ (List.mem_append_right _ (List.mem_append_left _ (List.mem_of_getElem? (i := 195) rfl))))
set_option maxRecDepth 20000 in
theorem mm_cw53 : mm_cwd 53 ∈ k2_sels lw_privs ++ (tables_1_1 ++ (tables_1_2 ++ (tables_1_3 ++ (tables_1_4 ++ (tables_1_5 ++ (tables_1_6 ++ (tables_1_7 ++ tables_1_8))))))) := List.mem_append_right _ (List.mem_append_right _ (List.mem_append_right _ (List.mem_append_left _ (List.mem_of_getElem? (i := 199) rfl))))
set_option maxRecDepth 20000 in
theorem mm_cw54 : mm_cwd 54 ∈ k2_sels lw_privs ++ (tables_1_1 ++ (tables_1_2 ++ (tables_1_3 ++ (tables_1_4 ++ (tables_1_5 ++ (tables_1_6 ++ (tables_1_7 ++ tables_1_8))))))) := List.mem_append_right _ (List.mem_append_right _ (List.mem_append_right _ (List.mem_append_left _ (List.mem_of_getElem? (i := 222) rfl))))
set_option maxRecDepth 20000 in
theorem mm_cw55 : mm_cwd 55 ∈ k2_sels lw_privs ++ (tables_1_1 ++ (tables_1_2 ++ (tables_1_3 ++ (tables_1_4 ++ (tables_1_5 ++ (tables_1_6 ++ (tables_1_7 ++ tables_1_8))))))) := List.mem_append_right _ (List.mem_append_right _ (List.mem_append_right _ (List.mem_append_left _ (List.mem_of_getElem? (i := 226) rfl))))
set_option maxRecDepth 20000 in
theorem mm_cw56 : mm_cwd 56 ∈ k2_sels lw_privs ++ (tables_1_1 ++ (tables_1_2 ++ (tables_1_3 ++ (tables_1_4 ++ (tables_1_5 ++ (tables_1_6 ++ (tables_1_7 ++ tables_1_8))))))) := List.mem_append_right _ (List.mem_append_right _ (List.mem_append_right _ (List.mem_append_left _ (List.mem_of_getElem? (i := 204) rfl))))
set_option maxRecDepth 20000 in
theorem mm_cw57 : mm_cwd 57 ∈ k2_sels lw_privs ++ (tables_1_1 ++ (tables_1_2 ++ (tables_1_3 ++ (tables_1_4 ++ (tables_1_5 ++ (tables_1_6 ++ (tables_1_7 ++ tables_1_8))))))) := List.mem_append_right _ (List.mem_append_right _ (List.mem_append_right _ (List.mem_append_left _ (List.mem_of_getElem? (i := 230) rfl))))
set_option maxRecDepth 20000 in
theorem mm_cw58 : mm_cwd 58 ∈ k2_sels lw_privs ++ (tables_1_1 ++ (tables_1_2 ++ (tables_1_3 ++ (tables_1_4 ++ (tables_1_5 ++ (tables_1_6 ++ (tables_1_7 ++ tables_1_8))))))) := List.mem_append_right _ (List.mem_append_right _ (List.mem_append_right _ (List.mem_append_left _ (List.mem_of_getElem? (i := 110) rfl))))
set_option maxRecDepth 20000 in
theorem mm_cw59 : mm_cwd 59 ∈ k2_sels lw_privs ++ (tables_1_1 ++ (tables_1_2 ++ (tables_1_3 ++ (tables_1_4 ++ (tables_1_5 ++ (tables_1_6 ++ (tables_1_7 ++ tables_1_8))))))) := List.mem_append_right _ (List.mem_append_right _ (List.mem_append_right _ (List.mem_append_left _ (List.mem_of_getElem? (i := 94) rfl))))
set_option maxRecDepth 20000 in
theorem mm_cw60 : mm_cwd 60 ∈ k2_sels lw_privs ++ (tables_1_1 ++ (tables_1_2 ++ (tables_1_3 ++ (tables_1_4 ++ (tables_1_5 ++ (tables_1_6 ++ (tables_1_7 ++ tables_1_8))))))) := List.mem_append_right _ (List.mem_append_right _ (List.mem_append_right _ (List.mem_append_left _ (List.mem_of_getElem? (i := 98) rfl))))
set_option maxRecDepth 20000 in
theorem mm_cw61 : mm_cwd 61 ∈ k2_sels lw_privs ++ (tables_1_1 ++ (tables_1_2 ++ (tables_1_3 ++ (tables_1_4 ++ (tables_1_5 ++ (tables_1_6 ++ (tables_1_7 ++ tables_1_8))))))) := List.mem_append_right _ (List.mem_append_right _ (List.mem_append_right _ (List.mem_append_left _ (List.mem_of_getElem? (i := 101) rfl))))
set_option maxRecDepth 20000 in
theorem mm_cw62 : mm_cwd 62 ∈ k2_sels lw_privs ++ (tables_1_1 ++ (tables_1_2 ++ (tables_1_3 ++ (tables_1_4 ++ (tables_1_5 ++ (tables_1_6 ++ (tables_1_7 ++ tables_1_8))))))) := List.mem_append_right _ (List.mem_append_left _ (List.mem_of_getElem? (i := 47) rfl))
set_option maxRecDepth 20000 in
theorem mm_cw63 : mm_cwd 63 ∈ k2_sels lw_privs ++ (tables_1_1 ++ (tables_1_2 ++ (tables_1_3 ++ (tables_1_4 ++ (tables_1_5 ++ (tables_1_6 ++ (tables_1_7 ++ tables_1_8))))))) := List.mem_append_right _ (List.mem_append_right _ (List.mem_append_right _ (List.mem_append_left _ (List.mem_of_getElem? (i := 90) rfl))))
set_option maxRecDepth 20000 in
theorem mm_cw64 : mm_cwd 64 ∈ k2_sels lw_privs ++ (tables_1_1 ++ (tables_1_2 ++ (tables_1_3 ++ (tables_1_4 ++ (tables_1_5 ++ (tables_1_6 ++ (tables_1_7 ++ tables_1_8))))))) := List.mem_append_right _ (List.mem_append_right _ (List.mem_append_right _ (List.mem_append_left _ (List.mem_of_getElem? (i := 218) rfl))))
set_option maxRecDepth 20000 in
theorem mm_cw65 : mm_cwd 65 ∈ k2_sels lw_privs ++ (tables_1_1 ++ (tables_1_2 ++ (tables_1_3 ++ (tables_1_4 ++ (tables_1_5 ++ (tables_1_6 ++ (tables_1_7 ++ tables_1_8))))))) := List.mem_append_right _ (List.mem_append_right _ (List.mem_append_right _ (List.mem_append_left _ (List.mem_of_getElem? (i := 210) rfl))))
set_option maxRecDepth 20000 in
theorem mm_cw66 : mm_cwd 66 ∈ k2_sels lw_privs ++ (tables_1_1 ++ (tables_1_2 ++ (tables_1_3 ++ (tables_1_4 ++ (tables_1_5 ++ (tables_1_6 ++ (tables_1_7 ++ tables_1_8))))))) := List.mem_append_right _ (List.mem_append_right _ (List.mem_append_right _ (List.mem_append_left _ (List.mem_of_getElem? (i := 214) rfl))))
set_option maxRecDepth 20000 in
theorem mm_cw67 : mm_cwd 67 ∈ k2_sels lw_privs ++ (tables_1_1 ++ (tables_1_2 ++ (tables_1_3 ++ (tables_1_4 ++ (tables_1_5 ++ (tables_1_6 ++ (tables_1_7 ++ tables_1_8))))))) := List.mem_append_right _ (List.mem_append_right _ (List.mem_append_right _ (List.mem_append_right _ (List.mem_append_left _ (List.mem_of_getElem? (i := 5) rfl)))))
set_option maxRecDepth 20000 in
theorem mm_cw68 : mm_cwd 68 ∈ k2_sels lw_privs ++ (tables_1_1 ++ (tables_1_2 ++ (tables_1_3 ++ (tables_1_4 ++ (tables_1_5 ++ (tables_1_6 ++ (tables_1_7 ++ tables_1_8))))))) := List.mem_append_right _ (List.mem_append_right _ (List.mem_append_left _ (List.mem_of_getElem? (i := 128) rfl)))
set_option maxRecDepth 20000 in
theorem mm_cw69 : mm_cwd 69 ∈ k2_sels lw_privs ++ (tables_1_1 ++ (tables_1_2 ++ (tables_1_3 ++ (tables_1_4 ++ (tables_1_5 ++ (tables_1_6 ++ (tables_1_7 ++ tables_1_8))))))) := List.mem_append_right _ (List.mem_append_left _ (List.mem_of_getElem? (i := 205) rfl))
set_option maxRecDepth 20000 in
theorem mm_cw70 : mm_cwd 70 ∈ k2_sels lw_privs ++ (tables_1_1 ++ (tables_1_2 ++ (tables_1_3 ++ (tables_1_4 ++ (tables_1_5 ++ (tables_1_6 ++ (tables_1_7 ++ tables_1_8))))))) := List.mem_append_right _ (List.mem_append_right _ (List.mem_append_left _ (List.mem_of_getElem? (i := 170) rfl)))
set_option maxRecDepth 20000 in
theorem mm_cw71 : mm_cwd 71 ∈ k2_sels lw_privs ++ (tables_1_1 ++ (tables_1_2 ++ (tables_1_3 ++ (tables_1_4 ++ (tables_1_5 ++ (tables_1_6 ++ (tables_1_7 ++ tables_1_8))))))) := List.mem_append_right _ (List.mem_append_right _ (List.mem_append_right _ (List.mem_append_right _ (List.mem_append_left _ (List.mem_of_getElem? (i := 238) rfl)))))
set_option maxRecDepth 20000 in
theorem mm_cw72 : mm_cwd 72 ∈ k2_sels lw_privs ++ (tables_1_1 ++ (tables_1_2 ++ (tables_1_3 ++ (tables_1_4 ++ (tables_1_5 ++ (tables_1_6 ++ (tables_1_7 ++ tables_1_8))))))) := List.mem_append_right _ (List.mem_append_right _ (List.mem_append_left _ (List.mem_of_getElem? (i := 237) rfl)))
set_option maxRecDepth 20000 in
theorem mm_cw73 : mm_cwd 73 ∈ k2_sels lw_privs ++ (tables_1_1 ++ (tables_1_2 ++ (tables_1_3 ++ (tables_1_4 ++ (tables_1_5 ++ (tables_1_6 ++ (tables_1_7 ++ tables_1_8))))))) := List.mem_append_right _ (List.mem_append_right _ (List.mem_append_right _ (List.mem_append_right _ (List.mem_append_right _ (List.mem_append_left _ (List.mem_of_getElem? (i := 20) rfl))))))
set_option maxRecDepth 20000 in
theorem mm_cw74 : mm_cwd 74 ∈ k2_sels lw_privs ++ (tables_1_1 ++ (tables_1_2 ++ (tables_1_3 ++ (tables_1_4 ++ (tables_1_5 ++ (tables_1_6 ++ (tables_1_7 ++ tables_1_8))))))) := List.mem_append_right _ (List.mem_append_left _ (List.mem_of_getElem? (i := 27) rfl))
set_option maxRecDepth 20000 in
theorem mm_cw75 : mm_cwd 75 ∈ k2_sels lw_privs ++ (tables_1_1 ++ (tables_1_2 ++ (tables_1_3 ++ (tables_1_4 ++ (tables_1_5 ++ (tables_1_6 ++ (tables_1_7 ++ tables_1_8))))))) := List.mem_append_right _ (List.mem_append_right _ (List.mem_append_left _ (List.mem_of_getElem? (i := 48) rfl)))
set_option maxRecDepth 20000 in
theorem mm_cw76 : mm_cwd 76 ∈ k2_sels lw_privs ++ (tables_1_1 ++ (tables_1_2 ++ (tables_1_3 ++ (tables_1_4 ++ (tables_1_5 ++ (tables_1_6 ++ (tables_1_7 ++ tables_1_8))))))) := List.mem_append_right _ (List.mem_append_right _ (List.mem_append_left _ (List.mem_of_getElem? (i := 52) rfl)))
set_option maxRecDepth 20000 in
theorem mm_cw77 : mm_cwd 77 ∈ k2_sels lw_privs ++ (tables_1_1 ++ (tables_1_2 ++ (tables_1_3 ++ (tables_1_4 ++ (tables_1_5 ++ (tables_1_6 ++ (tables_1_7 ++ tables_1_8))))))) := List.mem_append_right _ (List.mem_append_right _ (List.mem_append_right _ (List.mem_append_left _ (List.mem_of_getElem? (i := 10) rfl))))
set_option maxRecDepth 20000 in
theorem mm_cw78 : mm_cwd 78 ∈ k2_sels lw_privs ++ (tables_1_1 ++ (tables_1_2 ++ (tables_1_3 ++ (tables_1_4 ++ (tables_1_5 ++ (tables_1_6 ++ (tables_1_7 ++ tables_1_8))))))) := List.mem_append_right _ (List.mem_append_right _ (List.mem_append_left _ (List.mem_of_getElem? (i := 56) rfl)))
set_option maxRecDepth 20000 in
theorem mm_cw79 : mm_cwd 79 ∈ k2_sels lw_privs ++ (tables_1_1 ++ (tables_1_2 ++ (tables_1_3 ++ (tables_1_4 ++ (tables_1_5 ++ (tables_1_6 ++ (tables_1_7 ++ tables_1_8))))))) := List.mem_append_right _ (List.mem_append_right _ (List.mem_append_right _ (List.mem_append_right _ (List.mem_append_left _ (List.mem_of_getElem? (i := 26) rfl)))))
set_option maxRecDepth 20000 in
theorem mm_cw80 : mm_cwd 80 ∈ k2_sels lw_privs ++ (tables_1_1 ++ (tables_1_2 ++ (tables_1_3 ++ (tables_1_4 ++ (tables_1_5 ++ (tables_1_6 ++ (tables_1_7 ++ tables_1_8))))))) := List.mem_append_right _ (List.mem_append_right _ (List.mem_append_right _ (List.mem_append_right _ (List.mem_append_left _ (List.mem_of_getElem? (i := 49) rfl)))))
set_option maxRecDepth 20000 in
theorem mm_cw81 : mm_cwd 81 ∈ k2_sels lw_privs ++ (tables_1_1 ++ (tables_1_2 ++ (tables_1_3 ++ (tables_1_4 ++ (tables_1_5 ++ (tables_1_6 ++ (tables_1_7 ++ tables_1_8))))))) := List.mem_append_right _ (List.mem_append_right _ (List.mem_append_right _ (List.mem_append_right _ (List.mem_append_left _ (List.mem_of_getElem? (i := 67) rfl)))))
set_option maxRecDepth 20000 in
theorem mm_cw82 : mm_cwd 82 ∈ k2_sels lw_privs ++ (tables_1_1 ++ (tables_1_2 ++ (tables_1_3 ++ (tables_1_4 ++ (tables_1_5 ++ (tables_1_6 ++ (tables_1_7 ++ tables_1_8))))))) := List.mem_append_right _ (List.mem_append_right _ (List.mem_append_right _ (List.mem_append_right _ (List.mem_append_left _ (List.mem_of_getElem? (i := 89) rfl)))))
set_option maxRecDepth 20000 in
theorem mm_cw83 : mm_cwd 83 ∈ k2_sels lw_privs ++ (tables_1_1 ++ (tables_1_2 ++ (tables_1_3 ++ (tables_1_4 ++ (tables_1_5 ++ (tables_1_6 ++ (tables_1_7 ++ tables_1_8))))))) := List.mem_append_right _ (List.mem_append_right _ (List.mem_append_right _ (List.mem_append_right _ (List.mem_append_left _ (List.mem_of_getElem? (i := 96) rfl)))))
set_option maxRecDepth 20000 in
theorem mm_cw84 : mm_cwd 84 ∈ k2_sels lw_privs ++ (tables_1_1 ++ (tables_1_2 ++ (tables_1_3 ++ (tables_1_4 ++ (tables_1_5 ++ (tables_1_6 ++ (tables_1_7 ++ tables_1_8))))))) := List.mem_append_right _ (List.mem_append_right _ (List.mem_append_right _ (List.mem_append_right _ (List.mem_append_left _ (List.mem_of_getElem? (i := 108) rfl)))))
set_option maxRecDepth 20000 in
theorem mm_cw85 : mm_cwd 85 ∈ k2_sels lw_privs ++ (tables_1_1 ++ (tables_1_2 ++ (tables_1_3 ++ (tables_1_4 ++ (tables_1_5 ++ (tables_1_6 ++ (tables_1_7 ++ tables_1_8))))))) := List.mem_append_right _ (List.mem_append_right _ (List.mem_append_left _ (List.mem_of_getElem? (i := 60) rfl)))
set_option maxRecDepth 20000 in
theorem mm_cw86 : mm_cwd 86 ∈ k2_sels lw_privs ++ (tables_1_1 ++ (tables_1_2 ++ (tables_1_3 ++ (tables_1_4 ++ (tables_1_5 ++ (tables_1_6 ++ (tables_1_7 ++ tables_1_8))))))) := List.mem_append_right _ (List.mem_append_right _ (List.mem_append_right _ (List.mem_append_right _ (List.mem_append_left _ (List.mem_of_getElem? (i := 120) rfl)))))
set_option maxRecDepth 20000 in
theorem mm_cw87 : mm_cwd 87 ∈ k2_sels lw_privs ++ (tables_1_1 ++ (tables_1_2 ++ (tables_1_3 ++ (tables_1_4 ++ (tables_1_5 ++ (tables_1_6 ++ (tables_1_7 ++ tables_1_8))))))) := List.mem_append_right _ (List.mem_append_right _ (List.mem_append_right _ (List.mem_append_right _ (List.mem_append_left _ (List.mem_of_getElem? (i := 127) rfl)))))
set_option maxRecDepth 20000 in
theorem mm_cw88 : mm_cwd 88 ∈ k2_sels lw_privs ++ (tables_1_1 ++ (tables_1_2 ++ (tables_1_3 ++ (tables_1_4 ++ (tables_1_5 ++ (tables_1_6 ++ (tables_1_7 ++ tables_1_8))))))) := List.mem_append_right _ (List.mem_append_right _ (List.mem_append_left _ (List.mem_of_getElem? (i := 89) rfl)))
set_option maxRecDepth 20000 in
theorem mm_cw89 : mm_cwd 89 ∈ k2_sels lw_privs ++ (tables_1_1 ++ (tables_1_2 ++ (tables_1_3 ++ (tables_1_4 ++ (tables_1_5 ++ (tables_1_6 ++ (tables_1_7 ++ tables_1_8))))))) := List.mem_append_right _ (List.mem_append_right _ (List.mem_append_left _ (List.mem_of_getElem? (i := 139) rfl)))
set_option maxRecDepth 20000 in
theorem mm_cw90 : mm_cwd 90 ∈ k2_sels lw_privs ++ (tables_1_1 ++ (tables_1_2 ++ (tables_1_3 ++ (tables_1_4 ++ (tables_1_5 ++ (tables_1_6 ++ (tables_1_7 ++ tables_1_8))))))) := List.mem_append_right _ (List.mem_append_right _ (List.mem_append_right _ (List.mem_append_right _ (List.mem_append_left _ (List.mem_of_getElem? (i := 138) rfl)))))
set_option maxRecDepth 20000 in
theorem mm_cw91 : mm_cwd 91 ∈ k2_sels lw_privs ++ (tables_1_1 ++ (tables_1_2 ++ (tables_1_3 ++ (tables_1_4 ++ (tables_1_5 ++ (tables_1_6 ++ (tables_1_7 ++ tables_1_8))))))) := List.mem_append_right _ (List.mem_append_right _ (List.mem_append_right _ (List.mem_append_right _ (List.mem_append_left _ (List.mem_of_getElem? (i := 145) rfl)))))
set_option maxRecDepth 20000 in
theorem mm_cw92 : mm_cwd 92 ∈ k2_sels lw_privs ++ (tables_1_1 ++ (tables_1_2 ++ (tables_1_3 ++ (tables_1_4 ++ (tables_1_5 ++ (tables_1_6 ++ (tables_1_7 ++ tables_1_8))))))) := List.mem_append_right _ (List.mem_append_right _ (List.mem_append_left _ (List.mem_of_getElem? (i := 151) rfl)))
set_option maxRecDepth 20000 in
theorem mm_cw93 : mm_cwd 93 ∈ k2_sels lw_privs ++ (tables_1_1 ++ (tables_1_2 ++ (tables_1_3 ++ (tables_1_4 ++ (tables_1_5 ++ (tables_1_6 ++ (tables_1_7 ++ tables_1_8))))))) := List.mem_append_right _ (List.mem_append_right _ (List.mem_append_right _ (List.mem_append_right _ (List.mem_append_left _ (List.mem_of_getElem? (i := 162) rfl)))))
set_option maxRecDepth 20000 in
theorem mm_cw94 : mm_cwd 94 ∈ k2_sels lw_privs ++ (tables_1_1 ++ (tables_1_2 ++ (tables_1_3 ++ (tables_1_4 ++ (tables_1_5 ++ (tables_1_6 ++ (tables_1_7 ++ tables_1_8))))))) := List.mem_append_right _ (List.mem_append_right _ (List.mem_append_right _ (List.mem_append_right _ (List.mem_append_left _ (List.mem_of_getElem? (i := 181) rfl)))))
set_option maxRecDepth 20000 in
theorem mm_cw95 : mm_cwd 95 ∈ k2_sels lw_privs ++ (tables_1_1 ++ (tables_1_2 ++ (tables_1_3 ++ (tables_1_4 ++ (tables_1_5 ++ (tables_1_6 ++ (tables_1_7 ++ tables_1_8))))))) := List.mem_append_right _ (List.mem_append_right _ (List.mem_append_right _ (List.mem_append_right _ (List.mem_append_left _ (List.mem_of_getElem? (i := 189) rfl)))))
set_option maxRecDepth 20000 in
theorem mm_cw96 : mm_cwd 96 ∈ k2_sels lw_privs ++ (tables_1_1 ++ (tables_1_2 ++ (tables_1_3 ++ (tables_1_4 ++ (tables_1_5 ++ (tables_1_6 ++ (tables_1_7 ++ tables_1_8))))))) := List.mem_append_right _ (List.mem_append_right _ (List.mem_append_right _ (List.mem_append_right _ (List.mem_append_left _ (List.mem_of_getElem? (i := 196) rfl)))))
set_option maxRecDepth 20000 in
theorem mm_cw97 : mm_cwd 97 ∈ k2_sels lw_privs ++ (tables_1_1 ++ (tables_1_2 ++ (tables_1_3 ++ (tables_1_4 ++ (tables_1_5 ++ (tables_1_6 ++ (tables_1_7 ++ tables_1_8))))))) := List.mem_append_right _ (List.mem_append_right _ (List.mem_append_right _ (List.mem_append_right _ (List.mem_append_left _ (List.mem_of_getElem? (i := 204) rfl)))))
set_option maxRecDepth 20000 in
theorem mm_cw98 : mm_cwd 98 ∈ k2_sels lw_privs ++ (tables_1_1 ++ (tables_1_2 ++ (tables_1_3 ++ (tables_1_4 ++ (tables_1_5 ++ (tables_1_6 ++ (tables_1_7 ++ tables_1_8))))))) := List.mem_append_right _ (List.mem_append_right _ (List.mem_append_right _ (List.mem_append_right _ (List.mem_append_left _ (List.mem_of_getElem? (i := 225) rfl)))))
set_option maxRecDepth 20000 in
theorem mm_cw99 : mm_cwd 99 ∈ k2_sels lw_privs ++ (tables_1_1 ++ (tables_1_2 ++ (tables_1_3 ++ (tables_1_4 ++ (tables_1_5 ++ (tables_1_6 ++ (tables_1_7 ++ tables_1_8))))))) := List.mem_append_right _ (List.mem_append_right _ (List.mem_append_right _ (List.mem_append_right _ (List.mem_append_left _ (List.mem_of_getElem? (i := 234) rfl)))))
set_option maxRecDepth 20000 in
theorem mm_cw100 : mm_cwd 100 ∈ k2_sels lw_privs ++ (tables_1_1 ++ (tables_1_2 ++ (tables_1_3 ++ (tables_1_4 ++ (tables_1_5 ++ (tables_1_6 ++ (tables_1_7 ++ tables_1_8))))))) := List.mem_append_right _ (List.mem_append_right _ (List.mem_append_left _ (List.mem_of_getElem? (i := 166) rfl)))
set_option maxRecDepth 20000 in
theorem mm_cw101 : mm_cwd 101 ∈ k2_sels lw_privs ++ (tables_1_1 ++ (tables_1_2 ++ (tables_1_3 ++ (tables_1_4 ++ (tables_1_5 ++ (tables_1_6 ++ (tables_1_7 ++ tables_1_8))))))) := List.mem_append_right _ (List.mem_append_right _ (List.mem_append_right _ (List.mem_append_right _ (List.mem_append_right _ (List.mem_append_left _ (List.mem_of_getElem? (i := 5) rfl))))))
set_option maxRecDepth 20000 in
theorem mm_cw102 : mm_cwd 102 ∈ k2_sels lw_privs ++ (tables_1_1 ++ (tables_1_2 ++ (tables_1_3 ++ (tables_1_4 ++ (tables_1_5 ++ (tables_1_6 ++ (tables_1_7 ++ tables_1_8))))))) := List.mem_append_right _ (List.mem_append_right _ (List.mem_append_right _ (List.mem_append_right _ (List.mem_append_right _ (List.mem_append_left _ (List.mem_of_getElem? (i := 27) rfl))))))
set_option maxRecDepth 20000 in
theorem mm_cw103 : mm_cwd 103 ∈ k2_sels lw_privs ++ (tables_1_1 ++ (tables_1_2 ++ (tables_1_3 ++ (tables_1_4 ++ (tables_1_5 ++ (tables_1_6 ++ (tables_1_7 ++ tables_1_8))))))) := List.mem_append_right _ (List.mem_append_right _ (List.mem_append_left _ (List.mem_of_getElem? (i := 174) rfl)))
set_option maxRecDepth 20000 in
theorem mm_cw104 : mm_cwd 104 ∈ k2_sels lw_privs ++ (tables_1_1 ++ (tables_1_2 ++ (tables_1_3 ++ (tables_1_4 ++ (tables_1_5 ++ (tables_1_6 ++ (tables_1_7 ++ tables_1_8))))))) := List.mem_append_right _ (List.mem_append_right _ (List.mem_append_left _ (List.mem_of_getElem? (i := 178) rfl)))
set_option maxRecDepth 20000 in
theorem mm_cw105 : mm_cwd 105 ∈ k2_sels lw_privs ++ (tables_1_1 ++ (tables_1_2 ++ (tables_1_3 ++ (tables_1_4 ++ (tables_1_5 ++ (tables_1_6 ++ (tables_1_7 ++ tables_1_8))))))) := List.mem_append_right _ (List.mem_append_right _ (List.mem_append_right _ (List.mem_append_right _ (List.mem_append_right _ (List.mem_append_left _ (List.mem_of_getElem? (i := 39) rfl))))))
set_option maxRecDepth 20000 in
theorem mm_cw106 : mm_cwd 106 ∈ k2_sels lw_privs ++ (tables_1_1 ++ (tables_1_2 ++ (tables_1_3 ++ (tables_1_4 ++ (tables_1_5 ++ (tables_1_6 ++ (tables_1_7 ++ tables_1_8))))))) := List.mem_append_right _ (List.mem_append_right _ (List.mem_append_right _ (List.mem_append_right _ (List.mem_append_right _ (List.mem_append_left _ (List.mem_of_getElem? (i := 45) rfl))))))
set_option maxRecDepth 20000 in
theorem mm_cw107 : mm_cwd 107 ∈ k2_sels lw_privs ++ (tables_1_1 ++ (tables_1_2 ++ (tables_1_3 ++ (tables_1_4 ++ (tables_1_5 ++ (tables_1_6 ++ (tables_1_7 ++ tables_1_8))))))) := List.mem_append_right _ (List.mem_append_right _ (List.mem_append_right _ (List.mem_append_right _ (List.mem_append_right _ (List.mem_append_left _ (List.mem_of_getElem? (i := 49) rfl))))))
set_option maxRecDepth 20000 in
theorem mm_cw108 : mm_cwd 108 ∈ k2_sels lw_privs ++ (tables_1_1 ++ (tables_1_2 ++ (tables_1_3 ++ (tables_1_4 ++ (tables_1_5 ++ (tables_1_6 ++ (tables_1_7 ++ tables_1_8))))))) := List.mem_append_right _ (List.mem_append_right _ (List.mem_append_right _ (List.mem_append_right _ (List.mem_append_right _ (List.mem_append_left _ (List.mem_of_getElem? (i := 56) rfl))))))
set_option maxRecDepth 20000 in
theorem mm_cw109 : mm_cwd 109 ∈ k2_sels lw_privs ++ (tables_1_1 ++ (tables_1_2 ++ (tables_1_3 ++ (tables_1_4 ++ (tables_1_5 ++ (tables_1_6 ++ (tables_1_7 ++ tables_1_8))))))) := List.mem_append_right _ (List.mem_append_right _ (List.mem_append_right _ (List.mem_append_right _ (List.mem_append_right _ (List.mem_append_left _ (List.mem_of_getElem? (i := 71) rfl))))))
set_option maxRecDepth 20000 in
theorem mm_cw110 : mm_cwd 110 ∈ k2_sels lw_privs ++ (tables_1_1 ++ (tables_1_2 ++ (tables_1_3 ++ (tables_1_4 ++ (tables_1_5 ++ (tables_1_6 ++ (tables_1_7 ++ tables_1_8))))))) := List.mem_append_right _ (List.mem_append_right _ (List.mem_append_left _ (List.mem_of_getElem? (i := 202) rfl)))
set_option maxRecDepth 20000 in
theorem mm_cw111 : mm_cwd 111 ∈ k2_sels lw_privs ++ (tables_1_1 ++ (tables_1_2 ++ (tables_1_3 ++ (tables_1_4 ++ (tables_1_5 ++ (tables_1_6 ++ (tables_1_7 ++ tables_1_8))))))) := List.mem_append_right _ (List.mem_append_right _ (List.mem_append_right _ (List.mem_append_right _ (List.mem_append_right _ (List.mem_append_left _ (List.mem_of_getElem? (i := 78) rfl))))))
set_option maxRecDepth 20000 in
theorem mm_cw112 : mm_cwd 112 ∈ k2_sels lw_privs ++ (tables_1_1 ++ (tables_1_2 ++ (tables_1_3 ++ (tables_1_4 ++ (tables_1_5 ++ (tables_1_6 ++ (tables_1_7 ++ tables_1_8))))))) := List.mem_append_right _ (List.mem_append_right _ (List.mem_append_right _ (List.mem_append_right _ (List.mem_append_right _ (List.mem_append_left _ (List.mem_of_getElem? (i := 90) rfl))))))
set_option maxRecDepth 20000 in
theorem mm_cw113 : mm_cwd 113 ∈ k2_sels lw_privs ++ (tables_1_1 ++ (tables_1_2 ++ (tables_1_3 ++ (tables_1_4 ++ (tables_1_5 ++ (tables_1_6 ++ (tables_1_7 ++ tables_1_8))))))) := List.mem_append_right _ (List.mem_append_right _ (List.mem_append_right _ (List.mem_append_right _ (List.mem_append_right _ (List.mem_append_left _ (List.mem_of_getElem? (i := 97) rfl))))))
set_option maxRecDepth 20000 in
theorem mm_cw114 : mm_cwd 114 ∈ k2_sels lw_privs ++ (tables_1_1 ++ (tables_1_2 ++ (tables_1_3 ++ (tables_1_4 ++ (tables_1_5 ++ (tables_1_6 ++ (tables_1_7 ++ tables_1_8))))))) := List.mem_append_right _ (List.mem_append_right _ (List.mem_append_right _ (List.mem_append_right _ (List.mem_append_right _ (List.mem_append_left _ (List.mem_of_getElem? (i := 104) rfl))))))
set_option maxRecDepth 20000 in
theorem mm_cw115 : mm_cwd 115 ∈ k2_sels lw_privs ++ (tables_1_1 ++ (tables_1_2 ++ (tables_1_3 ++ (tables_1_4 ++ (tables_1_5 ++ (tables_1_6 ++ (tables_1_7 ++ tables_1_8))))))) := List.mem_append_right _ (List.mem_append_right _ (List.mem_append_right _ (List.mem_append_right _ (List.mem_append_right _ (List.mem_append_left _ (List.mem_of_getElem? (i := 111) rfl))))))
set_option maxRecDepth 20000 in
theorem mm_cw116 : mm_cwd 116 ∈ k2_sels lw_privs ++ (tables_1_1 ++ (tables_1_2 ++ (tables_1_3 ++ (tables_1_4 ++ (tables_1_5 ++ (tables_1_6 ++ (tables_1_7 ++ tables_1_8))))))) := List.mem_append_right _ (List.mem_append_right _ (List.mem_append_left _ (List.mem_of_getElem? (i := 208) rfl)))
set_option maxRecDepth 20000 in
theorem mm_cw117 : mm_cwd 117 ∈ k2_sels lw_privs ++ (tables_1_1 ++ (tables_1_2 ++ (tables_1_3 ++ (tables_1_4 ++ (tables_1_5 ++ (tables_1_6 ++ (tables_1_7 ++ tables_1_8))))))) := List.mem_append_right _ (List.mem_append_right _ (List.mem_append_left _ (List.mem_of_getElem? (i := 212) rfl)))
set_option maxRecDepth 20000 in
theorem mm_cw118 : mm_cwd 118 ∈ k2_sels lw_privs ++ (tables_1_1 ++ (tables_1_2 ++ (tables_1_3 ++ (tables_1_4 ++ (tables_1_5 ++ (tables_1_6 ++ (tables_1_7 ++ tables_1_8))))))) := List.mem_append_right _ (List.mem_append_right _ (List.mem_append_right _ (List.mem_append_right _ (List.mem_append_right _ (List.mem_append_left _ (List.mem_of_getElem? (i := 118) rfl))))))
set_option maxRecDepth 20000 in
theorem mm_cw119 : mm_cwd 119 ∈ k2_sels lw_privs ++ (tables_1_1 ++ (tables_1_2 ++ (tables_1_3 ++ (tables_1_4 ++ (tables_1_5 ++ (tables_1_6 ++ (tables_1_7 ++ tables_1_8))))))) := List.mem_append_right _ (List.mem_append_right _ (List.mem_append_right _ (List.mem_append_right _ (List.mem_append_right _ (List.mem_append_left _ (List.mem_of_getElem? (i := 125) rfl))))))
set_option maxRecDepth 20000 in
theorem mm_cw120 : mm_cwd 120 ∈ k2_sels lw_privs ++ (tables_1_1 ++ (tables_1_2 ++ (tables_1_3 ++ (tables_1_4 ++ (tables_1_5 ++ (tables_1_6 ++ (tables_1_7 ++ tables_1_8))))))) := List.mem_append_right _ (List.mem_append_right _ (List.mem_append_left _ (List.mem_of_getElem? (i := 224) rfl)))
set_option maxRecDepth 20000 in
theorem mm_cw121 : mm_cwd 121 ∈ k2_sels lw_privs ++ (tables_1_1 ++ (tables_1_2 ++ (tables_1_3 ++ (tables_1_4 ++ (tables_1_5 ++ (tables_1_6 ++ (tables_1_7 ++ tables_1_8))))))) := List.mem_append_right _ (List.mem_append_right _ (List.mem_append_right _ (List.mem_append_left _ (List.mem_of_getElem? (i := 2) rfl))))
set_option maxRecDepth 20000 in
theorem mm_cw122 : mm_cwd 122 ∈ k2_sels lw_privs ++ (tables_1_1 ++ (tables_1_2 ++ (tables_1_3 ++ (tables_1_4 ++ (tables_1_5 ++ (tables_1_6 ++ (tables_1_7 ++ tables_1_8))))))) := List.mem_append_right _ (List.mem_append_right _ (List.mem_append_left _ (List.mem_of_getElem? (i := 82) rfl)))
set_option maxRecDepth 20000 in
theorem mm_cw123 : mm_cwd 123 ∈ k2_sels lw_privs ++ (tables_1_1 ++ (tables_1_2 ++ (tables_1_3 ++ (tables_1_4 ++ (tables_1_5 ++ (tables_1_6 ++ (tables_1_7 ++ tables_1_8))))))) := List.mem_append_right _ (List.mem_append_right _ (List.mem_append_right _ (List.mem_append_right _ (List.mem_append_left _ (List.mem_of_getElem? (i := 53) rfl)))))
set_option maxRecDepth 20000 in
theorem mm_cw124 : mm_cwd 124 ∈ k2_sels lw_privs ++ (tables_1_1 ++ (tables_1_2 ++ (tables_1_3 ++ (tables_1_4 ++ (tables_1_5 ++ (tables_1_6 ++ (tables_1_7 ++ tables_1_8))))))) := List.mem_append_right _ (List.mem_append_right _ (List.mem_append_right _ (List.mem_append_right _ (List.mem_append_left _ (List.mem_of_getElem? (i := 71) rfl)))))
set_option maxRecDepth 20000 in
theorem mm_cw125 : mm_cwd 125 ∈ k2_sels lw_privs ++ (tables_1_1 ++ (tables_1_2 ++ (tables_1_3 ++ (tables_1_4 ++ (tables_1_5 ++ (tables_1_6 ++ (tables_1_7 ++ tables_1_8))))))) := List.mem_append_right _ (List.mem_append_right _ (List.mem_append_right _ (List.mem_append_right _ (List.mem_append_left _ (List.mem_of_getElem? (i := 131) rfl)))))
set_option maxRecDepth 20000 in
theorem mm_cw126 : mm_cwd 126 ∈ k2_sels lw_privs ++ (tables_1_1 ++ (tables_1_2 ++ (tables_1_3 ++ (tables_1_4 ++ (tables_1_5 ++ (tables_1_6 ++ (tables_1_7 ++ tables_1_8))))))) := List.mem_append_right _ (List.mem_append_right _ (List.mem_append_right _ (List.mem_append_right _ (List.mem_append_left _ (List.mem_of_getElem? (i := 100) rfl)))))
set_option maxRecDepth 20000 in
theorem mm_cw127 : mm_cwd 127 ∈ k2_sels lw_privs ++ (tables_1_1 ++ (tables_1_2 ++ (tables_1_3 ++ (tables_1_4 ++ (tables_1_5 ++ (tables_1_6 ++ (tables_1_7 ++ tables_1_8))))))) := List.mem_append_right _ (List.mem_append_right _ (List.mem_append_right _ (List.mem_append_right _ (List.mem_append_left _ (List.mem_of_getElem? (i := 112) rfl)))))
set_option maxRecDepth 20000 in
theorem mm_cw128 : mm_cwd 128 ∈ k2_sels lw_privs ++ (tables_1_1 ++ (tables_1_2 ++ (tables_1_3 ++ (tables_1_4 ++ (tables_1_5 ++ (tables_1_6 ++ (tables_1_7 ++ tables_1_8))))))) := List.mem_append_right _ (List.mem_append_right _ (List.mem_append_right _ (List.mem_append_right _ (List.mem_append_left _ (List.mem_of_getElem? (i := 80) rfl)))))
set_option maxRecDepth 20000 in
theorem mm_cw129 : mm_cwd 129 ∈ k2_sels lw_privs ++ (tables_1_1 ++ (tables_1_2 ++ (tables_1_3 ++ (tables_1_4 ++ (tables_1_5 ++ (tables_1_6 ++ (tables_1_7 ++ tables_1_8))))))) := List.mem_append_right _ (List.mem_append_right _ (List.mem_append_right _ (List.mem_append_right _ (List.mem_append_left _ (List.mem_of_getElem? (i := 76) rfl)))))
set_option maxRecDepth 20000 in
theorem mm_cw130 : mm_cwd 130 ∈ k2_sels lw_privs ++ (tables_1_1 ++ (tables_1_2 ++ (tables_1_3 ++ (tables_1_4 ++ (tables_1_5 ++ (tables_1_6 ++ (tables_1_7 ++ tables_1_8))))))) := List.mem_append_right _ (List.mem_append_right _ (List.mem_append_right _ (List.mem_append_right _ (List.mem_append_left _ (List.mem_of_getElem? (i := 151) rfl)))))
set_option maxRecDepth 20000 in
theorem mm_cw131 : mm_cwd 131 ∈ k2_sels lw_privs ++ (tables_1_1 ++ (tables_1_2 ++ (tables_1_3 ++ (tables_1_4 ++ (tables_1_5 ++ (tables_1_6 ++ (tables_1_7 ++ tables_1_8))))))) := List.mem_append_right _ (List.mem_append_right _ (List.mem_append_left _ (List.mem_of_getElem? (i := 182) rfl)))
set_option maxRecDepth 20000 in
theorem mm_cw132 : mm_cwd 132 ∈ k2_sels lw_privs ++ (tables_1_1 ++ (tables_1_2 ++ (tables_1_3 ++ (tables_1_4 ++ (tables_1_5 ++ (tables_1_6 ++ (tables_1_7 ++ tables_1_8))))))) := List.mem_append_right _ (List.mem_append_right _ (List.mem_append_right _ (List.mem_append_right _ (List.mem_append_left _ (List.mem_of_getElem? (i := 155) rfl)))))
set_option maxRecDepth 20000 in
theorem mm_cw133 : mm_cwd 133 ∈ k2_sels lw_privs ++ (tables_1_1 ++ (tables_1_2 ++ (tables_1_3 ++ (tables_1_4 ++ (tables_1_5 ++ (tables_1_6 ++ (tables_1_7 ++ tables_1_8))))))) := List.mem_append_right _ (List.mem_append_right _ (List.mem_append_right _ (List.mem_append_right _ (List.mem_append_left _ (List.mem_of_getElem? (i := 212) rfl)))))
set_option maxRecDepth 20000 in
theorem mm_cw134 : mm_cwd 134 ∈ k2_sels lw_privs ++ (tables_1_1 ++ (tables_1_2 ++ (tables_1_3 ++ (tables_1_4 ++ (tables_1_5 ++ (tables_1_6 ++ (tables_1_7 ++ tables_1_8))))))) := List.mem_append_right _ (List.mem_append_right _ (List.mem_append_right _ (List.mem_append_right _ (List.mem_append_left _ (List.mem_of_getElem? (i := 208) rfl)))))
set_option maxRecDepth 20000 in
theorem mm_cw135 : mm_cwd 135 ∈ k2_sels lw_privs ++ (tables_1_1 ++ (tables_1_2 ++ (tables_1_3 ++ (tables_1_4 ++ (tables_1_5 ++ (tables_1_6 ++ (tables_1_7 ++ tables_1_8))))))) := List.mem_append_right _ (List.mem_append_right _ (List.mem_append_right _ (List.mem_append_right _ (List.mem_append_right _ (List.mem_append_left _ (List.mem_of_getElem? (i := 130) rfl))))))
set_option maxRecDepth 20000 in
theorem mm_cw136 : mm_cwd 136 ∈ k2_sels lw_privs ++ (tables_1_1 ++ (tables_1_2 ++ (tables_1_3 ++ (tables_1_4 ++ (tables_1_5 ++ (tables_1_6 ++ (tables_1_7 ++ tables_1_8))))))) := List.mem_append_right _ (List.mem_append_right _ (List.mem_append_right _ (List.mem_append_right _ (List.mem_append_right _ (List.mem_append_right _ (List.mem_append_left _ (List.mem_of_getElem? (i := 62) rfl)))))))
set_option maxRecDepth 20000 in
theorem mm_cw137 : mm_cwd 137 ∈ k2_sels lw_privs ++ (tables_1_1 ++ (tables_1_2 ++ (tables_1_3 ++ (tables_1_4 ++ (tables_1_5 ++ (tables_1_6 ++ (tables_1_7 ++ tables_1_8))))))) := List.mem_append_right _ (List.mem_append_right _ (List.mem_append_right _ (List.mem_append_right _ (List.mem_append_right _ (List.mem_append_right _ (List.mem_append_left _ (List.mem_of_getElem? (i := 78) rfl)))))))
set_option maxRecDepth 20000 in
theorem mm_cw138 : mm_cwd 138 ∈ k2_sels lw_privs ++ (tables_1_1 ++ (tables_1_2 ++ (tables_1_3 ++ (tables_1_4 ++ (tables_1_5 ++ (tables_1_6 ++ (tables_1_7 ++ tables_1_8))))))) := List.mem_append_right _ (List.mem_append_right _ (List.mem_append_right _ (List.mem_append_right _ (List.mem_append_right _ (List.mem_append_right _ (List.mem_append_left _ (List.mem_of_getElem? (i := 200) rfl)))))))
set_option maxRecDepth 20000 in
theorem mm_cw139 : mm_cwd 139 ∈ k2_sels lw_privs ++ (tables_1_1 ++ (tables_1_2 ++ (tables_1_3 ++ (tables_1_4 ++ (tables_1_5 ++ (tables_1_6 ++ (tables_1_7 ++ tables_1_8))))))) := List.mem_append_right _ (List.mem_append_right _ (List.mem_append_right _ (List.mem_append_right _ (List.mem_append_right _ (List.mem_append_right _ (List.mem_append_left _ (List.mem_of_getElem? (i := 185) rfl)))))))
set_option maxRecDepth 20000 in
theorem mm_cw140 : mm_cwd 140 ∈ k2_sels lw_privs ++ (tables_1_1 ++ (tables_1_2 ++ (tables_1_3 ++ (tables_1_4 ++ (tables_1_5 ++ (tables_1_6 ++ (tables_1_7 ++ tables_1_8))))))) := List.mem_append_right _ (List.mem_append_right _ (List.mem_append_right _ (List.mem_append_right _ (List.mem_append_right _ (List.mem_append_right _ (List.mem_append_right _ (List.mem_append_left _ (List.mem_of_getElem? (i := 186) rfl))))))))
set_option maxRecDepth 20000 in
theorem mm_cw141 : mm_cwd 141 ∈ k2_sels lw_privs ++ (tables_1_1 ++ (tables_1_2 ++ (tables_1_3 ++ (tables_1_4 ++ (tables_1_5 ++ (tables_1_6 ++ (tables_1_7 ++ tables_1_8))))))) := List.mem_append_right _ (List.mem_append_right _ (List.mem_append_right _ (List.mem_append_right _ (List.mem_append_right _ (List.mem_append_right _ (List.mem_append_left _ (List.mem_of_getElem? (i := 66) rfl)))))))
set_option maxRecDepth 20000 in
theorem mm_cw142 : mm_cwd 142 ∈ k2_sels lw_privs ++ (tables_1_1 ++ (tables_1_2 ++ (tables_1_3 ++ (tables_1_4 ++ (tables_1_5 ++ (tables_1_6 ++ (tables_1_7 ++ tables_1_8))))))) := List.mem_append_right _ (List.mem_append_right _ (List.mem_append_right _ (List.mem_append_right _ (List.mem_append_right _ (List.mem_append_right _ (List.mem_append_left _ (List.mem_of_getElem? (i := 70) rfl)))))))
set_option maxRecDepth 20000 in
theorem mm_cw143 : mm_cwd 143 ∈ k2_sels lw_privs ++ (tables_1_1 ++ (tables_1_2 ++ (tables_1_3 ++ (tables_1_4 ++ (tables_1_5 ++ (tables_1_6 ++ (tables_1_7 ++ tables_1_8))))))) := List.mem_append_right _ (List.mem_append_right _ (List.mem_append_right _ (List.mem_append_right _ (List.mem_append_right _ (List.mem_append_right _ (List.mem_append_left _ (List.mem_of_getElem? (i := 86) rfl)))))))
set_option maxRecDepth 20000 in
theorem mm_cw144 : mm_cwd 144 ∈ k2_sels lw_privs ++ (tables_1_1 ++ (tables_1_2 ++ (tables_1_3 ++ (tables_1_4 ++ (tables_1_5 ++ (tables_1_6 ++ (tables_1_7 ++ tables_1_8))))))) := List.mem_append_right _ (List.mem_append_right _ (List.mem_append_right _ (List.mem_append_right _ (List.mem_append_right _ (List.mem_append_right _ (List.mem_append_left _ (List.mem_of_getElem? (i := 89) rfl)))))))
set_option maxRecDepth 20000 in
theorem mm_cw145 : mm_cwd 145 ∈ k2_sels lw_privs ++ (tables_1_1 ++ (tables_1_2 ++ (tables_1_3 ++ (tables_1_4 ++ (tables_1_5 ++ (tables_1_6 ++ (tables_1_7 ++ tables_1_8))))))) := List.mem_append_right _ (List.mem_append_right _ (List.mem_append_right _ (List.mem_append_right _ (List.mem_append_right _ (List.mem_append_right _ (List.mem_append_left _ (List.mem_of_getElem? (i := 92) rfl)))))))
set_option maxRecDepth 20000 in
theorem mm_cw146 : mm_cwd 146 ∈ k2_sels lw_privs ++ (tables_1_1 ++ (tables_1_2 ++ (tables_1_3 ++ (tables_1_4 ++ (tables_1_5 ++ (tables_1_6 ++ (tables_1_7 ++ tables_1_8))))))) := List.mem_append_right _ (List.mem_append_right _ (List.mem_append_right _ (List.mem_append_right _ (List.mem_append_right _ (List.mem_append_right _ (List.mem_append_left _ (List.mem_of_getElem? (i := 82) rfl)))))))
set_option maxRecDepth 20000 in
theorem mm_cw147 : mm_cwd 147 ∈ k2_sels lw_privs ++ (tables_1_1 ++ (tables_1_2 ++ (tables_1_3 ++ (tables_1_4 ++ (tables_1_5 ++ (tables_1_6 ++ (tables_1_7 ++ tables_1_8))))))) := List.mem_append_right _ (List.mem_append_right _ (List.mem_append_right _ (List.mem_append_right _ (List.mem_append_right _ (List.mem_append_right _ (List.mem_append_left _ (List.mem_of_getElem? (i := 110) rfl)))))))
set_option maxRecDepth 20000 in
theorem mm_cw148 : mm_cwd 148 ∈ k2_sels lw_privs ++ (tables_1_1 ++ (tables_1_2 ++ (tables_1_3 ++ (tables_1_4 ++ (tables_1_5 ++ (tables_1_6 ++ (tables_1_7 ++ tables_1_8))))))) := List.mem_append_right _ (List.mem_append_right _ (List.mem_append_right _ (List.mem_append_right _ (List.mem_append_right _ (List.mem_append_right _ (List.mem_append_left _ (List.mem_of_getElem? (i := 107) rfl)))))))
set_option maxRecDepth 20000 in
theorem mm_cw149 : mm_cwd 149 ∈ k2_sels lw_privs ++ (tables_1_1 ++ (tables_1_2 ++ (tables_1_3 ++ (tables_1_4 ++ (tables_1_5 ++ (tables_1_6 ++ (tables_1_7 ++ tables_1_8))))))) := List.mem_append_right _ (List.mem_append_right _ (List.mem_append_right _ (List.mem_append_right _ (List.mem_append_right _ (List.mem_append_right _ (List.mem_append_left _ (List.mem_of_getElem? (i := 104) rfl)))))))
set_option maxRecDepth 20000 in
theorem mm_cw150 : mm_cwd 150 ∈ k2_sels lw_privs ++ (tables_1_1 ++ (tables_1_2 ++ (tables_1_3 ++ (tables_1_4 ++ (tables_1_5 ++ (tables_1_6 ++ (tables_1_7 ++ tables_1_8))))))) := List.mem_append_right _ (List.mem_append_right _ (List.mem_append_right _ (List.mem_append_right _ (List.mem_append_right _ (List.mem_append_right _ (List.mem_append_left _ (List.mem_of_getElem? (i := 119) rfl)))))))
set_option maxRecDepth 20000 in
theorem mm_cw151 : mm_cwd 151 ∈ k2_sels lw_privs ++ (tables_1_1 ++ (tables_1_2 ++ (tables_1_3 ++ (tables_1_4 ++ (tables_1_5 ++ (tables_1_6 ++ (tables_1_7 ++ tables_1_8))))))) := List.mem_append_right _ (List.mem_append_right _ (List.mem_append_right _ (List.mem_append_right _ (List.mem_append_right _ (List.mem_append_right _ (List.mem_append_left _ (List.mem_of_getElem? (i := 96) rfl)))))))
set_option maxRecDepth 20000 in
theorem mm_cw152 : mm_cwd 152 ∈ k2_sels lw_privs ++ (tables_1_1 ++ (tables_1_2 ++ (tables_1_3 ++ (tables_1_4 ++ (tables_1_5 ++ (tables_1_6 ++ (tables_1_7 ++ tables_1_8))))))) := List.mem_append_right _ (List.mem_append_right _ (List.mem_append_right _ (List.mem_append_right _ (List.mem_append_right _ (List.mem_append_right _ (List.mem_append_left _ (List.mem_of_getElem? (i := 143) rfl)))))))
set_option maxRecDepth 20000 in
theorem mm_cw153 : mm_cwd 153 ∈ k2_sels lw_privs ++ (tables_1_1 ++ (tables_1_2 ++ (tables_1_3 ++ (tables_1_4 ++ (tables_1_5 ++ (tables_1_6 ++ (tables_1_7 ++ tables_1_8))))))) := List.mem_append_right _ (List.mem_append_right _ (List.mem_append_right _ (List.mem_append_right _ (List.mem_append_right _ (List.mem_append_right _ (List.mem_append_left _ (List.mem_of_getElem? (i := 181) rfl)))))))
set_option maxRecDepth 20000 in
theorem mm_cw154 : mm_cwd 154 ∈ k2_sels lw_privs ++ (tables_1_1 ++ (tables_1_2 ++ (tables_1_3 ++ (tables_1_4 ++ (tables_1_5 ++ (tables_1_6 ++ (tables_1_7 ++ tables_1_8))))))) := List.mem_append_right _ (List.mem_append_right _ (List.mem_append_right _ (List.mem_append_right _ (List.mem_append_right _ (List.mem_append_right _ (List.mem_append_left _ (List.mem_of_getElem? (i := 123) rfl)))))))
set_option maxRecDepth 20000 in
theorem mm_cw155 : mm_cwd 155 ∈ k2_sels lw_privs ++ (tables_1_1 ++ (tables_1_2 ++ (tables_1_3 ++ (tables_1_4 ++ (tables_1_5 ++ (tables_1_6 ++ (tables_1_7 ++ tables_1_8))))))) := List.mem_append_right _ (List.mem_append_right _ (List.mem_append_right _ (List.mem_append_right _ (List.mem_append_right _ (List.mem_append_right _ (List.mem_append_left _ (List.mem_of_getElem? (i := 131) rfl)))))))
set_option maxRecDepth 20000 in
theorem mm_cw156 : mm_cwd 156 ∈ k2_sels lw_privs ++ (tables_1_1 ++ (tables_1_2 ++ (tables_1_3 ++ (tables_1_4 ++ (tables_1_5 ++ (tables_1_6 ++ (tables_1_7 ++ tables_1_8))))))) := List.mem_append_right _ (List.mem_append_right _ (List.mem_append_right _ (List.mem_append_right _ (List.mem_append_right _ (List.mem_append_right _ (List.mem_append_left _ (List.mem_of_getElem? (i := 159) rfl)))))))
set_option maxRecDepth 20000 in
theorem mm_cw157 : mm_cwd 157 ∈ k2_sels lw_privs ++ (tables_1_1 ++ (tables_1_2 ++ (tables_1_3 ++ (tables_1_4 ++ (tables_1_5 ++ (tables_1_6 ++ (tables_1_7 ++ tables_1_8))))))) := List.mem_append_right _ (List.mem_append_right _ (List.mem_append_right _ (List.mem_append_right _ (List.mem_append_right _ (List.mem_append_right _ (List.mem_append_left _ (List.mem_of_getElem? (i := 166) rfl)))))))
set_option maxRecDepth 20000 in
theorem mm_cw158 : mm_cwd 158 ∈ k2_sels lw_privs ++ (tables_1_1 ++ (tables_1_2 ++ (tables_1_3 ++ (tables_1_4 ++ (tables_1_5 ++ (tables_1_6 ++ (tables_1_7 ++ tables_1_8))))))) := List.mem_append_right _ (List.mem_append_right _ (List.mem_append_right _ (List.mem_append_right _ (List.mem_append_right _ (List.mem_append_right _ (List.mem_append_left _ (List.mem_of_getElem? (i := 169) rfl)))))))
set_option maxRecDepth 20000 in
theorem mm_cw159 : mm_cwd 159 ∈ k2_sels lw_privs ++ (tables_1_1 ++ (tables_1_2 ++ (tables_1_3 ++ (tables_1_4 ++ (tables_1_5 ++ (tables_1_6 ++ (tables_1_7 ++ tables_1_8))))))) := List.mem_append_right _ (List.mem_append_right _ (List.mem_append_right _ (List.mem_append_right _ (List.mem_append_right _ (List.mem_append_right _ (List.mem_append_left _ (List.mem_of_getElem? (i := 163) rfl)))))))
set_option maxRecDepth 20000 in
theorem mm_cw160 : mm_cwd 160 ∈ k2_sels lw_privs ++ (tables_1_1 ++ (tables_1_2 ++ (tables_1_3 ++ (tables_1_4 ++ (tables_1_5 ++ (tables_1_6 ++ (tables_1_7 ++ tables_1_8))))))) := List.mem_append_right _ (List.mem_append_right _ (List.mem_append_right _ (List.mem_append_right _ (List.mem_append_right _ (List.mem_append_right _ (List.mem_append_left _ (List.mem_of_getElem? (i := 151) rfl)))))))
set_option maxRecDepth 20000 in
theorem mm_cw161 : mm_cwd 161 ∈ k2_sels lw_privs ++ (tables_1_1 ++ (tables_1_2 ++ (tables_1_3 ++ (tables_1_4 ++ (tables_1_5 ++ (tables_1_6 ++ (tables_1_7 ++ tables_1_8))))))) := List.mem_append_right _ (List.mem_append_right _ (List.mem_append_right _ (List.mem_append_right _ (List.mem_append_right _ (List.mem_append_right _ (List.mem_append_left _ (List.mem_of_getElem? (i := 155) rfl)))))))
set_option maxRecDepth 20000 in
theorem mm_cw162 : mm_cwd 162 ∈ k2_sels lw_privs ++ (tables_1_1 ++ (tables_1_2 ++ (tables_1_3 ++ (tables_1_4 ++ (tables_1_5 ++ (tables_1_6 ++ (tables_1_7 ++ tables_1_8))))))) := List.mem_append_right _ (List.mem_append_right _ (List.mem_append_right _ (List.mem_append_right _ (List.mem_append_right _ (List.mem_append_right _ (List.mem_append_left _ (List.mem_of_getElem? (i := 139) rfl)))))))
set_option maxRecDepth 20000 in
theorem mm_cw163 : mm_cwd 163 ∈ k2_sels lw_privs ++ (tables_1_1 ++ (tables_1_2 ++ (tables_1_3 ++ (tables_1_4 ++ (tables_1_5 ++ (tables_1_6 ++ (tables_1_7 ++ tables_1_8))))))) := List.mem_append_right _ (List.mem_append_right _ (List.mem_append_right _ (List.mem_append_right _ (List.mem_append_right _ (List.mem_append_right _ (List.mem_append_left _ (List.mem_of_getElem? (i := 147) rfl)))))))
set_option maxRecDepth 20000 in
theorem mm_cw164 : mm_cwd 164 ∈ k2_sels lw_privs ++ (tables_1_1 ++ (tables_1_2 ++ (tables_1_3 ++ (tables_1_4 ++ (tables_1_5 ++ (tables_1_6 ++ (tables_1_7 ++ tables_1_8))))))) := List.mem_append_right _ (List.mem_append_right _ (List.mem_append_right _ (List.mem_append_right _ (List.mem_append_right _ (List.mem_append_right _ (List.mem_append_left _ (List.mem_of_getElem? (i := 173) rfl)))))))
set_option maxRecDepth 20000 in
theorem mm_cw165 : mm_cwd 165 ∈ k2_sels lw_privs ++ (tables_1_1 ++ (tables_1_2 ++ (tables_1_3 ++ (tables_1_4 ++ (tables_1_5 ++ (tables_1_6 ++ (tables_1_7 ++ tables_1_8))))))) := List.mem_append_right _ (List.mem_append_right _ (List.mem_append_right _ (List.mem_append_right _ (List.mem_append_right _ (List.mem_append_right _ (List.mem_append_left _ (List.mem_of_getElem? (i := 177) rfl)))))))
set_option maxRecDepth 20000 in
theorem mm_cw166 : mm_cwd 166 ∈ k2_sels lw_privs ++ (tables_1_1 ++ (tables_1_2 ++ (tables_1_3 ++ (tables_1_4 ++ (tables_1_5 ++ (tables_1_6 ++ (tables_1_7 ++ tables_1_8))))))) := List.mem_append_right _ (List.mem_append_right _ (List.mem_append_right _ (List.mem_append_right _ (List.mem_append_right _ (List.mem_append_right _ (List.mem_append_left _ (List.mem_of_getElem? (i := 135) rfl)))))))
set_option maxRecDepth 20000 in
theorem mm_cw167 : mm_cwd 167 ∈ k2_sels lw_privs ++ (tables_1_1 ++ (tables_1_2 ++ (tables_1_3 ++ (tables_1_4 ++ (tables_1_5 ++ (tables_1_6 ++ (tables_1_7 ++ tables_1_8))))))) := List.mem_append_right _ (List.mem_append_right _ (List.mem_append_right _ (List.mem_append_right _ (List.mem_append_right _ (List.mem_append_right _ (List.mem_append_left _ (List.mem_of_getElem? (i := 115) rfl)))))))
set_option maxRecDepth 20000 in
theorem mm_cw168 : mm_cwd 168 ∈ k2_sels lw_privs ++ (tables_1_1 ++ (tables_1_2 ++ (tables_1_3 ++ (tables_1_4 ++ (tables_1_5 ++ (tables_1_6 ++ (tables_1_7 ++ tables_1_8))))))) := List.mem_append_right _ (List.mem_append_right _ (List.mem_append_right _ (List.mem_append_right _ (List.mem_append_right _ (List.mem_append_right _ (List.mem_append_left _ (List.mem_of_getElem? (i := 127) rfl)))))))
set_option maxRecDepth 20000 in
theorem mm_cw169 : mm_cwd 169 ∈ k2_sels lw_privs ++ (tables_1_1 ++ (tables_1_2 ++ (tables_1_3 ++ (tables_1_4 ++ (tables_1_5 ++ (tables_1_6 ++ (tables_1_7 ++ tables_1_8))))))) := List.mem_append_right _ (List.mem_append_right _ (List.mem_append_right _ (List.mem_append_right _ (List.mem_append_right _ (List.mem_append_right _ (List.mem_append_left _ (List.mem_of_getElem? (i := 100) rfl)))))))
set_option maxRecDepth 20000 in
theorem mm_cw170 : mm_cwd 170 ∈ k2_sels lw_privs ++ (tables_1_1 ++ (tables_1_2 ++ (tables_1_3 ++ (tables_1_4 ++ (tables_1_5 ++ (tables_1_6 ++ (tables_1_7 ++ tables_1_8))))))) := List.mem_append_right _ (List.mem_append_right _ (List.mem_append_right _ (List.mem_append_right _ (List.mem_append_right _ (List.mem_append_right _ (List.mem_append_left _ (List.mem_of_getElem? (i := 74) rfl)))))))
set_option maxRecDepth 20000 in
theorem mm_cw171 : mm_cwd 171 ∈ k2_sels lw_privs ++ (tables_1_1 ++ (tables_1_2 ++ (tables_1_3 ++ (tables_1_4 ++ (tables_1_5 ++ (tables_1_6 ++ (tables_1_7 ++ tables_1_8))))))) := List.mem_append_right _ (List.mem_append_right _ (List.mem_append_right _ (List.mem_append_right _ (List.mem_append_right _ (List.mem_append_right _ (List.mem_append_left _ (List.mem_of_getElem? (i := 189) rfl)))))))
set_option maxRecDepth 20000 in
theorem mm_cw172 : mm_cwd 172 ∈ k2_sels lw_privs ++ (tables_1_1 ++ (tables_1_2 ++ (tables_1_3 ++ (tables_1_4 ++ (tables_1_5 ++ (tables_1_6 ++ (tables_1_7 ++ tables_1_8))))))) := List.mem_append_right _ (List.mem_append_right _ (List.mem_append_right _ (List.mem_append_right _ (List.mem_append_right _ (List.mem_append_right _ (List.mem_append_right _ (List.mem_append_left _ (List.mem_of_getElem? (i := 59) rfl))))))))
set_option maxRecDepth 20000 in
theorem mm_cw173 : mm_cwd 173 ∈ k2_sels lw_privs ++ (tables_1_1 ++ (tables_1_2 ++ (tables_1_3 ++ (tables_1_4 ++ (tables_1_5 ++ (tables_1_6 ++ (tables_1_7 ++ tables_1_8))))))) := List.mem_append_right _ (List.mem_append_right _ (List.mem_append_right _ (List.mem_append_right _ (List.mem_append_right _ (List.mem_append_right _ (List.mem_append_right _ (List.mem_append_left _ (List.mem_of_getElem? (i := 55) rfl))))))))
set_option maxRecDepth 20000 in
theorem mm_cw174 : mm_cwd 174 ∈ k2_sels lw_privs ++ (tables_1_1 ++ (tables_1_2 ++ (tables_1_3 ++ (tables_1_4 ++ (tables_1_5 ++ (tables_1_6 ++ (tables_1_7 ++ tables_1_8))))))) := List.mem_append_right _ (List.mem_append_right _ (List.mem_append_right _ (List.mem_append_right _ (List.mem_append_right _ (List.mem_append_right _ (List.mem_append_left _ (List.mem_of_getElem? (i := 193) rfl)))))))
set_option maxRecDepth 20000 in
theorem mm_cw175 : mm_cwd 175 ∈ k2_sels lw_privs ++ (tables_1_1 ++ (tables_1_2 ++ (tables_1_3 ++ (tables_1_4 ++ (tables_1_5 ++ (tables_1_6 ++ (tables_1_7 ++ tables_1_8))))))) := List.mem_append_right _ (List.mem_append_right _ (List.mem_append_right _ (List.mem_append_right _ (List.mem_append_right _ (List.mem_append_right _ (List.mem_append_right _ (List.mem_append_left _ (List.mem_of_getElem? (i := 111) rfl))))))))
set_option maxRecDepth 20000 in
theorem mm_cw176 : mm_cwd 176 ∈ k2_sels lw_privs ++ (tables_1_1 ++ (tables_1_2 ++ (tables_1_3 ++ (tables_1_4 ++ (tables_1_5 ++ (tables_1_6 ++ (tables_1_7 ++ tables_1_8))))))) := List.mem_append_right _ (List.mem_append_right _ (List.mem_append_right _ (List.mem_append_right _ (List.mem_append_right _ (List.mem_append_right _ (List.mem_append_right _ (List.mem_append_left _ (List.mem_of_getElem? (i := 19) rfl))))))))
set_option maxRecDepth 20000 in
theorem mm_cw177 : mm_cwd 177 ∈ k2_sels lw_privs ++ (tables_1_1 ++ (tables_1_2 ++ (tables_1_3 ++ (tables_1_4 ++ (tables_1_5 ++ (tables_1_6 ++ (tables_1_7 ++ tables_1_8))))))) := List.mem_append_right _ (List.mem_append_right _ (List.mem_append_right _ (List.mem_append_right _ (List.mem_append_right _ (List.mem_append_right _ (List.mem_append_right _ (List.mem_append_left _ (List.mem_of_getElem? (i := 16) rfl))))))))
set_option maxRecDepth 20000 in
theorem mm_cw178 : mm_cwd 178 ∈ k2_sels lw_privs ++ (tables_1_1 ++ (tables_1_2 ++ (tables_1_3 ++ (tables_1_4 ++ (tables_1_5 ++ (tables_1_6 ++ (tables_1_7 ++ tables_1_8))))))) := List.mem_append_right _ (List.mem_append_right _ (List.mem_append_right _ (List.mem_append_right _ (List.mem_append_right _ (List.mem_append_right _ (List.mem_append_right _ (List.mem_append_left _ (List.mem_of_getElem? (i := 12) rfl))))))))
set_option maxRecDepth 20000 in
theorem mm_cw179 : mm_cwd 179 ∈ k2_sels lw_privs ++ (tables_1_1 ++ (tables_1_2 ++ (tables_1_3 ++ (tables_1_4 ++ (tables_1_5 ++ (tables_1_6 ++ (tables_1_7 ++ tables_1_8))))))) := List.mem_append_right _ (List.mem_append_right _ (List.mem_append_right _ (List.mem_append_right _ (List.mem_append_right _ (List.mem_append_right _ (List.mem_append_right _ (List.mem_append_left _ (List.mem_of_getElem? (i := 8) rfl))))))))
set_option maxRecDepth 20000 in
theorem mm_cw180 : mm_cwd 180 ∈ k2_sels lw_privs ++ (tables_1_1 ++ (tables_1_2 ++ (tables_1_3 ++ (tables_1_4 ++ (tables_1_5 ++ (tables_1_6 ++ (tables_1_7 ++ tables_1_8))))))) := List.mem_append_right _ (List.mem_append_right _ (List.mem_append_right _ (List.mem_append_right _ (List.mem_append_right _ (List.mem_append_right _ (List.mem_append_right _ (List.mem_append_left _ (List.mem_of_getElem? (i := 4) rfl))))))))
set_option maxRecDepth 20000 in
theorem mm_cw181 : mm_cwd 181 ∈ k2_sels lw_privs ++ (tables_1_1 ++ (tables_1_2 ++ (tables_1_3 ++ (tables_1_4 ++ (tables_1_5 ++ (tables_1_6 ++ (tables_1_7 ++ tables_1_8))))))) := List.mem_append_right _ (List.mem_append_right _ (List.mem_append_right _ (List.mem_append_right _ (List.mem_append_right _ (List.mem_append_right _ (List.mem_append_right _ (List.mem_append_left _ (List.mem_of_getElem? (i := 35) rfl))))))))
set_option maxRecDepth 20000 in
theorem mm_cw182 : mm_cwd 182 ∈ k2_sels lw_privs ++ (tables_1_1 ++ (tables_1_2 ++ (tables_1_3 ++ (tables_1_4 ++ (tables_1_5 ++ (tables_1_6 ++ (tables_1_7 ++ tables_1_8))))))) := List.mem_append_right _ (List.mem_append_right _ (List.mem_append_right _ (List.mem_append_right _ (List.mem_append_right _ (List.mem_append_right _ (List.mem_append_right _ (List.mem_append_left _ (List.mem_of_getElem? (i := 67) rfl))))))))
set_option maxRecDepth 20000 in
theorem mm_cw183 : mm_cwd 183 ∈ k2_sels lw_privs ++ (tables_1_1 ++ (tables_1_2 ++ (tables_1_3 ++ (tables_1_4 ++ (tables_1_5 ++ (tables_1_6 ++ (tables_1_7 ++ tables_1_8))))))) := List.mem_append_right _ (List.mem_append_right _ (List.mem_append_right _ (List.mem_append_right _ (List.mem_append_right _ (List.mem_append_right _ (List.mem_append_right _ (List.mem_append_left _ (List.mem_of_getElem? (i := 63) rfl))))))))
set_option maxRecDepth 20000 in
theorem mm_cw184 : mm_cwd 184 ∈ k2_sels lw_privs ++ (tables_1_1 ++ (tables_1_2 ++ (tables_1_3 ++ (tables_1_4 ++ (tables_1_5 ++ (tables_1_6 ++ (tables_1_7 ++ tables_1_8))))))) := List.mem_append_right _ (List.mem_append_right _ (List.mem_append_right _ (List.mem_append_right _ (List.mem_append_right _ (List.mem_append_right _ (List.mem_append_right _ (List.mem_append_left _ (List.mem_of_getElem? (i := 91) rfl))))))))
set_option maxRecDepth 20000 in
theorem mm_cw185 : mm_cwd 185 ∈ k2_sels lw_privs ++ (tables_1_1 ++ (tables_1_2 ++ (tables_1_3 ++ (tables_1_4 ++ (tables_1_5 ++ (tables_1_6 ++ (tables_1_7 ++ tables_1_8))))))) := List.mem_append_right _ (List.mem_append_right _ (List.mem_append_right _ (List.mem_append_right _ (List.mem_append_right _ (List.mem_append_right _ (List.mem_append_right _ (List.mem_append_left _ (List.mem_of_getElem? (i := 87) rfl))))))))
set_option maxRecDepth 20000 in
theorem mm_cw186 : mm_cwd 186 ∈ k2_sels lw_privs ++ (tables_1_1 ++ (tables_1_2 ++ (tables_1_3 ++ (tables_1_4 ++ (tables_1_5 ++ (tables_1_6 ++ (tables_1_7 ++ tables_1_8))))))) := List.mem_append_right _ (List.mem_append_right _ (List.mem_append_right _ (List.mem_append_right _ (List.mem_append_right _ (List.mem_append_right _ (List.mem_append_left _ (List.mem_of_getElem? (i := 204) rfl)))))))
set_option maxRecDepth 20000 in
theorem mm_cw187 : mm_cwd 187 ∈ k2_sels lw_privs ++ (tables_1_1 ++ (tables_1_2 ++ (tables_1_3 ++ (tables_1_4 ++ (tables_1_5 ++ (tables_1_6 ++ (tables_1_7 ++ tables_1_8))))))) := List.mem_append_right _ (List.mem_append_right _ (List.mem_append_right _ (List.mem_append_right _ (List.mem_append_right _ (List.mem_append_right _ (List.mem_append_left _ (List.mem_of_getElem? (i := 208) rfl)))))))
set_option maxRecDepth 20000 in
theorem mm_cw188 : mm_cwd 188 ∈ k2_sels lw_privs ++ (tables_1_1 ++ (tables_1_2 ++ (tables_1_3 ++ (tables_1_4 ++ (tables_1_5 ++ (tables_1_6 ++ (tables_1_7 ++ tables_1_8))))))) := List.mem_append_right _ (List.mem_append_right _ (List.mem_append_right _ (List.mem_append_right _ (List.mem_append_right _ (List.mem_append_right _ (List.mem_append_right _ (List.mem_append_left _ (List.mem_of_getElem? (i := 39) rfl))))))))
set_option maxRecDepth 20000 in
theorem mm_cw189 : mm_cwd 189 ∈ k2_sels lw_privs ++ (tables_1_1 ++ (tables_1_2 ++ (tables_1_3 ++ (tables_1_4 ++ (tables_1_5 ++ (tables_1_6 ++ (tables_1_7 ++ tables_1_8))))))) := List.mem_append_right _ (List.mem_append_right _ (List.mem_append_right _ (List.mem_append_right _ (List.mem_append_right _ (List.mem_append_right _ (List.mem_append_right _ (List.mem_append_left _ (List.mem_of_getElem? (i := 0) rfl))))))))
set_option maxRecDepth 20000 in
theorem mm_cw190 : mm_cwd 190 ∈ k2_sels lw_privs ++ (tables_1_1 ++ (tables_1_2 ++ (tables_1_3 ++ (tables_1_4 ++ (tables_1_5 ++ (tables_1_6 ++ (tables_1_7 ++ tables_1_8))))))) := List.mem_append_right _ (List.mem_append_right _ (List.mem_append_right _ (List.mem_append_right _ (List.mem_append_right _ (List.mem_append_right _ (List.mem_append_left _ (List.mem_of_getElem? (i := 236) rfl)))))))
set_option maxRecDepth 20000 in
theorem mm_cw191 : mm_cwd 191 ∈ k2_sels lw_privs ++ (tables_1_1 ++ (tables_1_2 ++ (tables_1_3 ++ (tables_1_4 ++ (tables_1_5 ++ (tables_1_6 ++ (tables_1_7 ++ tables_1_8))))))) := List.mem_append_right _ (List.mem_append_right _ (List.mem_append_right _ (List.mem_append_right _ (List.mem_append_right _ (List.mem_append_right _ (List.mem_append_right _ (List.mem_append_left _ (List.mem_of_getElem? (i := 27) rfl))))))))
set_option maxRecDepth 20000 in
theorem mm_cw192 : mm_cwd 192 ∈ k2_sels lw_privs ++ (tables_1_1 ++ (tables_1_2 ++ (tables_1_3 ++ (tables_1_4 ++ (tables_1_5 ++ (tables_1_6 ++ (tables_1_7 ++ tables_1_8))))))) := List.mem_append_right _ (List.mem_append_right _ (List.mem_append_right _ (List.mem_append_right _ (List.mem_append_right _ (List.mem_append_right _ (List.mem_append_right _ (List.mem_append_left _ (List.mem_of_getElem? (i := 31) rfl))))))))
set_option maxRecDepth 20000 in
theorem mm_cw193 : mm_cwd 193 ∈ k2_sels lw_privs ++ (tables_1_1 ++ (tables_1_2 ++ (tables_1_3 ++ (tables_1_4 ++ (tables_1_5 ++ (tables_1_6 ++ (tables_1_7 ++ tables_1_8))))))) := List.mem_append_right _ (List.mem_append_right _ (List.mem_append_right _ (List.mem_append_right _ (List.mem_append_right _ (List.mem_append_right _ (List.mem_append_left _ (List.mem_of_getElem? (i := 197) rfl)))))))
set_option maxRecDepth 20000 in
theorem mm_cw194 : mm_cwd 194 ∈ k2_sels lw_privs ++ (tables_1_1 ++ (tables_1_2 ++ (tables_1_3 ++ (tables_1_4 ++ (tables_1_5 ++ (tables_1_6 ++ (tables_1_7 ++ tables_1_8))))))) := List.mem_append_right _ (List.mem_append_right _ (List.mem_append_right _ (List.mem_append_right _ (List.mem_append_right _ (List.mem_append_right _ (List.mem_append_left _ (List.mem_of_getElem? (i := 216) rfl)))))))
set_option maxRecDepth 20000 in
theorem mm_cw195 : mm_cwd 195 ∈ k2_sels lw_privs ++ (tables_1_1 ++ (tables_1_2 ++ (tables_1_3 ++ (tables_1_4 ++ (tables_1_5 ++ (tables_1_6 ++ (tables_1_7 ++ tables_1_8))))))) := List.mem_append_right _ (List.mem_append_right _ (List.mem_append_right _ (List.mem_append_right _ (List.mem_append_right _ (List.mem_append_right _ (List.mem_append_left _ (List.mem_of_getElem? (i := 232) rfl)))))))
set_option maxRecDepth 20000 in
theorem mm_cw196 : mm_cwd 196 ∈ k2_sels lw_privs ++ (tables_1_1 ++ (tables_1_2 ++ (tables_1_3 ++ (tables_1_4 ++ (tables_1_5 ++ (tables_1_6 ++ (tables_1_7 ++ tables_1_8))))))) := List.mem_append_right _ (List.mem_append_right _ (List.mem_append_right _ (List.mem_append_right _ (List.mem_append_right _ (List.mem_append_right _ (List.mem_append_left _ (List.mem_of_getElem? (i := 220) rfl)))))))
set_option maxRecDepth 20000 in
theorem mm_cw197 : mm_cwd 197 ∈ k2_sels lw_privs ++ (tables_1_1 ++ (tables_1_2 ++ (tables_1_3 ++ (tables_1_4 ++ (tables_1_5 ++ (tables_1_6 ++ (tables_1_7 ++ tables_1_8))))))) := List.mem_append_right _ (List.mem_append_right _ (List.mem_append_right _ (List.mem_append_right _ (List.mem_append_right _ (List.mem_append_right _ (List.mem_append_left _ (List.mem_of_getElem? (i := 224) rfl)))))))
set_option maxRecDepth 20000 in
theorem mm_cw198 : mm_cwd 198 ∈ k2_sels lw_privs ++ (tables_1_1 ++ (tables_1_2 ++ (tables_1_3 ++ (tables_1_4 ++ (tables_1_5 ++ (tables_1_6 ++ (tables_1_7 ++ tables_1_8))))))) := List.mem_append_right _ (List.mem_append_right _ (List.mem_append_right _ (List.mem_append_right _ (List.mem_append_right _ (List.mem_append_right _ (List.mem_append_left _ (List.mem_of_getElem? (i := 212) rfl)))))))
set_option maxRecDepth 20000 in
theorem mm_cw199 : mm_cwd 199 ∈ k2_sels lw_privs ++ (tables_1_1 ++ (tables_1_2 ++ (tables_1_3 ++ (tables_1_4 ++ (tables_1_5 ++ (tables_1_6 ++ (tables_1_7 ++ tables_1_8))))))) := List.mem_append_right _ (List.mem_append_right _ (List.mem_append_right _ (List.mem_append_right _ (List.mem_append_right _ (List.mem_append_right _ (List.mem_append_right _ (List.mem_append_left _ (List.mem_of_getElem? (i := 23) rfl))))))))
set_option maxRecDepth 20000 in
theorem mm_cw200 : mm_cwd 200 ∈ k2_sels lw_privs ++ (tables_1_1 ++ (tables_1_2 ++ (tables_1_3 ++ (tables_1_4 ++ (tables_1_5 ++ (tables_1_6 ++ (tables_1_7 ++ tables_1_8))))))) := List.mem_append_right _ (List.mem_append_right _ (List.mem_append_right _ (List.mem_append_right _ (List.mem_append_right _ (List.mem_append_right _ (List.mem_append_left _ (List.mem_of_getElem? (i := 228) rfl)))))))
set_option maxRecDepth 20000 in
theorem mm_cw201 : mm_cwd 201 ∈ k2_sels lw_privs ++ (tables_1_1 ++ (tables_1_2 ++ (tables_1_3 ++ (tables_1_4 ++ (tables_1_5 ++ (tables_1_6 ++ (tables_1_7 ++ tables_1_8))))))) := List.mem_append_right _ (List.mem_append_right _ (List.mem_append_right _ (List.mem_append_right _ (List.mem_append_right _ (List.mem_append_right _ (List.mem_append_right _ (List.mem_append_left _ (List.mem_of_getElem? (i := 43) rfl))))))))
set_option maxRecDepth 20000 in
theorem mm_cw202 : mm_cwd 202 ∈ k2_sels lw_privs ++ (tables_1_1 ++ (tables_1_2 ++ (tables_1_3 ++ (tables_1_4 ++ (tables_1_5 ++ (tables_1_6 ++ (tables_1_7 ++ tables_1_8))))))) := List.mem_append_right _ (List.mem_append_right _ (List.mem_append_right _ (List.mem_append_right _ (List.mem_append_right _ (List.mem_append_right _ (List.mem_append_right _ (List.mem_append_left _ (List.mem_of_getElem? (i := 47) rfl))))))))
set_option maxRecDepth 20000 in
theorem mm_cw203 : mm_cwd 203 ∈ k2_sels lw_privs ++ (tables_1_1 ++ (tables_1_2 ++ (tables_1_3 ++ (tables_1_4 ++ (tables_1_5 ++ (tables_1_6 ++ (tables_1_7 ++ tables_1_8))))))) := List.mem_append_right _ (List.mem_append_right _ (List.mem_append_right _ (List.mem_append_right _ (List.mem_append_right _ (List.mem_append_right _ (List.mem_append_right _ (List.mem_append_left _ (List.mem_of_getElem? (i := 51) rfl))))))))
set_option maxRecDepth 20000 in
theorem mm_cw204 : mm_cwd 204 ∈ k2_sels lw_privs ++ (tables_1_1 ++ (tables_1_2 ++ (tables_1_3 ++ (tables_1_4 ++ (tables_1_5 ++ (tables_1_6 ++ (tables_1_7 ++ tables_1_8))))))) := List.mem_append_right _ (List.mem_append_right _ (List.mem_append_right _ (List.mem_append_right _ (List.mem_append_right _ (List.mem_append_right _ (List.mem_append_right _ (List.mem_append_left _ (List.mem_of_getElem? (i := 71) rfl))))))))
set_option maxRecDepth 20000 in
theorem mm_cw205 : mm_cwd 205 ∈ k2_sels lw_privs ++ (tables_1_1 ++ (tables_1_2 ++ (tables_1_3 ++ (tables_1_4 ++ (tables_1_5 ++ (tables_1_6 ++ (tables_1_7 ++ tables_1_8))))))) := List.mem_append_right _ (List.mem_append_right _ (List.mem_append_right _ (List.mem_append_right _ (List.mem_append_right _ (List.mem_append_right _ (List.mem_append_right _ (List.mem_append_left _ (List.mem_of_getElem? (i := 75) rfl))))))))
set_option maxRecDepth 20000 in
theorem mm_cw206 : mm_cwd 206 ∈ k2_sels lw_privs ++ (tables_1_1 ++ (tables_1_2 ++ (tables_1_3 ++ (tables_1_4 ++ (tables_1_5 ++ (tables_1_6 ++ (tables_1_7 ++ tables_1_8))))))) := List.mem_append_right _ (List.mem_append_right _ (List.mem_append_right _ (List.mem_append_right _ (List.mem_append_right _ (List.mem_append_right _ (List.mem_append_right _ (List.mem_append_left _ (List.mem_of_getElem? (i := 79) rfl))))))))
set_option maxRecDepth 20000 in
theorem mm_cw207 : mm_cwd 207 ∈ k2_sels lw_privs ++ (tables_1_1 ++ (tables_1_2 ++ (tables_1_3 ++ (tables_1_4 ++ (tables_1_5 ++ (tables_1_6 ++ (tables_1_7 ++ tables_1_8))))))) := List.mem_append_right _ (List.mem_append_right _ (List.mem_append_right _ (List.mem_append_right _ (List.mem_append_right _ (List.mem_append_right _ (List.mem_append_right _ (List.mem_append_left _ (List.mem_of_getElem? (i := 83) rfl))))))))
set_option maxRecDepth 20000 in
theorem mm_cw208 : mm_cwd 208 ∈ k2_sels lw_privs ++ (tables_1_1 ++ (tables_1_2 ++ (tables_1_3 ++ (tables_1_4 ++ (tables_1_5 ++ (tables_1_6 ++ (tables_1_7 ++ tables_1_8))))))) := List.mem_append_right _ (List.mem_append_right _ (List.mem_append_right _ (List.mem_append_right _ (List.mem_append_right _ (List.mem_append_right _ (List.mem_append_right _ (List.mem_append_left _ (List.mem_of_getElem? (i := 95) rfl))))))))
set_option maxRecDepth 20000 in
theorem mm_cw209 : mm_cwd 209 ∈ k2_sels lw_privs ++ (tables_1_1 ++ (tables_1_2 ++ (tables_1_3 ++ (tables_1_4 ++ (tables_1_5 ++ (tables_1_6 ++ (tables_1_7 ++ tables_1_8))))))) := List.mem_append_right _ (List.mem_append_right _ (List.mem_append_right _ (List.mem_append_right _ (List.mem_append_right _ (List.mem_append_right _ (List.mem_append_right _ (List.mem_append_left _ (List.mem_of_getElem? (i := 103) rfl))))))))
set_option maxRecDepth 20000 in
theorem mm_cw210 : mm_cwd 210 ∈ k2_sels lw_privs ++ (tables_1_1 ++ (tables_1_2 ++ (tables_1_3 ++ (tables_1_4 ++ (tables_1_5 ++ (tables_1_6 ++ (tables_1_7 ++ tables_1_8))))))) := List.mem_append_right _ (List.mem_append_right _ (List.mem_append_right _ (List.mem_append_right _ (List.mem_append_right _ (List.mem_append_right _ (List.mem_append_right _ (List.mem_append_left _ (List.mem_of_getElem? (i := 107) rfl))))))))
set_option maxRecDepth 20000 in
theorem mm_cw211 : mm_cwd 211 ∈ k2_sels lw_privs ++ (tables_1_1 ++ (tables_1_2 ++ (tables_1_3 ++ (tables_1_4 ++ (tables_1_5 ++ (tables_1_6 ++ (tables_1_7 ++ tables_1_8))))))) := List.mem_append_right _ (List.mem_append_right _ (List.mem_append_right _ (List.mem_append_right _ (List.mem_append_right _ (List.mem_append_right _ (List.mem_append_right _ (List.mem_append_left _ (List.mem_of_getElem? (i := 115) rfl))))))))
set_option maxRecDepth 20000 in
theorem mm_cw212 : mm_cwd 212 ∈ k2_sels lw_privs ++ (tables_1_1 ++ (tables_1_2 ++ (tables_1_3 ++ (tables_1_4 ++ (tables_1_5 ++ (tables_1_6 ++ (tables_1_7 ++ tables_1_8))))))) := List.mem_append_right _ (List.mem_append_right _ (List.mem_append_right _ (List.mem_append_right _ (List.mem_append_right _ (List.mem_append_right _ (List.mem_append_right _ (List.mem_append_left _ (List.mem_of_getElem? (i := 119) rfl))))))))
set_option maxRecDepth 20000 in
theorem mm_cw213 : mm_cwd 213 ∈ k2_sels lw_privs ++ (tables_1_1 ++ (tables_1_2 ++ (tables_1_3 ++ (tables_1_4 ++ (tables_1_5 ++ (tables_1_6 ++ (tables_1_7 ++ tables_1_8))))))) := List.mem_append_right _ (List.mem_append_right _ (List.mem_append_right _ (List.mem_append_right _ (List.mem_append_right _ (List.mem_append_right _ (List.mem_append_right _ (List.mem_append_left _ (List.mem_of_getElem? (i := 122) rfl))))))))
set_option maxRecDepth 20000 in
theorem mm_cw214 : mm_cwd 214 ∈ k2_sels lw_privs ++ (tables_1_1 ++ (tables_1_2 ++ (tables_1_3 ++ (tables_1_4 ++ (tables_1_5 ++ (tables_1_6 ++ (tables_1_7 ++ tables_1_8))))))) := List.mem_append_right _ (List.mem_append_right _ (List.mem_append_right _ (List.mem_append_right _ (List.mem_append_right _ (List.mem_append_right _ (List.mem_append_right _ (List.mem_append_left _ (List.mem_of_getElem? (i := 99) rfl))))))))
set_option maxRecDepth 20000 in
theorem mm_cw215 : mm_cwd 215 ∈ k2_sels lw_privs ++ (tables_1_1 ++ (tables_1_2 ++ (tables_1_3 ++ (tables_1_4 ++ (tables_1_5 ++ (tables_1_6 ++ (tables_1_7 ++ tables_1_8))))))) := List.mem_append_right _ (List.mem_append_right _ (List.mem_append_right _ (List.mem_append_right _ (List.mem_append_right _ (List.mem_append_right _ (List.mem_append_right _ (List.mem_append_left _ (List.mem_of_getElem? (i := 130) rfl))))))))
set_option maxRecDepth 20000 in
theorem mm_cw216 : mm_cwd 216 ∈ k2_sels lw_privs ++ (tables_1_1 ++ (tables_1_2 ++ (tables_1_3 ++ (tables_1_4 ++ (tables_1_5 ++ (tables_1_6 ++ (tables_1_7 ++ tables_1_8))))))) := List.mem_append_right _ (List.mem_append_right _ (List.mem_append_right _ (List.mem_append_right _ (List.mem_append_right _ (List.mem_append_right _ (List.mem_append_right _ (List.mem_append_left _ (List.mem_of_getElem? (i := 134) rfl))))))))
set_option maxRecDepth 20000 in
theorem mm_cw217 : mm_cwd 217 ∈ k2_sels lw_privs ++ (tables_1_1 ++ (tables_1_2 ++ (tables_1_3 ++ (tables_1_4 ++ (tables_1_5 ++ (tables_1_6 ++ (tables_1_7 ++ tables_1_8))))))) := List.mem_append_right _ (List.mem_append_right _ (List.mem_append_right _ (List.mem_append_right _ (List.mem_append_right _ (List.mem_append_right _ (List.mem_append_right _ (List.mem_append_left _ (List.mem_of_getElem? (i := 126) rfl))))))))
set_option maxRecDepth 20000 in
theorem mm_cw218 : mm_cwd 218 ∈ k2_sels lw_privs ++ (tables_1_1 ++ (tables_1_2 ++ (tables_1_3 ++ (tables_1_4 ++ (tables_1_5 ++ (tables_1_6 ++ (tables_1_7 ++ tables_1_8))))))) := List.mem_append_right _ (List.mem_append_right _ (List.mem_append_right _ (List.mem_append_right _ (List.mem_append_right _ (List.mem_append_right _ (List.mem_append_right _ (List.mem_append_left _ (List.mem_of_getElem? (i := 142) rfl))))))))
set_option maxRecDepth 20000 in
theorem mm_cw219 : mm_cwd 219 ∈ k2_sels lw_privs ++ (tables_1_1 ++ (tables_1_2 ++ (tables_1_3 ++ (tables_1_4 ++ (tables_1_5 ++ (tables_1_6 ++ (tables_1_7 ++ tables_1_8))))))) := List.mem_append_right _ (List.mem_append_right _ (List.mem_append_right _ (List.mem_append_right _ (List.mem_append_right _ (List.mem_append_right _ (List.mem_append_right _ (List.mem_append_left _ (List.mem_of_getElem? (i := 138) rfl))))))))
set_option maxRecDepth 20000 in
theorem mm_cw220 : mm_cwd 220 ∈ k2_sels lw_privs ++ (tables_1_1 ++ (tables_1_2 ++ (tables_1_3 ++ (tables_1_4 ++ (tables_1_5 ++ (tables_1_6 ++ (tables_1_7 ++ tables_1_8))))))) := List.mem_append_right _ (List.mem_append_right _ (List.mem_append_right _ (List.mem_append_right _ (List.mem_append_right _ (List.mem_append_right _ (List.mem_append_right _ (List.mem_append_left _ (List.mem_of_getElem? (i := 146) rfl))))))))
set_option maxRecDepth 20000 in
theorem mm_cw221 : mm_cwd 221 ∈ k2_sels lw_privs ++ (tables_1_1 ++ (tables_1_2 ++ (tables_1_3 ++ (tables_1_4 ++ (tables_1_5 ++ (tables_1_6 ++ (tables_1_7 ++ tables_1_8))))))) := List.mem_append_right _ (List.mem_append_right _ (List.mem_append_right _ (List.mem_append_right _ (List.mem_append_right _ (List.mem_append_right _ (List.mem_append_right _ (List.mem_append_left _ (List.mem_of_getElem? (i := 150) rfl))))))))
set_option maxRecDepth 20000 in
theorem mm_cw222 : mm_cwd 222 ∈ k2_sels lw_privs ++ (tables_1_1 ++ (tables_1_2 ++ (tables_1_3 ++ (tables_1_4 ++ (tables_1_5 ++ (tables_1_6 ++ (tables_1_7 ++ tables_1_8))))))) := List.mem_append_right _ (List.mem_append_right _ (List.mem_append_right _ (List.mem_append_right _ (List.mem_append_right _ (List.mem_append_right _ (List.mem_append_right _ (List.mem_append_left _ (List.mem_of_getElem? (i := 154) rfl))))))))
set_option maxRecDepth 20000 in
theorem mm_cw223 : mm_cwd 223 ∈ k2_sels lw_privs ++ (tables_1_1 ++ (tables_1_2 ++ (tables_1_3 ++ (tables_1_4 ++ (tables_1_5 ++ (tables_1_6 ++ (tables_1_7 ++ tables_1_8))))))) := List.mem_append_right _ (List.mem_append_right _ (List.mem_append_right _ (List.mem_append_right _ (List.mem_append_right _ (List.mem_append_right _ (List.mem_append_right _ (List.mem_append_left _ (List.mem_of_getElem? (i := 158) rfl))))))))
set_option maxRecDepth 20000 in
theorem mm_cw224 : mm_cwd 224 ∈ k2_sels lw_privs ++ (tables_1_1 ++ (tables_1_2 ++ (tables_1_3 ++ (tables_1_4 ++ (tables_1_5 ++ (tables_1_6 ++ (tables_1_7 ++ tables_1_8))))))) := List.mem_append_right _ (List.mem_append_right _ (List.mem_append_right _ (List.mem_append_right _ (List.mem_append_right _ (List.mem_append_right _ (List.mem_append_right _ (List.mem_append_left _ (List.mem_of_getElem? (i := 162) rfl))))))))
set_option maxRecDepth 20000 in
theorem mm_cw225 : mm_cwd 225 ∈ k2_sels lw_privs ++ (tables_1_1 ++ (tables_1_2 ++ (tables_1_3 ++ (tables_1_4 ++ (tables_1_5 ++ (tables_1_6 ++ (tables_1_7 ++ tables_1_8))))))) := List.mem_append_right _ (List.mem_append_right _ (List.mem_append_right _ (List.mem_append_right _ (List.mem_append_right _ (List.mem_append_right _ (List.mem_append_right _ (List.mem_append_left _ (List.mem_of_getElem? (i := 167) rfl))))))))
set_option maxRecDepth 20000 in
theorem mm_cw226 : mm_cwd 226 ∈ k2_sels lw_privs ++ (tables_1_1 ++ (tables_1_2 ++ (tables_1_3 ++ (tables_1_4 ++ (tables_1_5 ++ (tables_1_6 ++ (tables_1_7 ++ tables_1_8))))))) := List.mem_append_right _ (List.mem_append_right _ (List.mem_append_right _ (List.mem_append_right _ (List.mem_append_right _ (List.mem_append_right _ (List.mem_append_right _ (List.mem_append_left _ (List.mem_of_getElem? (i := 171) rfl))))))))
set_option maxRecDepth 20000 in
theorem mm_cw227 : mm_cwd 227 ∈ k2_sels lw_privs ++ (tables_1_1 ++ (tables_1_2 ++ (tables_1_3 ++ (tables_1_4 ++ (tables_1_5 ++ (tables_1_6 ++ (tables_1_7 ++ tables_1_8))))))) := List.mem_append_right _ (List.mem_append_right _ (List.mem_append_right _ (List.mem_append_right _ (List.mem_append_right _ (List.mem_append_right _ (List.mem_append_right _ (List.mem_append_left _ (List.mem_of_getElem? (i := 175) rfl))))))))
set_option maxRecDepth 20000 in
theorem mm_cw228 : mm_cwd 228 ∈ k2_sels lw_privs ++ (tables_1_1 ++ (tables_1_2 ++ (tables_1_3 ++ (tables_1_4 ++ (tables_1_5 ++ (tables_1_6 ++ (tables_1_7 ++ tables_1_8))))))) := List.mem_append_right _ (List.mem_append_right _ (List.mem_append_right _ (List.mem_append_right _ (List.mem_append_right _ (List.mem_append_right _ (List.mem_append_right _ (List.mem_append_left _ (List.mem_of_getElem? (i := 183) rfl))))))))
set_option maxRecDepth 20000 in
theorem mm_cw229 : mm_cwd 229 ∈ k2_sels lw_privs ++ (tables_1_1 ++ (tables_1_2 ++ (tables_1_3 ++ (tables_1_4 ++ (tables_1_5 ++ (tables_1_6 ++ (tables_1_7 ++ tables_1_8))))))) := List.mem_append_right _ (List.mem_append_right _ (List.mem_append_right _ (List.mem_append_right _ (List.mem_append_right _ (List.mem_append_right _ (List.mem_append_right _ (List.mem_append_left _ (List.mem_of_getElem? (i := 179) rfl))))))))
set_option maxRecDepth 20000 in
theorem mm_cw230 : mm_cwd 230 ∈ k2_sels lw_privs ++ (tables_1_1 ++ (tables_1_2 ++ (tables_1_3 ++ (tables_1_4 ++ (tables_1_5 ++ (tables_1_6 ++ (tables_1_7 ++ tables_1_8))))))) := List.mem_append_right _ (List.mem_append_right _ (List.mem_append_right _ (List.mem_append_right _ (List.mem_append_right _ (List.mem_append_right _ (List.mem_append_right _ (List.mem_append_left _ (List.mem_of_getElem? (i := 190) rfl))))))))
set_option maxRecDepth 20000 in
theorem mm_cw231 : mm_cwd 231 ∈ k2_sels lw_privs ++ (tables_1_1 ++ (tables_1_2 ++ (tables_1_3 ++ (tables_1_4 ++ (tables_1_5 ++ (tables_1_6 ++ (tables_1_7 ++ tables_1_8))))))) := List.mem_append_right _ (List.mem_append_right _ (List.mem_append_right _ (List.mem_append_right _ (List.mem_append_right _ (List.mem_append_right _ (List.mem_append_right _ (List.mem_append_left _ (List.mem_of_getElem? (i := 198) rfl))))))))
set_option maxRecDepth 20000 in
theorem mm_cw232 : mm_cwd 232 ∈ k2_sels lw_privs ++ (tables_1_1 ++ (tables_1_2 ++ (tables_1_3 ++ (tables_1_4 ++ (tables_1_5 ++ (tables_1_6 ++ (tables_1_7 ++ tables_1_8))))))) := List.mem_append_right _ (List.mem_append_right _ (List.mem_append_right _ (List.mem_append_right _ (List.mem_append_right _ (List.mem_append_right _ (List.mem_append_right _ (List.mem_append_left _ (List.mem_of_getElem? (i := 194) rfl))))))))
set_option maxRecDepth 20000 in
theorem mm_cw233 : mm_cwd 233 ∈ k2_sels lw_privs ++ (tables_1_1 ++ (tables_1_2 ++ (tables_1_3 ++ (tables_1_4 ++ (tables_1_5 ++ (tables_1_6 ++ (tables_1_7 ++ tables_1_8))))))) := List.mem_append_right _ (List.mem_append_right _ (List.mem_append_right _ (List.mem_append_right _ (List.mem_append_right _ (List.mem_append_right _ (List.mem_append_right _ (List.mem_append_left _ (List.mem_of_getElem? (i := 206) rfl))))))))
set_option maxRecDepth 20000 in
theorem mm_cw234 : mm_cwd 234 ∈ k2_sels lw_privs ++ (tables_1_1 ++ (tables_1_2 ++ (tables_1_3 ++ (tables_1_4 ++ (tables_1_5 ++ (tables_1_6 ++ (tables_1_7 ++ tables_1_8))))))) := List.mem_append_right _ (List.mem_append_right _ (List.mem_append_right _ (List.mem_append_right _ (List.mem_append_right _ (List.mem_append_right _ (List.mem_append_right _ (List.mem_append_left _ (List.mem_of_getElem? (i := 202) rfl))))))))
set_option maxRecDepth 20000 in
theorem mm_cw235 : mm_cwd 235 ∈ k2_sels lw_privs ++ (tables_1_1 ++ (tables_1_2 ++ (tables_1_3 ++ (tables_1_4 ++ (tables_1_5 ++ (tables_1_6 ++ (tables_1_7 ++ tables_1_8))))))) := List.mem_append_right _ (List.mem_append_right _ (List.mem_append_right _ (List.mem_append_right _ (List.mem_append_right _ (List.mem_append_right _ (List.mem_append_right _ (List.mem_append_left _ (List.mem_of_getElem? (i := 214) rfl))))))))
set_option maxRecDepth 20000 in
theorem mm_cw236 : mm_cwd 236 ∈ k2_sels lw_privs ++ (tables_1_1 ++ (tables_1_2 ++ (tables_1_3 ++ (tables_1_4 ++ (tables_1_5 ++ (tables_1_6 ++ (tables_1_7 ++ tables_1_8))))))) := List.mem_append_right _ (List.mem_append_right _ (List.mem_append_right _ (List.mem_append_right _ (List.mem_append_right _ (List.mem_append_right _ (List.mem_append_right _ (List.mem_append_left _ (List.mem_of_getElem? (i := 219) rfl))))))))
set_option maxRecDepth 20000 in
theorem mm_cw237 : mm_cwd 237 ∈ k2_sels lw_privs ++ (tables_1_1 ++ (tables_1_2 ++ (tables_1_3 ++ (tables_1_4 ++ (tables_1_5 ++ (tables_1_6 ++ (tables_1_7 ++ tables_1_8))))))) := List.mem_append_right _ (List.mem_append_right _ (List.mem_append_right _ (List.mem_append_right _ (List.mem_append_right _ (List.mem_append_right _ (List.mem_append_right _ (List.mem_append_left _ (List.mem_of_getElem? (i := 210) rfl))))))))
set_option maxRecDepth 20000 in
theorem mm_cw238 : mm_cwd 238 ∈ k2_sels lw_privs ++ (tables_1_1 ++ (tables_1_2 ++ (tables_1_3 ++ (tables_1_4 ++ (tables_1_5 ++ (tables_1_6 ++ (tables_1_7 ++ tables_1_8))))))) := List.mem_append_right _ (List.mem_append_right _ (List.mem_append_right _ (List.mem_append_right _ (List.mem_append_right _ (List.mem_append_right _ (List.mem_append_right _ (List.mem_append_left _ (List.mem_of_getElem? (i := 223) rfl))))))))
set_option maxRecDepth 20000 in
theorem mm_cw239 : mm_cwd 239 ∈ k2_sels lw_privs ++ (tables_1_1 ++ (tables_1_2 ++ (tables_1_3 ++ (tables_1_4 ++ (tables_1_5 ++ (tables_1_6 ++ (tables_1_7 ++ tables_1_8))))))) := List.mem_append_right _ (List.mem_append_right _ (List.mem_append_right _ (List.mem_append_right _ (List.mem_append_right _ (List.mem_append_right _ (List.mem_append_right _ (List.mem_append_left _ (List.mem_of_getElem? (i := 227) rfl))))))))
set_option maxRecDepth 20000 in
theorem mm_cw240 : mm_cwd 240 ∈ k2_sels lw_privs ++ (tables_1_1 ++ (tables_1_2 ++ (tables_1_3 ++ (tables_1_4 ++ (tables_1_5 ++ (tables_1_6 ++ (tables_1_7 ++ tables_1_8))))))) := List.mem_append_right _ (List.mem_append_right _ (List.mem_append_right _ (List.mem_append_right _ (List.mem_append_right _ (List.mem_append_right _ (List.mem_append_right _ (List.mem_append_left _ (List.mem_of_getElem? (i := 231) rfl))))))))
set_option maxRecDepth 20000 in
theorem mm_cw241 : mm_cwd 241 ∈ k2_sels lw_privs ++ (tables_1_1 ++ (tables_1_2 ++ (tables_1_3 ++ (tables_1_4 ++ (tables_1_5 ++ (tables_1_6 ++ (tables_1_7 ++ tables_1_8))))))) := List.mem_append_right _ (List.mem_append_right _ (List.mem_append_right _ (List.mem_append_right _ (List.mem_append_right _ (List.mem_append_right _ (List.mem_append_right _ (List.mem_append_left _ (List.mem_of_getElem? (i := 235) rfl))))))))
set_option maxRecDepth 20000 in
theorem mm_cw242 : mm_cwd 242 ∈ k2_sels lw_privs ++ (tables_1_1 ++ (tables_1_2 ++ (tables_1_3 ++ (tables_1_4 ++ (tables_1_5 ++ (tables_1_6 ++ (tables_1_7 ++ tables_1_8))))))) := List.mem_append_right _ (List.mem_append_right _ (List.mem_append_right _ (List.mem_append_right _ (List.mem_append_right _ (List.mem_append_right _ (List.mem_append_right _ (List.mem_append_left _ (List.mem_of_getElem? (i := 239) rfl))))))))
set_option maxRecDepth 20000 in
theorem mm_cw243 : mm_cwd 243 ∈ k2_sels lw_privs ++ (tables_1_1 ++ (tables_1_2 ++ (tables_1_3 ++ (tables_1_4 ++ (tables_1_5 ++ (tables_1_6 ++ (tables_1_7 ++ tables_1_8))))))) := List.mem_append_right _ (List.mem_append_right _ (List.mem_append_right _ (List.mem_append_right _ (List.mem_append_right _ (List.mem_append_right _ (List.mem_append_right _ (List.mem_append_right _ (List.mem_of_getElem? (i := 3) rfl))))))))
set_option maxRecDepth 20000 in
theorem mm_cw244 : mm_cwd 244 ∈ k2_sels lw_privs ++ (tables_1_1 ++ (tables_1_2 ++ (tables_1_3 ++ (tables_1_4 ++ (tables_1_5 ++ (tables_1_6 ++ (tables_1_7 ++ tables_1_8))))))) := List.mem_append_right _ (List.mem_append_right _ (List.mem_append_right _ (List.mem_append_right _ (List.mem_append_right _ (List.mem_append_right _ (List.mem_append_right _ (List.mem_append_right _ (List.mem_of_getElem? (i := 7) rfl))))))))
set_option maxRecDepth 20000 in
theorem mm_cw245 : mm_cwd 245 ∈ k2_sels lw_privs ++ (tables_1_1 ++ (tables_1_2 ++ (tables_1_3 ++ (tables_1_4 ++ (tables_1_5 ++ (tables_1_6 ++ (tables_1_7 ++ tables_1_8))))))) := List.mem_append_right _ (List.mem_append_right _ (List.mem_append_right _ (List.mem_append_right _ (List.mem_append_right _ (List.mem_append_right _ (List.mem_append_right _ (List.mem_append_right _ (List.mem_of_getElem? (i := 11) rfl))))))))
set_option maxRecDepth 20000 in
theorem mm_cw246 : mm_cwd 246 ∈ k2_sels lw_privs ++ (tables_1_1 ++ (tables_1_2 ++ (tables_1_3 ++ (tables_1_4 ++ (tables_1_5 ++ (tables_1_6 ++ (tables_1_7 ++ tables_1_8))))))) := List.mem_append_right _ (List.mem_append_right _ (List.mem_append_right _ (List.mem_append_right _ (List.mem_append_right _ (List.mem_append_right _ (List.mem_append_right _ (List.mem_append_right _ (List.mem_of_getElem? (i := 15) rfl))))))))
set_option maxRecDepth 20000 in
theorem mm_cw247 : mm_cwd 247 ∈ k2_sels lw_privs ++ (tables_1_1 ++ (tables_1_2 ++ (tables_1_3 ++ (tables_1_4 ++ (tables_1_5 ++ (tables_1_6 ++ (tables_1_7 ++ tables_1_8))))))) := List.mem_append_right _ (List.mem_append_right _ (List.mem_append_right _ (List.mem_append_right _ (List.mem_append_right _ (List.mem_append_right _ (List.mem_append_right _ (List.mem_append_right _ (List.mem_of_getElem? (i := 19) rfl))))))))
set_option maxRecDepth 20000 in
theorem mm_cw248 : mm_cwd 248 ∈ k2_sels lw_privs ++ (tables_1_1 ++ (tables_1_2 ++ (tables_1_3 ++ (tables_1_4 ++ (tables_1_5 ++ (tables_1_6 ++ (tables_1_7 ++ tables_1_8))))))) := List.mem_append_right _ (List.mem_append_right _ (List.mem_append_right _ (List.mem_append_right _ (List.mem_append_right _ (List.mem_append_right _ (List.mem_append_right _ (List.mem_append_right _ (List.mem_of_getElem? (i := 23) rfl))))))))
set_option maxRecDepth 20000 in
theorem mm_cw249 : mm_cwd 249 ∈ k2_sels lw_privs ++ (tables_1_1 ++ (tables_1_2 ++ (tables_1_3 ++ (tables_1_4 ++ (tables_1_5 ++ (tables_1_6 ++ (tables_1_7 ++ tables_1_8))))))) := List.mem_append_right _ (List.mem_append_right _ (List.mem_append_right _ (List.mem_append_left _ (List.mem_of_getElem? (i := 5) rfl))))
set_option maxRecDepth 20000 in
theorem mm_cw250 : mm_cwd 250 ∈ k2_sels lw_privs ++ (tables_1_1 ++ (tables_1_2 ++ (tables_1_3 ++ (tables_1_4 ++ (tables_1_5 ++ (tables_1_6 ++ (tables_1_7 ++ tables_1_8))))))) := List.mem_append_right _ (List.mem_append_right _ (List.mem_append_right _ (List.mem_append_right _ (List.mem_append_left _ (List.mem_of_getElem? (i := 21) rfl)))))
set_option maxRecDepth 20000 in
theorem mm_cw251 : mm_cwd 251 ∈ k2_sels lw_privs ++ (tables_1_1 ++ (tables_1_2 ++ (tables_1_3 ++ (tables_1_4 ++ (tables_1_5 ++ (tables_1_6 ++ (tables_1_7 ++ tables_1_8))))))) := List.mem_append_right _ (List.mem_append_right _ (List.mem_append_right _ (List.mem_append_right _ (List.mem_append_left _ (List.mem_of_getElem? (i := 45) rfl)))))
set_option maxRecDepth 20000 in
theorem mm_cw252 : mm_cwd 252 ∈ k2_sels lw_privs ++ (tables_1_1 ++ (tables_1_2 ++ (tables_1_3 ++ (tables_1_4 ++ (tables_1_5 ++ (tables_1_6 ++ (tables_1_7 ++ tables_1_8))))))) := List.mem_append_right _ (List.mem_append_right _ (List.mem_append_right _ (List.mem_append_right _ (List.mem_append_left _ (List.mem_of_getElem? (i := 63) rfl)))))
set_option maxRecDepth 20000 in
theorem mm_cw253 : mm_cwd 253 ∈ k2_sels lw_privs ++ (tables_1_1 ++ (tables_1_2 ++ (tables_1_3 ++ (tables_1_4 ++ (tables_1_5 ++ (tables_1_6 ++ (tables_1_7 ++ tables_1_8))))))) := List.mem_append_right _ (List.mem_append_right _ (List.mem_append_right _ (List.mem_append_right _ (List.mem_append_left _ (List.mem_of_getElem? (i := 85) rfl)))))
set_option maxRecDepth 20000 in
theorem mm_cw254 : mm_cwd 254 ∈ k2_sels lw_privs ++ (tables_1_1 ++ (tables_1_2 ++ (tables_1_3 ++ (tables_1_4 ++ (tables_1_5 ++ (tables_1_6 ++ (tables_1_7 ++ tables_1_8))))))) := List.mem_append_right _ (List.mem_append_right _ (List.mem_append_right _ (List.mem_append_right _ (List.mem_append_left _ (List.mem_of_getElem? (i := 92) rfl)))))
set_option maxRecDepth 20000 in
theorem mm_cw255 : mm_cwd 255 ∈ k2_sels lw_privs ++ (tables_1_1 ++ (tables_1_2 ++ (tables_1_3 ++ (tables_1_4 ++ (tables_1_5 ++ (tables_1_6 ++ (tables_1_7 ++ tables_1_8))))))) := List.mem_append_right _ (List.mem_append_right _ (List.mem_append_right _ (List.mem_append_right _ (List.mem_append_left _ (List.mem_of_getElem? (i := 104) rfl)))))
set_option maxRecDepth 20000 in
theorem mm_cw256 : mm_cwd 256 ∈ k2_sels lw_privs ++ (tables_1_1 ++ (tables_1_2 ++ (tables_1_3 ++ (tables_1_4 ++ (tables_1_5 ++ (tables_1_6 ++ (tables_1_7 ++ tables_1_8))))))) := List.mem_append_right _ (List.mem_append_right _ (List.mem_append_right _ (List.mem_append_right _ (List.mem_append_left _ (List.mem_of_getElem? (i := 116) rfl)))))
set_option maxRecDepth 20000 in
theorem mm_cw257 : mm_cwd 257 ∈ k2_sels lw_privs ++ (tables_1_1 ++ (tables_1_2 ++ (tables_1_3 ++ (tables_1_4 ++ (tables_1_5 ++ (tables_1_6 ++ (tables_1_7 ++ tables_1_8))))))) := List.mem_append_right _ (List.mem_append_right _ (List.mem_append_right _ (List.mem_append_right _ (List.mem_append_left _ (List.mem_of_getElem? (i := 123) rfl)))))
set_option maxRecDepth 20000 in
theorem mm_cw258 : mm_cwd 258 ∈ k2_sels lw_privs ++ (tables_1_1 ++ (tables_1_2 ++ (tables_1_3 ++ (tables_1_4 ++ (tables_1_5 ++ (tables_1_6 ++ (tables_1_7 ++ tables_1_8))))))) := List.mem_append_right _ (List.mem_append_right _ (List.mem_append_right _ (List.mem_append_right _ (List.mem_append_left _ (List.mem_of_getElem? (i := 134) rfl)))))
set_option maxRecDepth 20000 in
theorem mm_cw259 : mm_cwd 259 ∈ k2_sels lw_privs ++ (tables_1_1 ++ (tables_1_2 ++ (tables_1_3 ++ (tables_1_4 ++ (tables_1_5 ++ (tables_1_6 ++ (tables_1_7 ++ tables_1_8))))))) := List.mem_append_right _ (List.mem_append_right _ (List.mem_append_right _ (List.mem_append_right _ (List.mem_append_left _ (List.mem_of_getElem? (i := 141) rfl)))))
set_option maxRecDepth 20000 in
theorem mm_cw260 : mm_cwd 260 ∈ k2_sels lw_privs ++ (tables_1_1 ++ (tables_1_2 ++ (tables_1_3 ++ (tables_1_4 ++ (tables_1_5 ++ (tables_1_6 ++ (tables_1_7 ++ tables_1_8))))))) := List.mem_append_right _ (List.mem_append_right _ (List.mem_append_right _ (List.mem_append_right _ (List.mem_append_left _ (List.mem_of_getElem? (i := 158) rfl)))))
set_option maxRecDepth 20000 in
theorem mm_cw261 : mm_cwd 261 ∈ k2_sels lw_privs ++ (tables_1_1 ++ (tables_1_2 ++ (tables_1_3 ++ (tables_1_4 ++ (tables_1_5 ++ (tables_1_6 ++ (tables_1_7 ++ tables_1_8))))))) := List.mem_append_right _ (List.mem_append_right _ (List.mem_append_right _ (List.mem_append_right _ (List.mem_append_left _ (List.mem_of_getElem? (i := 177) rfl)))))
set_option maxRecDepth 20000 in
theorem mm_cw262 : mm_cwd 262 ∈ k2_sels lw_privs ++ (tables_1_1 ++ (tables_1_2 ++ (tables_1_3 ++ (tables_1_4 ++ (tables_1_5 ++ (tables_1_6 ++ (tables_1_7 ++ tables_1_8))))))) := List.mem_append_right _ (List.mem_append_right _ (List.mem_append_right _ (List.mem_append_right _ (List.mem_append_left _ (List.mem_of_getElem? (i := 185) rfl)))))
set_option maxRecDepth 20000 in
theorem mm_cw263 : mm_cwd 263 ∈ k2_sels lw_privs ++ (tables_1_1 ++ (tables_1_2 ++ (tables_1_3 ++ (tables_1_4 ++ (tables_1_5 ++ (tables_1_6 ++ (tables_1_7 ++ tables_1_8))))))) := List.mem_append_right _ (List.mem_append_right _ (List.mem_append_right _ (List.mem_append_right _ (List.mem_append_left _ (List.mem_of_getElem? (i := 192) rfl)))))
set_option maxRecDepth 20000 in
theorem mm_cw264 : mm_cwd 264 ∈ k2_sels lw_privs ++ (tables_1_1 ++ (tables_1_2 ++ (tables_1_3 ++ (tables_1_4 ++ (tables_1_5 ++ (tables_1_6 ++ (tables_1_7 ++ tables_1_8))))))) := List.mem_append_right _ (List.mem_append_right _ (List.mem_append_right _ (List.mem_append_right _ (List.mem_append_left _ (List.mem_of_getElem? (i := 200) rfl)))))
set_option maxRecDepth 20000 in
theorem mm_cw265 : mm_cwd 265 ∈ k2_sels lw_privs ++ (tables_1_1 ++ (tables_1_2 ++ (tables_1_3 ++ (tables_1_4 ++ (tables_1_5 ++ (tables_1_6 ++ (tables_1_7 ++ tables_1_8))))))) := List.mem_append_right _ (List.mem_append_right _ (List.mem_append_right _ (List.mem_append_right _ (List.mem_append_left _ (List.mem_of_getElem? (i := 221) rfl)))))
set_option maxRecDepth 20000 in
theorem mm_cw266 : mm_cwd 266 ∈ k2_sels lw_privs ++ (tables_1_1 ++ (tables_1_2 ++ (tables_1_3 ++ (tables_1_4 ++ (tables_1_5 ++ (tables_1_6 ++ (tables_1_7 ++ tables_1_8))))))) := List.mem_append_right _ (List.mem_append_right _ (List.mem_append_right _ (List.mem_append_right _ (List.mem_append_left _ (List.mem_of_getElem? (i := 230) rfl)))))
set_option maxRecDepth 20000 in
theorem mm_cw267 : mm_cwd 267 ∈ k2_sels lw_privs ++ (tables_1_1 ++ (tables_1_2 ++ (tables_1_3 ++ (tables_1_4 ++ (tables_1_5 ++ (tables_1_6 ++ (tables_1_7 ++ tables_1_8))))))) := List.mem_append_right _ (List.mem_append_right _ (List.mem_append_right _ (List.mem_append_right _ (List.mem_append_right _ (List.mem_append_left _ (List.mem_of_getElem? (i := 1) rfl))))))
set_option maxRecDepth 20000 in
theorem mm_cw268 : mm_cwd 268 ∈ k2_sels lw_privs ++ (tables_1_1 ++ (tables_1_2 ++ (tables_1_3 ++ (tables_1_4 ++ (tables_1_5 ++ (tables_1_6 ++ (tables_1_7 ++ tables_1_8))))))) := List.mem_append_right _ (List.mem_append_right _ (List.mem_append_right _ (List.mem_append_right _ (List.mem_append_right _ (List.mem_append_left _ (List.mem_of_getElem? (i := 23) rfl))))))
set_option maxRecDepth 20000 in
theorem mm_cw269 : mm_cwd 269 ∈ k2_sels lw_privs ++ (tables_1_1 ++ (tables_1_2 ++ (tables_1_3 ++ (tables_1_4 ++ (tables_1_5 ++ (tables_1_6 ++ (tables_1_7 ++ tables_1_8))))))) := List.mem_append_right _ (List.mem_append_right _ (List.mem_append_right _ (List.mem_append_right _ (List.mem_append_right _ (List.mem_append_left _ (List.mem_of_getElem? (i := 35) rfl))))))
set_option maxRecDepth 20000 in
theorem mm_cw270 : mm_cwd 270 ∈ k2_sels lw_privs ++ (tables_1_1 ++ (tables_1_2 ++ (tables_1_3 ++ (tables_1_4 ++ (tables_1_5 ++ (tables_1_6 ++ (tables_1_7 ++ tables_1_8))))))) := List.mem_append_right _ (List.mem_append_right _ (List.mem_append_right _ (List.mem_append_right _ (List.mem_append_right _ (List.mem_append_left _ (List.mem_of_getElem? (i := 52) rfl))))))
set_option maxRecDepth 20000 in
theorem mm_cw271 : mm_cwd 271 ∈ k2_sels lw_privs ++ (tables_1_1 ++ (tables_1_2 ++ (tables_1_3 ++ (tables_1_4 ++ (tables_1_5 ++ (tables_1_6 ++ (tables_1_7 ++ tables_1_8))))))) := List.mem_append_right _ (List.mem_append_right _ (List.mem_append_right _ (List.mem_append_right _ (List.mem_append_right _ (List.mem_append_left _ (List.mem_of_getElem? (i := 67) rfl))))))
set_option maxRecDepth 20000 in
theorem mm_cw272 : mm_cwd 272 ∈ k2_sels lw_privs ++ (tables_1_1 ++ (tables_1_2 ++ (tables_1_3 ++ (tables_1_4 ++ (tables_1_5 ++ (tables_1_6 ++ (tables_1_7 ++ tables_1_8))))))) := List.mem_append_right _ (List.mem_append_right _ (List.mem_append_right _ (List.mem_append_right _ (List.mem_append_right _ (List.mem_append_left _ (List.mem_of_getElem? (i := 74) rfl))))))
set_option maxRecDepth 20000 in
theorem mm_cw273 : mm_cwd 273 ∈ k2_sels lw_privs ++ (tables_1_1 ++ (tables_1_2 ++ (tables_1_3 ++ (tables_1_4 ++ (tables_1_5 ++ (tables_1_6 ++ (tables_1_7 ++ tables_1_8))))))) := List.mem_append_right _ (List.mem_append_right _ (List.mem_append_right _ (List.mem_append_right _ (List.mem_append_right _ (List.mem_append_left _ (List.mem_of_getElem? (i := 86) rfl))))))
set_option maxRecDepth 20000 in
theorem mm_cw274 : mm_cwd 274 ∈ k2_sels lw_privs ++ (tables_1_1 ++ (tables_1_2 ++ (tables_1_3 ++ (tables_1_4 ++ (tables_1_5 ++ (tables_1_6 ++ (tables_1_7 ++ tables_1_8))))))) := List.mem_append_right _ (List.mem_append_right _ (List.mem_append_right _ (List.mem_append_right _ (List.mem_append_right _ (List.mem_append_left _ (List.mem_of_getElem? (i := 93) rfl))))))
set_option maxRecDepth 20000 in
theorem mm_cw275 : mm_cwd 275 ∈ k2_sels lw_privs ++ (tables_1_1 ++ (tables_1_2 ++ (tables_1_3 ++ (tables_1_4 ++ (tables_1_5 ++ (tables_1_6 ++ (tables_1_7 ++ tables_1_8))))))) := List.mem_append_right _ (List.mem_append_right _ (List.mem_append_right _ (List.mem_append_right _ (List.mem_append_right _ (List.mem_append_left _ (List.mem_of_getElem? (i := 100) rfl))))))
set_option maxRecDepth 20000 in
theorem mm_cw276 : mm_cwd 276 ∈ k2_sels lw_privs ++ (tables_1_1 ++ (tables_1_2 ++ (tables_1_3 ++ (tables_1_4 ++ (tables_1_5 ++ (tables_1_6 ++ (tables_1_7 ++ tables_1_8))))))) := List.mem_append_right _ (List.mem_append_right _ (List.mem_append_right _ (List.mem_append_right _ (List.mem_append_right _ (List.mem_append_left _ (List.mem_of_getElem? (i := 107) rfl))))))
set_option maxRecDepth 20000 in
theorem mm_cw277 : mm_cwd 277 ∈ k2_sels lw_privs ++ (tables_1_1 ++ (tables_1_2 ++ (tables_1_3 ++ (tables_1_4 ++ (tables_1_5 ++ (tables_1_6 ++ (tables_1_7 ++ tables_1_8))))))) := List.mem_append_right _ (List.mem_append_right _ (List.mem_append_right _ (List.mem_append_right _ (List.mem_append_right _ (List.mem_append_left _ (List.mem_of_getElem? (i := 114) rfl))))))
set_option maxRecDepth 20000 in
theorem mm_cw278 : mm_cwd 278 ∈ k2_sels lw_privs ++ (tables_1_1 ++ (tables_1_2 ++ (tables_1_3 ++ (tables_1_4 ++ (tables_1_5 ++ (tables_1_6 ++ (tables_1_7 ++ tables_1_8))))))) := List.mem_append_right _ (List.mem_append_right _ (List.mem_append_right _ (List.mem_append_right _ (List.mem_append_right _ (List.mem_append_left _ (List.mem_of_getElem? (i := 121) rfl))))))
theorem mm_cwc0 {k : Nat} (h : 0 ≤ k) (h2 : k < 20) : mm_cwd k ∈ mm_TB := by
  have h3 : k = 0 ∨ k = 1 ∨ k = 2 ∨ k = 3 ∨ k = 4 ∨ k = 5 ∨ k = 6 ∨ k = 7 ∨ k = 8 ∨ k = 9 ∨ k = 10 ∨ k = 11 ∨ k = 12 ∨ k = 13 ∨ k = 14 ∨ k = 15 ∨ k = 16 ∨ k = 17 ∨ k = 18 ∨ k = 19 := by omega
  rcases h3 with rfl | rfl | rfl | rfl | rfl | rfl | rfl | rfl | rfl | rfl | rfl | rfl | rfl | rfl | rfl | rfl | rfl | rfl | rfl | rfl
  · exact List.mem_filter.mpr ⟨mm_cw0, mm_cwG 0⟩
  · exact List.mem_filter.mpr ⟨mm_cw1, mm_cwG 1⟩
  · exact List.mem_filter.mpr ⟨mm_cw2, mm_cwG 2⟩
  · exact List.mem_filter.mpr ⟨mm_cw3, mm_cwG 3⟩
  · exact List.mem_filter.mpr ⟨mm_cw4, mm_cwG 4⟩
  · exact List.mem_filter.mpr ⟨mm_cw5, mm_cwG 5⟩
  · exact List.mem_filter.mpr ⟨mm_cw6, mm_cwG 6⟩
  · exact List.mem_filter.mpr ⟨mm_cw7, mm_cwG 7⟩
  · exact List.mem_filter.mpr ⟨mm_cw8, mm_cwG 8⟩
  · exact List.mem_filter.mpr ⟨mm_cw9, mm_cwG 9⟩
  · exact List.mem_filter.mpr ⟨mm_cw10, mm_cwG 10⟩
  · exact List.mem_filter.mpr ⟨mm_cw11, mm_cwG 11⟩
  · exact List.mem_filter.mpr ⟨mm_cw12, mm_cwG 12⟩
  · exact List.mem_filter.mpr ⟨mm_cw13, mm_cwG 13⟩
  · exact List.mem_filter.mpr ⟨mm_cw14, mm_cwG 14⟩
  · exact List.mem_filter.mpr ⟨mm_cw15, mm_cwG 15⟩
  · exact List.mem_filter.mpr ⟨mm_cw16, mm_cwG 16⟩
  · exact List.mem_filter.mpr ⟨mm_cw17, mm_cwG 17⟩
  · exact List.mem_filter.mpr ⟨mm_cw18, mm_cwG 18⟩
  · exact List.mem_filter.mpr ⟨mm_cw19, mm_cwG 19⟩
theorem mm_cwc20 {k : Nat} (h : 20 ≤ k) (h2 : k < 40) : mm_cwd k ∈ mm_TB := by
  have h3 : k = 20 ∨ k = 21 ∨ k = 22 ∨ k = 23 ∨ k = 24 ∨ k = 25 ∨ k = 26 ∨ k = 27 ∨ k = 28 ∨ k = 29 ∨ k = 30 ∨ k = 31 ∨ k = 32 ∨ k = 33 ∨ k = 34 ∨ k = 35 ∨ k = 36 ∨ k = 37 ∨ k = 38 ∨ k = 39 := by omega
  rcases h3 with rfl | rfl | rfl | rfl | rfl | rfl | rfl | rfl | rfl | rfl | rfl | rfl | rfl | rfl | rfl | rfl | rfl | rfl | rfl | rfl
  · exact List.mem_filter.mpr ⟨mm_cw20, mm_cwG 20⟩
  · exact List.mem_filter.mpr ⟨mm_cw21, mm_cwG 21⟩
  · exact List.mem_filter.mpr ⟨mm_cw22, mm_cwG 22⟩
  · exact List.mem_filter.mpr ⟨mm_cw23, mm_cwG 23⟩
  · exact List.mem_filter.mpr ⟨mm_cw24, mm_cwG 24⟩
  · exact List.mem_filter.mpr ⟨mm_cw25, mm_cwG 25⟩
  · exact List.mem_filter.mpr ⟨mm_cw26, mm_cwG 26⟩
  · exact List.mem_filter.mpr ⟨mm_cw27, mm_cwG 27⟩
  · exact List.mem_filter.mpr ⟨mm_cw28, mm_cwG 28⟩
  · exact List.mem_filter.mpr ⟨mm_cw29, mm_cwG 29⟩
  · exact List.mem_filter.mpr ⟨mm_cw30, mm_cwG 30⟩
  · exact List.mem_filter.mpr ⟨mm_cw31, mm_cwG 31⟩
  · exact List.mem_filter.mpr ⟨mm_cw32, mm_cwG 32⟩
  · exact List.mem_filter.mpr ⟨mm_cw33, mm_cwG 33⟩
  · exact List.mem_filter.mpr ⟨mm_cw34, mm_cwG 34⟩
  · exact List.mem_filter.mpr ⟨mm_cw35, mm_cwG 35⟩
  · exact List.mem_filter.mpr ⟨mm_cw36, mm_cwG 36⟩
  · exact List.mem_filter.mpr ⟨mm_cw37, mm_cwG 37⟩
  · exact List.mem_filter.mpr ⟨mm_cw38, mm_cwG 38⟩
  · exact List.mem_filter.mpr ⟨mm_cw39, mm_cwG 39⟩
theorem mm_cwc40 {k : Nat} (h : 40 ≤ k) (h2 : k < 60) : mm_cwd k ∈ mm_TB := by
  have h3 : k = 40 ∨ k = 41 ∨ k = 42 ∨ k = 43 ∨ k = 44 ∨ k = 45 ∨ k = 46 ∨ k = 47 ∨ k = 48 ∨ k = 49 ∨ k = 50 ∨ k = 51 ∨ k = 52 ∨ k = 53 ∨ k = 54 ∨ k = 55 ∨ k = 56 ∨ k = 57 ∨ k = 58 ∨ k = 59 := by omega
  rcases h3 with rfl | rfl | rfl | rfl | rfl | rfl | rfl | rfl | rfl | rfl | rfl | rfl | rfl | rfl | rfl | rfl | rfl | rfl | rfl | rfl
  · exact List.mem_filter.mpr ⟨mm_cw40, mm_cwG 40⟩
  · exact List.mem_filter.mpr ⟨mm_cw41, mm_cwG 41⟩
  · exact List.mem_filter.mpr ⟨mm_cw42, mm_cwG 42⟩
  · exact List.mem_filter.mpr ⟨mm_cw43, mm_cwG 43⟩
  · exact List.mem_filter.mpr ⟨mm_cw44, mm_cwG 44⟩
  · exact List.mem_filter.mpr ⟨mm_cw45, mm_cwG 45⟩
  · exact List.mem_filter.mpr ⟨mm_cw46, mm_cwG 46⟩
  · exact List.mem_filter.mpr ⟨mm_cw47, mm_cwG 47⟩
  · exact List.mem_filter.mpr ⟨mm_cw48, mm_cwG 48⟩
  · exact List.mem_filter.mpr ⟨mm_cw49, mm_cwG 49⟩
  · exact List.mem_filter.mpr ⟨mm_cw50, mm_cwG 50⟩
  · exact List.mem_filter.mpr ⟨mm_cw51, mm_cwG 51⟩
  · exact List.mem_filter.mpr ⟨mm_cw52, mm_cwG 52⟩
  · exact List.mem_filter.mpr ⟨mm_cw53, mm_cwG 53⟩
  · exact List.mem_filter.mpr ⟨mm_cw54, mm_cwG 54⟩
  · exact List.mem_filter.mpr ⟨mm_cw55, mm_cwG 55⟩
  · exact List.mem_filter.mpr ⟨mm_cw56, mm_cwG 56⟩
  · exact List.mem_filter.mpr ⟨mm_cw57, mm_cwG 57⟩
  · exact List.mem_filter.mpr ⟨mm_cw58, mm_cwG 58⟩
  · exact List.mem_filter.mpr ⟨mm_cw59, mm_cwG 59⟩
theorem mm_cwc60 {k : Nat} (h : 60 ≤ k) (h2 : k < 80) : mm_cwd k ∈ mm_TB := by
  have h3 : k = 60 ∨ k = 61 ∨ k = 62 ∨ k = 63 ∨ k = 64 ∨ k = 65 ∨ k = 66 ∨ k = 67 ∨ k = 68 ∨ k = 69 ∨ k = 70 ∨ k = 71 ∨ k = 72 ∨ k = 73 ∨ k = 74 ∨ k = 75 ∨ k = 76 ∨ k = 77 ∨ k = 78 ∨ k = 79 := by omega
  rcases h3 with rfl | rfl | rfl | rfl | rfl | rfl | rfl | rfl | rfl | rfl | rfl | rfl | rfl | rfl | rfl | rfl | rfl | rfl | rfl | rfl
  · exact List.mem_filter.mpr ⟨mm_cw60, mm_cwG 60⟩
  · exact List.mem_filter.mpr ⟨mm_cw61, mm_cwG 61⟩
  · exact List.mem_filter.mpr ⟨mm_cw62, mm_cwG 62⟩
  · exact List.mem_filter.mpr ⟨mm_cw63, mm_cwG 63⟩
  · exact List.mem_filter.mpr ⟨mm_cw64, mm_cwG 64⟩
  · exact List.mem_filter.mpr ⟨mm_cw65, mm_cwG 65⟩
  · exact List.mem_filter.mpr ⟨mm_cw66, mm_cwG 66⟩
  · exact List.mem_filter.mpr ⟨mm_cw67, mm_cwG 67⟩
  · exact List.mem_filter.mpr ⟨mm_cw68, mm_cwG 68⟩
  · exact List.mem_filter.mpr ⟨mm_cw69, mm_cwG 69⟩
  · exact List.mem_filter.mpr ⟨mm_cw70, mm_cwG 70⟩
  · exact List.mem_filter.mpr ⟨mm_cw71, mm_cwG 71⟩
  · exact List.mem_filter.mpr ⟨mm_cw72, mm_cwG 72⟩
  · exact List.mem_filter.mpr ⟨mm_cw73, mm_cwG 73⟩
  · exact List.mem_filter.mpr ⟨mm_cw74, mm_cwG 74⟩
  · exact List.mem_filter.mpr ⟨mm_cw75, mm_cwG 75⟩
  · exact List.mem_filter.mpr ⟨mm_cw76, mm_cwG 76⟩
  · exact List.mem_filter.mpr ⟨mm_cw77, mm_cwG 77⟩
  · exact List.mem_filter.mpr ⟨mm_cw78, mm_cwG 78⟩
  · exact List.mem_filter.mpr ⟨mm_cw79, mm_cwG 79⟩
theorem mm_cwc80 {k : Nat} (h : 80 ≤ k) (h2 : k < 100) : mm_cwd k ∈ mm_TB := by
  have h3 : k = 80 ∨ k = 81 ∨ k = 82 ∨ k = 83 ∨ k = 84 ∨ k = 85 ∨ k = 86 ∨ k = 87 ∨ k = 88 ∨ k = 89 ∨ k = 90 ∨ k = 91 ∨ k = 92 ∨ k = 93 ∨ k = 94 ∨ k = 95 ∨ k = 96 ∨ k = 97 ∨ k = 98 ∨ k = 99 := by omega
  rcases h3 with rfl | rfl | rfl | rfl | rfl | rfl | rfl | rfl | rfl | rfl | rfl | rfl | rfl | rfl | rfl | rfl | rfl | rfl | rfl | rfl
  · exact List.mem_filter.mpr ⟨mm_cw80, mm_cwG 80⟩
  · exact List.mem_filter.mpr ⟨mm_cw81, mm_cwG 81⟩
  · exact List.mem_filter.mpr ⟨mm_cw82, mm_cwG 82⟩
  · exact List.mem_filter.mpr ⟨mm_cw83, mm_cwG 83⟩
  · exact List.mem_filter.mpr ⟨mm_cw84, mm_cwG 84⟩
  · exact List.mem_filter.mpr ⟨mm_cw85, mm_cwG 85⟩
  · exact List.mem_filter.mpr ⟨mm_cw86, mm_cwG 86⟩
  · exact List.mem_filter.mpr ⟨mm_cw87, mm_cwG 87⟩
  · exact List.mem_filter.mpr ⟨mm_cw88, mm_cwG 88⟩
  · exact List.mem_filter.mpr ⟨mm_cw89, mm_cwG 89⟩
  · exact List.mem_filter.mpr ⟨mm_cw90, mm_cwG 90⟩
  · exact List.mem_filter.mpr ⟨mm_cw91, mm_cwG 91⟩
  · exact List.mem_filter.mpr ⟨mm_cw92, mm_cwG 92⟩
  · exact List.mem_filter.mpr ⟨mm_cw93, mm_cwG 93⟩
  · exact List.mem_filter.mpr ⟨mm_cw94, mm_cwG 94⟩
  · exact List.mem_filter.mpr ⟨mm_cw95, mm_cwG 95⟩
  · exact List.mem_filter.mpr ⟨mm_cw96, mm_cwG 96⟩
  · exact List.mem_filter.mpr ⟨mm_cw97, mm_cwG 97⟩
  · exact List.mem_filter.mpr ⟨mm_cw98, mm_cwG 98⟩
  · exact List.mem_filter.mpr ⟨mm_cw99, mm_cwG 99⟩
theorem mm_cwc100 {k : Nat} (h : 100 ≤ k) (h2 : k < 120) : mm_cwd k ∈ mm_TB := by
  have h3 : k = 100 ∨ k = 101 ∨ k = 102 ∨ k = 103 ∨ k = 104 ∨ k = 105 ∨ k = 106 ∨ k = 107 ∨ k = 108 ∨ k = 109 ∨ k = 110 ∨ k = 111 ∨ k = 112 ∨ k = 113 ∨ k = 114 ∨ k = 115 ∨ k = 116 ∨ k = 117 ∨ k = 118 ∨ k = 119 := by omega
  rcases h3 with rfl | rfl | rfl | rfl | rfl | rfl | rfl | rfl | rfl | rfl | rfl | rfl | rfl | rfl | rfl | rfl | rfl | rfl | rfl | rfl
  · exact List.mem_filter.mpr ⟨mm_cw100, mm_cwG 100⟩
  · exact List.mem_filter.mpr ⟨mm_cw101, mm_cwG 101⟩
  · exact List.mem_filter.mpr ⟨mm_cw102, mm_cwG 102⟩
  · exact List.mem_filter.mpr ⟨mm_cw103, mm_cwG 103⟩
  · exact List.mem_filter.mpr ⟨mm_cw104, mm_cwG 104⟩
  · exact List.mem_filter.mpr ⟨mm_cw105, mm_cwG 105⟩
  · exact List.mem_filter.mpr ⟨mm_cw106, mm_cwG 106⟩
  · exact List.mem_filter.mpr ⟨mm_cw107, mm_cwG 107⟩
  · exact List.mem_filter.mpr ⟨mm_cw108, mm_cwG 108⟩
  · exact List.mem_filter.mpr ⟨mm_cw109, mm_cwG 109⟩
  · exact List.mem_filter.mpr ⟨mm_cw110, mm_cwG 110⟩
  · exact List.mem_filter.mpr ⟨mm_cw111, mm_cwG 111⟩
  · exact List.mem_filter.mpr ⟨mm_cw112, mm_cwG 112⟩
  · exact List.mem_filter.mpr ⟨mm_cw113, mm_cwG 113⟩
  · exact List.mem_filter.mpr ⟨mm_cw114, mm_cwG 114⟩
  · exact List.mem_filter.mpr ⟨mm_cw115, mm_cwG 115⟩
  · exact List.mem_filter.mpr ⟨mm_cw116, mm_cwG 116⟩
  · exact List.mem_filter.mpr ⟨mm_cw117, mm_cwG 117⟩
  · exact List.mem_filter.mpr ⟨mm_cw118, mm_cwG 118⟩
  · exact List.mem_filter.mpr ⟨mm_cw119, mm_cwG 119⟩
theorem mm_cwc120 {k : Nat} (h : 120 ≤ k) (h2 : k < 140) : mm_cwd k ∈ mm_TB := by
  have h3 : k = 120 ∨ k = 121 ∨ k = 122 ∨ k = 123 ∨ k = 124 ∨ k = 125 ∨ k = 126 ∨ k = 127 ∨ k = 128 ∨ k = 129 ∨ k = 130 ∨ k = 131 ∨ k = 132 ∨ k = 133 ∨ k = 134 ∨ k = 135 ∨ k = 136 ∨ k = 137 ∨ k = 138 ∨ k = 139 := by omega
  rcases h3 with rfl | rfl | rfl | rfl | rfl | rfl | rfl | rfl | rfl | rfl | rfl | rfl | rfl | rfl | rfl | rfl | rfl | rfl | rfl | rfl
  · exact List.mem_filter.mpr ⟨mm_cw120, mm_cwG 120⟩
  · exact List.mem_filter.mpr ⟨mm_cw121, mm_cwG 121⟩
  · exact List.mem_filter.mpr ⟨mm_cw122, mm_cwG 122⟩
  · exact List.mem_filter.mpr ⟨mm_cw123, mm_cwG 123⟩
  · exact List.mem_filter.mpr ⟨mm_cw124, mm_cwG 124⟩
  · exact List.mem_filter.mpr ⟨mm_cw125, mm_cwG 125⟩
  · exact List.mem_filter.mpr ⟨mm_cw126, mm_cwG 126⟩
  · exact List.mem_filter.mpr ⟨mm_cw127, mm_cwG 127⟩
  · exact List.mem_filter.mpr ⟨mm_cw128, mm_cwG 128⟩
  · exact List.mem_filter.mpr ⟨mm_cw129, mm_cwG 129⟩
  · exact List.mem_filter.mpr ⟨mm_cw130, mm_cwG 130⟩
  · exact List.mem_filter.mpr ⟨mm_cw131, mm_cwG 131⟩
  · exact List.mem_filter.mpr ⟨mm_cw132, mm_cwG 132⟩
  · exact List.mem_filter.mpr ⟨mm_cw133, mm_cwG 133⟩
  · exact List.mem_filter.mpr ⟨mm_cw134, mm_cwG 134⟩
  · exact List.mem_filter.mpr ⟨mm_cw135, mm_cwG 135⟩
  · exact List.mem_filter.mpr ⟨mm_cw136, mm_cwG 136⟩
  · exact List.mem_filter.mpr ⟨mm_cw137, mm_cwG 137⟩
  · exact List.mem_filter.mpr ⟨mm_cw138, mm_cwG 138⟩
  · exact List.mem_filter.mpr ⟨mm_cw139, mm_cwG 139⟩
theorem mm_cwc140 {k : Nat} (h : 140 ≤ k) (h2 : k < 160) : mm_cwd k ∈ mm_TB := by
  have h3 : k = 140 ∨ k = 141 ∨ k = 142 ∨ k = 143 ∨ k = 144 ∨ k = 145 ∨ k = 146 ∨ k = 147 ∨ k = 148 ∨ k = 149 ∨ k = 150 ∨ k = 151 ∨ k = 152 ∨ k = 153 ∨ k = 154 ∨ k = 155 ∨ k = 156 ∨ k = 157 ∨ k = 158 ∨ k = 159 := by omega
  rcases h3 with rfl | rfl | rfl | rfl | rfl | rfl | rfl | rfl | rfl | rfl | rfl | rfl | rfl | rfl | rfl | rfl | rfl | rfl | rfl | rfl
  · exact List.mem_filter.mpr ⟨mm_cw140, mm_cwG 140⟩
  · exact List.mem_filter.mpr ⟨mm_cw141, mm_cwG 141⟩
  · exact List.mem_filter.mpr ⟨mm_cw142, mm_cwG 142⟩
  · exact List.mem_filter.mpr ⟨mm_cw143, mm_cwG 143⟩
  · exact List.mem_filter.mpr ⟨mm_cw144, mm_cwG 144⟩
  · exact List.mem_filter.mpr ⟨mm_cw145, mm_cwG 145⟩
  · exact List.mem_filter.mpr ⟨mm_cw146, mm_cwG 146⟩
  · exact List.mem_filter.mpr ⟨mm_cw147, mm_cwG 147⟩
  · exact List.mem_filter.mpr ⟨mm_cw148, mm_cwG 148⟩
  · exact List.mem_filter.mpr ⟨mm_cw149, mm_cwG 149⟩
  · exact List.mem_filter.mpr ⟨mm_cw150, mm_cwG 150⟩
  · exact List.mem_filter.mpr ⟨mm_cw151, mm_cwG 151⟩
  · exact List.mem_filter.mpr ⟨mm_cw152, mm_cwG 152⟩
  · exact List.mem_filter.mpr ⟨mm_cw153, mm_cwG 153⟩
  · exact List.mem_filter.mpr ⟨mm_cw154, mm_cwG 154⟩
  · exact List.mem_filter.mpr ⟨mm_cw155, mm_cwG 155⟩
  · exact List.mem_filter.mpr ⟨mm_cw156, mm_cwG 156⟩
  · exact List.mem_filter.mpr ⟨mm_cw157, mm_cwG 157⟩
  · exact List.mem_filter.mpr ⟨mm_cw158, mm_cwG 158⟩
  · exact List.mem_filter.mpr ⟨mm_cw159, mm_cwG 159⟩
theorem mm_cwc160 {k : Nat} (h : 160 ≤ k) (h2 : k < 180) : mm_cwd k ∈ mm_TB := by
  have h3 : k = 160 ∨ k = 161 ∨ k = 162 ∨ k = 163 ∨ k = 164 ∨ k = 165 ∨ k = 166 ∨ k = 167 ∨ k = 168 ∨ k = 169 ∨ k = 170 ∨ k = 171 ∨ k = 172 ∨ k = 173 ∨ k = 174 ∨ k = 175 ∨ k = 176 ∨ k = 177 ∨ k = 178 ∨ k = 179 := by omega
  rcases h3 with rfl | rfl | rfl | rfl | rfl | rfl | rfl | rfl | rfl | rfl | rfl | rfl | rfl | rfl | rfl | rfl | rfl | rfl | rfl | rfl
  · exact List.mem_filter.mpr ⟨mm_cw160, mm_cwG 160⟩
  · exact List.mem_filter.mpr ⟨mm_cw161, mm_cwG 161⟩
  · exact List.mem_filter.mpr ⟨mm_cw162, mm_cwG 162⟩
  · exact List.mem_filter.mpr ⟨mm_cw163, mm_cwG 163⟩
  · exact List.mem_filter.mpr ⟨mm_cw164, mm_cwG 164⟩
  · exact List.mem_filter.mpr ⟨mm_cw165, mm_cwG 165⟩
  · exact List.mem_filter.mpr ⟨mm_cw166, mm_cwG 166⟩
  · exact List.mem_filter.mpr ⟨mm_cw167, mm_cwG 167⟩
  · exact List.mem_filter.mpr ⟨mm_cw168, mm_cwG 168⟩
  · exact List.mem_filter.mpr ⟨mm_cw169, mm_cwG 169⟩
  · exact List.mem_filter.mpr ⟨mm_cw170, mm_cwG 170⟩
  · exact List.mem_filter.mpr ⟨mm_cw171, mm_cwG 171⟩
  · exact List.mem_filter.mpr ⟨mm_cw172, mm_cwG 172⟩
  · exact List.mem_filter.mpr ⟨mm_cw173, mm_cwG 173⟩
  · exact List.mem_filter.mpr ⟨mm_cw174, mm_cwG 174⟩
  · exact List.mem_filter.mpr ⟨mm_cw175, mm_cwG 175⟩
  · exact List.mem_filter.mpr ⟨mm_cw176, mm_cwG 176⟩
  · exact List.mem_filter.mpr ⟨mm_cw177, mm_cwG 177⟩
  · exact List.mem_filter.mpr ⟨mm_cw178, mm_cwG 178⟩
  · exact List.mem_filter.mpr ⟨mm_cw179, mm_cwG 179⟩
theorem mm_cwc180 {k : Nat} (h : 180 ≤ k) (h2 : k < 200) : mm_cwd k ∈ mm_TB := by
  have h3 : k = 180 ∨ k = 181 ∨ k = 182 ∨ k = 183 ∨ k = 184 ∨ k = 185 ∨ k = 186 ∨ k = 187 ∨ k = 188 ∨ k = 189 ∨ k = 190 ∨ k = 191 ∨ k = 192 ∨ k = 193 ∨ k = 194 ∨ k = 195 ∨ k = 196 ∨ k = 197 ∨ k = 198 ∨ k = 199 := by omega
  rcases h3 with rfl | rfl | rfl | rfl | rfl | rfl | rfl | rfl | rfl | rfl | rfl | rfl | rfl | rfl | rfl | rfl | rfl | rfl | rfl | rfl
  · exact List.mem_filter.mpr ⟨mm_cw180, mm_cwG 180⟩
  · exact List.mem_filter.mpr ⟨mm_cw181, mm_cwG 181⟩
  · exact List.mem_filter.mpr ⟨mm_cw182, mm_cwG 182⟩
  · exact List.mem_filter.mpr ⟨mm_cw183, mm_cwG 183⟩
  · exact List.mem_filter.mpr ⟨mm_cw184, mm_cwG 184⟩
  · exact List.mem_filter.mpr ⟨mm_cw185, mm_cwG 185⟩
  · exact List.mem_filter.mpr ⟨mm_cw186, mm_cwG 186⟩
  · exact List.mem_filter.mpr ⟨mm_cw187, mm_cwG 187⟩
  · exact List.mem_filter.mpr ⟨mm_cw188, mm_cwG 188⟩
  · exact List.mem_filter.mpr ⟨mm_cw189, mm_cwG 189⟩
  · exact List.mem_filter.mpr ⟨mm_cw190, mm_cwG 190⟩
  · exact List.mem_filter.mpr ⟨mm_cw191, mm_cwG 191⟩
  · exact List.mem_filter.mpr ⟨mm_cw192, mm_cwG 192⟩
  · exact List.mem_filter.mpr ⟨mm_cw193, mm_cwG 193⟩
  · exact List.mem_filter.mpr ⟨mm_cw194, mm_cwG 194⟩
  · exact List.mem_filter.mpr ⟨mm_cw195, mm_cwG 195⟩
  · exact List.mem_filter.mpr ⟨mm_cw196, mm_cwG 196⟩
  · exact List.mem_filter.mpr ⟨mm_cw197, mm_cwG 197⟩
  · exact List.mem_filter.mpr ⟨mm_cw198, mm_cwG 198⟩
  · exact List.mem_filter.mpr ⟨mm_cw199, mm_cwG 199⟩
theorem mm_cwc200 {k : Nat} (h : 200 ≤ k) (h2 : k < 220) : mm_cwd k ∈ mm_TB := by
  have h3 : k = 200 ∨ k = 201 ∨ k = 202 ∨ k = 203 ∨ k = 204 ∨ k = 205 ∨ k = 206 ∨ k = 207 ∨ k = 208 ∨ k = 209 ∨ k = 210 ∨ k = 211 ∨ k = 212 ∨ k = 213 ∨ k = 214 ∨ k = 215 ∨ k = 216 ∨ k = 217 ∨ k = 218 ∨ k = 219 := by omega
  rcases h3 with rfl | rfl | rfl | rfl | rfl | rfl | rfl | rfl | rfl | rfl | rfl | rfl | rfl | rfl | rfl | rfl | rfl | rfl | rfl | rfl
  · exact List.mem_filter.mpr ⟨mm_cw200, mm_cwG 200⟩
  · exact List.mem_filter.mpr ⟨mm_cw201, mm_cwG 201⟩
  · exact List.mem_filter.mpr ⟨mm_cw202, mm_cwG 202⟩
  · exact List.mem_filter.mpr ⟨mm_cw203, mm_cwG 203⟩
  · exact List.mem_filter.mpr ⟨mm_cw204, mm_cwG 204⟩
  · exact List.mem_filter.mpr ⟨mm_cw205, mm_cwG 205⟩
  · exact List.mem_filter.mpr ⟨mm_cw206, mm_cwG 206⟩
  · exact List.mem_filter.mpr ⟨mm_cw207, mm_cwG 207⟩
  · exact List.mem_filter.mpr ⟨mm_cw208, mm_cwG 208⟩
  · exact List.mem_filter.mpr ⟨mm_cw209, mm_cwG 209⟩
  · exact List.mem_filter.mpr ⟨mm_cw210, mm_cwG 210⟩
  · exact List.mem_filter.mpr ⟨mm_cw211, mm_cwG 211⟩
  · exact List.mem_filter.mpr ⟨mm_cw212, mm_cwG 212⟩
  · exact List.mem_filter.mpr ⟨mm_cw213, mm_cwG 213⟩
  · exact List.mem_filter.mpr ⟨mm_cw214, mm_cwG 214⟩
  · exact List.mem_filter.mpr ⟨mm_cw215, mm_cwG 215⟩
  · exact List.mem_filter.mpr ⟨mm_cw216, mm_cwG 216⟩
  · exact List.mem_filter.mpr ⟨mm_cw217, mm_cwG 217⟩
  · exact List.mem_filter.mpr ⟨mm_cw218, mm_cwG 218⟩
  · exact List.mem_filter.mpr ⟨mm_cw219, mm_cwG 219⟩
theorem mm_cwc220 {k : Nat} (h : 220 ≤ k) (h2 : k < 240) : mm_cwd k ∈ mm_TB := by
  have h3 : k = 220 ∨ k = 221 ∨ k = 222 ∨ k = 223 ∨ k = 224 ∨ k = 225 ∨ k = 226 ∨ k = 227 ∨ k = 228 ∨ k = 229 ∨ k = 230 ∨ k = 231 ∨ k = 232 ∨ k = 233 ∨ k = 234 ∨ k = 235 ∨ k = 236 ∨ k = 237 ∨ k = 238 ∨ k = 239 := by omega
  rcases h3 with rfl | rfl | rfl | rfl | rfl | rfl | rfl | rfl | rfl | rfl | rfl | rfl | rfl | rfl | rfl | rfl | rfl | rfl | rfl | rfl
  · exact List.mem_filter.mpr ⟨mm_cw220, mm_cwG 220⟩
  · exact List.mem_filter.mpr ⟨mm_cw221, mm_cwG 221⟩
  · exact List.mem_filter.mpr ⟨mm_cw222, mm_cwG 222⟩
  · exact List.mem_filter.mpr ⟨mm_cw223, mm_cwG 223⟩
  · exact List.mem_filter.mpr ⟨mm_cw224, mm_cwG 224⟩
  · exact List.mem_filter.mpr ⟨mm_cw225, mm_cwG 225⟩
  · exact List.mem_filter.mpr ⟨mm_cw226, mm_cwG 226⟩
  · exact List.mem_filter.mpr ⟨mm_cw227, mm_cwG 227⟩
  · exact List.mem_filter.mpr ⟨mm_cw228, mm_cwG 228⟩
  · exact List.mem_filter.mpr ⟨mm_cw229, mm_cwG 229⟩
  · exact List.mem_filter.mpr ⟨mm_cw230, mm_cwG 230⟩
  · exact List.mem_filter.mpr ⟨mm_cw231, mm_cwG 231⟩
  · exact List.mem_filter.mpr ⟨mm_cw232, mm_cwG 232⟩
  · exact List.mem_filter.mpr ⟨mm_cw233, mm_cwG 233⟩
  · exact List.mem_filter.mpr ⟨mm_cw234, mm_cwG 234⟩
  · exact List.mem_filter.mpr ⟨mm_cw235, mm_cwG 235⟩
  · exact List.mem_filter.mpr ⟨mm_cw236, mm_cwG 236⟩
  · exact List.mem_filter.mpr ⟨mm_cw237, mm_cwG 237⟩
  · exact List.mem_filter.mpr ⟨mm_cw238, mm_cwG 238⟩
  · exact List.mem_filter.mpr ⟨mm_cw239, mm_cwG 239⟩
theorem mm_cwc240 {k : Nat} (h : 240 ≤ k) (h2 : k < 260) : mm_cwd k ∈ mm_TB := by
  have h3 : k = 240 ∨ k = 241 ∨ k = 242 ∨ k = 243 ∨ k = 244 ∨ k = 245 ∨ k = 246 ∨ k = 247 ∨ k = 248 ∨ k = 249 ∨ k = 250 ∨ k = 251 ∨ k = 252 ∨ k = 253 ∨ k = 254 ∨ k = 255 ∨ k = 256 ∨ k = 257 ∨ k = 258 ∨ k = 259 := by omega
  rcases h3 with rfl | rfl | rfl | rfl | rfl | rfl | rfl | rfl | rfl | rfl | rfl | rfl | rfl | rfl | rfl | rfl | rfl | rfl | rfl | rfl
  · exact List.mem_filter.mpr ⟨mm_cw240, mm_cwG 240⟩
  · exact List.mem_filter.mpr ⟨mm_cw241, mm_cwG 241⟩
  · exact List.mem_filter.mpr ⟨mm_cw242, mm_cwG 242⟩
  · exact List.mem_filter.mpr ⟨mm_cw243, mm_cwG 243⟩
  · exact List.mem_filter.mpr ⟨mm_cw244, mm_cwG 244⟩
  · exact List.mem_filter.mpr ⟨mm_cw245, mm_cwG 245⟩
  · exact List.mem_filter.mpr ⟨mm_cw246, mm_cwG 246⟩
  · exact List.mem_filter.mpr ⟨mm_cw247, mm_cwG 247⟩
  · exact List.mem_filter.mpr ⟨mm_cw248, mm_cwG 248⟩
  · exact List.mem_filter.mpr ⟨mm_cw249, mm_cwG 249⟩
  · exact List.mem_filter.mpr ⟨mm_cw250, mm_cwG 250⟩
  · exact List.mem_filter.mpr ⟨mm_cw251, mm_cwG 251⟩
  · exact List.mem_filter.mpr ⟨mm_cw252, mm_cwG 252⟩
  · exact List.mem_filter.mpr ⟨mm_cw253, mm_cwG 253⟩
  · exact List.mem_filter.mpr ⟨mm_cw254, mm_cwG 254⟩
  · exact List.mem_filter.mpr ⟨mm_cw255, mm_cwG 255⟩
  · exact List.mem_filter.mpr ⟨mm_cw256, mm_cwG 256⟩
  · exact List.mem_filter.mpr ⟨mm_cw257, mm_cwG 257⟩
  · exact List.mem_filter.mpr ⟨mm_cw258, mm_cwG 258⟩
  · exact List.mem_filter.mpr ⟨mm_cw259, mm_cwG 259⟩
theorem mm_cwc260 {k : Nat} (h : 260 ≤ k) (h2 : k < 279) : mm_cwd k ∈ mm_TB := by
  have h3 : k = 260 ∨ k = 261 ∨ k = 262 ∨ k = 263 ∨ k = 264 ∨ k = 265 ∨ k = 266 ∨ k = 267 ∨ k = 268 ∨ k = 269 ∨ k = 270 ∨ k = 271 ∨ k = 272 ∨ k = 273 ∨ k = 274 ∨ k = 275 ∨ k = 276 ∨ k = 277 ∨ k = 278 := by omega
  rcases h3 with rfl | rfl | rfl | rfl | rfl | rfl | rfl | rfl | rfl | rfl | rfl | rfl | rfl | rfl | rfl | rfl | rfl | rfl | rfl
  · exact List.mem_filter.mpr ⟨mm_cw260, mm_cwG 260⟩
  · exact List.mem_filter.mpr ⟨mm_cw261, mm_cwG 261⟩
  · exact List.mem_filter.mpr ⟨mm_cw262, mm_cwG 262⟩
  · exact List.mem_filter.mpr ⟨mm_cw263, mm_cwG 263⟩
  · exact List.mem_filter.mpr ⟨mm_cw264, mm_cwG 264⟩
  · exact List.mem_filter.mpr ⟨mm_cw265, mm_cwG 265⟩
  · exact List.mem_filter.mpr ⟨mm_cw266, mm_cwG 266⟩
  · exact List.mem_filter.mpr ⟨mm_cw267, mm_cwG 267⟩
  · exact List.mem_filter.mpr ⟨mm_cw268, mm_cwG 268⟩
  · exact List.mem_filter.mpr ⟨mm_cw269, mm_cwG 269⟩
  · exact List.mem_filter.mpr ⟨mm_cw270, mm_cwG 270⟩
  · exact List.mem_filter.mpr ⟨mm_cw271, mm_cwG 271⟩
  · exact List.mem_filter.mpr ⟨mm_cw272, mm_cwG 272⟩
  · exact List.mem_filter.mpr ⟨mm_cw273, mm_cwG 273⟩
  · exact List.mem_filter.mpr ⟨mm_cw274, mm_cwG 274⟩
  · exact List.mem_filter.mpr ⟨mm_cw275, mm_cwG 275⟩
  · exact List.mem_filter.mpr ⟨mm_cw276, mm_cwG 276⟩
  · exact List.mem_filter.mpr ⟨mm_cw277, mm_cwG 277⟩
  · exact List.mem_filter.mpr ⟨mm_cw278, mm_cwG 278⟩
theorem mm_cwAll {k : Nat} (h : k < 279) : mm_cwd k ∈ mm_TB := by
  by_cases h0 : k < 20
  · exact mm_cwc0 (by omega) h0
  by_cases h20 : k < 40
  · exact mm_cwc20 (by omega) h20
  by_cases h40 : k < 60
  · exact mm_cwc40 (by omega) h40
  by_cases h60 : k < 80
  · exact mm_cwc60 (by omega) h60
  by_cases h80 : k < 100
  · exact mm_cwc80 (by omega) h80
  by_cases h100 : k < 120
  · exact mm_cwc100 (by omega) h100
  by_cases h120 : k < 140
  · exact mm_cwc120 (by omega) h120
  by_cases h140 : k < 160
  · exact mm_cwc140 (by omega) h140
  by_cases h160 : k < 180
  · exact mm_cwc160 (by omega) h160
  by_cases h180 : k < 200
  · exact mm_cwc180 (by omega) h180
  by_cases h200 : k < 220
  · exact mm_cwc200 (by omega) h200
  by_cases h220 : k < 240
  · exact mm_cwc220 (by omega) h220
  by_cases h240 : k < 260
  · exact mm_cwc240 (by omega) h240
  by_cases h260 : k < 279
  · exact mm_cwc260 (by omega) h260
  omega
end
