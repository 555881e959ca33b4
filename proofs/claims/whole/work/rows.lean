section
/-- a private method of a class that the tables say can be made, by its rows of tables_1 -/
def lw_okq (q : MethodName × Nat) : Prop := (q.1.cls ≠ "java/lang/invoke/MethodHandle" ∧ q.1.cls ≠ "java/lang/invoke/VarHandle") ∧ Cond.instantiable q.1.cls q.2 ∈ tables_1 ∧ Cond.privateMethod q.1 ∈ tables_1 ∧ Cond.instanceMethod q.1 ∈ tables_1
theorem lw_p0 : lw_okq (⟨"GutterBoats$Text", "atHand", "()I"⟩, 5) := ⟨⟨by decide +kernel, by decide +kernel⟩, List.mem_of_getElem? (i := 25) (by decide +kernel), List.mem_of_getElem? (i := 192) (by decide +kernel), List.mem_of_getElem? (i := 193) (by decide +kernel)⟩
theorem lw_p1 : lw_okq (⟨"GutterBoats$Text", "readCommand", "()Z"⟩, 5) := ⟨⟨by decide +kernel, by decide +kernel⟩, List.mem_of_getElem? (i := 25) (by decide +kernel), List.mem_of_getElem? (i := 196) (by decide +kernel), List.mem_of_getElem? (i := 197) (by decide +kernel)⟩
theorem lw_p2 : lw_okq (⟨"GutterBoats$Text", "readNumber", "(III)I"⟩, 5) := ⟨⟨by decide +kernel, by decide +kernel⟩, List.mem_of_getElem? (i := 25) (by decide +kernel), List.mem_of_getElem? (i := 219) (by decide +kernel), List.mem_of_getElem? (i := 220) (by decide +kernel)⟩
theorem lw_p3 : lw_okq (⟨"GutterBoats$Tournament", "driftsIntoDrain", "(I)Z"⟩, 10) := ⟨⟨by decide +kernel, by decide +kernel⟩, List.mem_of_getElem? (i := 48) (by decide +kernel), List.mem_of_getElem? (i := 253) (by decide +kernel), List.mem_of_getElem? (i := 254) (by decide +kernel)⟩
theorem lw_p4 : lw_okq (⟨"GutterBoats$Tournament", "nextGutter", "(II)I"⟩, 10) := ⟨⟨by decide +kernel, by decide +kernel⟩, List.mem_of_getElem? (i := 48) (by decide +kernel), List.mem_of_getElem? (i := 257) (by decide +kernel), List.mem_of_getElem? (i := 258) (by decide +kernel)⟩
theorem lw_p5 : lw_okq (⟨"GutterBoats$Tournament", "nextCell", "(II)I"⟩, 10) := ⟨⟨by decide +kernel, by decide +kernel⟩, List.mem_of_getElem? (i := 48) (by decide +kernel), List.mem_of_getElem? (i := 261) (by decide +kernel), List.mem_of_getElem? (i := 262) (by decide +kernel)⟩
theorem lw_p6 : lw_okq (⟨"GutterBoats$Tournament", "hasWreck", "(II)Z"⟩, 10) := ⟨⟨by decide +kernel, by decide +kernel⟩, List.mem_of_getElem? (i := 48) (by decide +kernel), List.mem_of_getElem? (i := 265) (by decide +kernel), List.mem_of_getElem? (i := 266) (by decide +kernel)⟩
theorem lw_p7 : lw_okq (⟨"GutterBoats$Tournament", "arrive", "(I)V"⟩, 10) := ⟨⟨by decide +kernel, by decide +kernel⟩, List.mem_of_getElem? (i := 48) (by decide +kernel), List.mem_of_getElem? (i := 275) (by decide +kernel), List.mem_of_getElem? (i := 276) (by decide +kernel)⟩
theorem lw_p8 : lw_okq (⟨"GutterBoats$Tournament", "takeOut", "(II)V"⟩, 10) := ⟨⟨by decide +kernel, by decide +kernel⟩, List.mem_of_getElem? (i := 48) (by decide +kernel), List.mem_of_getElem? (i := 283) (by decide +kernel), List.mem_of_getElem? (i := 284) (by decide +kernel)⟩
theorem lw_p9 : lw_okq (⟨"GutterBoats$Tournament", "soakUp", "(I)V"⟩, 10) := ⟨⟨by decide +kernel, by decide +kernel⟩, List.mem_of_getElem? (i := 48) (by decide +kernel), List.mem_of_getElem? (i := 287) (by decide +kernel), List.mem_of_getElem? (i := 288) (by decide +kernel)⟩
theorem lw_p10 : lw_okq (⟨"GutterBoats$Tournament", "endHeat", "()V"⟩, 10) := ⟨⟨by decide +kernel, by decide +kernel⟩, List.mem_of_getElem? (i := 48) (by decide +kernel), List.mem_of_getElem? (i := 295) (by decide +kernel), List.mem_of_getElem? (i := 296) (by decide +kernel)⟩
theorem lw_p11 : lw_okq (⟨"java/lang/Throwable", "fillInStackTrace", "(I)Ljava/lang/Throwable;"⟩, 6) := ⟨⟨by decide +kernel, by decide +kernel⟩, List.mem_of_getElem? (i := 350) (by decide +kernel), List.mem_of_getElem? (i := 348) (by decide +kernel), List.mem_of_getElem? (i := 349) (by decide +kernel)⟩
theorem lw_p12 : lw_okq (⟨"GutterBoats$Tournament", "hookDistance", "(II)I"⟩, 10) := ⟨⟨by decide +kernel, by decide +kernel⟩, List.mem_of_getElem? (i := 48) (by decide +kernel), List.mem_of_getElem? (i := 508) (by decide +kernel), List.mem_of_getElem? (i := 509) (by decide +kernel)⟩
theorem lw_p13 : lw_okq (⟨"GutterBoats$Tournament", "countInGutter", "(II)I"⟩, 10) := ⟨⟨by decide +kernel, by decide +kernel⟩, List.mem_of_getElem? (i := 48) (by decide +kernel), List.mem_of_getElem? (i := 559) (by decide +kernel), List.mem_of_getElem? (i := 560) (by decide +kernel)⟩
theorem lw_p14 : lw_okq (⟨"GutterBoats$Tournament", "lowestWreck", "(I)I"⟩, 10) := ⟨⟨by decide +kernel, by decide +kernel⟩, List.mem_of_getElem? (i := 48) (by decide +kernel), List.mem_of_getElem? (i := 563) (by decide +kernel), List.mem_of_getElem? (i := 564) (by decide +kernel)⟩
theorem lw_p15 : lw_okq (⟨"GutterBoats$Shelf", "keptAt", "(I)LGutterBoats$Tournament;"⟩, 2) := ⟨⟨by decide +kernel, by decide +kernel⟩, List.mem_of_getElem? (i := 129) (by decide +kernel), List.mem_of_getElem? (i := 629) (by decide +kernel), List.mem_of_getElem? (i := 630) (by decide +kernel)⟩
def lw_privs_1 : List (MethodName × Nat) := [(⟨"GutterBoats$Text", "atHand", "()I"⟩, 5), (⟨"GutterBoats$Text", "readCommand", "()Z"⟩, 5), (⟨"GutterBoats$Text", "readNumber", "(III)I"⟩, 5), (⟨"GutterBoats$Tournament", "driftsIntoDrain", "(I)Z"⟩, 10), (⟨"GutterBoats$Tournament", "nextGutter", "(II)I"⟩, 10), (⟨"GutterBoats$Tournament", "nextCell", "(II)I"⟩, 10), (⟨"GutterBoats$Tournament", "hasWreck", "(II)Z"⟩, 10), (⟨"GutterBoats$Tournament", "arrive", "(I)V"⟩, 10), (⟨"GutterBoats$Tournament", "takeOut", "(II)V"⟩, 10), (⟨"GutterBoats$Tournament", "soakUp", "(I)V"⟩, 10), (⟨"GutterBoats$Tournament", "endHeat", "()V"⟩, 10), (⟨"java/lang/Throwable", "fillInStackTrace", "(I)Ljava/lang/Throwable;"⟩, 6), (⟨"GutterBoats$Tournament", "hookDistance", "(II)I"⟩, 10), (⟨"GutterBoats$Tournament", "countInGutter", "(II)I"⟩, 10), (⟨"GutterBoats$Tournament", "lowestWreck", "(I)I"⟩, 10), (⟨"GutterBoats$Shelf", "keptAt", "(I)LGutterBoats$Tournament;"⟩, 2)]
theorem lw_r1 : ∀ q ∈ lw_privs_1, lw_okq q := List.forall_mem_cons.mpr ⟨lw_p0, List.forall_mem_cons.mpr ⟨lw_p1, List.forall_mem_cons.mpr ⟨lw_p2, List.forall_mem_cons.mpr ⟨lw_p3, List.forall_mem_cons.mpr ⟨lw_p4, List.forall_mem_cons.mpr ⟨lw_p5, List.forall_mem_cons.mpr ⟨lw_p6, List.forall_mem_cons.mpr ⟨lw_p7, List.forall_mem_cons.mpr ⟨lw_p8, List.forall_mem_cons.mpr ⟨lw_p9, List.forall_mem_cons.mpr ⟨lw_p10, List.forall_mem_cons.mpr ⟨lw_p11, List.forall_mem_cons.mpr ⟨lw_p12, List.forall_mem_cons.mpr ⟨lw_p13, List.forall_mem_cons.mpr ⟨lw_p14, List.forall_mem_cons.mpr ⟨lw_p15, fun _ h => absurd h List.not_mem_nil⟩⟩⟩⟩⟩⟩⟩⟩⟩⟩⟩⟩⟩⟩⟩⟩
theorem lw_p16 : lw_okq (⟨"GutterBoats", "succeeds", "(I)Z"⟩, 5) := ⟨⟨by decide +kernel, by decide +kernel⟩, List.mem_of_getElem? (i := 17) (by decide +kernel), List.mem_of_getElem? (i := 743) (by decide +kernel), List.mem_of_getElem? (i := 744) (by decide +kernel)⟩
theorem lw_p17 : lw_okq (⟨"GutterBoats", "takeTurn", "(I)V"⟩, 5) := ⟨⟨by decide +kernel, by decide +kernel⟩, List.mem_of_getElem? (i := 17) (by decide +kernel), List.mem_of_getElem? (i := 757) (by decide +kernel), List.mem_of_getElem? (i := 758) (by decide +kernel)⟩
theorem lw_p18 : lw_okq (⟨"GutterBoatsModel", "refused", "(I)Z"⟩, 13) := ⟨⟨by decide +kernel, by decide +kernel⟩, List.mem_of_getElem? (i := 783) (by decide +kernel), List.mem_of_getElem? (i := 844) (by decide +kernel), List.mem_of_getElem? (i := 845) (by decide +kernel)⟩
theorem lw_p19 : lw_okq (⟨"GutterBoatsModel", "readAll", "()I"⟩, 13) := ⟨⟨by decide +kernel, by decide +kernel⟩, List.mem_of_getElem? (i := 783) (by decide +kernel), List.mem_of_getElem? (i := 856) (by decide +kernel), List.mem_of_getElem? (i := 857) (by decide +kernel)⟩
theorem lw_p20 : lw_okq (⟨"GutterBoatsModel", "here", "()I"⟩, 13) := ⟨⟨by decide +kernel, by decide +kernel⟩, List.mem_of_getElem? (i := 783) (by decide +kernel), List.mem_of_getElem? (i := 860) (by decide +kernel), List.mem_of_getElem? (i := 861) (by decide +kernel)⟩
theorem lw_p21 : lw_okq (⟨"GutterBoatsModel", "take", "(Z)V"⟩, 13) := ⟨⟨by decide +kernel, by decide +kernel⟩, List.mem_of_getElem? (i := 783) (by decide +kernel), List.mem_of_getElem? (i := 864) (by decide +kernel), List.mem_of_getElem? (i := 865) (by decide +kernel)⟩
theorem lw_p22 : lw_okq (⟨"GutterBoatsModel", "readCommand", "()I"⟩, 13) := ⟨⟨by decide +kernel, by decide +kernel⟩, List.mem_of_getElem? (i := 783) (by decide +kernel), List.mem_of_getElem? (i := 868) (by decide +kernel), List.mem_of_getElem? (i := 869) (by decide +kernel)⟩
theorem lw_p23 : lw_okq (⟨"GutterBoatsModel", "readGutter", "()I"⟩, 13) := ⟨⟨by decide +kernel, by decide +kernel⟩, List.mem_of_getElem? (i := 783) (by decide +kernel), List.mem_of_getElem? (i := 872) (by decide +kernel), List.mem_of_getElem? (i := 873) (by decide +kernel)⟩
theorem lw_p24 : lw_okq (⟨"GutterBoatsModel", "two", "(II)I"⟩, 13) := ⟨⟨by decide +kernel, by decide +kernel⟩, List.mem_of_getElem? (i := 783) (by decide +kernel), List.mem_of_getElem? (i := 876) (by decide +kernel), List.mem_of_getElem? (i := 877) (by decide +kernel)⟩
theorem lw_p25 : lw_okq (⟨"GutterBoatsModel", "digit", "(II)I"⟩, 13) := ⟨⟨by decide +kernel, by decide +kernel⟩, List.mem_of_getElem? (i := 783) (by decide +kernel), List.mem_of_getElem? (i := 880) (by decide +kernel), List.mem_of_getElem? (i := 881) (by decide +kernel)⟩
theorem lw_p26 : lw_okq (⟨"GutterBoatsModel", "goes", "(Z)Z"⟩, 13) := ⟨⟨by decide +kernel, by decide +kernel⟩, List.mem_of_getElem? (i := 783) (by decide +kernel), List.mem_of_getElem? (i := 893) (by decide +kernel), List.mem_of_getElem? (i := 894) (by decide +kernel)⟩
theorem lw_p27 : lw_okq (⟨"GutterBoatsModel", "readBoat", "()I"⟩, 13) := ⟨⟨by decide +kernel, by decide +kernel⟩, List.mem_of_getElem? (i := 783) (by decide +kernel), List.mem_of_getElem? (i := 900) (by decide +kernel), List.mem_of_getElem? (i := 901) (by decide +kernel)⟩
theorem lw_p28 : lw_okq (⟨"GutterBoatsModel", "readLaunch", "()I"⟩, 13) := ⟨⟨by decide +kernel, by decide +kernel⟩, List.mem_of_getElem? (i := 783) (by decide +kernel), List.mem_of_getElem? (i := 910) (by decide +kernel), List.mem_of_getElem? (i := 911) (by decide +kernel)⟩
theorem lw_p29 : lw_okq (⟨"GutterBoatsModel", "readHook", "()I"⟩, 13) := ⟨⟨by decide +kernel, by decide +kernel⟩, List.mem_of_getElem? (i := 783) (by decide +kernel), List.mem_of_getElem? (i := 929) (by decide +kernel), List.mem_of_getElem? (i := 930) (by decide +kernel)⟩
theorem lw_p30 : lw_okq (⟨"GutterBoatsModel", "readClaim", "()I"⟩, 13) := ⟨⟨by decide +kernel, by decide +kernel⟩, List.mem_of_getElem? (i := 783) (by decide +kernel), List.mem_of_getElem? (i := 951) (by decide +kernel), List.mem_of_getElem? (i := 952) (by decide +kernel)⟩
theorem lw_p31 : lw_okq (⟨"GutterBoatsModel", "readRest", "(I)I"⟩, 13) := ⟨⟨by decide +kernel, by decide +kernel⟩, List.mem_of_getElem? (i := 783) (by decide +kernel), List.mem_of_getElem? (i := 958) (by decide +kernel), List.mem_of_getElem? (i := 959) (by decide +kernel)⟩
def lw_privs_2 : List (MethodName × Nat) := [(⟨"GutterBoats", "succeeds", "(I)Z"⟩, 5), (⟨"GutterBoats", "takeTurn", "(I)V"⟩, 5), (⟨"GutterBoatsModel", "refused", "(I)Z"⟩, 13), (⟨"GutterBoatsModel", "readAll", "()I"⟩, 13), (⟨"GutterBoatsModel", "here", "()I"⟩, 13), (⟨"GutterBoatsModel", "take", "(Z)V"⟩, 13), (⟨"GutterBoatsModel", "readCommand", "()I"⟩, 13), (⟨"GutterBoatsModel", "readGutter", "()I"⟩, 13), (⟨"GutterBoatsModel", "two", "(II)I"⟩, 13), (⟨"GutterBoatsModel", "digit", "(II)I"⟩, 13), (⟨"GutterBoatsModel", "goes", "(Z)Z"⟩, 13), (⟨"GutterBoatsModel", "readBoat", "()I"⟩, 13), (⟨"GutterBoatsModel", "readLaunch", "()I"⟩, 13), (⟨"GutterBoatsModel", "readHook", "()I"⟩, 13), (⟨"GutterBoatsModel", "readClaim", "()I"⟩, 13), (⟨"GutterBoatsModel", "readRest", "(I)I"⟩, 13)]
theorem lw_r2 : ∀ q ∈ lw_privs_2, lw_okq q := List.forall_mem_cons.mpr ⟨lw_p16, List.forall_mem_cons.mpr ⟨lw_p17, List.forall_mem_cons.mpr ⟨lw_p18, List.forall_mem_cons.mpr ⟨lw_p19, List.forall_mem_cons.mpr ⟨lw_p20, List.forall_mem_cons.mpr ⟨lw_p21, List.forall_mem_cons.mpr ⟨lw_p22, List.forall_mem_cons.mpr ⟨lw_p23, List.forall_mem_cons.mpr ⟨lw_p24, List.forall_mem_cons.mpr ⟨lw_p25, List.forall_mem_cons.mpr ⟨lw_p26, List.forall_mem_cons.mpr ⟨lw_p27, List.forall_mem_cons.mpr ⟨lw_p28, List.forall_mem_cons.mpr ⟨lw_p29, List.forall_mem_cons.mpr ⟨lw_p30, List.forall_mem_cons.mpr ⟨lw_p31, fun _ h => absurd h List.not_mem_nil⟩⟩⟩⟩⟩⟩⟩⟩⟩⟩⟩⟩⟩⟩⟩⟩
theorem lw_p32 : lw_okq (⟨"GutterBoatsModel", "points", "()I"⟩, 13) := ⟨⟨by decide +kernel, by decide +kernel⟩, List.mem_of_getElem? (i := 783) (by decide +kernel), List.mem_of_getElem? (i := 1003) (by decide +kernel), List.mem_of_getElem? (i := 1004) (by decide +kernel)⟩
theorem lw_p33 : lw_okq (⟨"GutterBoatsModel", "drifted", "()I"⟩, 13) := ⟨⟨by decide +kernel, by decide +kernel⟩, List.mem_of_getElem? (i := 783) (by decide +kernel), List.mem_of_getElem? (i := 1007) (by decide +kernel), List.mem_of_getElem? (i := 1008) (by decide +kernel)⟩
theorem lw_p34 : lw_okq (⟨"GutterBoatsModel", "inGutter", "(II)I"⟩, 13) := ⟨⟨by decide +kernel, by decide +kernel⟩, List.mem_of_getElem? (i := 783) (by decide +kernel), List.mem_of_getElem? (i := 1016) (by decide +kernel), List.mem_of_getElem? (i := 1017) (by decide +kernel)⟩
theorem lw_p35 : lw_okq (⟨"GutterBoatsModel", "lowestWreck", "(I)I"⟩, 13) := ⟨⟨by decide +kernel, by decide +kernel⟩, List.mem_of_getElem? (i := 783) (by decide +kernel), List.mem_of_getElem? (i := 1020) (by decide +kernel), List.mem_of_getElem? (i := 1021) (by decide +kernel)⟩
theorem lw_p36 : lw_okq (⟨"GutterBoatsModel", "boatsOf", "(I)I"⟩, 13) := ⟨⟨by decide +kernel, by decide +kernel⟩, List.mem_of_getElem? (i := 783) (by decide +kernel), List.mem_of_getElem? (i := 1037) (by decide +kernel), List.mem_of_getElem? (i := 1038) (by decide +kernel)⟩
theorem lw_p37 : lw_okq (⟨"GutterBoatsModel", "remember", "()V"⟩, 13) := ⟨⟨by decide +kernel, by decide +kernel⟩, List.mem_of_getElem? (i := 783) (by decide +kernel), List.mem_of_getElem? (i := 1059) (by decide +kernel), List.mem_of_getElem? (i := 1060) (by decide +kernel)⟩
theorem lw_p38 : lw_okq (⟨"GutterBoatsModel", "goesTill", "(I)I"⟩, 13) := ⟨⟨by decide +kernel, by decide +kernel⟩, List.mem_of_getElem? (i := 783) (by decide +kernel), List.mem_of_getElem? (i := 1103) (by decide +kernel), List.mem_of_getElem? (i := 1104) (by decide +kernel)⟩
theorem lw_p39 : lw_okq (⟨"GutterBoatsModel", "command", "(I)Z"⟩, 13) := ⟨⟨by decide +kernel, by decide +kernel⟩, List.mem_of_getElem? (i := 783) (by decide +kernel), List.mem_of_getElem? (i := 1123) (by decide +kernel), List.mem_of_getElem? (i := 1124) (by decide +kernel)⟩
theorem lw_p40 : lw_okq (⟨"GutterBoatsModel", "runLaunch", "(II)Z"⟩, 13) := ⟨⟨by decide +kernel, by decide +kernel⟩, List.mem_of_getElem? (i := 783) (by decide +kernel), List.mem_of_getElem? (i := 1127) (by decide +kernel), List.mem_of_getElem? (i := 1128) (by decide +kernel)⟩
theorem lw_p41 : lw_okq (⟨"GutterBoatsModel", "runMinutes", "(I)Z"⟩, 13) := ⟨⟨by decide +kernel, by decide +kernel⟩, List.mem_of_getElem? (i := 783) (by decide +kernel), List.mem_of_getElem? (i := 1131) (by decide +kernel), List.mem_of_getElem? (i := 1132) (by decide +kernel)⟩
theorem lw_p42 : lw_okq (⟨"GutterBoatsModel", "runHook", "(III)Z"⟩, 13) := ⟨⟨by decide +kernel, by decide +kernel⟩, List.mem_of_getElem? (i := 783) (by decide +kernel), List.mem_of_getElem? (i := 1135) (by decide +kernel), List.mem_of_getElem? (i := 1136) (by decide +kernel)⟩
theorem lw_p43 : lw_okq (⟨"GutterBoatsModel", "runClaim", "(II)Z"⟩, 13) := ⟨⟨by decide +kernel, by decide +kernel⟩, List.mem_of_getElem? (i := 783) (by decide +kernel), List.mem_of_getElem? (i := 1139) (by decide +kernel), List.mem_of_getElem? (i := 1140) (by decide +kernel)⟩
theorem lw_p44 : lw_okq (⟨"GutterBoatsModel", "runSet", "(II)Z"⟩, 13) := ⟨⟨by decide +kernel, by decide +kernel⟩, List.mem_of_getElem? (i := 783) (by decide +kernel), List.mem_of_getElem? (i := 1143) (by decide +kernel), List.mem_of_getElem? (i := 1144) (by decide +kernel)⟩
theorem lw_p45 : lw_okq (⟨"GutterBoatsModel", "runBoat", "(III)Z"⟩, 13) := ⟨⟨by decide +kernel, by decide +kernel⟩, List.mem_of_getElem? (i := 783) (by decide +kernel), List.mem_of_getElem? (i := 1147) (by decide +kernel), List.mem_of_getElem? (i := 1148) (by decide +kernel)⟩
theorem lw_p46 : lw_okq (⟨"GutterBoatsModel", "stir", "(I)V"⟩, 13) := ⟨⟨by decide +kernel, by decide +kernel⟩, List.mem_of_getElem? (i := 783) (by decide +kernel), List.mem_of_getElem? (i := 1157) (by decide +kernel), List.mem_of_getElem? (i := 1158) (by decide +kernel)⟩
theorem lw_p47 : lw_okq (⟨"GutterBoatsModel", "runGutter", "(IIII)Z"⟩, 13) := ⟨⟨by decide +kernel, by decide +kernel⟩, List.mem_of_getElem? (i := 783) (by decide +kernel), List.mem_of_getElem? (i := 1161) (by decide +kernel), List.mem_of_getElem? (i := 1162) (by decide +kernel)⟩
def lw_privs_3 : List (MethodName × Nat) := [(⟨"GutterBoatsModel", "points", "()I"⟩, 13), (⟨"GutterBoatsModel", "drifted", "()I"⟩, 13), (⟨"GutterBoatsModel", "inGutter", "(II)I"⟩, 13), (⟨"GutterBoatsModel", "lowestWreck", "(I)I"⟩, 13), (⟨"GutterBoatsModel", "boatsOf", "(I)I"⟩, 13), (⟨"GutterBoatsModel", "remember", "()V"⟩, 13), (⟨"GutterBoatsModel", "goesTill", "(I)I"⟩, 13), (⟨"GutterBoatsModel", "command", "(I)Z"⟩, 13), (⟨"GutterBoatsModel", "runLaunch", "(II)Z"⟩, 13), (⟨"GutterBoatsModel", "runMinutes", "(I)Z"⟩, 13), (⟨"GutterBoatsModel", "runHook", "(III)Z"⟩, 13), (⟨"GutterBoatsModel", "runClaim", "(II)Z"⟩, 13), (⟨"GutterBoatsModel", "runSet", "(II)Z"⟩, 13), (⟨"GutterBoatsModel", "runBoat", "(III)Z"⟩, 13), (⟨"GutterBoatsModel", "stir", "(I)V"⟩, 13), (⟨"GutterBoatsModel", "runGutter", "(IIII)Z"⟩, 13)]
theorem lw_r3 : ∀ q ∈ lw_privs_3, lw_okq q := List.forall_mem_cons.mpr ⟨lw_p32, List.forall_mem_cons.mpr ⟨lw_p33, List.forall_mem_cons.mpr ⟨lw_p34, List.forall_mem_cons.mpr ⟨lw_p35, List.forall_mem_cons.mpr ⟨lw_p36, List.forall_mem_cons.mpr ⟨lw_p37, List.forall_mem_cons.mpr ⟨lw_p38, List.forall_mem_cons.mpr ⟨lw_p39, List.forall_mem_cons.mpr ⟨lw_p40, List.forall_mem_cons.mpr ⟨lw_p41, List.forall_mem_cons.mpr ⟨lw_p42, List.forall_mem_cons.mpr ⟨lw_p43, List.forall_mem_cons.mpr ⟨lw_p44, List.forall_mem_cons.mpr ⟨lw_p45, List.forall_mem_cons.mpr ⟨lw_p46, List.forall_mem_cons.mpr ⟨lw_p47, fun _ h => absurd h List.not_mem_nil⟩⟩⟩⟩⟩⟩⟩⟩⟩⟩⟩⟩⟩⟩⟩⟩
def lw_privs : List (MethodName × Nat) := lw_privs_1 ++ (lw_privs_2 ++ (lw_privs_3))
def lw_tbl : List Cond := k2_sels lw_privs ++ tables_1
theorem lw_privs_ok : ∀ q ∈ lw_privs, lw_okq q := by
  show ∀ q ∈ lw_privs_1 ++ (lw_privs_2 ++ (lw_privs_3)), lw_okq q
  exact List.forall_mem_append.mpr ⟨lw_r1, List.forall_mem_append.mpr ⟨lw_r2, lw_r3⟩⟩
end
section
/-! ===== BEGIN words of one list among another's, by their places ===== -/
theorem goodIn_r {big : List Cond} (ws : List Cond) (ps : List Nat) (hp : ws = ps.filterMap (fun i => big[i]?)) (h : ws.all goodWord = true) : GoodIn big ws := by
  intro w hw
  have h1 := List.all_eq_true.mp h w hw
  rw [hp] at hw
  obtain ⟨i, -, hi⟩ := List.mem_filterMap.mp hw
  have hm : w ∈ big := by first | exact List.mem_of_getElem? hi | exact List.getElem?_mem hi
  exact ⟨hm, good_of_word h1⟩
theorem goodIn_app {big a b : List Cond} (ha : GoodIn big a) (hb : GoodIn big b) : GoodIn big (a ++ b) := fun w h => (List.mem_append.mp h).elim (ha w) (hb w)
theorem goodIn_ca {big a b : List Cond} {c : Cond} (ha : GoodIn big (c :: a)) (hb : GoodIn big b) : GoodIn big (c :: (a ++ b)) := fun w h => (List.mem_cons.mp h).elim (fun e => ha w (List.mem_cons.mpr (Or.inl e))) (fun h => (List.mem_append.mp h).elim (fun h => ha w (List.mem_cons.mpr (Or.inr h))) (hb w))
theorem goodIn_sub {big ws : List Cond} (hm : ∀ w ∈ ws, w ∈ big) (h : ws.all goodWord = true) : GoodIn big ws := fun w hw => ⟨hm w hw, good_of_word (List.all_eq_true.mp h w hw)⟩
/-! ===== END ===== -/

/-! ===== BEGIN exceptions that leave a method, and their catching by the caller (launches without stack traces) ===== -/
section VXA
/-! The laws vx_back, vx_callV, vx_callS, vx_callSW, vx_throw0, vx_throwS follow proofs of the library, with one case more: JvmDerived/Free/Laws.lean (Back.of_free), Shelf42/LK1.lean (callV, callS), Shelf/KitTraced.lean (throwNew0V, throwNewS). -/
/-- where a method has thrown q: the class by its name, the cell, what was written, the world -/
def vx_T (XC : String → State → State → Prop) (st : State) (q : Addr) (t : State) (mc ms : Nat) (free : Addr → Prop) : Prop :=
  ∃ (E : String) (ce : Cell) (L : List Loc), XC E st t ∧ t.heap[q]? = some ce ∧ ce.vm = .none ∧ st.vm.findClass E = some ce.cls ∧ st.WarmedH t.vm ∧ st.sameButNew ({ t with vm := st.vm } : State) L mc ms ∧ ∀ z ∈ L, free z.base
def vx_Q (Qc : Array Value → State → Outcome → State → Prop) (XC : String → State → State → Prop) (mc ms : Nat) (free : Addr → Prop) : Array Value → State → Outcome → State → Prop := fun a st o t =>
  (Qc a st o t ∧ ∃ L, FrameEnd st o t L mc ms ∧ ∀ q ∈ L, free q.base) ∨ ∃ q, o = .threw q ∧ vx_T XC st q t mc ms free
/-- a callee that returns or throws -/
def vx_Met (l : Launch) (y : MethodName) (ws : List Cond) (rm : Room) (Pc : Array Value → State → Prop) (Qc : Array Value → State → Outcome → State → Prop) (XC : String → State → State → Prop) (mc ms : Nat) (free : Addr → Prop) : Prop :=
  MetFree l y (headSpec ws rm) Pc (fun _ _ _ _ _ => True) (vx_Q Qc XC mc ms free)
def vx_Post (XC : String → State → State → Prop) (mc ms : Nat) (free : Addr → Prop) : Pt → Array Value → Addr → Pt → Prop := fun A a q B =>
  ∃ (g : JFrame) (mk : MethodId) (t : State) (L : List Loc) (E : String) (ce : Cell), B.U.heap = t.heap ∧ B.U.vm = t.vm ∧ XC E (A.U.calling g mk a) t ∧ t.heap[q]? = some ce ∧ ce.vm = .none ∧ A.U.vm.findClass E = some ce.cls ∧ B.locs = A.locs ++ L ∧ (∀ z ∈ L, free z.base) ∧ B.cells = A.cells + mc ∧ B.slots = A.slots + ms
def vx_Back (l : Launch) (R : Room) (p : Program) (e : Env) (below : List Frame) (s : State) (sargs : Array Value) (y : MethodName) (len W9 : Nat)
    (Pre : Pt → Array Value → Prop) (Post : Pt → Array Value → Option Value → Pt → Prop) (PostX : Pt → Array Value → Addr → Pt → Prop) : Prop :=
  ∀ (m : MethodId) (meth : Method) (c : Code) (A : Pt) (g : JFrame) (ig : Instr) (mk : MethodId) (a : Array Value),
    Stand p l e R s m sargs below meth c A.U A.locs A.cells A.slots → g.method = m → g.locals.size = c.maxLocals → decode c.code g.pc = .ok (ig, len) →
    2 * g.monitorRoom + (g.stack.map fun v => v.category).sum ≤ W9 → A.U.methodNamed? y = some mk → Pre A a →
    (∃ (v : Option Value) (B : Pt), Stand p l e R s m sargs below meth c B.U B.locs B.cells B.slots ∧ Post A a v B ∧
      Steps p.tables e below (doInvoke e (A.U.setTop g) [] mk a).1 (B.U.setTop { g with pc := g.pc + len, stack := v.toList ++ g.stack })) ∨
    (∃ (q : Addr) (B : Pt), Stand p l e R s m sargs below meth c B.U B.locs B.cells B.slots ∧ PostX A a q B ∧
      Steps p.tables e below (doInvoke e (A.U.setTop g) [] mk a).1 ((B.U.setTop g).pushFrame (.throwing q)))
section Payer
variable {l : Launch} {R : Room} {p : Program} {e : Env} {below : List Frame} {s : State} {sargs : Array Value} {y : MethodName} {len W9 : Nat}
theorem vx_back {ws : List Cond} {rm : Room} {Pc : Array Value → State → Prop} {Qc : Array Value → State → Outcome → State → Prop} {XC : String → State → State → Prop} {mc ms : Nat} {free : Addr → Prop} {bytes : ByteArray} {maxL : Nat} {ret : Option FieldType}
    (hM : vx_Met l y ws rm Pc Qc XC mc ms free) (hblind : FrameBlind Pc) (hrc : rm.cells = mc) (hrs : rm.slots = ms)
    (hframes : rm.frames + 1 ≤ R.frames) (hlocals : W9 + (maxL + 11) + rm.locals ≤ R.locals)
    (hws : ∀ w ∈ ws, ∀ a' U, s.WarmedH U.vm → w.before a' U = true) (hcode : Cond.code y bytes maxL ret ∈ ws) (hinit : ∀ a' U, s.WarmedH U.vm → (Cond.initialized y.cls).before a' U = true) :
    vx_Back l R p e below s sargs y len W9 (PreOf R mc ms Pc) (PostOf Qc mc ms free) (vx_Post XC mc ms free) := by
  intro m meth c A g ig mk a X hg hsize hdg hW hn hp
  have h1 : (headSpec ws rm).pre.before a A.U = true := atoms_intro fun w hw => hws w hw _ _ X.warmed
  have h2 : (Cond.code y bytes maxL ret).before a A.U = true := hws _ hcode _ _ X.warmed
  have h3 : (Cond.initialized y.cls).before a A.U = true := hinit _ _ X.warmed
  have h4 : A.cells + (headSpec ws rm).room.cells ≤ R.cells := by rw [show (headSpec ws rm).room.cells = mc from hrc]; exact hp.1
  have h5 : A.slots + (headSpec ws rm).room.slots ≤ R.slots := by rw [show (headSpec ws rm).room.slots = ms from hrs]; exact hp.2.1
  have hPc : Pc a (A.U.calling g mk a) := hblind _ _ _ _ hp.2.2
  obtain ⟨U, Ls, c0, s0⟩ := A
  dsimp only [Pt.U, Pt.locs, Pt.cells, Pt.slots] at h1 h2 h3 h4 h5 X hn hPc ⊢
  obtain ⟨methY, cY, hmY, hcY, -, hlY, -, -, -, -⟩ := Cond.code_spec hn h2
  obtain ⟨kY, hkY, -⟩ := className_of_methodNamed hn
  have hinitY : kY.init = .initialized := Cond.initialized_spec (findClass_of_methodNamed hn) hkY h3
  have h : At U g.method c below := by rw [hg]; exact X.here
  have hlocals9 : W9 + (maxL + 11) + (headSpec ws rm).room.locals ≤ R.locals := hlocals
  have happ : (headSpec ws rm).appliesLoose y e.platform (U.calling g mk a) = true :=
    Spec.appliesLoose_calling (g := g) h hdg hn hkY hinitY
      (X.room_calling (g := g) (R' := (headSpec ws rm).room) hsize hmY hcY hframes (by rw [hlY]; omega) h4 h5) h1
  obtain ⟨mid, hmid⟩ := h.above
  have hfr : (U.setTop g).frames = (.java g :: mid) ++ below := by rw [State.frames_setTop' g h.top, hmid]; rfl
  obtain ⟨o, s₂, hsteps, -, hend, hq⟩ := Steps.callFree hM p X.admits X.cas X.clock (acts := []) hfr happ hPc trivial
  have hq' : vx_Q Qc XC mc ms free a (U.calling g mk a) o s₂ := hq
  rw [State.frames_setTop' g h.top] at hend
  obtain ⟨g₀, hg0⟩ := Option.isSome_iff_exists.mp h.top
  obtain ⟨r, hr⟩ := State.topJava?_eq_some.mp hg0
  have hr' : (({ U with heap := s₂.heap, slotsUsed := s₂.slotsUsed } : State).setVm s₂.vm).frames = .java g₀ :: r := hr
  rcases hq' with ⟨hqc, L, hfe, hL⟩ | ⟨q, rfl, E, ce, L, hx, hce, hcv, hcl, hW₂, hsm, hL⟩
  · obtain ⟨⟨v, rfl⟩, hW₂, e2, q2, q3, q4, q5, q6⟩ := id hfe
    have e3 : s₂ = ({ (U.calling g mk a).setFrames s₂.frames with heap := s₂.heap, slotsUsed := s₂.slotsUsed } : State).setVm s₂.vm := by
      have : s₂ = ({ s₂ with vm := (U.calling g mk a).vm } : State).setVm s₂.vm := rfl
      rw [e2] at this
      exact this
    obtain ⟨c₂, i₂, len₂, hc₂, hd₂, hf₂⟩ := hend
    have hW' : U.WarmedH s₂.vm := hW₂
    have hcc : c₂ = c := by
      have h1 : s₂.code? g.method = U.code? g.method := by
        rw [State.code?_eq, State.code?_eq, hW'.alike.method?]
      exact Option.some.inj (hc₂.symm.trans (h1.trans h.code))
    subst hcc
    have hlen : len₂ = len := by rw [hdg] at hd₂; cases hd₂; rfl
    subst hlen
    have hs₂ : s₂ = (({ U with heap := s₂.heap, slotsUsed := s₂.slotsUsed } : State).setVm s₂.vm).setTop { g with pc := g.pc + len₂, stack := v.toList ++ g.stack } := by
      refine e3.trans ?_
      rw [hf₂, State.calling_eq h.top, State.setFrames_setFrames, State.setTop_of_frames _ hr', hr]
      rfl
    have hsame : U.sameButNew ({ U with heap := s₂.heap, slotsUsed := s₂.slotsUsed } : State) L mc ms := by
      refine ⟨?_, q2, q3, q4, q5, q6⟩
      obtain ⟨t, ht, -⟩ := State.frames_cons hr
      show ({ U with heap := s₂.heap, slotsUsed := s₂.slotsUsed } : State) = { U.setFrames U.frames with heap := s₂.heap, slotsUsed := s₂.slotsUsed }
      rw [State.setFrames_self ht]
    subst hg
    refine Or.inl ⟨v, ⟨(({ U with heap := s₂.heap, slotsUsed := s₂.slotsUsed } : State).setVm s₂.vm), Ls ++ L, c0 + mc, s0 + ms⟩,
      ⟨X.admits, X.cas, X.clock, X.frames, X.room, X.hears, X.method, X.code, (X.here.setHeapUsed s₂.heap s₂.slotsUsed).setVm hW'.alike, X.tail, State.WarmedH.trans X.warmed hW', X.limits, X.bytes, X.same.trans (hsame.setVm s.vm)⟩,
      ⟨g, mk, s₂, L, rfl, rfl, hqc, rfl, hL, rfl, rfl⟩, ?_⟩
    show Steps p.tables e below _ ((({ U with heap := s₂.heap, slotsUsed := s₂.slotsUsed } : State).setVm s₂.vm).setTop { g with pc := g.pc + len₂, stack := v.toList ++ g.stack })
    rw [← hs₂]
    exact hsteps
  · obtain ⟨e2, q2, q3, q4, q5, q6⟩ := id hsm
    have e3 : s₂ = ({ (U.calling g mk a).setFrames s₂.frames with heap := s₂.heap, slotsUsed := s₂.slotsUsed } : State).setVm s₂.vm := by
      have : s₂ = ({ s₂ with vm := (U.calling g mk a).vm } : State).setVm s₂.vm := rfl
      rw [e2] at this
      exact this
    have hf₂ : s₂.frames = .throwing q :: .java g :: U.frames.tail := hend
    have hW' : U.WarmedH s₂.vm := hW₂
    have hs₂ : s₂ = ((({ U with heap := s₂.heap, slotsUsed := s₂.slotsUsed } : State).setVm s₂.vm).setTop g).pushFrame (.throwing q) := by
      refine e3.trans ?_
      rw [hf₂, State.calling_eq h.top, State.setFrames_setFrames, State.pushFrame, State.frames_setTop _ hr', State.setTop_of_frames _ hr', State.setFrames_setFrames, hr]
      rfl
    have hsame : U.sameButNew ({ U with heap := s₂.heap, slotsUsed := s₂.slotsUsed } : State) L mc ms := by
      refine ⟨?_, q2, q3, q4, q5, q6⟩
      obtain ⟨t, ht, -⟩ := State.frames_cons hr
      show ({ U with heap := s₂.heap, slotsUsed := s₂.slotsUsed } : State) = { U.setFrames U.frames with heap := s₂.heap, slotsUsed := s₂.slotsUsed }
      rw [State.setFrames_self ht]
    subst hg
    refine Or.inr ⟨q, ⟨(({ U with heap := s₂.heap, slotsUsed := s₂.slotsUsed } : State).setVm s₂.vm), Ls ++ L, c0 + mc, s0 + ms⟩,
      ⟨X.admits, X.cas, X.clock, X.frames, X.room, X.hears, X.method, X.code, (X.here.setHeapUsed s₂.heap s₂.slotsUsed).setVm hW'.alike, X.tail, State.WarmedH.trans X.warmed hW', X.limits, X.bytes, X.same.trans (hsame.setVm s.vm)⟩,
      ⟨g, mk, s₂, L, E, ce, rfl, rfl, hx, hce, hcv, hcl, rfl, hL, rfl, rfl⟩, ?_⟩
    show Steps p.tables e below _ (((({ U with heap := s₂.heap, slotsUsed := s₂.slotsUsed } : State).setVm s₂.vm).setTop g).pushFrame (.throwing q))
    rw [← hs₂]
    exact hsteps
end Payer
section Calls
variable {p : Program} {l : Launch} {e : Env} {R : Room} {s : State} {m : MethodId} {args : Array Value} {below : List Frame} {meth : Method} {c : Code} {T : State} {locs : List Loc} {cells slots : Nat}
theorem vx_callV (X : Stand p l e R s m args below meth c T locs cells slots) (hexec : p.tables.exec = Jvm.exec) {own C : String} {index : Nat} {y : MethodName} {bytes : ByteArray} {maxL : Nat} {ret : Option FieldType}
    (hown : s.vm.findClass own = some m.cls) (hlink : (Cond.methodLink own index y).before args s = true) (hinst : (Cond.instanceMethod y).before args s = true) (hsel : (Cond.selects C y y).before args s = true)
    (hcode : (Cond.code y bytes maxL ret).before args s = true) (hy : y.cls ≠ "java/lang/invoke/MethodHandle" ∧ y.cls ≠ "java/lang/invoke/VarHandle")
    {W9 : Nat} {Pre : Pt → Array Value → Prop} {Post : Pt → Array Value → Option Value → Pt → Prop} {PostX : Pt → Array Value → Addr → Pt → Prop} (hK : vx_Back l R p e below s args y 3 W9 Pre Post PostX)
    {b : Addr} {cellB : Cell} (hcell : T.heap[b]? = some cellB) (hobj : cellB.vm.isStatics = false) (hcls : s.vm.findClass C = some cellB.cls)
    {g : JFrame} (hg : g.method = m) (hsize : g.locals.size = c.maxLocals) {argsL rest : List Value} (hlen : ∀ sig, parseMethodDescriptor y.desc = some sig → argsL.length = sig.parameters.length)
    (hstack : g.stack = argsL.reverse ++ .ref b :: rest) (hW : 2 * g.monitorRoom + (rest.map fun v => v.category).sum ≤ W9) (hdg : decode c.code g.pc = .ok (.invokevirtual index, 3))
    (hpre : ∀ vm₁, s.WarmedH vm₁ → Pre ⟨T.setVm vm₁, locs, cells, slots⟩ (Value.ref b :: argsL).toArray) :
    (∃ (v : Option Value) (vm₁ : Vm) (B : Pt), s.WarmedH vm₁ ∧ Stand p l e R s m args below meth c B.U B.locs B.cells B.slots ∧ Post ⟨T.setVm vm₁, locs, cells, slots⟩ (Value.ref b :: argsL).toArray v B ∧
      ∀ target, Steps p.tables e below (B.U.setTop { g with pc := g.pc + 3, stack := v.toList ++ rest }) target → Steps p.tables e below (T.setTop g) target) ∨
    (∃ (q : Addr) (vm₁ : Vm) (B : Pt), s.WarmedH vm₁ ∧ Stand p l e R s m args below meth c B.U B.locs B.cells B.slots ∧ PostX ⟨T.setVm vm₁, locs, cells, slots⟩ (Value.ref b :: argsL).toArray q B ∧
      Steps p.tables e below (T.setTop g) ((B.U.setTop { g with stack := rest }).pushFrame (.throwing q))) := by
  obtain ⟨mk, methM, hnamed, hmethM, hstM, habM⟩ := Cond.instanceMethod_spec hinst
  obtain ⟨methM', cM, hmethM', -, -, -, -, -, -, hsigM⟩ := Cond.code_spec hnamed hcode
  cases hmethM.symm.trans hmethM'
  obtain ⟨c2, r2, m2, q1, q2, q3, q4, kP, hkP, hkPi⟩ := Cond.selects_spec hsel
  cases hcls.symm.trans q1
  cases (State.methodFound?_of_named hnamed hy).symm.trans q2
  cases hnamed.symm.trans q3
  have hselP : selectMethod e.platform s.vm cellB.cls mk = .method mk := by rw [Launch.admits_selectMethod X.admits]; exact q4
  obtain ⟨vm₁, X₁, hstep₁⟩ := X.invokevirtual hexec hown hlink hnamed hmethM hstM hkP hkPi hy (a := b) (cell := cellB) hcell
    (fun z h => by rw [h] at hobj; cases hobj) hselP hmethM habM hkP hkPi (g := g) hg (argsL := argsL) (rest := rest) (hlen _ hsigM) hstack hdg
  rcases hK m meth c ⟨T.setVm vm₁, locs, cells, slots⟩ { g with stack := rest } (.invokevirtual index) mk (Value.ref b :: argsL).toArray X₁ hg hsize hdg hW (X₁.named hnamed) (hpre vm₁ X₁.warmed) with ⟨v, B, X', hpost, hsteps⟩ | ⟨q, B, X', hpost, hsteps⟩
  · exact Or.inl ⟨v, vm₁, B, X₁.warmed, X', hpost, fun target h => hstep₁ _ fun acts => by rw [doInvoke_state]; exact hsteps.trans h⟩
  · exact Or.inr ⟨q, vm₁, B, X₁.warmed, X', hpost, hstep₁ _ fun acts => by rw [doInvoke_state]; exact hsteps⟩
theorem vx_callS (X : Stand p l e R s m args below meth c T locs cells slots) (hexec : p.tables.exec = Jvm.exec) {own : String} {index : Nat} {y : MethodName} {bytes : ByteArray} {maxL : Nat} {ret : Option FieldType}
    (hown : s.vm.findClass own = some m.cls) (hlink : (Cond.methodLink own index y).before args s = true) (hstat : (Cond.static y).before args s = true) (hinit : (Cond.initialized y.cls).before args s = true)
    (hcode : (Cond.code y bytes maxL ret).before args s = true) (hy : y.cls ≠ "java/lang/invoke/MethodHandle" ∧ y.cls ≠ "java/lang/invoke/VarHandle")
    {W9 : Nat} {Pre : Pt → Array Value → Prop} {Post : Pt → Array Value → Option Value → Pt → Prop} {PostX : Pt → Array Value → Addr → Pt → Prop} (hK : vx_Back l R p e below s args y 3 W9 Pre Post PostX)
    {g : JFrame} (hg : g.method = m) (hsize : g.locals.size = c.maxLocals) {argsL rest : List Value} (hlen : ∀ sig, parseMethodDescriptor y.desc = some sig → argsL.length = sig.parameters.length)
    (hstack : g.stack = argsL.reverse ++ rest) (hW : 2 * g.monitorRoom + (rest.map fun v => v.category).sum ≤ W9) (hdg : decode c.code g.pc = .ok (.invokestatic index, 3))
    (hpre : ∀ vm₁, s.WarmedH vm₁ → Pre ⟨T.setVm vm₁, locs, cells, slots⟩ argsL.toArray) :
    (∃ (v : Option Value) (vm₁ : Vm) (B : Pt), s.WarmedH vm₁ ∧ Stand p l e R s m args below meth c B.U B.locs B.cells B.slots ∧ Post ⟨T.setVm vm₁, locs, cells, slots⟩ argsL.toArray v B ∧
      ∀ target, Steps p.tables e below (B.U.setTop { g with pc := g.pc + 3, stack := v.toList ++ rest }) target → Steps p.tables e below (T.setTop g) target) ∨
    (∃ (q : Addr) (vm₁ : Vm) (B : Pt), s.WarmedH vm₁ ∧ Stand p l e R s m args below meth c B.U B.locs B.cells B.slots ∧ PostX ⟨T.setVm vm₁, locs, cells, slots⟩ argsL.toArray q B ∧
      Steps p.tables e below (T.setTop g) ((B.U.setTop { g with stack := rest }).pushFrame (.throwing q))) := by
  obtain ⟨mk, hnamed⟩ := Cond.code_named hcode
  obtain ⟨methM, cM, hmethM, -, -, -, -, -, -, hsigM⟩ := Cond.code_spec hnamed hcode
  have hstatic : methM.isStatic = true := Cond.static_spec hnamed hmethM hstat
  obtain ⟨kP, hkP, -⟩ := className_of_methodNamed hnamed
  have hinitP : kP.init = .initialized := Cond.initialized_spec (findClass_of_methodNamed hnamed) hkP hinit
  obtain ⟨vm₁, X₁, hstep₁⟩ := X.invokestatic hexec hown hlink hnamed hmethM hstatic hkP hinitP hy (g := g) hg (argsL := argsL) (rest := rest) (hlen _ hsigM) hstack hdg
  rcases hK m meth c ⟨T.setVm vm₁, locs, cells, slots⟩ { g with stack := rest } (.invokestatic index) mk argsL.toArray X₁ hg hsize hdg hW (X₁.named hnamed) (hpre vm₁ X₁.warmed) with ⟨v, B, X', hpost, hsteps⟩ | ⟨q, B, X', hpost, hsteps⟩
  · exact Or.inl ⟨v, vm₁, B, X₁.warmed, X', hpost, fun target h => hstep₁ _ fun acts => by rw [doInvoke_state]; exact hsteps.trans h⟩
  · exact Or.inr ⟨q, vm₁, B, X₁.warmed, X', hpost, hstep₁ _ fun acts => by rw [doInvoke_state]; exact hsteps⟩
end Calls
theorem vx_cls {s : State} {T : State} {vm₁ : Vm} {E : String} {k : ClassId} (hW : s.WarmedH vm₁) (h : (T.setVm vm₁).vm.findClass E = some k) : s.vm.findClass E = some k := by
  have h1 : vm₁.findClass E = some k := h
  rw [hW.alike.findClass] at h1
  exact h1
/-- the method's frame g, with q thrown over it -/
def vx_W (p : Program) (l : Launch) (e : Env) (R : Room) (s : State) (m : MethodId) (args : Array Value) (below : List Frame) (meth : Method) (c : Code) (H : Heap) (locs : List Loc) (cells slots : Nat) (Q : State → Prop) (g : JFrame) (q : Addr) : Prop :=
  ∀ T : State, T.heap = H → Stand p l e R s m args below meth c T locs cells slots → ∃ t, Steps p.tables e below ((T.setTop g).pushFrame (.throwing q)) t ∧ Q t
def vx_Run (p : Program) (l : Launch) (e : Env) (R : Room) (s : State) (m : MethodId) (args : Array Value) (below : List Frame) (meth : Method) (c : Code) (H : Heap) (locs : List Loc) (cells slots mc ms : Nat) (g : JFrame) (rest : List Value) (Qa : State → Outcome → State → Prop) (XC : String → State → State → Prop) (free : Addr → Prop) : Prop :=
  ∀ T : State, T.heap = H → Stand p l e R s m args below meth c T locs cells slots →
    (∃ (v : Option Value) (st₀ t T' : State) (L : List Loc), st₀.heap = H ∧ Stand p l e R s m args below meth c T' (locs ++ L) (cells + mc) (slots + ms) ∧ (∀ q ∈ L, free q.base) ∧ T'.heap = t.heap ∧ T'.vm = t.vm ∧ Qa st₀ (.returned v) t ∧
      Goes p e below T g T' { g with pc := g.pc + 3, stack := v.toList ++ rest }) ∨
    (∃ (q : Addr) (st₀ t T' : State) (L : List Loc) (E : String) (ce : Cell), st₀.heap = H ∧ Stand p l e R s m args below meth c T' (locs ++ L) (cells + mc) (slots + ms) ∧ (∀ z ∈ L, free z.base) ∧ T'.heap = t.heap ∧ T'.vm = t.vm ∧ XC E st₀ t ∧ t.heap[q]? = some ce ∧ ce.vm = .none ∧ s.vm.findClass E = some ce.cls ∧
      Steps p.tables e below (T.setTop g) ((T'.setTop { g with stack := rest }).pushFrame (.throwing q)))
def vx_X {S : Type} (px : S → Prop) (B : String → S → State → Prop) (A : Nat → Prop) : String → State → State → Prop := fun E st t => ∃ u : S, px u ∧ B E u t ∧ va_F A st t
section Runs
variable {p : Program} {l : Launch} {e : Env} {R : Room} {s : State} {m : MethodId} {args : Array Value} {below : List Frame} {meth : Method} {c : Code} {H : Heap} {locs : List Loc} {cells slots : Nat}
variable {y : MethodName} {bytes cc : ByteArray} {maxL nL mc ms n index : Nat} {ret : Option FieldType} {ws : List Cond} {rm : Room} {Pc : Array Value → State → Prop} {Qc : Array Value → State → Outcome → State → Prop} {XC : String → State → State → Prop} {free : Addr → Prop} {Ts : List Cond} {own C : String} {b : Addr} {As rest : List Value} {g : JFrame}
theorem vx_callBack (cb : CallB R s args own index y bytes maxL ret ws rm mc ms n) (hM : vx_Met l y ws rm Pc Qc XC mc ms free) (hbl : FrameBlind Pc) : vx_Back l R p e below s args y 3 8 (PreOf R mc ms Pc) (PostOf Qc mc ms free) (vx_Post XC mc ms free) := by
  obtain ⟨hrc, hrs, hfr, hlo, hws, hcw, -, hini, -⟩ := cb
  exact vx_back (bytes := bytes) (maxL := maxL) (ret := ret) hM hbl hrc hrs hfr hlo hws hcw (fun a' U hW => word_at hW (Or.inl (by first | rfl | simp [Cond.onTables, Cond.keeps, Cond.steady])) hini)
theorem vx_runV (S : CallFix p m c cc nL s args Ts own) (hM : vx_Met l y ws rm Pc Qc XC mc ms free) (cw : CallW R s args own C index y bytes maxL ret ws rm mc ms n) (hp : PreV s H C b Pc As)
    (hg : g.method = m) (hn : As.length = n) (hsize : g.locals.size = nL) (hstack : g.stack = As.reverse ++ .ref b :: rest) (hW : 2 * g.monitorRoom + (rest.map fun v => v.category).sum ≤ 8) (hdg : decode cc g.pc = .ok (.invokevirtual index, 3)) (hf : cells + mc ≤ R.cells ∧ slots + ms ≤ R.slots) :
    vx_Run p l e R s m args below meth c H locs cells slots mc ms g rest (Qc (Value.ref b :: As).toArray) XC free := by
  have hK : vx_Back l R p e below s args y 3 8 (PreOf R mc ms Pc) (PostOf Qc mc ms free) (vx_Post XC mc ms free) := vx_callBack cw.1 hM hp.1
  obtain ⟨⟨-, -, -, -, -, -, hcode, -, hy, hlen, hl⟩, hin, hse⟩ := cw
  obtain ⟨hx, hb, hml, ho, -⟩ := S
  obtain ⟨-, ⟨cellB, hcB, hoB, hclB⟩, hPc⟩ := hp
  intro T hT X
  rcases vx_callV X hx (C := C) (bytes := bytes) (maxL := maxL) (ret := ret) ho hl hin hse hcode hy hK (by rw [hT]; exact hcB) hoB hclB hg (hsize.trans hml.symm) (argsL := As) (rest := rest) (fun sig h => hn.trans (hlen sig h)) hstack hW (by rw [hb]; exact hdg)
    (fun vm₁ hW₁ => ⟨hf.1, hf.2, hPc (T.setVm vm₁) hT hW₁⟩) with ⟨v, vm₁, ⟨U', l2, c2, s2⟩, hW₁, X', ⟨g', mk, t, L, e1, e2, hq, h1, hL, h2, h3⟩, st⟩ | ⟨q, vm₁, ⟨U', l2, c2, s2⟩, hW₁, X', ⟨g', mk, t, L, E, ce, e1, e2, hq, hce, hcv, hcl, h1, hL, h2, h3⟩, st⟩
  · dsimp only [Pt.U, Pt.locs, Pt.cells, Pt.slots] at X' e1 e2 h1 h2 h3 st
    subst h1; subst h2; subst h3
    exact Or.inl ⟨v, (T.setVm vm₁).calling g' mk (Value.ref b :: As).toArray, t, U', L, hT, X', hL, e1, e2, hq, st⟩
  · dsimp only [Pt.U, Pt.locs, Pt.cells, Pt.slots] at X' e1 e2 h1 h2 h3 st hcl
    subst h1; subst h2; subst h3
    exact Or.inr ⟨q, (T.setVm vm₁).calling g' mk (Value.ref b :: As).toArray, t, U', L, E, ce, hT, X', hL, e1, e2, hq, hce, hcv, vx_cls hW₁ hcl, st⟩
theorem vx_runS (S : CallFix p m c cc nL s args Ts own) (hM : vx_Met l y ws rm Pc Qc XC mc ms free) (cw : CallB R s args own index y bytes maxL ret ws rm mc ms n ∧ (Cond.static y).before args s = true) (hp : PreS s H Pc As)
    (hg : g.method = m) (hn : As.length = n) (hsize : g.locals.size = nL) (hstack : g.stack = As.reverse ++ rest) (hW : 2 * g.monitorRoom + (rest.map fun v => v.category).sum ≤ 8) (hdg : decode cc g.pc = .ok (.invokestatic index, 3)) (hf : cells + mc ≤ R.cells ∧ slots + ms ≤ R.slots) :
    vx_Run p l e R s m args below meth c H locs cells slots mc ms g rest (Qc As.toArray) XC free := by
  have hK : vx_Back l R p e below s args y 3 8 (PreOf R mc ms Pc) (PostOf Qc mc ms free) (vx_Post XC mc ms free) := vx_callBack cw.1 hM hp.1
  obtain ⟨⟨-, -, -, -, -, -, hcode, hini, hy, hlen, hl⟩, hstt⟩ := cw
  obtain ⟨hx, hb, hml, ho, -⟩ := S
  intro T hT X
  rcases vx_callS X hx (bytes := bytes) (maxL := maxL) (ret := ret) ho hl hstt hini hcode hy hK hg (hsize.trans hml.symm) (argsL := As) (rest := rest) (fun sig h => hn.trans (hlen sig h)) hstack hW (by rw [hb]; exact hdg)
    (fun vm₁ hW₁ => ⟨hf.1, hf.2, hp.2 (T.setVm vm₁) hT hW₁⟩) with ⟨v, vm₁, ⟨U', l2, c2, s2⟩, hW₁, X', ⟨g', mk, t, L, e1, e2, hq, h1, hL, h2, h3⟩, st⟩ | ⟨q, vm₁, ⟨U', l2, c2, s2⟩, hW₁, X', ⟨g', mk, t, L, E, ce, e1, e2, hq, hce, hcv, hcl, h1, hL, h2, h3⟩, st⟩
  · dsimp only [Pt.U, Pt.locs, Pt.cells, Pt.slots] at X' e1 e2 h1 h2 h3 st
    subst h1; subst h2; subst h3
    exact Or.inl ⟨v, (T.setVm vm₁).calling g' mk As.toArray, t, U', L, hT, X', hL, e1, e2, hq, st⟩
  · dsimp only [Pt.U, Pt.locs, Pt.cells, Pt.slots] at X' e1 e2 h1 h2 h3 st hcl
    subst h1; subst h2; subst h3
    exact Or.inr ⟨q, (T.setVm vm₁).calling g' mk As.toArray, t, U', L, E, ce, hT, X', hL, e1, e2, hq, hce, hcv, vx_cls hW₁ hcl, st⟩
end Runs
section Rows
variable {p : Program} {l : Launch} {e : Env} {R : Room} {s : State} {m : MethodId} {args : Array Value} {below : List Frame} {meth : Method} {c : Code} {H : Heap} {locs : List Loc} {cells slots : Nat} {Q : State → Prop}
variable {mc ms : Nat} {free : Addr → Prop} {A0 A1 : Nat → Prop} {H0 : Heap} {a : Array Value} {pc : Nat} {ls : Array Slot} {st0 rest : List Value}
theorem vx_keep {st₀ t T' : State} {L : List Loc} (h0 : st₀.heap = H) (e1 : T'.heap = t.heap) (hS : va_S A0 H0 H locs) (hA : ∀ q, q < H.size → A1 q → A0 q) (hf : ∀ q, free q → A0 q) (hL : ∀ q ∈ L, free q.base) (hF : va_F A1 st₀ t) :
    H.size ≤ T'.heap.size ∧ (∀ q : Nat, q < H.size → ¬ A1 q → T'.heap[q]? = H[q]?) ∧ va_S A0 H0 T'.heap (locs ++ L) := by
  obtain ⟨hz, hk⟩ := hF
  rw [h0] at hz hk
  exact ⟨by rw [e1]; exact hz, fun q h1 h2 => by rw [e1]; exact hk q h1 h2,
    ⟨Nat.le_trans hS.1 (by rw [e1]; exact hz), fun q h1 h2 => by rw [e1, hk q (Nat.lt_of_lt_of_le h1 hS.1) (fun z => h2 (hA q (Nat.lt_of_lt_of_le h1 hS.1) z))]; exact hS.2.1 q h1 h2, fun q hq => by
      rcases List.mem_append.mp hq with h | h
      · exact hS.2.2 q h
      · exact hf _ (hL q h)⟩⟩
theorem vx_calli {S SX : Type} {post : Int32 → S → Prop} {px : SX → Prop} {B : S → State → Prop} {BX : String → SX → State → Prop} {AX : Nat → Prop} (hr : vx_Run p l e R s m args below meth c H locs cells slots mc ms (F0 m pc ls st0) rest (va_Qi post B A1 a) (vx_X px BX AX) free) (hS : va_S A0 H0 H locs) (hA : ∀ q, q < H.size → A1 q → A0 q) (hf : ∀ q, free q → A0 q) (hAX : ∀ q, q < H.size → AX q → A0 q)
    (kx : ∀ (E : String) (ce : Cell) (q9 : Addr) (u : SX) (t : State) (H1 : Heap) (locs1 : List Loc), t.heap = H1 → s.vm.Alike t.vm → px u → BX E u t → H.size ≤ H1.size → (∀ q : Nat, q < H.size → ¬ AX q → H1[q]? = H[q]?) → va_S A0 H0 H1 locs1 → H1[q9]? = some ce → ce.vm = .none → s.vm.findClass E = some ce.cls → vx_W p l e R s m args below meth c H1 locs1 (cells + mc) (slots + ms) Q (F0 m pc ls rest) q9)
    (kk : ∀ (r : Int32) (u : S) (t : State) (H1 : Heap) (locs1 : List Loc), t.heap = H1 → s.vm.Alike t.vm → post r u → B u t → H.size ≤ H1.size → (∀ q : Nat, q < H.size → ¬ A1 q → H1[q]? = H[q]?) → va_S A0 H0 H1 locs1 → W p l e R s m args below meth c H1 locs1 (cells + mc) (slots + ms) Q (F0 m (pc + 3) ls (.int r :: rest))) : W p l e R s m args below meth c H locs cells slots Q (F0 m pc ls st0) := by
  intro T hT X
  rcases hr T hT X with ⟨v, st₀, t, T', L, h0, X', hL, e1, e2, ⟨⟨r, u, hv, hp, hb⟩, hF⟩, st⟩ | ⟨q, st₀, t, T', L, E, ce, h0, X', hL, e1, e2, ⟨u, hp, hb, hF⟩, hce, hcv, hcl, st⟩
  · cases hv
    obtain ⟨k1, k2, k3⟩ := vx_keep h0 e1 hS hA hf hL hF
    obtain ⟨t2, a1, b1⟩ := kk r u t T'.heap (locs ++ L) e1.symm (by rw [← e2]; exact X'.warmed.alike) hp hb k1 k2 k3 T' rfl X'
    exact ⟨t2, st t2 a1, b1⟩
  · obtain ⟨k1, k2, k3⟩ := vx_keep h0 e1 hS hAX hf hL hF
    obtain ⟨t2, a1, b1⟩ := kx E ce q u t T'.heap (locs ++ L) e1.symm (by rw [← e2]; exact X'.warmed.alike) hp hb k1 k2 k3 (by rw [e1]; exact hce) hcv hcl T' rfl X'
    exact ⟨t2, st.trans a1, b1⟩
theorem vx_calll {S SX : Type} {post : Int64 → S → Prop} {px : SX → Prop} {B : S → State → Prop} {BX : String → SX → State → Prop} {AX : Nat → Prop} (hr : vx_Run p l e R s m args below meth c H locs cells slots mc ms (F0 m pc ls st0) rest (va_Ql post B A1 a) (vx_X px BX AX) free) (hS : va_S A0 H0 H locs) (hA : ∀ q, q < H.size → A1 q → A0 q) (hf : ∀ q, free q → A0 q) (hAX : ∀ q, q < H.size → AX q → A0 q)
    (kx : ∀ (E : String) (ce : Cell) (q9 : Addr) (u : SX) (t : State) (H1 : Heap) (locs1 : List Loc), t.heap = H1 → s.vm.Alike t.vm → px u → BX E u t → H.size ≤ H1.size → (∀ q : Nat, q < H.size → ¬ AX q → H1[q]? = H[q]?) → va_S A0 H0 H1 locs1 → H1[q9]? = some ce → ce.vm = .none → s.vm.findClass E = some ce.cls → vx_W p l e R s m args below meth c H1 locs1 (cells + mc) (slots + ms) Q (F0 m pc ls rest) q9)
    (kk : ∀ (r : Int64) (u : S) (t : State) (H1 : Heap) (locs1 : List Loc), t.heap = H1 → s.vm.Alike t.vm → post r u → B u t → H.size ≤ H1.size → (∀ q : Nat, q < H.size → ¬ A1 q → H1[q]? = H[q]?) → va_S A0 H0 H1 locs1 → W p l e R s m args below meth c H1 locs1 (cells + mc) (slots + ms) Q (F0 m (pc + 3) ls (.long r :: rest))) : W p l e R s m args below meth c H locs cells slots Q (F0 m pc ls st0) := by
  intro T hT X
  rcases hr T hT X with ⟨v, st₀, t, T', L, h0, X', hL, e1, e2, ⟨⟨r, u, hv, hp, hb⟩, hF⟩, st⟩ | ⟨q, st₀, t, T', L, E, ce, h0, X', hL, e1, e2, ⟨u, hp, hb, hF⟩, hce, hcv, hcl, st⟩
  · cases hv
    obtain ⟨k1, k2, k3⟩ := vx_keep h0 e1 hS hA hf hL hF
    obtain ⟨t2, a1, b1⟩ := kk r u t T'.heap (locs ++ L) e1.symm (by rw [← e2]; exact X'.warmed.alike) hp hb k1 k2 k3 T' rfl X'
    exact ⟨t2, st t2 a1, b1⟩
  · obtain ⟨k1, k2, k3⟩ := vx_keep h0 e1 hS hAX hf hL hF
    obtain ⟨t2, a1, b1⟩ := kx E ce q u t T'.heap (locs ++ L) e1.symm (by rw [← e2]; exact X'.warmed.alike) hp hb k1 k2 k3 (by rw [e1]; exact hce) hcv hcl T' rfl X'
    exact ⟨t2, st.trans a1, b1⟩
theorem vx_callf {S SX : Type} {post : UInt32 → S → Prop} {px : SX → Prop} {B : S → State → Prop} {BX : String → SX → State → Prop} {AX : Nat → Prop} (hr : vx_Run p l e R s m args below meth c H locs cells slots mc ms (F0 m pc ls st0) rest (va_Qf post B A1 a) (vx_X px BX AX) free) (hS : va_S A0 H0 H locs) (hA : ∀ q, q < H.size → A1 q → A0 q) (hf : ∀ q, free q → A0 q) (hAX : ∀ q, q < H.size → AX q → A0 q)
    (kx : ∀ (E : String) (ce : Cell) (q9 : Addr) (u : SX) (t : State) (H1 : Heap) (locs1 : List Loc), t.heap = H1 → s.vm.Alike t.vm → px u → BX E u t → H.size ≤ H1.size → (∀ q : Nat, q < H.size → ¬ AX q → H1[q]? = H[q]?) → va_S A0 H0 H1 locs1 → H1[q9]? = some ce → ce.vm = .none → s.vm.findClass E = some ce.cls → vx_W p l e R s m args below meth c H1 locs1 (cells + mc) (slots + ms) Q (F0 m pc ls rest) q9)
    (kk : ∀ (r : UInt32) (u : S) (t : State) (H1 : Heap) (locs1 : List Loc), t.heap = H1 → s.vm.Alike t.vm → post r u → B u t → H.size ≤ H1.size → (∀ q : Nat, q < H.size → ¬ A1 q → H1[q]? = H[q]?) → va_S A0 H0 H1 locs1 → W p l e R s m args below meth c H1 locs1 (cells + mc) (slots + ms) Q (F0 m (pc + 3) ls (.float r :: rest))) : W p l e R s m args below meth c H locs cells slots Q (F0 m pc ls st0) := by
  intro T hT X
  rcases hr T hT X with ⟨v, st₀, t, T', L, h0, X', hL, e1, e2, ⟨⟨r, u, hv, hp, hb⟩, hF⟩, st⟩ | ⟨q, st₀, t, T', L, E, ce, h0, X', hL, e1, e2, ⟨u, hp, hb, hF⟩, hce, hcv, hcl, st⟩
  · cases hv
    obtain ⟨k1, k2, k3⟩ := vx_keep h0 e1 hS hA hf hL hF
    obtain ⟨t2, a1, b1⟩ := kk r u t T'.heap (locs ++ L) e1.symm (by rw [← e2]; exact X'.warmed.alike) hp hb k1 k2 k3 T' rfl X'
    exact ⟨t2, st t2 a1, b1⟩
  · obtain ⟨k1, k2, k3⟩ := vx_keep h0 e1 hS hAX hf hL hF
    obtain ⟨t2, a1, b1⟩ := kx E ce q u t T'.heap (locs ++ L) e1.symm (by rw [← e2]; exact X'.warmed.alike) hp hb k1 k2 k3 (by rw [e1]; exact hce) hcv hcl T' rfl X'
    exact ⟨t2, st.trans a1, b1⟩
theorem vx_calld {S SX : Type} {post : UInt64 → S → Prop} {px : SX → Prop} {B : S → State → Prop} {BX : String → SX → State → Prop} {AX : Nat → Prop} (hr : vx_Run p l e R s m args below meth c H locs cells slots mc ms (F0 m pc ls st0) rest (va_Qd post B A1 a) (vx_X px BX AX) free) (hS : va_S A0 H0 H locs) (hA : ∀ q, q < H.size → A1 q → A0 q) (hf : ∀ q, free q → A0 q) (hAX : ∀ q, q < H.size → AX q → A0 q)
    (kx : ∀ (E : String) (ce : Cell) (q9 : Addr) (u : SX) (t : State) (H1 : Heap) (locs1 : List Loc), t.heap = H1 → s.vm.Alike t.vm → px u → BX E u t → H.size ≤ H1.size → (∀ q : Nat, q < H.size → ¬ AX q → H1[q]? = H[q]?) → va_S A0 H0 H1 locs1 → H1[q9]? = some ce → ce.vm = .none → s.vm.findClass E = some ce.cls → vx_W p l e R s m args below meth c H1 locs1 (cells + mc) (slots + ms) Q (F0 m pc ls rest) q9)
    (kk : ∀ (r : UInt64) (u : S) (t : State) (H1 : Heap) (locs1 : List Loc), t.heap = H1 → s.vm.Alike t.vm → post r u → B u t → H.size ≤ H1.size → (∀ q : Nat, q < H.size → ¬ A1 q → H1[q]? = H[q]?) → va_S A0 H0 H1 locs1 → W p l e R s m args below meth c H1 locs1 (cells + mc) (slots + ms) Q (F0 m (pc + 3) ls (.double r :: rest))) : W p l e R s m args below meth c H locs cells slots Q (F0 m pc ls st0) := by
  intro T hT X
  rcases hr T hT X with ⟨v, st₀, t, T', L, h0, X', hL, e1, e2, ⟨⟨r, u, hv, hp, hb⟩, hF⟩, st⟩ | ⟨q, st₀, t, T', L, E, ce, h0, X', hL, e1, e2, ⟨u, hp, hb, hF⟩, hce, hcv, hcl, st⟩
  · cases hv
    obtain ⟨k1, k2, k3⟩ := vx_keep h0 e1 hS hA hf hL hF
    obtain ⟨t2, a1, b1⟩ := kk r u t T'.heap (locs ++ L) e1.symm (by rw [← e2]; exact X'.warmed.alike) hp hb k1 k2 k3 T' rfl X'
    exact ⟨t2, st t2 a1, b1⟩
  · obtain ⟨k1, k2, k3⟩ := vx_keep h0 e1 hS hAX hf hL hF
    obtain ⟨t2, a1, b1⟩ := kx E ce q u t T'.heap (locs ++ L) e1.symm (by rw [← e2]; exact X'.warmed.alike) hp hb k1 k2 k3 (by rw [e1]; exact hce) hcv hcl T' rfl X'
    exact ⟨t2, st.trans a1, b1⟩
theorem vx_callv {S SX : Type} {post : S → Prop} {px : SX → Prop} {B : S → State → Prop} {BX : String → SX → State → Prop} {AX : Nat → Prop} (hr : vx_Run p l e R s m args below meth c H locs cells slots mc ms (F0 m pc ls st0) rest (va_Qv post B A1 a) (vx_X px BX AX) free) (hS : va_S A0 H0 H locs) (hA : ∀ q, q < H.size → A1 q → A0 q) (hf : ∀ q, free q → A0 q) (hAX : ∀ q, q < H.size → AX q → A0 q)
    (kx : ∀ (E : String) (ce : Cell) (q9 : Addr) (u : SX) (t : State) (H1 : Heap) (locs1 : List Loc), t.heap = H1 → s.vm.Alike t.vm → px u → BX E u t → H.size ≤ H1.size → (∀ q : Nat, q < H.size → ¬ AX q → H1[q]? = H[q]?) → va_S A0 H0 H1 locs1 → H1[q9]? = some ce → ce.vm = .none → s.vm.findClass E = some ce.cls → vx_W p l e R s m args below meth c H1 locs1 (cells + mc) (slots + ms) Q (F0 m pc ls rest) q9)
    (kk : ∀ (u : S) (t : State) (H1 : Heap) (locs1 : List Loc), t.heap = H1 → s.vm.Alike t.vm → post u → B u t → H.size ≤ H1.size → (∀ q : Nat, q < H.size → ¬ A1 q → H1[q]? = H[q]?) → va_S A0 H0 H1 locs1 → W p l e R s m args below meth c H1 locs1 (cells + mc) (slots + ms) Q (F0 m (pc + 3) ls (rest))) : W p l e R s m args below meth c H locs cells slots Q (F0 m pc ls st0) := by
  intro T hT X
  rcases hr T hT X with ⟨v, st₀, t, T', L, h0, X', hL, e1, e2, ⟨⟨u, hv, hp, hb⟩, hF⟩, st⟩ | ⟨q, st₀, t, T', L, E, ce, h0, X', hL, e1, e2, ⟨u, hp, hb, hF⟩, hce, hcv, hcl, st⟩
  · cases hv
    obtain ⟨k1, k2, k3⟩ := vx_keep h0 e1 hS hA hf hL hF
    obtain ⟨t2, a1, b1⟩ := kk u t T'.heap (locs ++ L) e1.symm (by rw [← e2]; exact X'.warmed.alike) hp hb k1 k2 k3 T' rfl X'
    exact ⟨t2, st t2 a1, b1⟩
  · obtain ⟨k1, k2, k3⟩ := vx_keep h0 e1 hS hAX hf hL hF
    obtain ⟨t2, a1, b1⟩ := kx E ce q u t T'.heap (locs ++ L) e1.symm (by rw [← e2]; exact X'.warmed.alike) hp hb k1 k2 k3 (by rw [e1]; exact hce) hcv hcl T' rfl X'
    exact ⟨t2, st.trans a1, b1⟩
/-- caught by the row x of this method's table; the rows ahead don't take it -/
theorem vx_catch {own name : String} {E : String} {ce : Cell} {q : Addr} (hown : s.vm.findClass own = some m.cls) (pre : List ExceptionTableEntry) (x : ExceptionTableEntry) (suf : List ExceptionTableEntry) (hsplit : c.exceptionTable.toList = pre ++ x :: suf)
    (hpass : ∀ z ∈ pre, covers z pc = false ∨ (z.catchType ≠ 0 ∧ ∃ nm : String, (Cond.classLink own z.catchType nm).before args s = true ∧ va_Nc E nm s)) (hx : covers x pc = true) (h0 : x.catchType ≠ 0)
    (hlink : (Cond.classLink own x.catchType name).before args s = true) (hcast : (Cond.castable E name).before args s = true) (hcell : H[q]? = some ce) (hv : ce.vm = .none) (hcl : s.vm.findClass E = some ce.cls)
    (kk : W p l e R s m args below meth c H locs cells slots Q (F0 m x.handlerPc ls [.ref q])) : vx_W p l e R s m args below meth c H locs cells slots Q (F0 m pc ls rest) q := by
  intro T hT X
  have hpl : e.platform.magicAccessors = ({} : Platform).magicAccessors := by rw [X.admits.platform]
  obtain ⟨c3, c4, hc3, hc4, hasg⟩ := Cond.castable_spec hcast
  cases Option.some.inj (hc3.symm.trans hcl)
  obtain ⟨c5, hc5, hcl5⟩ := Cond.classLink_spec hown hlink e.platform hpl
  cases Option.some.inj (hc4.symm.trans hc5)
  obtain ⟨vm', X', st⟩ := X.thenCaughtThrough q (g := F0 m pc ls rest) rfl (Steps.refl _) (by rw [hT]; exact hcell) (by rw [hv]; rfl) (by obtain ⟨k9, h9, -⟩ := Vm.findClass_spec hcl; exact ⟨k9, h9⟩) pre x suf hsplit
    (fun z hz => by
      rcases hpass z hz with h | ⟨hz0, nm, hl1, hn1⟩
      · exact Or.inl h
      · obtain ⟨c6, hc6, hcl6⟩ := Cond.classLink_spec hown hl1 e.platform hpl
        obtain ⟨a8, b8, h1, h2, h3⟩ := hn1
        cases Option.some.inj (h1.symm.trans hcl)
        cases Option.some.inj (h2.symm.trans hc6)
        exact Or.inr ⟨hz0, _, hcl6, h3⟩) hx (Or.inr ⟨h0, c4, hcl5, hasg⟩)
  obtain ⟨t, a1, b1⟩ := kk (T.setVm vm') hT X'
  exact ⟨t, st.trans a1, b1⟩
end Rows
section Ends
variable {p : Program} {l : Launch} {e : Env} {R : Room} {s : State} {m : MethodId} {args : Array Value} {below : List Frame} {meth : Method} {c : Code} {H : Heap} {locs : List Loc} {cells slots : Nat} {Q : State → Prop}
variable {mc ms : Nat} {free : Addr → Prop} {A0 A1 : Nat → Prop} {H0 : Heap} {a : Array Value} {ls : Array Slot} {st0 rest : List Value}
variable {Qc : Array Value → State → Outcome → State → Prop} {XC : String → State → State → Prop}
/-- what a body that may throw owes at its end -/
def vx_MQ (below : List Frame) (Qc : Array Value → State → Outcome → State → Prop) (XC : String → State → State → Prop) (a : Array Value) (s : State) (mc ms : Nat) (free : Addr → Prop) : State → Prop := fun t =>
  ∃ o, t.status = .running ∧ Ended t below o ∧ vx_Q Qc XC mc ms free a s o t
theorem vx_ret {g : JFrame} {mc ms : Nat} (k : W p l e R s m args below meth c H locs cells slots (MQ below Qc args s mc ms free) g) : W p l e R s m args below meth c H locs cells slots (vx_MQ below Qc XC args s mc ms free) g := by
  intro T hT X
  obtain ⟨t, a1, o, b1, b2, b3, b4⟩ := k T hT X
  exact ⟨t, a1, o, b1, b2, Or.inl ⟨b3, b4⟩⟩
/-- not caught here: it goes on to the caller -/
theorem vx_widen {g : JFrame} {q : Addr} {k n : Nat} (h1 : cells ≤ k) (h2 : slots ≤ n) (kk : vx_W p l e R s m args below meth c H locs k n Q g q) : vx_W p l e R s m args below meth c H locs cells slots Q g q := fun T hT X => kk T hT (stand_widen X h1 h2)
theorem vx_out {pc : Nat} {E : String} {ce : Cell} {q : Addr} {mc ms : Nat} (hout : ∀ x ∈ c.exceptionTable.toList, covers x pc = false) (hlocks : meth.locks = false) (hcell : H[q]? = some ce) (hv : ce.vm = .none) (hcl : s.vm.findClass E = some ce.cls)
    (hx : ∀ t : State, t.heap = H → s.vm.Alike t.vm → XC E s t) (hf : ∀ z ∈ locs, free z.base) (hc : cells ≤ mc) (hs : slots ≤ ms) :
    vx_W p l e R s m args below meth c H locs cells slots (vx_MQ below Qc XC args s mc ms free) (F0 m pc ls rest) q := by
  intro T hT X
  obtain ⟨st1, hrun, hend, hW, hsm⟩ := X.leaveThrown q (g := F0 m pc ls rest) rfl rfl rfl hout hlocks
  have hcell9 : (T.setFrames (.throwing q :: below)).heap[q]? = some ce := by
    show T.heap[q]? = some ce
    rw [hT]; exact hcell
  exact ⟨_, st1, .threw q, hrun, hend, Or.inr ⟨q, rfl, E, ce, locs, hx _ hT hW.alike, hcell9, hv, hcl, hW, hsm.mono hc hs, hf⟩⟩
theorem vx_frame {U : State} {k n : Nat} (h : s.sameButNew ({ U with vm := s.vm } : State) locs k n) : s.heap.size ≤ U.heap.size ∧ ∀ q : Nat, q < s.heap.size → (∀ z ∈ locs, z.base ≠ q) → U.heap[q]? = s.heap[q]? := by
  obtain ⟨-, h2, -, -, -, h6⟩ := h
  refine ⟨h2, fun q hq hz => ?_⟩
  obtain ⟨c9, e1, e2, e3, e4⟩ := h6 q _ (Array.getElem?_eq_getElem hq)
  have hs : c9.slots = (s.heap[q]).slots := Array.ext_getElem? fun i => e4 i fun hm => hz _ hm rfl
  have h9 : c9 = s.heap[q] := by
    rw [hs] at e2
    exact e2
  have e5 : U.heap[q]? = some c9 := e1
  rw [e5, h9, Array.getElem?_eq_getElem hq]
/-- the words of a throw but the four that speak of the heap -/
def vx_no (w : Cond) : Bool := decide (w ≠ .isRef (.static Bundle.tN "UNASSIGNED_STACK" Bundle.steD)) && decide (w ≠ .isRef (.static Bundle.tN "SUPPRESSED_SENTINEL" Bundle.listD)) && decide (w ≠ .laysStatic Bundle.tN "UNASSIGNED_STACK" Bundle.steD) && decide (w ≠ .laysStatic Bundle.tN "SUPPRESSED_SENTINEL" Bundle.listD)
def vx_at0 (own : String) (ic : Nat) (X : String) (names : List String) : List Cond := (Bundle.ownAtoms0 own ic X names).filter vx_no
def vx_atS (own : String) (ic : Nat) (X : String) (names : List String) : List Cond := (Bundle.ownAtoms own ic X names).filter vx_no
/-- a word that the tables alone decide, or a good one -/
def vx_ot (w : Cond) : Bool := w.onTables || goodWord w
theorem vx_ot_at {args a' : Array Value} {s U : State} {w : Cond} (hW : s.WarmedH U.vm) (hvm : s.vm = U.vm) (hg : vx_ot w = true) (h : w.before args s = true) : w.before a' U = true := by
  simp only [vx_ot, Bool.or_eq_true] at hg
  rcases hg with hg | hg
  · exact va_tabs hg hvm h
  · exact word_at hW (good_of_word hg) h
/-- a list's words: the good ones out of the method's own list, the others by premises of their own -/
theorem vx_hat {args : Array Value} {s : State} {L B : List Cond} (h1 : ∀ w ∈ L.filter goodWord, w.before args s = true) (h2 : ∀ w ∈ L.filter (fun w => !goodWord w), w ∈ B) (h3 : ∀ w ∈ B, w.before args s = true) : ∀ w ∈ L, w.before args s = true := by
  intro w hw
  by_cases g : goodWord w = true
  · exact h1 w (List.mem_filter.mpr ⟨hw, g⟩)
  · refine h3 w (h2 w (List.mem_filter.mpr ⟨hw, ?_⟩))
    show (!goodWord w) = true
    cases hgw : goodWord w
    · rfl
    · exact absurd hgw g
theorem vx_c {args : Array Value} {s : State} {w : Cond} {B : List Cond} (h : w.before args s = true) (t : ∀ w ∈ B, w.before args s = true) : ∀ w' ∈ w :: B, w'.before args s = true := fun w' h' => (List.mem_cons.mp h').elim (fun e => by rw [e]; exact h) (t w')
theorem vx_n {args : Array Value} {s : State} : ∀ w ∈ ([] : List Cond), w.before args s = true := fun _ h => nomatch h
theorem vx_own {args : Array Value} {s : State} {L : List Cond} (h1 : ∀ w ∈ L.filter vx_no, w.before args s = true)
    (hU : (Cond.isRef (.static Bundle.tN "UNASSIGNED_STACK" Bundle.steD)).before args s = true) (hN : (Cond.isRef (.static Bundle.tN "SUPPRESSED_SENTINEL" Bundle.listD)).before args s = true)
    (lU : (Cond.laysStatic Bundle.tN "UNASSIGNED_STACK" Bundle.steD).before args s = true) (lN : (Cond.laysStatic Bundle.tN "SUPPRESSED_SENTINEL" Bundle.listD).before args s = true) : ∀ w ∈ L, w.before args s = true := by
  intro w hw
  by_cases e1 : w = .isRef (.static Bundle.tN "UNASSIGNED_STACK" Bundle.steD)
  · rw [e1]; exact hU
  · by_cases e2 : w = .isRef (.static Bundle.tN "SUPPRESSED_SENTINEL" Bundle.listD)
    · rw [e2]; exact hN
    · by_cases e3 : w = .laysStatic Bundle.tN "UNASSIGNED_STACK" Bundle.steD
      · rw [e3]; exact lU
      · by_cases e4 : w = .laysStatic Bundle.tN "SUPPRESSED_SENTINEL" Bundle.listD
        · rw [e4]; exact lN
        · exact h1 w (List.mem_filter.mpr ⟨hw, by unfold vx_no; rw [decide_eq_true e1, decide_eq_true e2, decide_eq_true e3, decide_eq_true e4]; rfl⟩)
/-- where a static field lies, its class's statics cell in H -/
def vx_L (C n d : String) (A : Nat → Prop) (U : State) (H : Heap) : Prop := ∃ (c : ClassId) (k : Class) (i : Nat) (f : Field) (a : Nat) (cell : Cell), U.vm.findClass C = some c ∧ U.fieldFound? C n d = some (c, k, i, f) ∧ f.isStatic = true ∧ k.statics = some a ∧ H[a]? = some cell ∧ cell.vm.isStatics = true ∧ cell.cls = c ∧ f.slot < cell.slots.size ∧ k.staticTypes[f.slot]? = some f.type ∧ ¬ A a
theorem vx_L.moved {C n d : String} {A : Nat → Prop} {u U : State} {H : Heap} (hvm : u.vm.Alike U.vm) (h : vx_L C n d A u H) : vx_L C n d A U H := by
  obtain ⟨c, k, i, f, a, cell, h1, h2, h3, h4, h5, h6, h7, h8, h9, h10⟩ := h
  obtain ⟨k', hi', he⟩ := State.fieldFound?_setVm hvm h2
  exact ⟨c, k', i, f, a, cell, by rw [hvm.findClass]; exact h1, hi', h3, by rw [he]; exact h4, h5, h6, h7, h8, by rw [he]; exact h9, h10⟩
theorem vx_L.kept {C n d : String} {A : Nat → Prop} {U : State} {H H1 : Heap} (h : vx_L C n d A U H) (hq : ∀ a : Nat, a < H.size → ¬ A a → H1[a]? = H[a]?) : vx_L C n d A U H1 := by
  obtain ⟨c, k, i, f, a, cell, h1, h2, h3, h4, h5, h6, h7, h8, h9, h10⟩ := h
  exact ⟨c, k, i, f, a, cell, h1, h2, h3, h4, by rw [hq a (Array.getElem?_eq_some_iff.mp h5).1 h10]; exact h5, h6, h7, h8, h9, h10⟩
theorem vx_L.narrow {C n d : String} {A B : Nat → Prop} {U : State} {H : Heap} (h : vx_L C n d A U H) (hAB : ∀ q, B q → A q) : vx_L C n d B U H := by
  obtain ⟨c, k, i, f, a, cell, h1, h2, h3, h4, h5, h6, h7, h8, h9, h10⟩ := h
  exact ⟨c, k, i, f, a, cell, h1, h2, h3, h4, h5, h6, h7, h8, h9, fun z => h10 (hAB _ z)⟩
theorem vx_L.word {C n d : String} {A : Nat → Prop} {s : State} {args : Array Value} (h : vx_L C n d A s s.heap) : (Cond.laysStatic C n d).before args s = true := by
  obtain ⟨c, k, i, f, a, cell, h1, h2, h3, h4, h5, h6, h7, h8, h9, -⟩ := h
  show (Cond.laysStatic C n d).holds args s none s [] = true
  exact Cond.laysStatic_of h1 h2 h3 h4 h5 h6 h7 h8 h9
/-- .. and what it holds: null or some reference -/
def vx_Zq (C n d : String) (A : Nat → Prop) (U : State) (H : Heap) : Prop := va_Zq C n d A U H ∧ vx_L C n d A U H
theorem vx_Zq.moved {C n d : String} {A : Nat → Prop} {u U : State} {H : Heap} (hvm : u.vm.Alike U.vm) (h : vx_Zq C n d A u H) : vx_Zq C n d A U H := ⟨va_Zq.moved hvm h.1, vx_L.moved hvm h.2⟩
theorem vx_Zq.kept {C n d : String} {A : Nat → Prop} {U : State} {H H1 : Heap} (h : vx_Zq C n d A U H) (hq : ∀ a : Nat, a < H.size → ¬ A a → H1[a]? = H[a]?) : vx_Zq C n d A U H1 := ⟨va_Zq.kept h.1 hq, vx_L.kept h.2 hq⟩
theorem vx_Zq.narrow {C n d : String} {A B : Nat → Prop} {U : State} {H : Heap} (h : vx_Zq C n d A U H) (hAB : ∀ q, B q → A q) : vx_Zq C n d B U H := ⟨va_Zq.narrow h.1 hAB, vx_L.narrow h.2 hAB⟩
theorem vx_Zqof {args : Array Value} {s : State} {C n d : String} {A : Nat → Prop} (hl : (Cond.laysStatic C n d).before args s = true) (hini : (Cond.initialized C).before args s = true) (h : (Cond.isRef (.static C n d)).before args s = true) (hA : ∀ a : Nat, a < s.heap.size → ¬ A a) : vx_Zq C n d A s s.heap := by
  refine ⟨va_Zqof hl hini h hA, ?_⟩
  obtain ⟨c, k, i, f, a, cell, h1, h2, h3, h4, h5, h6, h7, h8, h9⟩ := Cond.laysStatic_spec hl
  exact ⟨c, k, i, f, a, cell, h1, h2, h3, h4, h5, h6, h7, h8, h9, hA a (Array.getElem?_eq_some_iff.mp h5).1⟩
theorem vx_isRef {C n d : String} {v : Value} {A : Nat → Prop} {s : State} {args : Array Value} (h : va_Z C n d v A s s.heap) (hv : v.isRef = true) : (Cond.isRef (.static C n d)).before args s = true := by
  obtain ⟨cf, kf, fi, f, a, cell, h1, h2, h3, h4, h5, h6, h7, -⟩ := h
  have he : (Term.static C n d).eval args s none [] s = some v := by
    simp [Term.eval, State.fieldNamed?, h1, h2, h4, h5, h6, h7]
  simp only [Cond.before, Cond.holds, Cond.value, he]
  cases v <;> simp_all [Value.isRef]
theorem vx_isRefq {C n d : String} {A : Nat → Prop} {s : State} {args : Array Value} (h : va_Zq C n d A s s.heap) : (Cond.isRef (.static C n d)).before args s = true := by
  rcases h with h | ⟨t, h⟩
  · exact vx_isRef h rfl
  · exact vx_isRef h rfl
/-- the same frame, seen from here: as if the method were called anew in this heap -/
theorem vx_rebase {T : State} (X : Stand p l e R s m args below meth c T locs cells slots) {R' : Room} (hf : R'.frames ≤ R.frames) (hl : R'.locals ≤ R.locals) (hc : cells + R'.cells ≤ R.cells) (hs : slots + R'.slots ≤ R.slots) :
    Stand p l e R' ((T.setVm s.vm).setFrames (.invoking m args :: below)) m args below meth c T [] 0 0 := by
  have htop : (T.setVm s.vm).topJava?.isSome := X.here.top
  have hF : ((T.setVm s.vm).setFrames (.invoking m args :: below)).frames = .invoking m args :: below := State.frames_setFrames _ (State.cur_lt_of_top htop)
  obtain ⟨g₀, hg0⟩ := Option.isSome_iff_exists.mp htop
  obtain ⟨r, hr⟩ := State.topJava?_eq_some.mp hg0
  have hl9 : e.platform.stackLimits (T.setVm s.vm).me = e.platform.stackLimits s.me := X.limits
  have hb9 : (T.setVm s.vm).me.stackBytes = s.me.stackBytes := X.bytes
  refine ⟨X.admits, X.cas, X.clock, hF, ?_, X.hears, X.method, X.code, X.here, X.tail, X.warmed, ?_, ?_, ?_⟩
  · have h := X.room
    have hU : ((T.setVm s.vm).setFrames (.invoking m args :: below)).localsInUse = s.localsInUse := by
      rw [State.localsInUse_invoking hF (meth := meth) (c := c) X.method X.code, State.localsInUse_invoking X.frames X.method X.code]
    simp only [State.hasRoom, Bool.and_eq_true, decide_eq_true_eq] at h ⊢
    obtain ⟨⟨⟨⟨h1, h2, h3, h4, h5, h6⟩, h7⟩, h8⟩, h9⟩ := h
    rw [X.frames, List.length_cons] at h2 h3
    have q1 := X.heapSize
    have q2 := X.used
    simp only [hF, hU, List.length_cons, State.stackLimits_setFrames, State.stackBytes_setFrames, hl9, hb9]
    refine ⟨⟨⟨⟨by omega, by omega, by omega, by omega, by omega, h6⟩, ?_⟩, ?_⟩, X.book⟩
    · show T.heap.size + R'.cells ≤ e.platform.maxCells
      omega
    · show T.slotsUsed + R'.slots ≤ e.platform.maxSlots
      omega
  · rw [State.stackLimits_setFrames]; rfl
  · rw [State.stackBytes_setFrames]; rfl
  · refine ⟨?_, Nat.le_refl _, Nat.le_refl _, ?_, ?_, fun a c9 h9 => ⟨c9, h9, rfl, rfl, fun _ _ => rfl⟩⟩
    · obtain ⟨t, ht, -⟩ := State.frames_cons hr
      show T.setVm s.vm = { ((T.setVm s.vm).setFrames (.invoking m args :: below)).setFrames (T.setVm s.vm).frames with heap := T.heap, slotsUsed := T.slotsUsed }
      rw [State.setFrames_setFrames, State.setFrames_self ht]
      rfl
    · show T.slotsUsed = T.slotsUsed + ((T.heap.toList.drop T.heap.size).map (·.slots.size)).sum
      rw [List.drop_eq_nil_of_le (Nat.le_of_eq Array.length_toList)]
      rfl
    · show ((T.heap.toList.drop T.heap.size).map (·.slots.size)).sum ≤ 0
      rw [List.drop_eq_nil_of_le (Nat.le_of_eq Array.length_toList)]
      exact Nat.le_refl _
/-- 'throw new E()': new; dup; invokespecial; athrow -/
theorem vx_throw0 {cc : ByteArray} {pc : Nat} (hexec : p.tables.exec = Jvm.exec) (hb : c.code = cc) (hl : l.stackTraces = false) {own cls : String} {names : List String} {ik ic mc ms : Nat} {A : Nat → Prop}
    (hown : s.vm.findClass own = some m.cls) (hcls : Bundle.fit cls = true) (hnames : ∀ n ∈ names, Bundle.fit n = true)
    (hk : (Cond.classLink own ik cls).before args s = true) (hini : (Cond.initialized cls).before args s = true) (hat : ∀ w ∈ vx_at0 own ic cls names, w.before args s = true)
    (hgood : ∀ w ∈ Cond.classLink own ik cls :: Cond.initialized cls :: vx_at0 own ic cls names, vx_ot w = true)
    (hU : vx_Zq Bundle.tN "UNASSIGNED_STACK" Bundle.steD A s s.heap) (hN : vx_Zq Bundle.tN "SUPPRESSED_SENTINEL" Bundle.listD A s s.heap) (hS : va_S A s.heap H locs) (hsize : ls.size = c.maxLocals)
    (d0 : decode cc pc = .ok (.new ik, 3)) (d3 : decode cc (pc + 3) = .ok (.dup, 1)) (d4 : decode cc (pc + 4) = .ok (.invokespecial ic, 3)) (d7 : decode cc (pc + 7) = .ok (.athrow, 1))
    (hout : ∀ x ∈ c.exceptionTable.toList, covers x (pc + 7) = false)
    (hRframes : names.length + 3 < R.frames) (hRlocals : (rest.map fun v => v.category).sum + (13 * (names.length + 1) + 42) ≤ R.locals) (hRcells : cells + 1 ≤ R.cells) (hRslots : slots + 6 ≤ R.slots) (hlocks : meth.locks = false)
    (hx : ∀ t : State, s.vm.Alike t.vm → H.size ≤ t.heap.size → (∀ q : Nat, q < H.size → t.heap[q]? = H[q]?) → XC cls s t)
    (hf : ∀ z ∈ locs, free z.base) (hc : cells + 1 ≤ mc) (hs : slots + 6 ≤ ms) :
    W p l e R s m args below meth c H locs cells slots (vx_MQ below Qc XC args s mc ms free) (F0 m pc ls rest) := by
  intro T hT X
  have htr : e.platform.stackTraces = false := (show e.platform.stackTraces = l.stackTraces by rw [X.admits.platform]).trans hl
  have Y := vx_rebase X (R' := { frames := R.frames, locals := R.locals, cells := 1, slots := 6 }) (Nat.le_refl _) (Nat.le_refl _) hRcells hRslots
  obtain ⟨s', hA⟩ : ∃ z, z = (T.setVm s.vm).setFrames (.invoking m args :: below) := ⟨_, rfl⟩
  rw [← hA] at Y
  have hvm : s'.vm = s.vm := by rw [hA]; rfl
  have hhp : s'.heap = H := by rw [hA]; exact hT
  have hW0 : s.WarmedH s'.vm := by rw [hvm]; exact State.WarmedH.refl s
  have hat' : ∀ w ∈ vx_at0 own ic cls names, w.before args s' = true := fun w hw => vx_ot_at hW0 hvm.symm (hgood w (List.mem_cons_of_mem _ (List.mem_cons_of_mem _ hw))) (hat w hw)
  have hk' : (Cond.classLink own ik cls).before args s' = true := vx_ot_at hW0 hvm.symm (hgood _ List.mem_cons_self) hk
  have hini' : (Cond.initialized cls).before args s' = true := vx_ot_at hW0 hvm.symm (hgood _ (List.mem_cons_of_mem _ List.mem_cons_self)) hini
  have hU' : vx_Zq Bundle.tN "UNASSIGNED_STACK" Bundle.steD A s' s'.heap := by rw [hhp]; exact vx_Zq.moved hW0.alike (hU.kept hS.2.1)
  have hN' : vx_Zq Bundle.tN "SUPPRESSED_SENTINEL" Bundle.listD A s' s'.heap := by rw [hhp]; exact vx_Zq.moved hW0.alike (hN.kept hS.2.1)
  have h : ∀ w ∈ Bundle.ownAtoms0 own ic cls names, w.before args s' = true := vx_own hat' (vx_isRefq hU'.1) (vx_isRefq hN'.1) hU'.2.word hN'.2.word
  have hown' : s'.vm.findClass own = some m.cls := by rw [hvm]; exact hown
  have hins : (Cond.instantiable cls 6).before args s' = true := h _ (by simp [Bundle.ownAtoms0])
  obtain ⟨vm₁, cX, kX, hfX, hkX, -, -, X₁, st1⟩ := Y.newCold hexec (own := own) (C := cls) (index := ik) (n := 6) hown' hk' hins hini'
    (g := F0 m pc ls rest) rfl (by rw [hb]; exact d0) (Nat.le_refl _) (Nat.le_refl _)
  generalize hT1 : (T.setVm vm₁).pushCell { cls := cX, slots := kX.instanceTypes.map defaultValue, vm := .none } = T1 at X₁ st1
  have hcat : (Value.ref T.heap.size).category = 1 := rfl
  have hcellA : T1.heap[T.heap.size]? = some (freshCell cX kX) := by rw [← hT1]; exact State.heap_pushCell_size _ _
  have d3' : decode c.code (pc + 3) = .ok (.dup, 1) := by rw [hb]; exact d3
  obtain ⟨U, hsteps, hrun, hend, hW, hsame, ce, hce, hO⟩ := X₁.ctorThrow0 hexec htr (own := own) (cls := cls) (names := names) (ic := ic) hown' hcls hnames h (fun x hx => nomatch hx) hfX hkX hcellA (by rw [hhp, hT]; exact Nat.le_refl _)
    (g := { method := m, pc := pc + 4, locals := ls, stack := .ref T.heap.size :: .ref T.heap.size :: rest, locked := none }) rfl hsize rfl rfl (rest := rest) rfl
    (by rw [hb]; exact d4) (by rw [hb]; exact d7) hout hRframes (by simp only [List.map_cons, List.sum_cons, hcat]; omega) hlocks
  obtain ⟨f1, f2⟩ := vx_frame hsame
  rw [hhp] at f1 f2
  have hWs : s.WarmedH U.vm := State.WarmedH.trans hW0 hW
  have hcl : s.vm.findClass cls = some ce.cls := by
    have h9 := hO.cls
    rw [hvm] at h9
    exact h9
  have hall : s.sameButNew ({ U with vm := s.vm } : State) locs mc ms := by
    subst hA
    obtain ⟨e1, e2⟩ := hsame
    rw [State.setFrames_setFrames] at e1
    have h2 : (T.setVm s.vm).sameButNew ({ U with vm := s.vm } : State) [] (0 + 1) (0 + 6) := ⟨e1, e2⟩
    have h3 := X.same.trans h2
    rw [List.append_nil] at h3
    exact h3.mono hc hs
  refine ⟨U, ?_, .threw T.heap.size, hrun, hend, Or.inr ⟨T.heap.size, rfl, cls, ce, locs, hx U hWs.alike f1 (fun q hq => f2 q hq (fun z hz => nomatch hz)), hce, hO.vm, hcl, hWs, hall, hf⟩⟩
  refine st1 _ ?_
  show Steps p.tables e below (T1.setTop { method := m, pc := pc + 3, locals := ls, stack := .ref T.heap.size :: rest, locked := none }) _
  jvm_step X₁.here [X₁.here.top, hexec, d3', Value.category]
  exact hsteps
/-- 'throw new E("text")': new; dup; ldc; invokespecial; athrow -/
theorem vx_throwS {cc : ByteArray} {pc : Nat} (hexec : p.tables.exec = Jvm.exec) (hb : c.code = cc) (hl : l.stackTraces = false) {own cls text : String} {names : List String} {ik is ic mc ms sa : Nat} {A : Nat → Prop}
    (hown : s.vm.findClass own = some m.cls) (hcls : Bundle.fit cls = true) (hnames : ∀ n ∈ names, Bundle.fit n = true)
    (hk : (Cond.classLink own ik cls).before args s = true) (hini : (Cond.initialized cls).before args s = true) (hstr : vk_R own is text sa s) (hat : ∀ w ∈ vx_atS own ic cls names, w.before args s = true)
    (hgood : ∀ w ∈ Cond.classLink own ik cls :: Cond.initialized cls :: vx_atS own ic cls names, vx_ot w = true)
    (hU : vx_Zq Bundle.tN "UNASSIGNED_STACK" Bundle.steD A s s.heap) (hN : vx_Zq Bundle.tN "SUPPRESSED_SENTINEL" Bundle.listD A s s.heap) (hS : va_S A s.heap H locs) (hsize : ls.size = c.maxLocals)
    (d0 : decode cc pc = .ok (.new ik, 3)) (d3 : decode cc (pc + 3) = .ok (.dup, 1)) (d4 : decode cc (pc + 4) = .ok (.ldc is, 2)) (d6 : decode cc (pc + 6) = .ok (.invokespecial ic, 3)) (d9 : decode cc (pc + 9) = .ok (.athrow, 1))
    (hout : ∀ x ∈ c.exceptionTable.toList, covers x (pc + 9) = false)
    (hRframes : names.length + 3 < R.frames) (hRlocals : (rest.map fun v => v.category).sum + (13 * (names.length + 1) + 43) ≤ R.locals) (hRcells : cells + 1 ≤ R.cells) (hRslots : slots + 6 ≤ R.slots) (hlocks : meth.locks = false)
    (hx : ∀ t : State, s.vm.Alike t.vm → H.size ≤ t.heap.size → (∀ q : Nat, q < H.size → t.heap[q]? = H[q]?) → XC cls s t)
    (hf : ∀ z ∈ locs, free z.base) (hc : cells + 1 ≤ mc) (hs : slots + 6 ≤ ms) :
    W p l e R s m args below meth c H locs cells slots (vx_MQ below Qc XC args s mc ms free) (F0 m pc ls rest) := by
  intro T hT X
  have htr : e.platform.stackTraces = false := (show e.platform.stackTraces = l.stackTraces by rw [X.admits.platform]).trans hl
  have Y := vx_rebase X (R' := { frames := R.frames, locals := R.locals, cells := 1, slots := 6 }) (Nat.le_refl _) (Nat.le_refl _) hRcells hRslots
  obtain ⟨s', hA⟩ : ∃ z, z = (T.setVm s.vm).setFrames (.invoking m args :: below) := ⟨_, rfl⟩
  rw [← hA] at Y
  have hvm : s'.vm = s.vm := by rw [hA]; rfl
  have hhp : s'.heap = H := by rw [hA]; exact hT
  have hW0 : s.WarmedH s'.vm := by rw [hvm]; exact State.WarmedH.refl s
  have hat' : ∀ w ∈ vx_atS own ic cls names, w.before args s' = true := fun w hw => vx_ot_at hW0 hvm.symm (hgood w (List.mem_cons_of_mem _ (List.mem_cons_of_mem _ hw))) (hat w hw)
  have hk' : (Cond.classLink own ik cls).before args s' = true := vx_ot_at hW0 hvm.symm (hgood _ List.mem_cons_self) hk
  have hini' : (Cond.initialized cls).before args s' = true := vx_ot_at hW0 hvm.symm (hgood _ (List.mem_cons_of_mem _ List.mem_cons_self)) hini
  have hU' : vx_Zq Bundle.tN "UNASSIGNED_STACK" Bundle.steD A s' s'.heap := by rw [hhp]; exact vx_Zq.moved hW0.alike (hU.kept hS.2.1)
  have hN' : vx_Zq Bundle.tN "SUPPRESSED_SENTINEL" Bundle.listD A s' s'.heap := by rw [hhp]; exact vx_Zq.moved hW0.alike (hN.kept hS.2.1)
  have h : ∀ w ∈ Bundle.ownAtoms own ic cls names, w.before args s' = true := vx_own hat' (vx_isRefq hU'.1) (vx_isRefq hN'.1) hU'.2.word hN'.2.word
  have hown' : s'.vm.findClass own = some m.cls := by rw [hvm]; exact hown
  have hins : (Cond.instantiable cls 6).before args s' = true := h _ (by simp [Bundle.ownAtoms])
  obtain ⟨vm₁, cX, kX, hfX, hkX, -, -, X₁, st1⟩ := Y.newCold hexec (own := own) (C := cls) (index := ik) (n := 6) hown' hk' hins hini'
    (g := F0 m pc ls rest) rfl (by rw [hb]; exact d0) (Nat.le_refl _) (Nat.le_refl _)
  generalize hT1 : (T.setVm vm₁).pushCell { cls := cX, slots := kX.instanceTypes.map defaultValue, vm := .none } = T1 at X₁ st1
  have hcat : (Value.ref T.heap.size).category = 1 := rfl
  have hcellA : T1.heap[T.heap.size]? = some (freshCell cX kX) := by rw [← hT1]; exact State.heap_pushCell_size _ _
  have d3' : decode c.code (pc + 3) = .ok (.dup, 1) := by rw [hb]; exact d3
  have d4' : decode c.code (pc + 4) = .ok (.ldc is, 2) := by rw [hb]; exact d4
  have hstr' : vk_R own is text sa s' := vk_R.warm hW0 hstr
  obtain ⟨U, hsteps, hrun, hend, hW, hsame, ce, hce, hO⟩ := X₁.ctorThrowS hexec htr (own := own) (cls := cls) (names := names) (ic := ic) hown' hcls hnames h (fun x hx => nomatch hx) hfX hkX hcellA (by rw [hhp, hT]; exact Nat.le_refl _) (msg := .ref sa) rfl
    (g := { method := m, pc := pc + 6, locals := ls, stack := .ref sa :: .ref T.heap.size :: .ref T.heap.size :: rest, locked := none }) rfl hsize rfl rfl (rest := rest) rfl
    (by rw [hb]; exact d6) (by rw [hb]; exact d9) hout hRframes (by simp only [List.map_cons, List.sum_cons, hcat]; omega) hlocks
  obtain ⟨f1, f2⟩ := vx_frame hsame
  rw [hhp] at f1 f2
  have hWs : s.WarmedH U.vm := State.WarmedH.trans hW0 hW
  have hcl : s.vm.findClass cls = some ce.cls := by
    have h9 := hO.cls
    rw [hvm] at h9
    exact h9
  have hall : s.sameButNew ({ U with vm := s.vm } : State) locs mc ms := by
    subst hA
    obtain ⟨e1, e2⟩ := hsame
    rw [State.setFrames_setFrames] at e1
    have h2 : (T.setVm s.vm).sameButNew ({ U with vm := s.vm } : State) [] (0 + 1) (0 + 6) := ⟨e1, e2⟩
    have h3 := X.same.trans h2
    rw [List.append_nil] at h3
    exact h3.mono hc hs
  refine ⟨U, ?_, .threw T.heap.size, hrun, hend, Or.inr ⟨T.heap.size, rfl, cls, ce, locs, hx U hWs.alike f1 (fun q hq => f2 q hq (fun z hz => nomatch hz)), hce, hO.vm, hcl, hWs, hall, hf⟩⟩
  refine st1 _ ?_
  show Steps p.tables e below (T1.setTop { method := m, pc := pc + 3, locals := ls, stack := .ref T.heap.size :: rest, locked := none }) _
  jvm_step X₁.here [X₁.here.top, hexec, d3', Value.category]
  exact X₁.ldcString hexec (own := own) (text := text) (index := is) (a := sa) hown' hstr'.1 hstr'.2
    (g := { method := m, pc := pc + 4, locals := ls, stack := .ref T.heap.size :: .ref T.heap.size :: rest, locked := none }) rfl d4' _ hsteps
/-- 'throw new E("text")', the text by a wide index -/
theorem vx_throwSW {cc : ByteArray} {pc : Nat} (hexec : p.tables.exec = Jvm.exec) (hb : c.code = cc) (hl : l.stackTraces = false) {own cls text : String} {names : List String} {ik is ic mc ms sa : Nat} {A : Nat → Prop}
    (hown : s.vm.findClass own = some m.cls) (hcls : Bundle.fit cls = true) (hnames : ∀ n ∈ names, Bundle.fit n = true)
    (hk : (Cond.classLink own ik cls).before args s = true) (hini : (Cond.initialized cls).before args s = true) (hstr : vk_R own is text sa s) (hat : ∀ w ∈ vx_atS own ic cls names, w.before args s = true)
    (hgood : ∀ w ∈ Cond.classLink own ik cls :: Cond.initialized cls :: vx_atS own ic cls names, vx_ot w = true)
    (hU : vx_Zq Bundle.tN "UNASSIGNED_STACK" Bundle.steD A s s.heap) (hN : vx_Zq Bundle.tN "SUPPRESSED_SENTINEL" Bundle.listD A s s.heap) (hS : va_S A s.heap H locs) (hsize : ls.size = c.maxLocals)
    (d0 : decode cc pc = .ok (.new ik, 3)) (d3 : decode cc (pc + 3) = .ok (.dup, 1)) (d4 : decode cc (pc + 4) = .ok (.ldc_w is, 3)) (d7 : decode cc (pc + 7) = .ok (.invokespecial ic, 3)) (d10 : decode cc (pc + 10) = .ok (.athrow, 1))
    (hout : ∀ x ∈ c.exceptionTable.toList, covers x (pc + 10) = false)
    (hRframes : names.length + 3 < R.frames) (hRlocals : (rest.map fun v => v.category).sum + (13 * (names.length + 1) + 43) ≤ R.locals) (hRcells : cells + 1 ≤ R.cells) (hRslots : slots + 6 ≤ R.slots) (hlocks : meth.locks = false)
    (hx : ∀ t : State, s.vm.Alike t.vm → H.size ≤ t.heap.size → (∀ q : Nat, q < H.size → t.heap[q]? = H[q]?) → XC cls s t)
    (hf : ∀ z ∈ locs, free z.base) (hc : cells + 1 ≤ mc) (hs : slots + 6 ≤ ms) :
    W p l e R s m args below meth c H locs cells slots (vx_MQ below Qc XC args s mc ms free) (F0 m pc ls rest) := by
  intro T hT X
  have htr : e.platform.stackTraces = false := (show e.platform.stackTraces = l.stackTraces by rw [X.admits.platform]).trans hl
  have Y := vx_rebase X (R' := { frames := R.frames, locals := R.locals, cells := 1, slots := 6 }) (Nat.le_refl _) (Nat.le_refl _) hRcells hRslots
  obtain ⟨s', hA⟩ : ∃ z, z = (T.setVm s.vm).setFrames (.invoking m args :: below) := ⟨_, rfl⟩
  rw [← hA] at Y
  have hvm : s'.vm = s.vm := by rw [hA]; rfl
  have hhp : s'.heap = H := by rw [hA]; exact hT
  have hW0 : s.WarmedH s'.vm := by rw [hvm]; exact State.WarmedH.refl s
  have hat' : ∀ w ∈ vx_atS own ic cls names, w.before args s' = true := fun w hw => vx_ot_at hW0 hvm.symm (hgood w (List.mem_cons_of_mem _ (List.mem_cons_of_mem _ hw))) (hat w hw)
  have hk' : (Cond.classLink own ik cls).before args s' = true := vx_ot_at hW0 hvm.symm (hgood _ List.mem_cons_self) hk
  have hini' : (Cond.initialized cls).before args s' = true := vx_ot_at hW0 hvm.symm (hgood _ (List.mem_cons_of_mem _ List.mem_cons_self)) hini
  have hU' : vx_Zq Bundle.tN "UNASSIGNED_STACK" Bundle.steD A s' s'.heap := by rw [hhp]; exact vx_Zq.moved hW0.alike (hU.kept hS.2.1)
  have hN' : vx_Zq Bundle.tN "SUPPRESSED_SENTINEL" Bundle.listD A s' s'.heap := by rw [hhp]; exact vx_Zq.moved hW0.alike (hN.kept hS.2.1)
  have h : ∀ w ∈ Bundle.ownAtoms own ic cls names, w.before args s' = true := vx_own hat' (vx_isRefq hU'.1) (vx_isRefq hN'.1) hU'.2.word hN'.2.word
  have hown' : s'.vm.findClass own = some m.cls := by rw [hvm]; exact hown
  have hins : (Cond.instantiable cls 6).before args s' = true := h _ (by simp [Bundle.ownAtoms])
  obtain ⟨vm₁, cX, kX, hfX, hkX, -, -, X₁, st1⟩ := Y.newCold hexec (own := own) (C := cls) (index := ik) (n := 6) hown' hk' hins hini'
    (g := F0 m pc ls rest) rfl (by rw [hb]; exact d0) (Nat.le_refl _) (Nat.le_refl _)
  generalize hT1 : (T.setVm vm₁).pushCell { cls := cX, slots := kX.instanceTypes.map defaultValue, vm := .none } = T1 at X₁ st1
  have hcat : (Value.ref T.heap.size).category = 1 := rfl
  have hcellA : T1.heap[T.heap.size]? = some (freshCell cX kX) := by rw [← hT1]; exact State.heap_pushCell_size _ _
  have d3' : decode c.code (pc + 3) = .ok (.dup, 1) := by rw [hb]; exact d3
  have d4' : decode c.code (pc + 4) = .ok (.ldc_w is, 3) := by rw [hb]; exact d4
  have hstr' : vk_R own is text sa s' := vk_R.warm hW0 hstr
  obtain ⟨U, hsteps, hrun, hend, hW, hsame, ce, hce, hO⟩ := X₁.ctorThrowS hexec htr (own := own) (cls := cls) (names := names) (ic := ic) hown' hcls hnames h (fun x hx => nomatch hx) hfX hkX hcellA (by rw [hhp, hT]; exact Nat.le_refl _) (msg := .ref sa) rfl
    (g := { method := m, pc := pc + 7, locals := ls, stack := .ref sa :: .ref T.heap.size :: .ref T.heap.size :: rest, locked := none }) rfl hsize rfl rfl (rest := rest) rfl
    (by rw [hb]; exact d7) (by rw [hb]; exact d10) hout hRframes (by simp only [List.map_cons, List.sum_cons, hcat]; omega) hlocks
  obtain ⟨f1, f2⟩ := vx_frame hsame
  rw [hhp] at f1 f2
  have hWs : s.WarmedH U.vm := State.WarmedH.trans hW0 hW
  have hcl : s.vm.findClass cls = some ce.cls := by
    have h9 := hO.cls
    rw [hvm] at h9
    exact h9
  have hall : s.sameButNew ({ U with vm := s.vm } : State) locs mc ms := by
    subst hA
    obtain ⟨e1, e2⟩ := hsame
    rw [State.setFrames_setFrames] at e1
    have h2 : (T.setVm s.vm).sameButNew ({ U with vm := s.vm } : State) [] (0 + 1) (0 + 6) := ⟨e1, e2⟩
    have h3 := X.same.trans h2
    rw [List.append_nil] at h3
    exact h3.mono hc hs
  refine ⟨U, ?_, .threw T.heap.size, hrun, hend, Or.inr ⟨T.heap.size, rfl, cls, ce, locs, hx U hWs.alike f1 (fun q hq => f2 q hq (fun z hz => nomatch hz)), hce, hO.vm, hcl, hWs, hall, hf⟩⟩
  refine st1 _ ?_
  show Steps p.tables e below (T1.setTop { method := m, pc := pc + 3, locals := ls, stack := .ref T.heap.size :: rest, locked := none }) _
  jvm_step X₁.here [X₁.here.top, hexec, d3', Value.category]
  exact X₁.ldcStringW hexec (own := own) (text := text) (index := is) (a := sa) hown' hstr'.1 hstr'.2
    (g := { method := m, pc := pc + 4, locals := ls, stack := .ref T.heap.size :: .ref T.heap.size :: rest, locked := none }) rfl d4' _ hsteps
end Ends
section Bodies
variable {l : Launch}
theorem vx_ofW {y : MethodName} {ws ws' : List Cond} {rm : Room} {Pc : Array Value → State → Prop} {Qc : Array Value → State → Outcome → State → Prop} {XC : String → State → State → Prop} {mc ms : Nat} {free : Addr → Prop} {cc : ByteArray} {maxL : Nat} {ret : Option FieldType}
    (hy : plainName y.cls = true) (hw : ws = Cond.code y cc maxL ret :: ws')
    (body : ∀ p e s m args below meth c s₁, BodyLoose p l y (headSpec ws rm) cc maxL ret e s m args below meth c s₁ → c.maxLocals = maxL → (∀ x ∈ c.exceptionTable.toList, False) → Pc args s →
      W p l e (headSpec ws rm).room s m args below meth c s.heap [] 0 0 (vx_MQ below Qc XC args s mc ms free) (entryFrame m args maxL)) : vx_Met l y ws rm Pc Qc XC mc ms free := by
  refine MetFree.of_bodyS (code := cc) (maxLocals := maxL) (ret := ret) hy ?_ ?_
  · intro args s m h hn
    obtain ⟨meth, c, h1, h2, h3, h4, h5, h6, -, -⟩ := Cond.code_spec hn (atoms_spec (ws := ws) h _ (by rw [hw]; exact List.mem_cons_self))
    exact ⟨meth, c, h1, h2, h3, h4, h5, h6⟩
  · intro p e s m args below meth c s₁ B hml hP _
    have hh0 : s₁.heap = s.heap := by rw [B.state]; rfl
    have ht : ∀ x ∈ c.exceptionTable.toList, False := by
      obtain ⟨meth9, c9, h1, h2, -, -, -, -, h7, -⟩ := Cond.code_spec B.named (atoms_spec (ws := ws) B.pre _ (by rw [hw]; exact List.mem_cons_self))
      cases Option.some.inj (h1.symm.trans B.method)
      cases Option.some.inj (h2.symm.trans (Stand.of_body B).code)
      intro x hx
      rw [Array.isEmpty_iff.mp h7] at hx
      cases hx
    obtain ⟨t, a1, o, b1, b2, b3⟩ := body p e s m args below meth c s₁ B hml ht hP s₁ hh0 (Stand.of_body B)
    exact ⟨t, o, a1, b1, b2, b3⟩
/-- the table of a body with handlers -/
theorem vx_table {p : Program} {x y : MethodName} {S : Spec} {cc bytes : ByteArray} {maxL maxL' : Nat} {ret ret' : Option FieldType} {e : Env} {s s₁ : State} {m : MethodId} {args : Array Value} {below : List Frame} {meth : Method} {c : Code} {hh : List (Nat × Nat × Nat × Nat)}
    (B : BodyLoose p l y S cc maxL ret e s m args below meth c s₁) (h : (Cond.codeWith y bytes maxL' ret' hh).before args s = true) : c.exceptionTable.toList = tableOf hh := by
  obtain ⟨m9, meth9, c9, hn9, h1, h2, -, -, h6, -⟩ := Cond.codeWith_spec h
  cases Option.some.inj (hn9.symm.trans B.named)
  cases Option.some.inj (h1.symm.trans B.method)
  cases Option.some.inj (h2.symm.trans (Stand.of_body B).code)
  rw [← h6, table_eq]
end Bodies
end VXA
/-! ===== END ===== -/
/-! ===== BEGIN a static call of a method with an exception table ===== -/
section VXS
variable {p : Program} {l : Launch} {e : Env} {R : Room} {s : State} {m : MethodId} {args : Array Value} {below : List Frame} {meth : Method} {c : Code} {T : State} {H : Heap} {locs : List Loc} {cells slots : Nat}
abbrev vx_CSW (R : Room) (s : State) (args : Array Value) (own : String) (index : Nat) (y : MethodName) (bytes : ByteArray) (maxL : Nat) (ret : Option FieldType) (hh : List (Nat × Nat × Nat × Nat)) (ws : List Cond) (rm : Room) (mc ms n : Nat) : Prop :=
  (rm.cells = mc ∧ rm.slots = ms ∧ rm.frames + 1 ≤ R.frames ∧ 8 + (maxL + 11) + rm.locals ≤ R.locals ∧ (∀ w ∈ ws, ∀ (a' : Array Value) (U : State), s.WarmedH U.vm → w.before a' U = true) ∧ Cond.codeWith y bytes maxL ret hh ∈ ws) ∧
  (Cond.codeWith y bytes maxL ret hh).before args s = true ∧ (Cond.initialized y.cls).before args s = true ∧ (y.cls ≠ "java/lang/invoke/MethodHandle" ∧ y.cls ≠ "java/lang/invoke/VarHandle") ∧
  (∀ sig, parseMethodDescriptor y.desc = some sig → n = sig.parameters.length) ∧ (Cond.methodLink own index y).before args s = true ∧ (Cond.static y).before args s = true
theorem vx_cwSW {own : String} {index maxL mc ms : Nat} {y : MethodName} {bytes : ByteArray} {ret : Option FieldType} {hh : List (Nat × Nat × Nat × Nat)} {Ts ws ws' : List Cond} {rm : Room} (n : Nat) (ht : ∀ w ∈ Ts, w.before args s = true) (hT : GoodIn Ts (va_wsS own index y ws)) (hw : ws = Cond.codeWith y bytes maxL ret hh :: ws') (hrc : rm.cells = mc) (hrs : rm.slots = ms)
    (hd : y.cls ≠ "java/lang/invoke/MethodHandle" ∧ y.cls ≠ "java/lang/invoke/VarHandle" ∧ (parseMethodDescriptor y.desc).map (fun d => d.parameters.length) = some n) (hR : rm.frames + 1 ≤ R.frames ∧ 8 + (maxL + 11) + rm.locals ≤ R.locals) :
    vx_CSW R s args own index y bytes maxL ret hh ws rm mc ms n := by
  have ok : ∀ w ∈ va_wsS own index y ws, w.before args s = true := fun w h => ht w (hT w h).1
  have hG : GoodIn Ts ws := fun w h => hT w (by unfold va_wsS; exact List.mem_append_right _ h)
  have hc : Cond.codeWith y bytes maxL ret hh ∈ ws := by rw [hw]; exact List.mem_cons_self
  refine ⟨⟨hrc, hrs, hR.1, hR.2, pay_in ht hG, hc⟩, ht _ (hG _ hc).1, ok _ (by simp [va_wsS]), ⟨hd.1, hd.2.1⟩, fun sig h => ?_, ok _ (by simp [va_wsS]), ok _ (by simp [va_wsS])⟩
  have h2 := hd.2.2
  rw [h] at h2
  exact (Option.some.inj h2).symm
theorem vx_callSW (X : Stand p l e R s m args below meth c T locs cells slots) (hexec : p.tables.exec = Jvm.exec) {own : String} {index : Nat} {y : MethodName} {bytes : ByteArray} {maxL : Nat} {ret : Option FieldType} {hh : List (Nat × Nat × Nat × Nat)}
    (hown : s.vm.findClass own = some m.cls) (hlink : (Cond.methodLink own index y).before args s = true) (hstat : (Cond.static y).before args s = true) (hinit : (Cond.initialized y.cls).before args s = true)
    (hcode : (Cond.codeWith y bytes maxL ret hh).before args s = true) (hy : y.cls ≠ "java/lang/invoke/MethodHandle" ∧ y.cls ≠ "java/lang/invoke/VarHandle")
    {W9 : Nat} {Pre : Pt → Array Value → Prop} {Post : Pt → Array Value → Option Value → Pt → Prop} (hK : Back l R p e below s args y 3 W9 Pre Post)
    {g : JFrame} (hg : g.method = m) (hsize : g.locals.size = c.maxLocals) {argsL rest : List Value} (hlen : ∀ sig, parseMethodDescriptor y.desc = some sig → argsL.length = sig.parameters.length)
    (hstack : g.stack = argsL.reverse ++ rest) (hW : 2 * g.monitorRoom + (rest.map fun v => v.category).sum ≤ W9) (hdg : decode c.code g.pc = .ok (.invokestatic index, 3))
    (hpre : ∀ vm₁, s.WarmedH vm₁ → Pre ⟨T.setVm vm₁, locs, cells, slots⟩ argsL.toArray) :
    ∃ (v : Option Value) (vm₁ : Vm) (B : Pt), s.WarmedH vm₁ ∧ Stand p l e R s m args below meth c B.U B.locs B.cells B.slots ∧ Post ⟨T.setVm vm₁, locs, cells, slots⟩ argsL.toArray v B ∧
      ∀ target, Steps p.tables e below (B.U.setTop { g with pc := g.pc + 3, stack := v.toList ++ rest }) target → Steps p.tables e below (T.setTop g) target := by
  obtain ⟨mk, methM, cM, hnamed, hmethM, -, -, -, -, -, -, hsigM⟩ := Cond.codeWith_spec hcode
  have hstatic : methM.isStatic = true := Cond.static_spec hnamed hmethM hstat
  obtain ⟨kP, hkP, -⟩ := className_of_methodNamed hnamed
  have hinitP : kP.init = .initialized := Cond.initialized_spec (findClass_of_methodNamed hnamed) hkP hinit
  obtain ⟨vm₁, X₁, hstep₁⟩ := X.invokestatic hexec hown hlink hnamed hmethM hstatic hkP hinitP hy (g := g) hg (argsL := argsL) (rest := rest) (hlen _ hsigM) hstack hdg
  obtain ⟨v, B, X', hpost, hsteps⟩ := hK m meth c ⟨T.setVm vm₁, locs, cells, slots⟩ { g with stack := rest } (.invokestatic index) mk argsL.toArray X₁ hg hsize hdg hW (X₁.named hnamed) (hpre vm₁ X₁.warmed)
  exact ⟨v, vm₁, B, X₁.warmed, X', hpost, fun target h => hstep₁ _ fun acts => by rw [doInvoke_state]; exact hsteps.trans h⟩
theorem vx_runSW {y : MethodName} {bytes cc : ByteArray} {maxL nL mc ms n index : Nat} {ret : Option FieldType} {hh : List (Nat × Nat × Nat × Nat)} {ws : List Cond} {rm : Room} {Pc : Array Value → State → Prop} {Qc : Array Value → State → Outcome → State → Prop} {free : Addr → Prop} {Ts : List Cond} {own : String} {As rest : List Value} {g : JFrame}
    (S : CallFix p m c cc nL s args Ts own) (hM : Met l y ws rm Pc Qc mc ms free) (cw : vx_CSW R s args own index y bytes maxL ret hh ws rm mc ms n) (hp : PreS s H Pc As)
    (hg : g.method = m) (hn : As.length = n) (hsize : g.locals.size = nL) (hstack : g.stack = As.reverse ++ rest) (hW : 2 * g.monitorRoom + (rest.map fun v => v.category).sum ≤ 8) (hdg : decode cc g.pc = .ok (.invokestatic index, 3)) (hf : cells + mc ≤ R.cells ∧ slots + ms ≤ R.slots) :
    va_Run p l e R s m args below meth c H locs cells slots mc ms g rest (Qc As.toArray) (free) := by
  obtain ⟨⟨hrc, hrs, hfr, hlo, hws, hcw⟩, hcode, hini, hy, hlen, hl, hstt⟩ := cw
  have hK : Back l R p e below s args y 3 8 (PreOf R mc ms Pc) (PostOf Qc mc ms free) := va_backW (hh := hh) (bytes := bytes) (maxL := maxL) (ret := ret) hM hp.1 hrc hrs hfr hlo hws hcw (fun a' U hW => word_at hW (Or.inl (by first | rfl | simp [Cond.onTables, Cond.keeps, Cond.steady])) hini)
  obtain ⟨hx, hb, hml, ho, -⟩ := S
  intro T hT X
  obtain ⟨v, vm₁, ⟨U', l2, c2, s2⟩, hW₁, X', ⟨g', mk, t, L, e1, e2, hq, h1, hL, h2, h3⟩, st⟩ := vx_callSW X hx (hh := hh) (bytes := bytes) (maxL := maxL) (ret := ret) ho hl hstt hini hcode hy hK hg (hsize.trans hml.symm) (argsL := As) (rest := rest) (fun sig h => hn.trans (hlen sig h)) hstack hW (by rw [hb]; exact hdg)
    (fun vm₁ hW₁ => ⟨hf.1, hf.2, hp.2 (T.setVm vm₁) hT hW₁⟩)
  dsimp only [Pt.U, Pt.locs, Pt.cells, Pt.slots] at X' e1 e2 h1 h2 h3 st
  subst h1; subst h2; subst h3
  exact ⟨v, (T.setVm vm₁).calling g' mk As.toArray, t, U', L, hT, X', hL, e1, e2, hq, st⟩
/-- not caught here, past rows that name other classes: it goes on to the caller -/
theorem vx_outP {p : Program} {l : Launch} {e : Env} {R : Room} {s : State} {m : MethodId} {args : Array Value} {below : List Frame} {meth : Method} {c : Code} {H : Heap} {locs : List Loc} {cells slots : Nat} {free : Addr → Prop} {ls : Array Slot} {rest : List Value} {Qc : Array Value → State → Outcome → State → Prop} {XC : String → State → State → Prop}
    {pc : Nat} {own E : String} {ce : Cell} {q : Addr} {mc ms : Nat} (hown : s.vm.findClass own = some m.cls) (hlocks : meth.locks = false)
    (hpass : ∀ z ∈ c.exceptionTable.toList, covers z pc = false ∨ (z.catchType ≠ 0 ∧ ∃ nm : String, (Cond.classLink own z.catchType nm).before args s = true ∧ va_Nc E nm s)) (hcell : H[q]? = some ce) (hv : ce.vm = .none) (hcl : s.vm.findClass E = some ce.cls)
    (hx : ∀ t : State, t.heap = H → s.vm.Alike t.vm → XC E s t) (hf : ∀ z ∈ locs, free z.base) (hc : cells ≤ mc) (hs : slots ≤ ms) :
    vx_W p l e R s m args below meth c H locs cells slots (vx_MQ below Qc XC args s mc ms free) (F0 m pc ls rest) q := by
  intro T hT X
  have hpl : e.platform.magicAccessors = ({} : Platform).magicAccessors := by rw [X.admits.platform]
  obtain ⟨vm', hW', X', st⟩ := X.outThrough hlocks q (g := F0 m pc ls rest) rfl rfl rfl (cell := ce) (by rw [hT]; exact hcell) (by rw [hv]; rfl)
    (by obtain ⟨k9, h9, -⟩ := Vm.findClass_spec hcl; exact ⟨k9, h9⟩) (fun z hz => by
      rcases hpass z hz with h | ⟨hz0, nm, hl1, hn1⟩
      · exact Or.inl h
      · obtain ⟨c6, hc6, hcl6⟩ := Cond.classLink_spec hown hl1 e.platform hpl
        obtain ⟨a8, b8, h1, h2, h3⟩ := hn1
        cases Option.some.inj (h1.symm.trans hcl)
        cases Option.some.inj (h2.symm.trans hc6)
        exact Or.inr ⟨hz0, _, hcl6, h3⟩)
  obtain ⟨g₀, hfr⟩ := X'.frames_eq
  have hcell9 : ((T.setVm vm').setFrames (.throwing q :: below)).heap[q]? = some ce := by
    show T.heap[q]? = some ce
    rw [hT]; exact hcell
  have hend : Ended ((T.setVm vm').setFrames (.throwing q :: below)) below (.threw q) := State.frames_setFrames _ (State.cur_lt_of_frames hfr)
  refine ⟨(T.setVm vm').setFrames (.throwing q :: below), ?_, .threw q, X'.here.running, hend, Or.inr ⟨q, rfl, E, ce, locs, hx _ hT (X'.ends _).1.alike, hcell9, hv, hcl, (X'.ends _).1, (X'.ends _).2.mono hc hs, hf⟩⟩
  rw [X.pushThrowing_eq]
  exact st
/-- a thing of a world lies in the heap -/
theorem vx_lt {D : va_G} {cl : List vw_C} {ws : va_W} {H1 : Heap} (h : va_P D cl ws H1) {k : Nat} {q : Nat × va_E} (hk : ws[k]? = some q) : q.1 < H1.size := (h k q hk).lt
end VXS
/-! ===== END ===== -/
/-! ===== BEGIN methods with a table of their own: called by a name, returning or throwing ===== -/
section VXH
/-! vx_backW, vx_callVX, vx_callSX, vx_callVW, vx_runVW, vx_runVX, vx_runSX, vx_ofWH follow the same proofs as their sisters above (Free/Laws.lean, Shelf42/LK1.lean); vx_outP calls Shelf42/NT130.lean (outThrough). -/
section
variable {l : Launch} {R : Room} {p : Program} {e : Env} {below : List Frame} {s : State} {sargs : Array Value} {y : MethodName} {len W9 : Nat}
theorem vx_backW {ws : List Cond} {rm : Room} {Pc : Array Value → State → Prop} {Qc : Array Value → State → Outcome → State → Prop} {XC : String → State → State → Prop} {mc ms : Nat} {free : Addr → Prop} {bytes : ByteArray} {maxL : Nat} {ret : Option FieldType} {hh : List (Nat × Nat × Nat × Nat)}
    (hM : vx_Met l y ws rm Pc Qc XC mc ms free) (hblind : FrameBlind Pc) (hrc : rm.cells = mc) (hrs : rm.slots = ms)
    (hframes : rm.frames + 1 ≤ R.frames) (hlocals : W9 + (maxL + 11) + rm.locals ≤ R.locals)
    (hws : ∀ w ∈ ws, ∀ a' U, s.WarmedH U.vm → w.before a' U = true) (hcode : Cond.codeWith y bytes maxL ret hh ∈ ws) (hinit : ∀ a' U, s.WarmedH U.vm → (Cond.initialized y.cls).before a' U = true) :
    vx_Back l R p e below s sargs y len W9 (PreOf R mc ms Pc) (PostOf Qc mc ms free) (vx_Post XC mc ms free) := by
  intro m meth c A g ig mk a X hg hsize hdg hW hn hp
  have h1 : (headSpec ws rm).pre.before a A.U = true := atoms_intro fun w hw => hws w hw _ _ X.warmed
  have h2 : (Cond.codeWith y bytes maxL ret hh).before a A.U = true := hws _ hcode _ _ X.warmed
  have h3 : (Cond.initialized y.cls).before a A.U = true := hinit _ _ X.warmed
  have h4 : A.cells + (headSpec ws rm).room.cells ≤ R.cells := by rw [show (headSpec ws rm).room.cells = mc from hrc]; exact hp.1
  have h5 : A.slots + (headSpec ws rm).room.slots ≤ R.slots := by rw [show (headSpec ws rm).room.slots = ms from hrs]; exact hp.2.1
  have hPc : Pc a (A.U.calling g mk a) := hblind _ _ _ _ hp.2.2
  obtain ⟨U, Ls, c0, s0⟩ := A
  dsimp only [Pt.U, Pt.locs, Pt.cells, Pt.slots] at h1 h2 h3 h4 h5 X hn hPc ⊢
  obtain ⟨m9, methY, cY, hn9, hmY, hcY, -, hlY, -⟩ := Cond.codeWith_spec h2
  cases Option.some.inj (hn9.symm.trans hn)
  obtain ⟨kY, hkY, -⟩ := className_of_methodNamed hn
  have hinitY : kY.init = .initialized := Cond.initialized_spec (findClass_of_methodNamed hn) hkY h3
  have h : At U g.method c below := by rw [hg]; exact X.here
  have hlocals9 : W9 + (maxL + 11) + (headSpec ws rm).room.locals ≤ R.locals := hlocals
  have happ : (headSpec ws rm).appliesLoose y e.platform (U.calling g mk a) = true :=
    Spec.appliesLoose_calling (g := g) h hdg hn hkY hinitY
      (X.room_calling (g := g) (R' := (headSpec ws rm).room) hsize hmY hcY hframes (by rw [hlY]; omega) h4 h5) h1
  obtain ⟨mid, hmid⟩ := h.above
  have hfr : (U.setTop g).frames = (.java g :: mid) ++ below := by rw [State.frames_setTop' g h.top, hmid]; rfl
  obtain ⟨o, s₂, hsteps, -, hend, hq⟩ := Steps.callFree hM p X.admits X.cas X.clock (acts := []) hfr happ hPc trivial
  have hq' : vx_Q Qc XC mc ms free a (U.calling g mk a) o s₂ := hq
  rw [State.frames_setTop' g h.top] at hend
  obtain ⟨g₀, hg0⟩ := Option.isSome_iff_exists.mp h.top
  obtain ⟨r, hr⟩ := State.topJava?_eq_some.mp hg0
  have hr' : (({ U with heap := s₂.heap, slotsUsed := s₂.slotsUsed } : State).setVm s₂.vm).frames = .java g₀ :: r := hr
  rcases hq' with ⟨hqc, L, hfe, hL⟩ | ⟨q, rfl, E, ce, L, hx, hce, hcv, hcl, hW₂, hsm, hL⟩
  · obtain ⟨⟨v, rfl⟩, hW₂, e2, q2, q3, q4, q5, q6⟩ := id hfe
    have e3 : s₂ = ({ (U.calling g mk a).setFrames s₂.frames with heap := s₂.heap, slotsUsed := s₂.slotsUsed } : State).setVm s₂.vm := by
      have : s₂ = ({ s₂ with vm := (U.calling g mk a).vm } : State).setVm s₂.vm := rfl
      rw [e2] at this
      exact this
    obtain ⟨c₂, i₂, len₂, hc₂, hd₂, hf₂⟩ := hend
    have hW' : U.WarmedH s₂.vm := hW₂
    have hcc : c₂ = c := by
      have h1 : s₂.code? g.method = U.code? g.method := by
        rw [State.code?_eq, State.code?_eq, hW'.alike.method?]
      exact Option.some.inj (hc₂.symm.trans (h1.trans h.code))
    subst hcc
    have hlen : len₂ = len := by rw [hdg] at hd₂; cases hd₂; rfl
    subst hlen
    have hs₂ : s₂ = (({ U with heap := s₂.heap, slotsUsed := s₂.slotsUsed } : State).setVm s₂.vm).setTop { g with pc := g.pc + len₂, stack := v.toList ++ g.stack } := by
      refine e3.trans ?_
      rw [hf₂, State.calling_eq h.top, State.setFrames_setFrames, State.setTop_of_frames _ hr', hr]
      rfl
    have hsame : U.sameButNew ({ U with heap := s₂.heap, slotsUsed := s₂.slotsUsed } : State) L mc ms := by
      refine ⟨?_, q2, q3, q4, q5, q6⟩
      obtain ⟨t, ht, -⟩ := State.frames_cons hr
      show ({ U with heap := s₂.heap, slotsUsed := s₂.slotsUsed } : State) = { U.setFrames U.frames with heap := s₂.heap, slotsUsed := s₂.slotsUsed }
      rw [State.setFrames_self ht]
    subst hg
    refine Or.inl ⟨v, ⟨(({ U with heap := s₂.heap, slotsUsed := s₂.slotsUsed } : State).setVm s₂.vm), Ls ++ L, c0 + mc, s0 + ms⟩,
      ⟨X.admits, X.cas, X.clock, X.frames, X.room, X.hears, X.method, X.code, (X.here.setHeapUsed s₂.heap s₂.slotsUsed).setVm hW'.alike, X.tail, State.WarmedH.trans X.warmed hW', X.limits, X.bytes, X.same.trans (hsame.setVm s.vm)⟩,
      ⟨g, mk, s₂, L, rfl, rfl, hqc, rfl, hL, rfl, rfl⟩, ?_⟩
    show Steps p.tables e below _ ((({ U with heap := s₂.heap, slotsUsed := s₂.slotsUsed } : State).setVm s₂.vm).setTop { g with pc := g.pc + len₂, stack := v.toList ++ g.stack })
    rw [← hs₂]
    exact hsteps
  · obtain ⟨e2, q2, q3, q4, q5, q6⟩ := id hsm
    have e3 : s₂ = ({ (U.calling g mk a).setFrames s₂.frames with heap := s₂.heap, slotsUsed := s₂.slotsUsed } : State).setVm s₂.vm := by
      have : s₂ = ({ s₂ with vm := (U.calling g mk a).vm } : State).setVm s₂.vm := rfl
      rw [e2] at this
      exact this
    have hf₂ : s₂.frames = .throwing q :: .java g :: U.frames.tail := hend
    have hW' : U.WarmedH s₂.vm := hW₂
    have hs₂ : s₂ = ((({ U with heap := s₂.heap, slotsUsed := s₂.slotsUsed } : State).setVm s₂.vm).setTop g).pushFrame (.throwing q) := by
      refine e3.trans ?_
      rw [hf₂, State.calling_eq h.top, State.setFrames_setFrames, State.pushFrame, State.frames_setTop _ hr', State.setTop_of_frames _ hr', State.setFrames_setFrames, hr]
      rfl
    have hsame : U.sameButNew ({ U with heap := s₂.heap, slotsUsed := s₂.slotsUsed } : State) L mc ms := by
      refine ⟨?_, q2, q3, q4, q5, q6⟩
      obtain ⟨t, ht, -⟩ := State.frames_cons hr
      show ({ U with heap := s₂.heap, slotsUsed := s₂.slotsUsed } : State) = { U.setFrames U.frames with heap := s₂.heap, slotsUsed := s₂.slotsUsed }
      rw [State.setFrames_self ht]
    subst hg
    refine Or.inr ⟨q, ⟨(({ U with heap := s₂.heap, slotsUsed := s₂.slotsUsed } : State).setVm s₂.vm), Ls ++ L, c0 + mc, s0 + ms⟩,
      ⟨X.admits, X.cas, X.clock, X.frames, X.room, X.hears, X.method, X.code, (X.here.setHeapUsed s₂.heap s₂.slotsUsed).setVm hW'.alike, X.tail, State.WarmedH.trans X.warmed hW', X.limits, X.bytes, X.same.trans (hsame.setVm s.vm)⟩,
      ⟨g, mk, s₂, L, E, ce, rfl, rfl, hx, hce, hcv, hcl, rfl, hL, rfl, rfl⟩, ?_⟩
    show Steps p.tables e below _ (((({ U with heap := s₂.heap, slotsUsed := s₂.slotsUsed } : State).setVm s₂.vm).setTop g).pushFrame (.throwing q))
    rw [← hs₂]
    exact hsteps
end
variable {p : Program} {l : Launch} {e : Env} {R : Room} {s : State} {m : MethodId} {args : Array Value} {below : List Frame} {meth : Method} {c : Code} {T : State} {H : Heap} {locs : List Loc} {cells slots : Nat}
theorem vx_callVX (X : Stand p l e R s m args below meth c T locs cells slots) (hexec : p.tables.exec = Jvm.exec) {own C : String} {index : Nat} {y : MethodName} {bytes : ByteArray} {maxL : Nat} {ret : Option FieldType} {hh : List (Nat × Nat × Nat × Nat)}
    (hown : s.vm.findClass own = some m.cls) (hlink : (Cond.methodLink own index y).before args s = true) (hinst : (Cond.instanceMethod y).before args s = true) (hsel : (Cond.selects C y y).before args s = true)
    (hcode : (Cond.codeWith y bytes maxL ret hh).before args s = true) (hy : y.cls ≠ "java/lang/invoke/MethodHandle" ∧ y.cls ≠ "java/lang/invoke/VarHandle")
    {W9 : Nat} {Pre : Pt → Array Value → Prop} {Post : Pt → Array Value → Option Value → Pt → Prop} {PostX : Pt → Array Value → Addr → Pt → Prop} (hK : vx_Back l R p e below s args y 3 W9 Pre Post PostX)
    {b : Addr} {cellB : Cell} (hcell : T.heap[b]? = some cellB) (hobj : cellB.vm.isStatics = false) (hcls : s.vm.findClass C = some cellB.cls)
    {g : JFrame} (hg : g.method = m) (hsize : g.locals.size = c.maxLocals) {argsL rest : List Value} (hlen : ∀ sig, parseMethodDescriptor y.desc = some sig → argsL.length = sig.parameters.length)
    (hstack : g.stack = argsL.reverse ++ .ref b :: rest) (hW : 2 * g.monitorRoom + (rest.map fun v => v.category).sum ≤ W9) (hdg : decode c.code g.pc = .ok (.invokevirtual index, 3))
    (hpre : ∀ vm₁, s.WarmedH vm₁ → Pre ⟨T.setVm vm₁, locs, cells, slots⟩ (Value.ref b :: argsL).toArray) :
    (∃ (v : Option Value) (vm₁ : Vm) (B : Pt), s.WarmedH vm₁ ∧ Stand p l e R s m args below meth c B.U B.locs B.cells B.slots ∧ Post ⟨T.setVm vm₁, locs, cells, slots⟩ (Value.ref b :: argsL).toArray v B ∧
      ∀ target, Steps p.tables e below (B.U.setTop { g with pc := g.pc + 3, stack := v.toList ++ rest }) target → Steps p.tables e below (T.setTop g) target) ∨
    (∃ (q : Addr) (vm₁ : Vm) (B : Pt), s.WarmedH vm₁ ∧ Stand p l e R s m args below meth c B.U B.locs B.cells B.slots ∧ PostX ⟨T.setVm vm₁, locs, cells, slots⟩ (Value.ref b :: argsL).toArray q B ∧
      Steps p.tables e below (T.setTop g) ((B.U.setTop { g with stack := rest }).pushFrame (.throwing q))) := by
  obtain ⟨mk, methM, hnamed, hmethM, hstM, habM⟩ := Cond.instanceMethod_spec hinst
  obtain ⟨m8, methM', cM, hn8, hmethM', -, -, -, -, -, -, hsigM⟩ := Cond.codeWith_spec hcode
  cases Option.some.inj (hn8.symm.trans hnamed)
  cases hmethM.symm.trans hmethM'
  obtain ⟨c2, r2, m2, q1, q2, q3, q4, kP, hkP, hkPi⟩ := Cond.selects_spec hsel
  cases hcls.symm.trans q1
  cases (State.methodFound?_of_named hnamed hy).symm.trans q2
  cases hnamed.symm.trans q3
  have hselP : selectMethod e.platform s.vm cellB.cls mk = .method mk := by rw [Launch.admits_selectMethod X.admits]; exact q4
  obtain ⟨vm₁, X₁, hstep₁⟩ := X.invokevirtual hexec hown hlink hnamed hmethM hstM hkP hkPi hy (a := b) (cell := cellB) hcell
    (fun z h => by rw [h] at hobj; cases hobj) hselP hmethM habM hkP hkPi (g := g) hg (argsL := argsL) (rest := rest) (hlen _ hsigM) hstack hdg
  rcases hK m meth c ⟨T.setVm vm₁, locs, cells, slots⟩ { g with stack := rest } (.invokevirtual index) mk (Value.ref b :: argsL).toArray X₁ hg hsize hdg hW (X₁.named hnamed) (hpre vm₁ X₁.warmed) with ⟨v, B, X', hpost, hsteps⟩ | ⟨q, B, X', hpost, hsteps⟩
  · exact Or.inl ⟨v, vm₁, B, X₁.warmed, X', hpost, fun target h => hstep₁ _ fun acts => by rw [doInvoke_state]; exact hsteps.trans h⟩
  · exact Or.inr ⟨q, vm₁, B, X₁.warmed, X', hpost, hstep₁ _ fun acts => by rw [doInvoke_state]; exact hsteps⟩
theorem vx_callSX (X : Stand p l e R s m args below meth c T locs cells slots) (hexec : p.tables.exec = Jvm.exec) {own : String} {index : Nat} {y : MethodName} {bytes : ByteArray} {maxL : Nat} {ret : Option FieldType} {hh : List (Nat × Nat × Nat × Nat)}
    (hown : s.vm.findClass own = some m.cls) (hlink : (Cond.methodLink own index y).before args s = true) (hstat : (Cond.static y).before args s = true) (hinit : (Cond.initialized y.cls).before args s = true)
    (hcode : (Cond.codeWith y bytes maxL ret hh).before args s = true) (hy : y.cls ≠ "java/lang/invoke/MethodHandle" ∧ y.cls ≠ "java/lang/invoke/VarHandle")
    {W9 : Nat} {Pre : Pt → Array Value → Prop} {Post : Pt → Array Value → Option Value → Pt → Prop} {PostX : Pt → Array Value → Addr → Pt → Prop} (hK : vx_Back l R p e below s args y 3 W9 Pre Post PostX)
    {g : JFrame} (hg : g.method = m) (hsize : g.locals.size = c.maxLocals) {argsL rest : List Value} (hlen : ∀ sig, parseMethodDescriptor y.desc = some sig → argsL.length = sig.parameters.length)
    (hstack : g.stack = argsL.reverse ++ rest) (hW : 2 * g.monitorRoom + (rest.map fun v => v.category).sum ≤ W9) (hdg : decode c.code g.pc = .ok (.invokestatic index, 3))
    (hpre : ∀ vm₁, s.WarmedH vm₁ → Pre ⟨T.setVm vm₁, locs, cells, slots⟩ argsL.toArray) :
    (∃ (v : Option Value) (vm₁ : Vm) (B : Pt), s.WarmedH vm₁ ∧ Stand p l e R s m args below meth c B.U B.locs B.cells B.slots ∧ Post ⟨T.setVm vm₁, locs, cells, slots⟩ argsL.toArray v B ∧
      ∀ target, Steps p.tables e below (B.U.setTop { g with pc := g.pc + 3, stack := v.toList ++ rest }) target → Steps p.tables e below (T.setTop g) target) ∨
    (∃ (q : Addr) (vm₁ : Vm) (B : Pt), s.WarmedH vm₁ ∧ Stand p l e R s m args below meth c B.U B.locs B.cells B.slots ∧ PostX ⟨T.setVm vm₁, locs, cells, slots⟩ argsL.toArray q B ∧
      Steps p.tables e below (T.setTop g) ((B.U.setTop { g with stack := rest }).pushFrame (.throwing q))) := by
  obtain ⟨mk, methM, cM, hnamed, hmethM, -, -, -, -, -, -, hsigM⟩ := Cond.codeWith_spec hcode
  have hstatic : methM.isStatic = true := Cond.static_spec hnamed hmethM hstat
  obtain ⟨kP, hkP, -⟩ := className_of_methodNamed hnamed
  have hinitP : kP.init = .initialized := Cond.initialized_spec (findClass_of_methodNamed hnamed) hkP hinit
  obtain ⟨vm₁, X₁, hstep₁⟩ := X.invokestatic hexec hown hlink hnamed hmethM hstatic hkP hinitP hy (g := g) hg (argsL := argsL) (rest := rest) (hlen _ hsigM) hstack hdg
  rcases hK m meth c ⟨T.setVm vm₁, locs, cells, slots⟩ { g with stack := rest } (.invokestatic index) mk argsL.toArray X₁ hg hsize hdg hW (X₁.named hnamed) (hpre vm₁ X₁.warmed) with ⟨v, B, X', hpost, hsteps⟩ | ⟨q, B, X', hpost, hsteps⟩
  · exact Or.inl ⟨v, vm₁, B, X₁.warmed, X', hpost, fun target h => hstep₁ _ fun acts => by rw [doInvoke_state]; exact hsteps.trans h⟩
  · exact Or.inr ⟨q, vm₁, B, X₁.warmed, X', hpost, hstep₁ _ fun acts => by rw [doInvoke_state]; exact hsteps⟩
theorem vx_callVW (X : Stand p l e R s m args below meth c T locs cells slots) (hexec : p.tables.exec = Jvm.exec) {own C : String} {index : Nat} {y : MethodName} {bytes : ByteArray} {maxL : Nat} {ret : Option FieldType} {hh : List (Nat × Nat × Nat × Nat)}
    (hown : s.vm.findClass own = some m.cls) (hlink : (Cond.methodLink own index y).before args s = true) (hinst : (Cond.instanceMethod y).before args s = true) (hsel : (Cond.selects C y y).before args s = true)
    (hcode : (Cond.codeWith y bytes maxL ret hh).before args s = true) (hy : y.cls ≠ "java/lang/invoke/MethodHandle" ∧ y.cls ≠ "java/lang/invoke/VarHandle")
    {W9 : Nat} {Pre : Pt → Array Value → Prop} {Post : Pt → Array Value → Option Value → Pt → Prop} (hK : Back l R p e below s args y 3 W9 Pre Post)
    {b : Addr} {cellB : Cell} (hcell : T.heap[b]? = some cellB) (hobj : cellB.vm.isStatics = false) (hcls : s.vm.findClass C = some cellB.cls)
    {g : JFrame} (hg : g.method = m) (hsize : g.locals.size = c.maxLocals) {argsL rest : List Value} (hlen : ∀ sig, parseMethodDescriptor y.desc = some sig → argsL.length = sig.parameters.length)
    (hstack : g.stack = argsL.reverse ++ .ref b :: rest) (hW : 2 * g.monitorRoom + (rest.map fun v => v.category).sum ≤ W9) (hdg : decode c.code g.pc = .ok (.invokevirtual index, 3))
    (hpre : ∀ vm₁, s.WarmedH vm₁ → Pre ⟨T.setVm vm₁, locs, cells, slots⟩ (Value.ref b :: argsL).toArray) :
    ∃ (v : Option Value) (vm₁ : Vm) (B : Pt), s.WarmedH vm₁ ∧ Stand p l e R s m args below meth c B.U B.locs B.cells B.slots ∧ Post ⟨T.setVm vm₁, locs, cells, slots⟩ (Value.ref b :: argsL).toArray v B ∧
      ∀ target, Steps p.tables e below (B.U.setTop { g with pc := g.pc + 3, stack := v.toList ++ rest }) target → Steps p.tables e below (T.setTop g) target := by
  obtain ⟨mk, methM, hnamed, hmethM, hstM, habM⟩ := Cond.instanceMethod_spec hinst
  obtain ⟨m8, methM', cM, hn8, hmethM', -, -, -, -, -, -, hsigM⟩ := Cond.codeWith_spec hcode
  cases Option.some.inj (hn8.symm.trans hnamed)
  cases hmethM.symm.trans hmethM'
  obtain ⟨c2, r2, m2, q1, q2, q3, q4, kP, hkP, hkPi⟩ := Cond.selects_spec hsel
  cases hcls.symm.trans q1
  cases (State.methodFound?_of_named hnamed hy).symm.trans q2
  cases hnamed.symm.trans q3
  have hselP : selectMethod e.platform s.vm cellB.cls mk = .method mk := by rw [Launch.admits_selectMethod X.admits]; exact q4
  obtain ⟨vm₁, X₁, hstep₁⟩ := X.invokevirtual hexec hown hlink hnamed hmethM hstM hkP hkPi hy (a := b) (cell := cellB) hcell
    (fun z h => by rw [h] at hobj; cases hobj) hselP hmethM habM hkP hkPi (g := g) hg (argsL := argsL) (rest := rest) (hlen _ hsigM) hstack hdg
  obtain ⟨v, B, X', hpost, hsteps⟩ := hK m meth c ⟨T.setVm vm₁, locs, cells, slots⟩ { g with stack := rest } (.invokevirtual index) mk (Value.ref b :: argsL).toArray X₁ hg hsize hdg hW (X₁.named hnamed) (hpre vm₁ X₁.warmed)
  exact ⟨v, vm₁, B, X₁.warmed, X', hpost, fun target h => hstep₁ _ fun acts => by rw [doInvoke_state]; exact hsteps.trans h⟩
abbrev vx_CVW (R : Room) (s : State) (args : Array Value) (own C : String) (index : Nat) (y : MethodName) (bytes : ByteArray) (maxL : Nat) (ret : Option FieldType) (hh : List (Nat × Nat × Nat × Nat)) (ws : List Cond) (rm : Room) (mc ms n : Nat) : Prop :=
  (rm.cells = mc ∧ rm.slots = ms ∧ rm.frames + 1 ≤ R.frames ∧ 8 + (maxL + 11) + rm.locals ≤ R.locals ∧ (∀ w ∈ ws, ∀ (a' : Array Value) (U : State), s.WarmedH U.vm → w.before a' U = true) ∧ Cond.codeWith y bytes maxL ret hh ∈ ws) ∧
  (Cond.codeWith y bytes maxL ret hh).before args s = true ∧ (Cond.initialized y.cls).before args s = true ∧ (y.cls ≠ "java/lang/invoke/MethodHandle" ∧ y.cls ≠ "java/lang/invoke/VarHandle") ∧
  (∀ sig, parseMethodDescriptor y.desc = some sig → n = sig.parameters.length) ∧ (Cond.methodLink own index y).before args s = true ∧ (Cond.instanceMethod y).before args s = true ∧ (Cond.selects C y y).before args s = true
theorem vx_cwVW {own C : String} {index maxL mc ms : Nat} {y : MethodName} {bytes : ByteArray} {ret : Option FieldType} {hh : List (Nat × Nat × Nat × Nat)} {Ts ws ws' : List Cond} {rm : Room} (n : Nat) (ht : ∀ w ∈ Ts, w.before args s = true) (hT : GoodIn Ts (wsV own index C y ws)) (hw : ws = Cond.codeWith y bytes maxL ret hh :: ws') (hrc : rm.cells = mc) (hrs : rm.slots = ms)
    (hd : y.cls = C ∧ y.cls ≠ "java/lang/invoke/MethodHandle" ∧ y.cls ≠ "java/lang/invoke/VarHandle" ∧ (parseMethodDescriptor y.desc).map (fun d => d.parameters.length) = some n) (hR : rm.frames + 1 ≤ R.frames ∧ 8 + (maxL + 11) + rm.locals ≤ R.locals) :
    vx_CVW R s args own C index y bytes maxL ret hh ws rm mc ms n := by
  obtain ⟨hC, hd⟩ := hd
  subst hC
  have ok : ∀ w ∈ wsV own index y.cls y ws, w.before args s = true := fun w h => ht w (hT w h).1
  have hG : GoodIn Ts ws := fun w h => hT w (by unfold wsV; exact List.mem_append_right _ h)
  have hc : Cond.codeWith y bytes maxL ret hh ∈ ws := by rw [hw]; exact List.mem_cons_self
  refine ⟨⟨hrc, hrs, hR.1, hR.2, pay_in ht hG, hc⟩, ht _ (hG _ hc).1, ok _ (by simp [wsV]), ⟨hd.1, hd.2.1⟩, fun sig h => ?_, ok _ (by simp [wsV]), ok _ (by simp [wsV]), ok _ (by simp [wsV])⟩
  have h2 := hd.2.2
  rw [h] at h2
  exact (Option.some.inj h2).symm
theorem vx_runVW {y : MethodName} {bytes cc : ByteArray} {maxL nL mc ms n index : Nat} {ret : Option FieldType} {hh : List (Nat × Nat × Nat × Nat)} {ws : List Cond} {rm : Room} {Pc : Array Value → State → Prop} {Qc : Array Value → State → Outcome → State → Prop} {free : Addr → Prop} {Ts : List Cond} {own C : String} {b : Addr} {As rest : List Value} {g : JFrame}
    (S : CallFix p m c cc nL s args Ts own) (hM : Met l y ws rm Pc Qc mc ms free) (cw : vx_CVW R s args own C index y bytes maxL ret hh ws rm mc ms n) (hp : PreV s H C b Pc As)
    (hg : g.method = m) (hn : As.length = n) (hsize : g.locals.size = nL) (hstack : g.stack = As.reverse ++ .ref b :: rest) (hW : 2 * g.monitorRoom + (rest.map fun v => v.category).sum ≤ 8) (hdg : decode cc g.pc = .ok (.invokevirtual index, 3)) (hf : cells + mc ≤ R.cells ∧ slots + ms ≤ R.slots) :
    va_Run p l e R s m args below meth c H locs cells slots mc ms g rest (Qc (Value.ref b :: As).toArray) free := by
  obtain ⟨⟨hrc, hrs, hfr, hlo, hws, hcw⟩, hcode, hini, hy, hlen, hl, hin, hse⟩ := cw
  have hK : Back l R p e below s args y 3 8 (PreOf R mc ms Pc) (PostOf Qc mc ms free) := va_backW (hh := hh) (bytes := bytes) (maxL := maxL) (ret := ret) hM hp.1 hrc hrs hfr hlo hws hcw (fun a' U hW => word_at hW (Or.inl (by first | rfl | simp [Cond.onTables, Cond.keeps, Cond.steady])) hini)
  obtain ⟨hx, hb, hml, ho, -⟩ := S
  obtain ⟨-, ⟨cellB, hcB, hoB, hclB⟩, hPc⟩ := hp
  intro T hT X
  obtain ⟨v, vm₁, ⟨U', l2, c2, s2⟩, hW₁, X', ⟨g', mk, t, L, e1, e2, hq, h1, hL, h2, h3⟩, st⟩ := vx_callVW X hx (C := C) (hh := hh) (bytes := bytes) (maxL := maxL) (ret := ret) ho hl hin hse hcode hy hK (by rw [hT]; exact hcB) hoB hclB hg (hsize.trans hml.symm) (argsL := As) (rest := rest) (fun sig h => hn.trans (hlen sig h)) hstack hW (by rw [hb]; exact hdg)
    (fun vm₁ hW₁ => ⟨hf.1, hf.2, hPc (T.setVm vm₁) hT hW₁⟩)
  dsimp only [Pt.U, Pt.locs, Pt.cells, Pt.slots] at X' e1 e2 h1 h2 h3 st
  subst h1; subst h2; subst h3
  exact ⟨v, (T.setVm vm₁).calling g' mk (Value.ref b :: As).toArray, t, U', L, hT, X', hL, e1, e2, hq, st⟩
section
variable {y : MethodName} {bytes cc : ByteArray} {maxL nL mc ms n index : Nat} {ret : Option FieldType} {ws : List Cond} {rm : Room} {Pc : Array Value → State → Prop} {Qc : Array Value → State → Outcome → State → Prop} {XC : String → State → State → Prop} {free : Addr → Prop} {Ts : List Cond} {own C : String} {b : Addr} {As rest : List Value} {g : JFrame}
theorem vx_runVX {hh : List (Nat × Nat × Nat × Nat)} (S : CallFix p m c cc nL s args Ts own) (hM : vx_Met l y ws rm Pc Qc XC mc ms free) (cw : vx_CVW R s args own C index y bytes maxL ret hh ws rm mc ms n) (hp : PreV s H C b Pc As)
    (hg : g.method = m) (hn : As.length = n) (hsize : g.locals.size = nL) (hstack : g.stack = As.reverse ++ .ref b :: rest) (hW : 2 * g.monitorRoom + (rest.map fun v => v.category).sum ≤ 8) (hdg : decode cc g.pc = .ok (.invokevirtual index, 3)) (hf : cells + mc ≤ R.cells ∧ slots + ms ≤ R.slots) :
    vx_Run p l e R s m args below meth c H locs cells slots mc ms g rest (Qc (Value.ref b :: As).toArray) XC free := by
  obtain ⟨⟨hrc, hrs, hfr, hlo, hws, hcw⟩, hcode, hini, hy, hlen, hl, hin, hse⟩ := cw
  have hK : vx_Back l R p e below s args y 3 8 (PreOf R mc ms Pc) (PostOf Qc mc ms free) (vx_Post XC mc ms free) := vx_backW (hh := hh) (bytes := bytes) (maxL := maxL) (ret := ret) hM hp.1 hrc hrs hfr hlo hws hcw (fun a' U hW => word_at hW (Or.inl (by first | rfl | simp [Cond.onTables, Cond.keeps, Cond.steady])) hini)
  obtain ⟨hx, hb, hml, ho, -⟩ := S
  obtain ⟨-, ⟨cellB, hcB, hoB, hclB⟩, hPc⟩ := hp
  intro T hT X
  rcases vx_callVX X hx (C := C) (hh := hh) (bytes := bytes) (maxL := maxL) (ret := ret) ho hl hin hse hcode hy hK (by rw [hT]; exact hcB) hoB hclB hg (hsize.trans hml.symm) (argsL := As) (rest := rest) (fun sig h => hn.trans (hlen sig h)) hstack hW (by rw [hb]; exact hdg)
    (fun vm₁ hW₁ => ⟨hf.1, hf.2, hPc (T.setVm vm₁) hT hW₁⟩) with ⟨v, vm₁, ⟨U', l2, c2, s2⟩, hW₁, X', ⟨g', mk, t, L, e1, e2, hq, h1, hL, h2, h3⟩, st⟩ | ⟨q, vm₁, ⟨U', l2, c2, s2⟩, hW₁, X', ⟨g', mk, t, L, E, ce, e1, e2, hq, hce, hcv, hcl, h1, hL, h2, h3⟩, st⟩
  · dsimp only [Pt.U, Pt.locs, Pt.cells, Pt.slots] at X' e1 e2 h1 h2 h3 st
    subst h1; subst h2; subst h3
    exact Or.inl ⟨v, (T.setVm vm₁).calling g' mk (Value.ref b :: As).toArray, t, U', L, hT, X', hL, e1, e2, hq, st⟩
  · dsimp only [Pt.U, Pt.locs, Pt.cells, Pt.slots] at X' e1 e2 h1 h2 h3 st hcl
    subst h1; subst h2; subst h3
    exact Or.inr ⟨q, (T.setVm vm₁).calling g' mk (Value.ref b :: As).toArray, t, U', L, E, ce, hT, X', hL, e1, e2, hq, hce, hcv, vx_cls hW₁ hcl, st⟩
theorem vx_runSX {hh : List (Nat × Nat × Nat × Nat)} (S : CallFix p m c cc nL s args Ts own) (hM : vx_Met l y ws rm Pc Qc XC mc ms free) (cw : vx_CSW R s args own index y bytes maxL ret hh ws rm mc ms n) (hp : PreS s H Pc As)
    (hg : g.method = m) (hn : As.length = n) (hsize : g.locals.size = nL) (hstack : g.stack = As.reverse ++ rest) (hW : 2 * g.monitorRoom + (rest.map fun v => v.category).sum ≤ 8) (hdg : decode cc g.pc = .ok (.invokestatic index, 3)) (hf : cells + mc ≤ R.cells ∧ slots + ms ≤ R.slots) :
    vx_Run p l e R s m args below meth c H locs cells slots mc ms g rest (Qc As.toArray) XC free := by
  obtain ⟨⟨hrc, hrs, hfr, hlo, hws, hcw⟩, hcode, hini, hy, hlen, hl, hstt⟩ := cw
  have hK : vx_Back l R p e below s args y 3 8 (PreOf R mc ms Pc) (PostOf Qc mc ms free) (vx_Post XC mc ms free) := vx_backW (hh := hh) (bytes := bytes) (maxL := maxL) (ret := ret) hM hp.1 hrc hrs hfr hlo hws hcw (fun a' U hW => word_at hW (Or.inl (by first | rfl | simp [Cond.onTables, Cond.keeps, Cond.steady])) hini)
  obtain ⟨hx, hb, hml, ho, -⟩ := S
  intro T hT X
  rcases vx_callSX X hx (hh := hh) (bytes := bytes) (maxL := maxL) (ret := ret) ho hl hstt hini hcode hy hK hg (hsize.trans hml.symm) (argsL := As) (rest := rest) (fun sig h => hn.trans (hlen sig h)) hstack hW (by rw [hb]; exact hdg)
    (fun vm₁ hW₁ => ⟨hf.1, hf.2, hp.2 (T.setVm vm₁) hT hW₁⟩) with ⟨v, vm₁, ⟨U', l2, c2, s2⟩, hW₁, X', ⟨g', mk, t, L, e1, e2, hq, h1, hL, h2, h3⟩, st⟩ | ⟨q, vm₁, ⟨U', l2, c2, s2⟩, hW₁, X', ⟨g', mk, t, L, E, ce, e1, e2, hq, hce, hcv, hcl, h1, hL, h2, h3⟩, st⟩
  · dsimp only [Pt.U, Pt.locs, Pt.cells, Pt.slots] at X' e1 e2 h1 h2 h3 st
    subst h1; subst h2; subst h3
    exact Or.inl ⟨v, (T.setVm vm₁).calling g' mk As.toArray, t, U', L, hT, X', hL, e1, e2, hq, st⟩
  · dsimp only [Pt.U, Pt.locs, Pt.cells, Pt.slots] at X' e1 e2 h1 h2 h3 st hcl
    subst h1; subst h2; subst h3
    exact Or.inr ⟨q, (T.setVm vm₁).calling g' mk As.toArray, t, U', L, E, ce, hT, X', hL, e1, e2, hq, hce, hcv, vx_cls hW₁ hcl, st⟩
end
end VXH
theorem vx_ofWH {l : Launch} {y : MethodName} {ws ws' : List Cond} {rm : Room} {Pc : Array Value → State → Prop} {Qc : Array Value → State → Outcome → State → Prop} {XC : String → State → State → Prop} {mc ms : Nat} {free : Addr → Prop} {cc : ByteArray} {maxL : Nat} {ret : Option FieldType} {hh : List (Nat × Nat × Nat × Nat)}
    (hy : plainName y.cls = true) (hw : ws = Cond.codeWith y cc maxL ret hh :: ws')
    (body : ∀ p e s m args below meth c s₁, BodyLoose p l y (headSpec ws rm) cc maxL ret e s m args below meth c s₁ → c.maxLocals = maxL → Pc args s →
      W p l e (headSpec ws rm).room s m args below meth c s.heap [] 0 0 (vx_MQ below Qc XC args s mc ms free) (entryFrame m args maxL)) : vx_Met l y ws rm Pc Qc XC mc ms free := by
  refine MetFree.of_bodyS (code := cc) (maxLocals := maxL) (ret := ret) hy ?_ ?_
  · intro args s m h hn
    obtain ⟨m9, meth, c, hn9, h1, h2, h3, h4, -, h5, h6, -⟩ := Cond.codeWith_spec (atoms_spec (ws := ws) h _ (by rw [hw]; exact List.mem_cons_self))
    cases hn.symm.trans hn9
    exact ⟨meth, c, h1, h2, h3, h4, h5, h6⟩
  · intro p e s m args below meth c s₁ B hml hP _
    have hh0 : s₁.heap = s.heap := by rw [B.state]; rfl
    obtain ⟨t, a1, o, b1, b2, b3⟩ := body p e s m args below meth c s₁ B hml hP s₁ hh0 (Stand.of_body B)
    exact ⟨t, o, a1, b1, b2, b3⟩
/-! ===== END ===== -/
end
section
def RX0 : String := "GutterBoats$History"
def TX0 : u_T := fun k => match k with
  | 0 => ("GutterBoats$History", "shelf", "LGutterBoats$Shelf;", true)
  | 1 => ("GutterBoats$History", "next", "I", false)
  | _ => ("GutterBoats$History", "count", "I", false)
def tyX0 : Nat → FieldType := fun k => match k with
  | 0 => .object "GutterBoats$Shelf"
  | 1 => .int
  | _ => .int
theorem nmX0 : ∀ a, a < 3 → ∀ b, b < 3 → a ≠ b → (TX0 a).2.1 ≠ (TX0 b).2.1 := by decide +kernel
theorem tyX0_ok : ∀ k, k < 3 → parseFieldDescriptor (TX0 k).2.2.1 = some (tyX0 k) := by decide +kernel
abbrev cX0_init : ByteArray := prog_2_method_1_code
def yX0_init : MethodName := ⟨RX0, "<init>", "()V"⟩
abbrev cX0_remember : ByteArray := prog_2_method_2_code
def yX0_remember : MethodName := ⟨RX0, "remember", "(LGutterBoats$Tournament;)V"⟩
abbrev cX0_takeBack : ByteArray := prog_2_method_3_code
def yX0_takeBack : MethodName := ⟨RX0, "takeBack", "(LGutterBoats$Tournament;)I"⟩
abbrev cX0_forget : ByteArray := prog_2_method_4_code
def yX0_forget : MethodName := ⟨RX0, "forget", "()V"⟩
def RX1 : String := "GutterBoats$Shelf"
def TX1 : u_T := fun k => match k with
  | 0 => ("GutterBoats$Shelf", "places", "[LGutterBoats$Tournament;", true)
  | _ => ("GutterBoats$Shelf", "filled", "[Z", true)
def tyX1 : Nat → FieldType := fun k => match k with
  | 0 => .array (.object "GutterBoats$Tournament")
  | _ => .array .boolean
theorem nmX1 : ∀ a, a < 2 → ∀ b, b < 2 → a ≠ b → (TX1 a).2.1 ≠ (TX1 b).2.1 := by decide +kernel
theorem tyX1_ok : ∀ k, k < 2 → parseFieldDescriptor (TX1 k).2.2.1 = some (tyX1 k) := by decide +kernel
abbrev cX1_init : ByteArray := prog_3_method_1_code
def yX1_init : MethodName := ⟨RX1, "<init>", "(I)V"⟩
abbrev cX1_holds : ByteArray := prog_3_method_2_code
def yX1_holds : MethodName := ⟨RX1, "holds", "(I)Z"⟩
abbrev cX1_put : ByteArray := prog_3_method_3_code
def yX1_put : MethodName := ⟨RX1, "put", "(ILGutterBoats$Tournament;)V"⟩
abbrev cX1_copyTo : ByteArray := prog_3_method_4_code
def yX1_copyTo : MethodName := ⟨RX1, "copyTo", "(ILGutterBoats$Tournament;)V"⟩
abbrev cX1_clear : ByteArray := prog_3_method_5_code
def yX1_clear : MethodName := ⟨RX1, "clear", "()V"⟩
abbrev cX1_keptAt : ByteArray := prog_3_method_6_code
def yX1_keptAt : MethodName := ⟨RX1, "keptAt", "(I)LGutterBoats$Tournament;"⟩
def RX2 : String := "GutterBoats$Table"
def TX2 : u_T := fun k => match k with
  | 0 => ("GutterBoats$Table", "columns", "I", true)
  | 1 => ("GutterBoats$Table", "cells", "[I", true)
  | _ => ("GutterBoats$Table", "rows", "I", false)
def tyX2 : Nat → FieldType := fun k => match k with
  | 0 => .int
  | 1 => .array .int
  | _ => .int
theorem nmX2 : ∀ a, a < 3 → ∀ b, b < 3 → a ≠ b → (TX2 a).2.1 ≠ (TX2 b).2.1 := by decide +kernel
theorem tyX2_ok : ∀ k, k < 3 → parseFieldDescriptor (TX2 k).2.2.1 = some (tyX2 k) := by decide +kernel
abbrev cX2_init : ByteArray := prog_4_method_1_code
def yX2_init : MethodName := ⟨RX2, "<init>", "(II)V"⟩
abbrev cX2_addRow : ByteArray := prog_4_method_2_code
def yX2_addRow : MethodName := ⟨RX2, "addRow", "()I"⟩
abbrev cX2_at : ByteArray := prog_4_method_3_code
def yX2_at : MethodName := ⟨RX2, "at", "(II)I"⟩
abbrev cX2_put : ByteArray := prog_4_method_4_code
def yX2_put : MethodName := ⟨RX2, "put", "(III)V"⟩
abbrev cX2_increase : ByteArray := prog_4_method_5_code
def yX2_increase : MethodName := ⟨RX2, "increase", "(III)V"⟩
abbrev cX2_sum : ByteArray := prog_4_method_6_code
def yX2_sum : MethodName := ⟨RX2, "sum", "(I)I"⟩
abbrev cX2_count : ByteArray := prog_4_method_7_code
def yX2_count : MethodName := ⟨RX2, "count", "(II)I"⟩
abbrev cX2_copyFrom : ByteArray := prog_4_method_8_code
def yX2_copyFrom : MethodName := ⟨RX2, "copyFrom", "(LGutterBoats$Table;)V"⟩
def RX3 : String := "GutterBoats$Text"
def TX3 : u_T := fun k => match k with
  | 0 => ("GutterBoats$Text", "characters", "[I", true)
  | 1 => ("GutterBoats$Text", "numbers", "[I", true)
  | 2 => ("GutterBoats$Text", "length", "I", false)
  | 3 => ("GutterBoats$Text", "position", "I", false)
  | _ => ("GutterBoats$Text", "letter", "I", false)
def tyX3 : Nat → FieldType := fun k => match k with
  | 0 => .array .int
  | 1 => .array .int
  | 2 => .int
  | 3 => .int
  | _ => .int
theorem nmX3 : ∀ a, a < 5 → ∀ b, b < 5 → a ≠ b → (TX3 a).2.1 ≠ (TX3 b).2.1 := by decide +kernel
theorem tyX3_ok : ∀ k, k < 5 → parseFieldDescriptor (TX3 k).2.2.1 = some (tyX3 k) := by decide +kernel
abbrev cX3_init : ByteArray := prog_5_method_1_code
def yX3_init : MethodName := ⟨RX3, "<init>", "()V"⟩
abbrev cX3_isFull : ByteArray := prog_5_method_2_code
def yX3_isFull : MethodName := ⟨RX3, "isFull", "()Z"⟩
abbrev cX3_add : ByteArray := prog_5_method_3_code
def yX3_add : MethodName := ⟨RX3, "add", "(I)I"⟩
abbrev cX3_makeEmpty : ByteArray := prog_5_method_4_code
def yX3_makeEmpty : MethodName := ⟨RX3, "makeEmpty", "()I"⟩
abbrev cX3_firstError : ByteArray := prog_5_method_5_code
def yX3_firstError : MethodName := ⟨RX3, "firstError", "()I"⟩
abbrev cX3_runCommands : ByteArray := prog_5_method_6_code
def yX3_runCommands : MethodName := ⟨RX3, "runCommands", "(LGutterBoats$Tournament;)I"⟩
abbrev cX3_readCommand : ByteArray := prog_5_method_7_code
def yX3_readCommand : MethodName := ⟨RX3, "readCommand", "()Z"⟩
abbrev cX3_readNumber : ByteArray := prog_5_method_8_code
def yX3_readNumber : MethodName := ⟨RX3, "readNumber", "(III)I"⟩
abbrev cX3_atHand : ByteArray := prog_5_method_9_code
def yX3_atHand : MethodName := ⟨RX3, "atHand", "()I"⟩
abbrev cX3_numbersBehind : ByteArray := prog_5_method_10_code
def yX3_numbersBehind : MethodName := ⟨RX3, "numbersBehind", "(I)[I"⟩
def RX4 : String := "GutterBoats$Tournament"
def TX4 : u_T := fun k => match k with
  | 0 => ("GutterBoats$Tournament", "gutters", "LGutterBoats$Table;", true)
  | 1 => ("GutterBoats$Tournament", "boats", "LGutterBoats$Table;", true)
  | 2 => ("GutterBoats$Tournament", "owners", "LGutterBoats$Table;", true)
  | 3 => ("GutterBoats$Tournament", "rain", "I", false)
  | 4 => ("GutterBoats$Tournament", "minutesForAFold", "I", false)
  | 5 => ("GutterBoats$Tournament", "reach", "I", false)
  | 6 => ("GutterBoats$Tournament", "minutesGone", "I", false)
  | 7 => ("GutterBoats$Tournament", "heats", "I", false)
  | 8 => ("GutterBoats$Tournament", "heatUnderWay", "Z", false)
  | _ => ("GutterBoats$Tournament", "refusals", "I", false)
def tyX4 : Nat → FieldType := fun k => match k with
  | 0 => .object "GutterBoats$Table"
  | 1 => .object "GutterBoats$Table"
  | 2 => .object "GutterBoats$Table"
  | 3 => .int
  | 4 => .int
  | 5 => .int
  | 6 => .int
  | 7 => .int
  | 8 => .boolean
  | _ => .int
theorem nmX4 : ∀ a, a < 10 → ∀ b, b < 10 → a ≠ b → (TX4 a).2.1 ≠ (TX4 b).2.1 := by decide +kernel
theorem tyX4_ok : ∀ k, k < 10 → parseFieldDescriptor (TX4 k).2.2.1 = some (tyX4 k) := by decide +kernel
abbrev cX4_init : ByteArray := prog_6_method_1_code
def yX4_init : MethodName := ⟨RX4, "<init>", "()V"⟩
abbrev cX4_makeNew : ByteArray := prog_6_method_2_code
def yX4_makeNew : MethodName := ⟨RX4, "makeNew", "()V"⟩
abbrev cX4_copyFrom : ByteArray := prog_6_method_3_code
def yX4_copyFrom : MethodName := ⟨RX4, "copyFrom", "(LGutterBoats$Tournament;)V"⟩
abbrev cX4_hasGutter : ByteArray := prog_6_method_4_code
def yX4_hasGutter : MethodName := ⟨RX4, "hasGutter", "(I)Z"⟩
abbrev cX4_hasCell : ByteArray := prog_6_method_5_code
def yX4_hasCell : MethodName := ⟨RX4, "hasCell", "(II)Z"⟩
abbrev cX4_hasBoat : ByteArray := prog_6_method_6_code
def yX4_hasBoat : MethodName := ⟨RX4, "hasBoat", "(I)Z"⟩
abbrev cX4_hasOwner : ByteArray := prog_6_method_7_code
def yX4_hasOwner : MethodName := ⟨RX4, "hasOwner", "(I)Z"⟩
abbrev cX4_gutterFault : ByteArray := prog_6_method_8_code
def yX4_gutterFault : MethodName := ⟨RX4, "gutterFault", "(IIII)I"⟩
abbrev cX4_boatFault : ByteArray := prog_6_method_9_code
def yX4_boatFault : MethodName := ⟨RX4, "boatFault", "(III)I"⟩
abbrev cX4_launchFault : ByteArray := prog_6_method_10_code
def yX4_launchFault : MethodName := ⟨RX4, "launchFault", "(II)I"⟩
abbrev cX4_hookFault : ByteArray := prog_6_method_11_code
def yX4_hookFault : MethodName := ⟨RX4, "hookFault", "(III)I"⟩
abbrev cX4_claimFault : ByteArray := prog_6_method_12_code
def yX4_claimFault : MethodName := ⟨RX4, "claimFault", "(II)I"⟩
abbrev cX4_minutesFault : ByteArray := prog_6_method_13_code
def yX4_minutesFault : MethodName := ⟨RX4, "minutesFault", "(I)I"⟩
abbrev cX4_settingFault : ByteArray := prog_6_method_14_code
def yX4_settingFault : MethodName := ⟨RX4, "settingFault", "(II)I"⟩
abbrev cX4_perform : ByteArray := prog_6_method_15_code
def yX4_perform : MethodName := ⟨RX4, "perform", "(IIIII)Z"⟩
abbrev cX4_addGutter : ByteArray := prog_6_method_16_code
def yX4_addGutter : MethodName := ⟨RX4, "addGutter", "(IIII)I"⟩
abbrev cX4_addBoat : ByteArray := prog_6_method_17_code
def yX4_addBoat : MethodName := ⟨RX4, "addBoat", "(III)I"⟩
abbrev cX4_launchBoat : ByteArray := prog_6_method_18_code
def yX4_launchBoat : MethodName := ⟨RX4, "launchBoat", "(II)I"⟩
abbrev cX4_putHook : ByteArray := prog_6_method_19_code
def yX4_putHook : MethodName := ⟨RX4, "putHook", "(III)V"⟩
abbrev cX4_takeWreck : ByteArray := prog_6_method_20_code
def yX4_takeWreck : MethodName := ⟨RX4, "takeWreck", "(II)I"⟩
abbrev cX4_changeSetting : ByteArray := prog_6_method_21_code
def yX4_changeSetting : MethodName := ⟨RX4, "changeSetting", "(II)I"⟩
abbrev cX4_settingNow : ByteArray := prog_6_method_22_code
def yX4_settingNow : MethodName := ⟨RX4, "settingNow", "(I)I"⟩
abbrev cX4_passMinutes : ByteArray := prog_6_method_23_code
def yX4_passMinutes : MethodName := ⟨RX4, "passMinutes", "(I)I"⟩
abbrev cX4_driftsIntoDrain : ByteArray := prog_6_method_24_code
def yX4_driftsIntoDrain : MethodName := ⟨RX4, "driftsIntoDrain", "(I)Z"⟩
abbrev cX4_nextGutter : ByteArray := prog_6_method_25_code
def yX4_nextGutter : MethodName := ⟨RX4, "nextGutter", "(II)I"⟩
abbrev cX4_nextCell : ByteArray := prog_6_method_26_code
def yX4_nextCell : MethodName := ⟨RX4, "nextCell", "(II)I"⟩
abbrev cX4_hasWreck : ByteArray := prog_6_method_27_code
def yX4_hasWreck : MethodName := ⟨RX4, "hasWreck", "(II)Z"⟩
abbrev cX4_arrive : ByteArray := prog_6_method_28_code
def yX4_arrive : MethodName := ⟨RX4, "arrive", "(I)V"⟩
abbrev cX4_soakUp : ByteArray := prog_6_method_29_code
def yX4_soakUp : MethodName := ⟨RX4, "soakUp", "(I)V"⟩
abbrev cX4_soakLimit : ByteArray := prog_6_method_30_code
def yX4_soakLimit : MethodName := ⟨RX4, "soakLimit", "(I)I"⟩
abbrev cX4_endHeat : ByteArray := prog_6_method_31_code
def yX4_endHeat : MethodName := ⟨RX4, "endHeat", "()V"⟩
abbrev cX4_takeOut : ByteArray := prog_6_method_32_code
def yX4_takeOut : MethodName := ⟨RX4, "takeOut", "(II)V"⟩
abbrev cX4_minutesUntilEnd : ByteArray := prog_6_method_33_code
def yX4_minutesUntilEnd : MethodName := ⟨RX4, "minutesUntilEnd", "(I)I"⟩
abbrev cX4_letHeatEnd : ByteArray := prog_6_method_34_code
def yX4_letHeatEnd : MethodName := ⟨RX4, "letHeatEnd", "()V"⟩
abbrev cX4_wayByGutters : ByteArray := prog_6_method_35_code
def yX4_wayByGutters : MethodName := ⟨RX4, "wayByGutters", "(II)I"⟩
abbrev cX4_wayByCells : ByteArray := prog_6_method_36_code
def yX4_wayByCells : MethodName := ⟨RX4, "wayByCells", "(II)I"⟩
abbrev cX4_reasonAgainst : ByteArray := prog_6_method_37_code
def yX4_reasonAgainst : MethodName := ⟨RX4, "reasonAgainst", "(II)I"⟩
abbrev cX4_hookDistance : ByteArray := prog_6_method_38_code
def yX4_hookDistance : MethodName := ⟨RX4, "hookDistance", "(II)I"⟩
abbrev cX4_countClaimable : ByteArray := prog_6_method_39_code
def yX4_countClaimable : MethodName := ⟨RX4, "countClaimable", "(I)I"⟩
abbrev cX4_number : ByteArray := prog_6_method_40_code
def yX4_number : MethodName := ⟨RX4, "number", "(I)I"⟩
abbrev cX4_numberOfGutter : ByteArray := prog_6_method_41_code
def yX4_numberOfGutter : MethodName := ⟨RX4, "numberOfGutter", "(II)I"⟩
abbrev cX4_countInGutter : ByteArray := prog_6_method_42_code
def yX4_countInGutter : MethodName := ⟨RX4, "countInGutter", "(II)I"⟩
abbrev cX4_lowestWreck : ByteArray := prog_6_method_43_code
def yX4_lowestWreck : MethodName := ⟨RX4, "lowestWreck", "(I)I"⟩
abbrev cX4_numberOfOwner : ByteArray := prog_6_method_44_code
def yX4_numberOfOwner : MethodName := ⟨RX4, "numberOfOwner", "(II)I"⟩
def RX5 : String := "GutterBoats"
def TX5 : u_T := fun k => match k with
  | 0 => ("GutterBoats", "text", "LGutterBoats$Text;", true)
  | 1 => ("GutterBoats", "now", "LGutterBoats$Tournament;", true)
  | 2 => ("GutterBoats", "copy", "LGutterBoats$Tournament;", true)
  | 3 => ("GutterBoats", "history", "LGutterBoats$History;", true)
  | _ => ("GutterBoats", "slots", "LGutterBoats$Shelf;", true)
def tyX5 : Nat → FieldType := fun k => match k with
  | 0 => .object "GutterBoats$Text"
  | 1 => .object "GutterBoats$Tournament"
  | 2 => .object "GutterBoats$Tournament"
  | 3 => .object "GutterBoats$History"
  | _ => .object "GutterBoats$Shelf"
theorem nmX5 : ∀ a, a < 5 → ∀ b, b < 5 → a ≠ b → (TX5 a).2.1 ≠ (TX5 b).2.1 := by decide +kernel
theorem tyX5_ok : ∀ k, k < 5 → parseFieldDescriptor (TX5 k).2.2.1 = some (tyX5 k) := by decide +kernel
abbrev cX5_init : ByteArray := prog_1_method_1_code
def yX5_init : MethodName := ⟨RX5, "<init>", "()V"⟩
abbrev cX5_append : ByteArray := prog_1_method_2_code
def yX5_append : MethodName := ⟨RX5, "append", "(I)I"⟩
abbrev cX5_clearText : ByteArray := prog_1_method_3_code
def yX5_clearText : MethodName := ⟨RX5, "clearText", "()I"⟩
abbrev cX5_errorPosition : ByteArray := prog_1_method_4_code
def yX5_errorPosition : MethodName := ⟨RX5, "errorPosition", "()I"⟩
abbrev cX5_load : ByteArray := prog_1_method_5_code
def yX5_load : MethodName := ⟨RX5, "load", "()I"⟩
abbrev cX5_about : ByteArray := prog_1_method_6_code
def yX5_about : MethodName := ⟨RX5, "about", "(I)I"⟩
abbrev cX5_gutterOf : ByteArray := prog_1_method_7_code
def yX5_gutterOf : MethodName := ⟨RX5, "gutterOf", "(II)I"⟩
abbrev cX5_boatOf : ByteArray := prog_1_method_8_code
def yX5_boatOf : MethodName := ⟨RX5, "boatOf", "(II)I"⟩
abbrev cX5_ownerOf : ByteArray := prog_1_method_9_code
def yX5_ownerOf : MethodName := ⟨RX5, "ownerOf", "(II)I"⟩
abbrev cX5_way : ByteArray := prog_1_method_10_code
def yX5_way : MethodName := ⟨RX5, "way", "(III)I"⟩
abbrev cX5_setting : ByteArray := prog_1_method_11_code
def yX5_setting : MethodName := ⟨RX5, "setting", "(I)I"⟩
abbrev cX5_gutter : ByteArray := prog_1_method_12_code
def yX5_gutter : MethodName := ⟨RX5, "gutter", "(IIII)I"⟩
abbrev cX5_boat : ByteArray := prog_1_method_13_code
def yX5_boat : MethodName := ⟨RX5, "boat", "(III)I"⟩
abbrev cX5_launch : ByteArray := prog_1_method_14_code
def yX5_launch : MethodName := ⟨RX5, "launch", "(II)I"⟩
abbrev cX5_hook : ByteArray := prog_1_method_15_code
def yX5_hook : MethodName := ⟨RX5, "hook", "(III)I"⟩
abbrev cX5_claim : ByteArray := prog_1_method_16_code
def yX5_claim : MethodName := ⟨RX5, "claim", "(II)I"⟩
abbrev cX5_minutes : ByteArray := prog_1_method_17_code
def yX5_minutes : MethodName := ⟨RX5, "minutes", "(I)I"⟩
abbrev cX5_set : ByteArray := prog_1_method_18_code
def yX5_set : MethodName := ⟨RX5, "set", "(II)I"⟩
abbrev cX5_undo : ByteArray := prog_1_method_19_code
def yX5_undo : MethodName := ⟨RX5, "undo", "()I"⟩
abbrev cX5_why : ByteArray := prog_1_method_20_code
def yX5_why : MethodName := ⟨RX5, "why", "(II)I"⟩
abbrev cX5_endsIn : ByteArray := prog_1_method_21_code
def yX5_endsIn : MethodName := ⟨RX5, "endsIn", "(II)I"⟩
abbrev cX5_winner : ByteArray := prog_1_method_22_code
def yX5_winner : MethodName := ⟨RX5, "winner", "()I"⟩
abbrev cX5_leastFolds : ByteArray := prog_1_method_23_code
def yX5_leastFolds : MethodName := ⟨RX5, "leastFolds", "(II)I"⟩
abbrev cX5_runScript : ByteArray := prog_1_method_24_code
def yX5_runScript : MethodName := ⟨RX5, "runScript", "(IJ)I"⟩
abbrev cX5_simulate : ByteArray := prog_1_method_25_code
def yX5_simulate : MethodName := ⟨RX5, "simulate", "(JI)I"⟩
abbrev cX5_save : ByteArray := prog_1_method_26_code
def yX5_save : MethodName := ⟨RX5, "save", "(I)I"⟩
abbrev cX5_restore : ByteArray := prog_1_method_27_code
def yX5_restore : MethodName := ⟨RX5, "restore", "(I)I"⟩
abbrev cX5_throwFor : ByteArray := prog_1_method_28_code
def yX5_throwFor : MethodName := ⟨RX5, "throwFor", "(I)V"⟩
abbrev cX5_withoutLowest : ByteArray := prog_1_method_29_code
def yX5_withoutLowest : MethodName := ⟨RX5, "withoutLowest", "(JI)J"⟩
abbrev cX5_succeeds : ByteArray := prog_1_method_30_code
def yX5_succeeds : MethodName := ⟨RX5, "succeeds", "(I)Z"⟩
abbrev cX5_takeTurn : ByteArray := prog_1_method_31_code
def yX5_takeTurn : MethodName := ⟨RX5, "takeTurn", "(I)V"⟩
def RX6 : String := "GutterBoatsModel"
def TX6 : u_T := fun k => match k with
  | 0 => ("GutterBoatsModel", "refusal", "I", false)
  | 1 => ("GutterBoatsModel", "now", "[I", true)
  | 2 => ("GutterBoatsModel", "trial", "[I", true)
  | 3 => ("GutterBoatsModel", "read", "[I", true)
  | 4 => ("GutterBoatsModel", "book", "[I", true)
  | 5 => ("GutterBoatsModel", "states", "I", false)
  | 6 => ("GutterBoatsModel", "kept", "[I", true)
  | 7 => ("GutterBoatsModel", "isKept", "[Z", true)
  | 8 => ("GutterBoatsModel", "text", "[I", true)
  | 9 => ("GutterBoatsModel", "length", "I", false)
  | 10 => ("GutterBoatsModel", "at", "I", false)
  | 11 => ("GutterBoatsModel", "good", "Z", false)
  | _ => ("GutterBoatsModel", "leftOut", "I", false)
def tyX6 : Nat → FieldType := fun k => match k with
  | 0 => .int
  | 1 => .array .int
  | 2 => .array .int
  | 3 => .array .int
  | 4 => .array .int
  | 5 => .int
  | 6 => .array .int
  | 7 => .array .boolean
  | 8 => .array .int
  | 9 => .int
  | 10 => .int
  | 11 => .boolean
  | _ => .int
theorem nmX6 : ∀ a, a < 13 → ∀ b, b < 13 → a ≠ b → (TX6 a).2.1 ≠ (TX6 b).2.1 := by decide +kernel
theorem tyX6_ok : ∀ k, k < 13 → parseFieldDescriptor (TX6 k).2.2.1 = some (tyX6 k) := by decide +kernel
abbrev cX6_init : ByteArray := prog_8_method_1_code
def yX6_init : MethodName := ⟨RX6, "<init>", "()V"⟩
abbrev cX6_thrown : ByteArray := prog_8_method_2_code
def yX6_thrown : MethodName := ⟨RX6, "thrown", "()I"⟩
abbrev cX6_refused : ByteArray := prog_8_method_3_code
def yX6_refused : MethodName := ⟨RX6, "refused", "(I)Z"⟩
abbrev cX6_in : ByteArray := prog_8_method_4_code
def yX6_in : MethodName := ⟨RX6, "in", "(JJJ)Z"⟩
abbrev cX6_tens : ByteArray := prog_8_method_5_code
def yX6_tens : MethodName := ⟨RX6, "tens", "(I)J"⟩
abbrev cX6_abs : ByteArray := prog_8_method_6_code
def yX6_abs : MethodName := ⟨RX6, "abs", "(I)I"⟩
abbrev cX6_fresh : ByteArray := prog_8_method_7_code
def yX6_fresh : MethodName := ⟨RX6, "fresh", "([I)V"⟩
abbrev cX6_copy : ByteArray := prog_8_method_8_code
def yX6_copy : MethodName := ⟨RX6, "copy", "([I[I)V"⟩
abbrev cX6_isGutter : ByteArray := prog_8_method_9_code
def yX6_isGutter : MethodName := ⟨RX6, "isGutter", "([II)Z"⟩
abbrev cX6_isCell : ByteArray := prog_8_method_10_code
def yX6_isCell : MethodName := ⟨RX6, "isCell", "([III)Z"⟩
abbrev cX6_isBoat : ByteArray := prog_8_method_11_code
def yX6_isBoat : MethodName := ⟨RX6, "isBoat", "([II)Z"⟩
abbrev cX6_isOwner : ByteArray := prog_8_method_12_code
def yX6_isOwner : MethodName := ⟨RX6, "isOwner", "(I)Z"⟩
abbrev cX6_isFlow : ByteArray := prog_8_method_13_code
def yX6_isFlow : MethodName := ⟨RX6, "isFlow", "(II)Z"⟩
abbrev cX6_isFolded : ByteArray := prog_8_method_14_code
def yX6_isFolded : MethodName := ⟨RX6, "isFolded", "(II)Z"⟩
abbrev cX6_isSetting : ByteArray := prog_8_method_15_code
def yX6_isSetting : MethodName := ⟨RX6, "isSetting", "(II)Z"⟩
abbrev cX6_spot : ByteArray := prog_8_method_16_code
def yX6_spot : MethodName := ⟨RX6, "spot", "(I)I"⟩
abbrev cX6_state : ByteArray := prog_8_method_17_code
def yX6_state : MethodName := ⟨RX6, "state", "([II)I"⟩
abbrev cX6_inState : ByteArray := prog_8_method_18_code
def yX6_inState : MethodName := ⟨RX6, "inState", "([II)I"⟩
abbrev cX6_toDrain : ByteArray := prog_8_method_19_code
def yX6_toDrain : MethodName := ⟨RX6, "toDrain", "([III)I"⟩
abbrev cX6_isWreck : ByteArray := prog_8_method_20_code
def yX6_isWreck : MethodName := ⟨RX6, "isWreck", "([III)Z"⟩
abbrev cX6_moves : ByteArray := prog_8_method_21_code
def yX6_moves : MethodName := ⟨RX6, "moves", "([II)Z"⟩
abbrev cX6_bears : ByteArray := prog_8_method_22_code
def yX6_bears : MethodName := ⟨RX6, "bears", "([II)I"⟩
abbrev cX6_drift : ByteArray := prog_8_method_23_code
def yX6_drift : MethodName := ⟨RX6, "drift", "([II)V"⟩
abbrev cX6_endHeat : ByteArray := prog_8_method_24_code
def yX6_endHeat : MethodName := ⟨RX6, "endHeat", "([I)I"⟩
abbrev cX6_goMinute : ByteArray := prog_8_method_25_code
def yX6_goMinute : MethodName := ⟨RX6, "goMinute", "([I)I"⟩
abbrev cX6_goMinutes : ByteArray := prog_8_method_26_code
def yX6_goMinutes : MethodName := ⟨RX6, "goMinutes", "([II)I"⟩
abbrev cX6_far : ByteArray := prog_8_method_27_code
def yX6_far : MethodName := ⟨RX6, "far", "([III)I"⟩
abbrev cX6_isHooked : ByteArray := prog_8_method_28_code
def yX6_isHooked : MethodName := ⟨RX6, "isHooked", "([III)Z"⟩
abbrev cX6_whyNot : ByteArray := prog_8_method_29_code
def yX6_whyNot : MethodName := ⟨RX6, "whyNot", "([III)I"⟩
abbrev cX6_goClaim : ByteArray := prog_8_method_30_code
def yX6_goClaim : MethodName := ⟨RX6, "goClaim", "([III)I"⟩
abbrev cX6_claimable : ByteArray := prog_8_method_31_code
def yX6_claimable : MethodName := ⟨RX6, "claimable", "([II)I"⟩
abbrev cX6_goHook : ByteArray := prog_8_method_32_code
def yX6_goHook : MethodName := ⟨RX6, "goHook", "([IIII)I"⟩
abbrev cX6_addGutter : ByteArray := prog_8_method_33_code
def yX6_addGutter : MethodName := ⟨RX6, "addGutter", "([IIIII)I"⟩
abbrev cX6_addBoat : ByteArray := prog_8_method_34_code
def yX6_addBoat : MethodName := ⟨RX6, "addBoat", "([IIII)I"⟩
abbrev cX6_goLaunch : ByteArray := prog_8_method_35_code
def yX6_goLaunch : MethodName := ⟨RX6, "goLaunch", "([III)I"⟩
abbrev cX6_put : ByteArray := prog_8_method_36_code
def yX6_put : MethodName := ⟨RX6, "put", "([III)I"⟩
abbrev cX6_flowsInto : ByteArray := prog_8_method_37_code
def yX6_flowsInto : MethodName := ⟨RX6, "flowsInto", "([III)Z"⟩
abbrev cX6_remember : ByteArray := prog_8_method_38_code
def yX6_remember : MethodName := ⟨RX6, "remember", "()V"⟩
abbrev cX6_append : ByteArray := prog_8_method_39_code
def yX6_append : MethodName := ⟨RX6, "append", "(I)I"⟩
abbrev cX6_clearText : ByteArray := prog_8_method_40_code
def yX6_clearText : MethodName := ⟨RX6, "clearText", "()I"⟩
abbrev cX6_here : ByteArray := prog_8_method_41_code
def yX6_here : MethodName := ⟨RX6, "here", "()I"⟩
abbrev cX6_take : ByteArray := prog_8_method_42_code
def yX6_take : MethodName := ⟨RX6, "take", "(Z)V"⟩
abbrev cX6_digit : ByteArray := prog_8_method_43_code
def yX6_digit : MethodName := ⟨RX6, "digit", "(II)I"⟩
abbrev cX6_two : ByteArray := prog_8_method_44_code
def yX6_two : MethodName := ⟨RX6, "two", "(II)I"⟩
abbrev cX6_goes : ByteArray := prog_8_method_45_code
def yX6_goes : MethodName := ⟨RX6, "goes", "(Z)Z"⟩
abbrev cX6_readGutter : ByteArray := prog_8_method_46_code
def yX6_readGutter : MethodName := ⟨RX6, "readGutter", "()I"⟩
abbrev cX6_readBoat : ByteArray := prog_8_method_47_code
def yX6_readBoat : MethodName := ⟨RX6, "readBoat", "()I"⟩
abbrev cX6_readLaunch : ByteArray := prog_8_method_48_code
def yX6_readLaunch : MethodName := ⟨RX6, "readLaunch", "()I"⟩
abbrev cX6_readHook : ByteArray := prog_8_method_49_code
def yX6_readHook : MethodName := ⟨RX6, "readHook", "()I"⟩
abbrev cX6_readClaim : ByteArray := prog_8_method_50_code
def yX6_readClaim : MethodName := ⟨RX6, "readClaim", "()I"⟩
abbrev cX6_readRest : ByteArray := prog_8_method_51_code
def yX6_readRest : MethodName := ⟨RX6, "readRest", "(I)I"⟩
abbrev cX6_readCommand : ByteArray := prog_8_method_52_code
def yX6_readCommand : MethodName := ⟨RX6, "readCommand", "()I"⟩
abbrev cX6_readAll : ByteArray := prog_8_method_53_code
def yX6_readAll : MethodName := ⟨RX6, "readAll", "()I"⟩
abbrev cX6_errorPosition : ByteArray := prog_8_method_54_code
def yX6_errorPosition : MethodName := ⟨RX6, "errorPosition", "()I"⟩
abbrev cX6_load : ByteArray := prog_8_method_55_code
def yX6_load : MethodName := ⟨RX6, "load", "()I"⟩
abbrev cX6_points : ByteArray := prog_8_method_56_code
def yX6_points : MethodName := ⟨RX6, "points", "()I"⟩
abbrev cX6_drifted : ByteArray := prog_8_method_57_code
def yX6_drifted : MethodName := ⟨RX6, "drifted", "()I"⟩
abbrev cX6_about : ByteArray := prog_8_method_58_code
def yX6_about : MethodName := ⟨RX6, "about", "(I)I"⟩
abbrev cX6_inGutter : ByteArray := prog_8_method_59_code
def yX6_inGutter : MethodName := ⟨RX6, "inGutter", "(II)I"⟩
abbrev cX6_lowestWreck : ByteArray := prog_8_method_60_code
def yX6_lowestWreck : MethodName := ⟨RX6, "lowestWreck", "(I)I"⟩
abbrev cX6_gutterOf : ByteArray := prog_8_method_61_code
def yX6_gutterOf : MethodName := ⟨RX6, "gutterOf", "(II)I"⟩
abbrev cX6_boatOf : ByteArray := prog_8_method_62_code
def yX6_boatOf : MethodName := ⟨RX6, "boatOf", "(II)I"⟩
abbrev cX6_boatsOf : ByteArray := prog_8_method_63_code
def yX6_boatsOf : MethodName := ⟨RX6, "boatsOf", "(I)I"⟩
abbrev cX6_ownerOf : ByteArray := prog_8_method_64_code
def yX6_ownerOf : MethodName := ⟨RX6, "ownerOf", "(II)I"⟩
abbrev cX6_way : ByteArray := prog_8_method_65_code
def yX6_way : MethodName := ⟨RX6, "way", "(III)I"⟩
abbrev cX6_setting : ByteArray := prog_8_method_66_code
def yX6_setting : MethodName := ⟨RX6, "setting", "(I)I"⟩
abbrev cX6_gutter : ByteArray := prog_8_method_67_code
def yX6_gutter : MethodName := ⟨RX6, "gutter", "(IIII)I"⟩
abbrev cX6_boat : ByteArray := prog_8_method_68_code
def yX6_boat : MethodName := ⟨RX6, "boat", "(III)I"⟩
abbrev cX6_launch : ByteArray := prog_8_method_69_code
def yX6_launch : MethodName := ⟨RX6, "launch", "(II)I"⟩
abbrev cX6_hook : ByteArray := prog_8_method_70_code
def yX6_hook : MethodName := ⟨RX6, "hook", "(III)I"⟩
abbrev cX6_claim : ByteArray := prog_8_method_71_code
def yX6_claim : MethodName := ⟨RX6, "claim", "(II)I"⟩
abbrev cX6_minutes : ByteArray := prog_8_method_72_code
def yX6_minutes : MethodName := ⟨RX6, "minutes", "(I)I"⟩
abbrev cX6_set : ByteArray := prog_8_method_73_code
def yX6_set : MethodName := ⟨RX6, "set", "(II)I"⟩
abbrev cX6_undo : ByteArray := prog_8_method_74_code
def yX6_undo : MethodName := ⟨RX6, "undo", "()I"⟩
abbrev cX6_why : ByteArray := prog_8_method_75_code
def yX6_why : MethodName := ⟨RX6, "why", "(II)I"⟩
abbrev cX6_goesTill : ByteArray := prog_8_method_76_code
def yX6_goesTill : MethodName := ⟨RX6, "goesTill", "(I)I"⟩
abbrev cX6_endsIn : ByteArray := prog_8_method_77_code
def yX6_endsIn : MethodName := ⟨RX6, "endsIn", "(II)I"⟩
abbrev cX6_winner : ByteArray := prog_8_method_78_code
def yX6_winner : MethodName := ⟨RX6, "winner", "()I"⟩
abbrev cX6_leastFolds : ByteArray := prog_8_method_79_code
def yX6_leastFolds : MethodName := ⟨RX6, "leastFolds", "(II)I"⟩
abbrev cX6_runLaunch : ByteArray := prog_8_method_80_code
def yX6_runLaunch : MethodName := ⟨RX6, "runLaunch", "(II)Z"⟩
abbrev cX6_runMinutes : ByteArray := prog_8_method_81_code
def yX6_runMinutes : MethodName := ⟨RX6, "runMinutes", "(I)Z"⟩
abbrev cX6_runHook : ByteArray := prog_8_method_82_code
def yX6_runHook : MethodName := ⟨RX6, "runHook", "(III)Z"⟩
abbrev cX6_runClaim : ByteArray := prog_8_method_83_code
def yX6_runClaim : MethodName := ⟨RX6, "runClaim", "(II)Z"⟩
abbrev cX6_runSet : ByteArray := prog_8_method_84_code
def yX6_runSet : MethodName := ⟨RX6, "runSet", "(II)Z"⟩
abbrev cX6_runBoat : ByteArray := prog_8_method_85_code
def yX6_runBoat : MethodName := ⟨RX6, "runBoat", "(III)Z"⟩
abbrev cX6_command : ByteArray := prog_8_method_86_code
def yX6_command : MethodName := ⟨RX6, "command", "(I)Z"⟩
abbrev cX6_runScript : ByteArray := prog_8_method_87_code
def yX6_runScript : MethodName := ⟨RX6, "runScript", "(IJ)I"⟩
abbrev cX6_runGutter : ByteArray := prog_8_method_88_code
def yX6_runGutter : MethodName := ⟨RX6, "runGutter", "(IIII)Z"⟩
abbrev cX6_stir : ByteArray := prog_8_method_89_code
def yX6_stir : MethodName := ⟨RX6, "stir", "(I)V"⟩
abbrev cX6_simulate : ByteArray := prog_8_method_90_code
def yX6_simulate : MethodName := ⟨RX6, "simulate", "(JI)I"⟩
abbrev cX6_save : ByteArray := prog_8_method_91_code
def yX6_save : MethodName := ⟨RX6, "save", "(I)I"⟩
abbrev cX6_restore : ByteArray := prog_8_method_92_code
def yX6_restore : MethodName := ⟨RX6, "restore", "(I)I"⟩
def RL : String := "GutterBoatsLaw"
abbrev cL_append : ByteArray := method_3_code
def yL_append : MethodName := ⟨RL, "append", "(LGutterBoats;I[J)I"⟩
abbrev cL_load : ByteArray := method_4_code
def yL_load : MethodName := ⟨RL, "load", "(LGutterBoats;[J)I"⟩
abbrev cL_about : ByteArray := method_5_code
def yL_about : MethodName := ⟨RL, "about", "(LGutterBoats;I[J)I"⟩
abbrev cL_gutterOf : ByteArray := method_6_code
def yL_gutterOf : MethodName := ⟨RL, "gutterOf", "(LGutterBoats;II[J)I"⟩
abbrev cL_boatOf : ByteArray := method_7_code
def yL_boatOf : MethodName := ⟨RL, "boatOf", "(LGutterBoats;II[J)I"⟩
abbrev cL_ownerOf : ByteArray := method_8_code
def yL_ownerOf : MethodName := ⟨RL, "ownerOf", "(LGutterBoats;II[J)I"⟩
abbrev cL_way : ByteArray := method_9_code
def yL_way : MethodName := ⟨RL, "way", "(LGutterBoats;III[J)I"⟩
abbrev cL_setting : ByteArray := method_10_code
def yL_setting : MethodName := ⟨RL, "setting", "(LGutterBoats;I[J)I"⟩
abbrev cL_gutter : ByteArray := method_11_code
def yL_gutter : MethodName := ⟨RL, "gutter", "(LGutterBoats;IIII[J)I"⟩
abbrev cL_boat : ByteArray := method_12_code
def yL_boat : MethodName := ⟨RL, "boat", "(LGutterBoats;III[J)I"⟩
abbrev cL_launch : ByteArray := method_13_code
def yL_launch : MethodName := ⟨RL, "launch", "(LGutterBoats;II[J)I"⟩
abbrev cL_hook : ByteArray := method_14_code
def yL_hook : MethodName := ⟨RL, "hook", "(LGutterBoats;III[J)I"⟩
abbrev cL_claim : ByteArray := method_15_code
def yL_claim : MethodName := ⟨RL, "claim", "(LGutterBoats;II[J)I"⟩
abbrev cL_minutes : ByteArray := method_16_code
def yL_minutes : MethodName := ⟨RL, "minutes", "(LGutterBoats;I[J)I"⟩
abbrev cL_set : ByteArray := method_17_code
def yL_set : MethodName := ⟨RL, "set", "(LGutterBoats;II[J)I"⟩
abbrev cL_undo : ByteArray := method_18_code
def yL_undo : MethodName := ⟨RL, "undo", "(LGutterBoats;[J)I"⟩
abbrev cL_why : ByteArray := method_19_code
def yL_why : MethodName := ⟨RL, "why", "(LGutterBoats;II[J)I"⟩
abbrev cL_endsIn : ByteArray := method_20_code
def yL_endsIn : MethodName := ⟨RL, "endsIn", "(LGutterBoats;II[J)I"⟩
abbrev cL_leastFolds : ByteArray := method_21_code
def yL_leastFolds : MethodName := ⟨RL, "leastFolds", "(LGutterBoats;II[J)I"⟩
abbrev cL_runScript : ByteArray := method_22_code
def yL_runScript : MethodName := ⟨RL, "runScript", "(LGutterBoats;IJ[J)I"⟩
abbrev cL_simulate : ByteArray := method_23_code
def yL_simulate : MethodName := ⟨RL, "simulate", "(LGutterBoats;JI[J)I"⟩
abbrev cL_save : ByteArray := method_24_code
def yL_save : MethodName := ⟨RL, "save", "(LGutterBoats;I[J)I"⟩
abbrev cL_restore : ByteArray := method_25_code
def yL_restore : MethodName := ⟨RL, "restore", "(LGutterBoats;I[J)I"⟩
abbrev cL_law : ByteArray := code
def yL_law : MethodName := ⟨RL, "law", "([I)Z"⟩
abbrev vwCl : List vw_C := [(RX0, TX0, 3), (RX1, TX1, 2), (RX2, TX2, 3), (RX3, TX3, 5), (RX4, TX4, 10), (RX5, TX5, 5), (RX6, TX6, 13)]
end
section
theorem dX0_init_0 : decode cX0_init 0 = .ok (.aload_n 0, 1) := by decide +kernel
theorem dX0_init_1 : decode cX0_init 1 = .ok (.invokespecial 3, 3) := by decide +kernel
theorem dX0_init_4 : decode cX0_init 4 = .ok (.aload_n 0, 1) := by decide +kernel
theorem dX0_init_5 : decode cX0_init 5 = .ok (.new 9, 3) := by decide +kernel
theorem dX0_init_8 : decode cX0_init 8 = .ok (.dup, 1) := by decide +kernel
theorem dX0_init_9 : decode cX0_init 9 = .ok (.bipush 14, 2) := by decide +kernel
theorem dX0_init_11 : decode cX0_init 11 = .ok (.invokespecial 11, 3) := by decide +kernel
theorem dX0_init_14 : decode cX0_init 14 = .ok (.putfield 14, 3) := by decide +kernel
theorem dX0_init_17 : decode cX0_init 17 = .ok (.return_, 1) := by decide +kernel
theorem dX0_remember_0 : decode cX0_remember 0 = .ok (.aload_n 0, 1) := by decide +kernel
theorem dX0_remember_1 : decode cX0_remember 1 = .ok (.getfield 14, 3) := by decide +kernel
theorem dX0_remember_4 : decode cX0_remember 4 = .ok (.aload_n 0, 1) := by decide +kernel
theorem dX0_remember_5 : decode cX0_remember 5 = .ok (.getfield 20, 3) := by decide +kernel
theorem dX0_remember_8 : decode cX0_remember 8 = .ok (.aload_n 1, 1) := by decide +kernel
theorem dX0_remember_9 : decode cX0_remember 9 = .ok (.invokevirtual 24, 3) := by decide +kernel
theorem dX0_remember_12 : decode cX0_remember 12 = .ok (.aload_n 0, 1) := by decide +kernel
theorem dX0_remember_13 : decode cX0_remember 13 = .ok (.aload_n 0, 1) := by decide +kernel
theorem dX0_remember_14 : decode cX0_remember 14 = .ok (.getfield 20, 3) := by decide +kernel
theorem dX0_remember_17 : decode cX0_remember 17 = .ok (.iconst 1, 1) := by decide +kernel
theorem dX0_remember_18 : decode cX0_remember 18 = .ok (.iadd, 1) := by decide +kernel
theorem dX0_remember_19 : decode cX0_remember 19 = .ok (.bipush 14, 2) := by decide +kernel
theorem dX0_remember_21 : decode cX0_remember 21 = .ok (.irem, 1) := by decide +kernel
theorem dX0_remember_22 : decode cX0_remember 22 = .ok (.putfield 20, 3) := by decide +kernel
theorem dX0_remember_25 : decode cX0_remember 25 = .ok (.aload_n 0, 1) := by decide +kernel
theorem dX0_remember_26 : decode cX0_remember 26 = .ok (.aload_n 0, 1) := by decide +kernel
theorem dX0_remember_27 : decode cX0_remember 27 = .ok (.getfield 28, 3) := by decide +kernel
theorem dX0_remember_30 : decode cX0_remember 30 = .ok (.iconst 1, 1) := by decide +kernel
theorem dX0_remember_31 : decode cX0_remember 31 = .ok (.iadd, 1) := by decide +kernel
theorem dX0_remember_32 : decode cX0_remember 32 = .ok (.bipush 14, 2) := by decide +kernel
theorem dX0_remember_34 : decode cX0_remember 34 = .ok (.invokestatic 31, 3) := by decide +kernel
theorem dX0_remember_37 : decode cX0_remember 37 = .ok (.putfield 28, 3) := by decide +kernel
theorem dX0_remember_40 : decode cX0_remember 40 = .ok (.return_, 1) := by decide +kernel
theorem dX0_takeBack_0 : decode cX0_takeBack 0 = .ok (.aload_n 0, 1) := by decide +kernel
theorem dX0_takeBack_1 : decode cX0_takeBack 1 = .ok (.getfield 28, 3) := by decide +kernel
theorem dX0_takeBack_4 : decode cX0_takeBack 4 = .ok (.ifCond .le 41, 3) := by decide +kernel
theorem dX0_takeBack_7 : decode cX0_takeBack 7 = .ok (.aload_n 0, 1) := by decide +kernel
theorem dX0_takeBack_8 : decode cX0_takeBack 8 = .ok (.aload_n 0, 1) := by decide +kernel
theorem dX0_takeBack_9 : decode cX0_takeBack 9 = .ok (.getfield 20, 3) := by decide +kernel
theorem dX0_takeBack_12 : decode cX0_takeBack 12 = .ok (.bipush 14, 2) := by decide +kernel
theorem dX0_takeBack_14 : decode cX0_takeBack 14 = .ok (.iadd, 1) := by decide +kernel
theorem dX0_takeBack_15 : decode cX0_takeBack 15 = .ok (.iconst 1, 1) := by decide +kernel
theorem dX0_takeBack_16 : decode cX0_takeBack 16 = .ok (.isub, 1) := by decide +kernel
theorem dX0_takeBack_17 : decode cX0_takeBack 17 = .ok (.bipush 14, 2) := by decide +kernel
theorem dX0_takeBack_19 : decode cX0_takeBack 19 = .ok (.irem, 1) := by decide +kernel
theorem dX0_takeBack_20 : decode cX0_takeBack 20 = .ok (.putfield 20, 3) := by decide +kernel
theorem dX0_takeBack_23 : decode cX0_takeBack 23 = .ok (.aload_n 0, 1) := by decide +kernel
theorem dX0_takeBack_24 : decode cX0_takeBack 24 = .ok (.dup, 1) := by decide +kernel
theorem dX0_takeBack_25 : decode cX0_takeBack 25 = .ok (.getfield 28, 3) := by decide +kernel
theorem dX0_takeBack_28 : decode cX0_takeBack 28 = .ok (.iconst 1, 1) := by decide +kernel
theorem dX0_takeBack_29 : decode cX0_takeBack 29 = .ok (.isub, 1) := by decide +kernel
theorem dX0_takeBack_30 : decode cX0_takeBack 30 = .ok (.putfield 28, 3) := by decide +kernel
theorem dX0_takeBack_33 : decode cX0_takeBack 33 = .ok (.aload_n 0, 1) := by decide +kernel
theorem dX0_takeBack_34 : decode cX0_takeBack 34 = .ok (.getfield 14, 3) := by decide +kernel
theorem dX0_takeBack_37 : decode cX0_takeBack 37 = .ok (.aload_n 0, 1) := by decide +kernel
theorem dX0_takeBack_38 : decode cX0_takeBack 38 = .ok (.getfield 20, 3) := by decide +kernel
theorem dX0_takeBack_41 : decode cX0_takeBack 41 = .ok (.aload_n 1, 1) := by decide +kernel
theorem dX0_takeBack_42 : decode cX0_takeBack 42 = .ok (.invokevirtual 37, 3) := by decide +kernel
theorem dX0_takeBack_45 : decode cX0_takeBack 45 = .ok (.aload_n 0, 1) := by decide +kernel
theorem dX0_takeBack_46 : decode cX0_takeBack 46 = .ok (.getfield 28, 3) := by decide +kernel
theorem dX0_takeBack_49 : decode cX0_takeBack 49 = .ok (.ireturn, 1) := by decide +kernel
theorem dX0_forget_0 : decode cX0_forget 0 = .ok (.aload_n 0, 1) := by decide +kernel
theorem dX0_forget_1 : decode cX0_forget 1 = .ok (.iconst 0, 1) := by decide +kernel
theorem dX0_forget_2 : decode cX0_forget 2 = .ok (.putfield 28, 3) := by decide +kernel
theorem dX0_forget_5 : decode cX0_forget 5 = .ok (.return_, 1) := by decide +kernel
theorem dX1_init_0 : decode cX1_init 0 = .ok (.aload_n 0, 1) := by decide +kernel
theorem dX1_init_1 : decode cX1_init 1 = .ok (.invokespecial 1, 3) := by decide +kernel
theorem dX1_init_4 : decode cX1_init 4 = .ok (.iconst 0, 1) := by decide +kernel
theorem dX1_init_5 : decode cX1_init 5 = .ok (.iload_n 1, 1) := by decide +kernel
theorem dX1_init_6 : decode cX1_init 6 = .ok (.invokestatic 7, 3) := by decide +kernel
theorem dX1_init_9 : decode cX1_init 9 = .ok (.istore_n 2, 1) := by decide +kernel
theorem dX1_init_10 : decode cX1_init 10 = .ok (.aload_n 0, 1) := by decide +kernel
theorem dX1_init_11 : decode cX1_init 11 = .ok (.iload_n 2, 1) := by decide +kernel
theorem dX1_init_12 : decode cX1_init 12 = .ok (.anewarray 13, 3) := by decide +kernel
theorem dX1_init_15 : decode cX1_init 15 = .ok (.putfield 15, 3) := by decide +kernel
theorem dX1_init_18 : decode cX1_init 18 = .ok (.aload_n 0, 1) := by decide +kernel
theorem dX1_init_19 : decode cX1_init 19 = .ok (.iload_n 2, 1) := by decide +kernel
theorem dX1_init_20 : decode cX1_init 20 = .ok (.newarray .boolean, 2) := by decide +kernel
theorem dX1_init_22 : decode cX1_init 22 = .ok (.putfield 21, 3) := by decide +kernel
theorem dX1_init_25 : decode cX1_init 25 = .ok (.iconst 0, 1) := by decide +kernel
theorem dX1_init_26 : decode cX1_init 26 = .ok (.istore_n 3, 1) := by decide +kernel
theorem dX1_init_27 : decode cX1_init 27 = .ok (.iload_n 3, 1) := by decide +kernel
theorem dX1_init_28 : decode cX1_init 28 = .ok (.aload_n 0, 1) := by decide +kernel
theorem dX1_init_29 : decode cX1_init 29 = .ok (.getfield 15, 3) := by decide +kernel
theorem dX1_init_32 : decode cX1_init 32 = .ok (.arraylength, 1) := by decide +kernel
theorem dX1_init_33 : decode cX1_init 33 = .ok (.if_icmp .ge 22, 3) := by decide +kernel
theorem dX1_init_36 : decode cX1_init 36 = .ok (.aload_n 0, 1) := by decide +kernel
theorem dX1_init_37 : decode cX1_init 37 = .ok (.getfield 15, 3) := by decide +kernel
theorem dX1_init_40 : decode cX1_init 40 = .ok (.iload_n 3, 1) := by decide +kernel
theorem dX1_init_41 : decode cX1_init 41 = .ok (.new 13, 3) := by decide +kernel
theorem dX1_init_44 : decode cX1_init 44 = .ok (.dup, 1) := by decide +kernel
theorem dX1_init_45 : decode cX1_init 45 = .ok (.invokespecial 25, 3) := by decide +kernel
theorem dX1_init_48 : decode cX1_init 48 = .ok (.aastore, 1) := by decide +kernel
theorem dX1_init_49 : decode cX1_init 49 = .ok (.iinc 3 1, 3) := by decide +kernel
theorem dX1_init_52 : decode cX1_init 52 = .ok (.goto (-25), 3) := by decide +kernel
theorem dX1_init_55 : decode cX1_init 55 = .ok (.return_, 1) := by decide +kernel
theorem dX1_holds_0 : decode cX1_holds 0 = .ok (.iload_n 1, 1) := by decide +kernel
theorem dX1_holds_1 : decode cX1_holds 1 = .ok (.ifCond .lt 25, 3) := by decide +kernel
theorem dX1_holds_4 : decode cX1_holds 4 = .ok (.iload_n 1, 1) := by decide +kernel
theorem dX1_holds_5 : decode cX1_holds 5 = .ok (.aload_n 0, 1) := by decide +kernel
theorem dX1_holds_6 : decode cX1_holds 6 = .ok (.getfield 21, 3) := by decide +kernel
theorem dX1_holds_9 : decode cX1_holds 9 = .ok (.arraylength, 1) := by decide +kernel
theorem dX1_holds_10 : decode cX1_holds 10 = .ok (.if_icmp .ge 16, 3) := by decide +kernel
theorem dX1_holds_13 : decode cX1_holds 13 = .ok (.aload_n 0, 1) := by decide +kernel
theorem dX1_holds_14 : decode cX1_holds 14 = .ok (.getfield 21, 3) := by decide +kernel
theorem dX1_holds_17 : decode cX1_holds 17 = .ok (.iload_n 1, 1) := by decide +kernel
theorem dX1_holds_18 : decode cX1_holds 18 = .ok (.baload, 1) := by decide +kernel
theorem dX1_holds_19 : decode cX1_holds 19 = .ok (.ifCond .eq 7, 3) := by decide +kernel
theorem dX1_holds_22 : decode cX1_holds 22 = .ok (.iconst 1, 1) := by decide +kernel
theorem dX1_holds_23 : decode cX1_holds 23 = .ok (.goto 4, 3) := by decide +kernel
theorem dX1_holds_26 : decode cX1_holds 26 = .ok (.iconst 0, 1) := by decide +kernel
theorem dX1_holds_27 : decode cX1_holds 27 = .ok (.ireturn, 1) := by decide +kernel
theorem dX1_put_0 : decode cX1_put 0 = .ok (.aload_n 0, 1) := by decide +kernel
theorem dX1_put_1 : decode cX1_put 1 = .ok (.iload_n 1, 1) := by decide +kernel
theorem dX1_put_2 : decode cX1_put 2 = .ok (.invokevirtual 26, 3) := by decide +kernel
theorem dX1_put_5 : decode cX1_put 5 = .ok (.astore_n 3, 1) := by decide +kernel
theorem dX1_put_6 : decode cX1_put 6 = .ok (.aload_n 3, 1) := by decide +kernel
theorem dX1_put_7 : decode cX1_put 7 = .ok (.ifnull 28, 3) := by decide +kernel
theorem dX1_put_10 : decode cX1_put 10 = .ok (.iload_n 1, 1) := by decide +kernel
theorem dX1_put_11 : decode cX1_put 11 = .ok (.ifCond .lt 24, 3) := by decide +kernel
theorem dX1_put_14 : decode cX1_put 14 = .ok (.iload_n 1, 1) := by decide +kernel
theorem dX1_put_15 : decode cX1_put 15 = .ok (.aload_n 0, 1) := by decide +kernel
theorem dX1_put_16 : decode cX1_put 16 = .ok (.getfield 21, 3) := by decide +kernel
theorem dX1_put_19 : decode cX1_put 19 = .ok (.arraylength, 1) := by decide +kernel
theorem dX1_put_20 : decode cX1_put 20 = .ok (.if_icmp .ge 15, 3) := by decide +kernel
theorem dX1_put_23 : decode cX1_put 23 = .ok (.aload_n 3, 1) := by decide +kernel
theorem dX1_put_24 : decode cX1_put 24 = .ok (.aload_n 2, 1) := by decide +kernel
theorem dX1_put_25 : decode cX1_put 25 = .ok (.invokevirtual 30, 3) := by decide +kernel
theorem dX1_put_28 : decode cX1_put 28 = .ok (.aload_n 0, 1) := by decide +kernel
theorem dX1_put_29 : decode cX1_put 29 = .ok (.getfield 21, 3) := by decide +kernel
theorem dX1_put_32 : decode cX1_put 32 = .ok (.iload_n 1, 1) := by decide +kernel
theorem dX1_put_33 : decode cX1_put 33 = .ok (.iconst 1, 1) := by decide +kernel
theorem dX1_put_34 : decode cX1_put 34 = .ok (.bastore, 1) := by decide +kernel
theorem dX1_put_35 : decode cX1_put 35 = .ok (.return_, 1) := by decide +kernel
theorem dX1_copyTo_0 : decode cX1_copyTo 0 = .ok (.aload_n 0, 1) := by decide +kernel
theorem dX1_copyTo_1 : decode cX1_copyTo 1 = .ok (.iload_n 1, 1) := by decide +kernel
theorem dX1_copyTo_2 : decode cX1_copyTo 2 = .ok (.invokevirtual 26, 3) := by decide +kernel
theorem dX1_copyTo_5 : decode cX1_copyTo 5 = .ok (.astore_n 3, 1) := by decide +kernel
theorem dX1_copyTo_6 : decode cX1_copyTo 6 = .ok (.aload_n 3, 1) := by decide +kernel
theorem dX1_copyTo_7 : decode cX1_copyTo 7 = .ok (.ifnull 8, 3) := by decide +kernel
theorem dX1_copyTo_10 : decode cX1_copyTo 10 = .ok (.aload_n 2, 1) := by decide +kernel
theorem dX1_copyTo_11 : decode cX1_copyTo 11 = .ok (.aload_n 3, 1) := by decide +kernel
theorem dX1_copyTo_12 : decode cX1_copyTo 12 = .ok (.invokevirtual 30, 3) := by decide +kernel
theorem dX1_copyTo_15 : decode cX1_copyTo 15 = .ok (.return_, 1) := by decide +kernel
theorem dX1_clear_0 : decode cX1_clear 0 = .ok (.iconst 0, 1) := by decide +kernel
theorem dX1_clear_1 : decode cX1_clear 1 = .ok (.istore_n 1, 1) := by decide +kernel
theorem dX1_clear_2 : decode cX1_clear 2 = .ok (.iload_n 1, 1) := by decide +kernel
theorem dX1_clear_3 : decode cX1_clear 3 = .ok (.aload_n 0, 1) := by decide +kernel
theorem dX1_clear_4 : decode cX1_clear 4 = .ok (.getfield 21, 3) := by decide +kernel
theorem dX1_clear_7 : decode cX1_clear 7 = .ok (.arraylength, 1) := by decide +kernel
theorem dX1_clear_8 : decode cX1_clear 8 = .ok (.if_icmp .ge 16, 3) := by decide +kernel
theorem dX1_clear_11 : decode cX1_clear 11 = .ok (.aload_n 0, 1) := by decide +kernel
theorem dX1_clear_12 : decode cX1_clear 12 = .ok (.getfield 21, 3) := by decide +kernel
theorem dX1_clear_15 : decode cX1_clear 15 = .ok (.iload_n 1, 1) := by decide +kernel
theorem dX1_clear_16 : decode cX1_clear 16 = .ok (.iconst 0, 1) := by decide +kernel
theorem dX1_clear_17 : decode cX1_clear 17 = .ok (.bastore, 1) := by decide +kernel
theorem dX1_clear_18 : decode cX1_clear 18 = .ok (.iinc 1 1, 3) := by decide +kernel
theorem dX1_clear_21 : decode cX1_clear 21 = .ok (.goto (-19), 3) := by decide +kernel
theorem dX1_clear_24 : decode cX1_clear 24 = .ok (.return_, 1) := by decide +kernel
theorem dX1_keptAt_0 : decode cX1_keptAt 0 = .ok (.iload_n 1, 1) := by decide +kernel
theorem dX1_keptAt_1 : decode cX1_keptAt 1 = .ok (.ifCond .lt 21, 3) := by decide +kernel
theorem dX1_keptAt_4 : decode cX1_keptAt 4 = .ok (.iload_n 1, 1) := by decide +kernel
theorem dX1_keptAt_5 : decode cX1_keptAt 5 = .ok (.aload_n 0, 1) := by decide +kernel
theorem dX1_keptAt_6 : decode cX1_keptAt 6 = .ok (.getfield 15, 3) := by decide +kernel
theorem dX1_keptAt_9 : decode cX1_keptAt 9 = .ok (.arraylength, 1) := by decide +kernel
theorem dX1_keptAt_10 : decode cX1_keptAt 10 = .ok (.if_icmp .ge 12, 3) := by decide +kernel
theorem dX1_keptAt_13 : decode cX1_keptAt 13 = .ok (.aload_n 0, 1) := by decide +kernel
theorem dX1_keptAt_14 : decode cX1_keptAt 14 = .ok (.getfield 15, 3) := by decide +kernel
theorem dX1_keptAt_17 : decode cX1_keptAt 17 = .ok (.iload_n 1, 1) := by decide +kernel
theorem dX1_keptAt_18 : decode cX1_keptAt 18 = .ok (.aaload, 1) := by decide +kernel
theorem dX1_keptAt_19 : decode cX1_keptAt 19 = .ok (.goto 4, 3) := by decide +kernel
theorem dX1_keptAt_22 : decode cX1_keptAt 22 = .ok (.aconst_null, 1) := by decide +kernel
theorem dX1_keptAt_23 : decode cX1_keptAt 23 = .ok (.areturn, 1) := by decide +kernel
theorem dX2_init_0 : decode cX2_init 0 = .ok (.aload_n 0, 1) := by decide +kernel
theorem dX2_init_1 : decode cX2_init 1 = .ok (.invokespecial 3, 3) := by decide +kernel
theorem dX2_init_4 : decode cX2_init 4 = .ok (.aload_n 0, 1) := by decide +kernel
theorem dX2_init_5 : decode cX2_init 5 = .ok (.iconst 1, 1) := by decide +kernel
theorem dX2_init_6 : decode cX2_init 6 = .ok (.iload_n 2, 1) := by decide +kernel
theorem dX2_init_7 : decode cX2_init 7 = .ok (.invokestatic 9, 3) := by decide +kernel
theorem dX2_init_10 : decode cX2_init 10 = .ok (.putfield 15, 3) := by decide +kernel
theorem dX2_init_13 : decode cX2_init 13 = .ok (.aload_n 0, 1) := by decide +kernel
theorem dX2_init_14 : decode cX2_init 14 = .ok (.iconst 0, 1) := by decide +kernel
theorem dX2_init_15 : decode cX2_init 15 = .ok (.iload_n 1, 1) := by decide +kernel
theorem dX2_init_16 : decode cX2_init 16 = .ok (.iload_n 2, 1) := by decide +kernel
theorem dX2_init_17 : decode cX2_init 17 = .ok (.imul, 1) := by decide +kernel
theorem dX2_init_18 : decode cX2_init 18 = .ok (.invokestatic 9, 3) := by decide +kernel
theorem dX2_init_21 : decode cX2_init 21 = .ok (.newarray .int, 2) := by decide +kernel
theorem dX2_init_23 : decode cX2_init 23 = .ok (.putfield 21, 3) := by decide +kernel
theorem dX2_init_26 : decode cX2_init 26 = .ok (.return_, 1) := by decide +kernel
theorem dX2_addRow_0 : decode cX2_addRow 0 = .ok (.aload_n 0, 1) := by decide +kernel
theorem dX2_addRow_1 : decode cX2_addRow 1 = .ok (.getfield 25, 3) := by decide +kernel
theorem dX2_addRow_4 : decode cX2_addRow 4 = .ok (.iconst 1, 1) := by decide +kernel
theorem dX2_addRow_5 : decode cX2_addRow 5 = .ok (.iadd, 1) := by decide +kernel
theorem dX2_addRow_6 : decode cX2_addRow 6 = .ok (.aload_n 0, 1) := by decide +kernel
theorem dX2_addRow_7 : decode cX2_addRow 7 = .ok (.getfield 15, 3) := by decide +kernel
theorem dX2_addRow_10 : decode cX2_addRow 10 = .ok (.imul, 1) := by decide +kernel
theorem dX2_addRow_11 : decode cX2_addRow 11 = .ok (.aload_n 0, 1) := by decide +kernel
theorem dX2_addRow_12 : decode cX2_addRow 12 = .ok (.getfield 21, 3) := by decide +kernel
theorem dX2_addRow_15 : decode cX2_addRow 15 = .ok (.arraylength, 1) := by decide +kernel
theorem dX2_addRow_16 : decode cX2_addRow 16 = .ok (.if_icmp .le 5, 3) := by decide +kernel
theorem dX2_addRow_19 : decode cX2_addRow 19 = .ok (.iconst (-1), 1) := by decide +kernel
theorem dX2_addRow_20 : decode cX2_addRow 20 = .ok (.ireturn, 1) := by decide +kernel
theorem dX2_addRow_21 : decode cX2_addRow 21 = .ok (.aload_n 0, 1) := by decide +kernel
theorem dX2_addRow_22 : decode cX2_addRow 22 = .ok (.getfield 25, 3) := by decide +kernel
theorem dX2_addRow_25 : decode cX2_addRow 25 = .ok (.aload_n 0, 1) := by decide +kernel
theorem dX2_addRow_26 : decode cX2_addRow 26 = .ok (.getfield 15, 3) := by decide +kernel
theorem dX2_addRow_29 : decode cX2_addRow 29 = .ok (.imul, 1) := by decide +kernel
theorem dX2_addRow_30 : decode cX2_addRow 30 = .ok (.istore_n 1, 1) := by decide +kernel
theorem dX2_addRow_31 : decode cX2_addRow 31 = .ok (.iload_n 1, 1) := by decide +kernel
theorem dX2_addRow_32 : decode cX2_addRow 32 = .ok (.aload_n 0, 1) := by decide +kernel
theorem dX2_addRow_33 : decode cX2_addRow 33 = .ok (.getfield 25, 3) := by decide +kernel
theorem dX2_addRow_36 : decode cX2_addRow 36 = .ok (.iconst 1, 1) := by decide +kernel
theorem dX2_addRow_37 : decode cX2_addRow 37 = .ok (.iadd, 1) := by decide +kernel
theorem dX2_addRow_38 : decode cX2_addRow 38 = .ok (.aload_n 0, 1) := by decide +kernel
theorem dX2_addRow_39 : decode cX2_addRow 39 = .ok (.getfield 15, 3) := by decide +kernel
theorem dX2_addRow_42 : decode cX2_addRow 42 = .ok (.imul, 1) := by decide +kernel
theorem dX2_addRow_43 : decode cX2_addRow 43 = .ok (.if_icmp .ge 25, 3) := by decide +kernel
theorem dX2_addRow_46 : decode cX2_addRow 46 = .ok (.iload_n 1, 1) := by decide +kernel
theorem dX2_addRow_47 : decode cX2_addRow 47 = .ok (.aload_n 0, 1) := by decide +kernel
theorem dX2_addRow_48 : decode cX2_addRow 48 = .ok (.getfield 21, 3) := by decide +kernel
theorem dX2_addRow_51 : decode cX2_addRow 51 = .ok (.arraylength, 1) := by decide +kernel
theorem dX2_addRow_52 : decode cX2_addRow 52 = .ok (.if_icmp .ge 16, 3) := by decide +kernel
theorem dX2_addRow_55 : decode cX2_addRow 55 = .ok (.aload_n 0, 1) := by decide +kernel
theorem dX2_addRow_56 : decode cX2_addRow 56 = .ok (.getfield 21, 3) := by decide +kernel
theorem dX2_addRow_59 : decode cX2_addRow 59 = .ok (.iload_n 1, 1) := by decide +kernel
theorem dX2_addRow_60 : decode cX2_addRow 60 = .ok (.iconst 0, 1) := by decide +kernel
theorem dX2_addRow_61 : decode cX2_addRow 61 = .ok (.iastore, 1) := by decide +kernel
theorem dX2_addRow_62 : decode cX2_addRow 62 = .ok (.iinc 1 1, 3) := by decide +kernel
theorem dX2_addRow_65 : decode cX2_addRow 65 = .ok (.goto (-34), 3) := by decide +kernel
theorem dX2_addRow_68 : decode cX2_addRow 68 = .ok (.aload_n 0, 1) := by decide +kernel
theorem dX2_addRow_69 : decode cX2_addRow 69 = .ok (.dup, 1) := by decide +kernel
theorem dX2_addRow_70 : decode cX2_addRow 70 = .ok (.getfield 25, 3) := by decide +kernel
theorem dX2_addRow_73 : decode cX2_addRow 73 = .ok (.iconst 1, 1) := by decide +kernel
theorem dX2_addRow_74 : decode cX2_addRow 74 = .ok (.iadd, 1) := by decide +kernel
theorem dX2_addRow_75 : decode cX2_addRow 75 = .ok (.putfield 25, 3) := by decide +kernel
theorem dX2_addRow_78 : decode cX2_addRow 78 = .ok (.aload_n 0, 1) := by decide +kernel
theorem dX2_addRow_79 : decode cX2_addRow 79 = .ok (.getfield 25, 3) := by decide +kernel
theorem dX2_addRow_82 : decode cX2_addRow 82 = .ok (.iconst 1, 1) := by decide +kernel
theorem dX2_addRow_83 : decode cX2_addRow 83 = .ok (.isub, 1) := by decide +kernel
theorem dX2_addRow_84 : decode cX2_addRow 84 = .ok (.ireturn, 1) := by decide +kernel
theorem dX2_at_0 : decode cX2_at 0 = .ok (.iload_n 1, 1) := by decide +kernel
theorem dX2_at_1 : decode cX2_at 1 = .ok (.aload_n 0, 1) := by decide +kernel
theorem dX2_at_2 : decode cX2_at 2 = .ok (.getfield 15, 3) := by decide +kernel
theorem dX2_at_5 : decode cX2_at 5 = .ok (.imul, 1) := by decide +kernel
theorem dX2_at_6 : decode cX2_at 6 = .ok (.iload_n 2, 1) := by decide +kernel
theorem dX2_at_7 : decode cX2_at 7 = .ok (.iadd, 1) := by decide +kernel
theorem dX2_at_8 : decode cX2_at 8 = .ok (.istore_n 3, 1) := by decide +kernel
theorem dX2_at_9 : decode cX2_at 9 = .ok (.iload_n 1, 1) := by decide +kernel
theorem dX2_at_10 : decode cX2_at 10 = .ok (.ifCond .lt 41, 3) := by decide +kernel
theorem dX2_at_13 : decode cX2_at 13 = .ok (.iload_n 1, 1) := by decide +kernel
theorem dX2_at_14 : decode cX2_at 14 = .ok (.aload_n 0, 1) := by decide +kernel
theorem dX2_at_15 : decode cX2_at 15 = .ok (.getfield 25, 3) := by decide +kernel
theorem dX2_at_18 : decode cX2_at 18 = .ok (.if_icmp .ge 33, 3) := by decide +kernel
theorem dX2_at_21 : decode cX2_at 21 = .ok (.iload_n 2, 1) := by decide +kernel
theorem dX2_at_22 : decode cX2_at 22 = .ok (.ifCond .lt 29, 3) := by decide +kernel
theorem dX2_at_25 : decode cX2_at 25 = .ok (.iload_n 2, 1) := by decide +kernel
theorem dX2_at_26 : decode cX2_at 26 = .ok (.aload_n 0, 1) := by decide +kernel
theorem dX2_at_27 : decode cX2_at 27 = .ok (.getfield 15, 3) := by decide +kernel
theorem dX2_at_30 : decode cX2_at 30 = .ok (.if_icmp .ge 21, 3) := by decide +kernel
theorem dX2_at_33 : decode cX2_at 33 = .ok (.iload_n 3, 1) := by decide +kernel
theorem dX2_at_34 : decode cX2_at 34 = .ok (.aload_n 0, 1) := by decide +kernel
theorem dX2_at_35 : decode cX2_at 35 = .ok (.getfield 21, 3) := by decide +kernel
theorem dX2_at_38 : decode cX2_at 38 = .ok (.arraylength, 1) := by decide +kernel
theorem dX2_at_39 : decode cX2_at 39 = .ok (.if_icmp .ge 12, 3) := by decide +kernel
theorem dX2_at_42 : decode cX2_at 42 = .ok (.aload_n 0, 1) := by decide +kernel
theorem dX2_at_43 : decode cX2_at 43 = .ok (.getfield 21, 3) := by decide +kernel
theorem dX2_at_46 : decode cX2_at 46 = .ok (.iload_n 3, 1) := by decide +kernel
theorem dX2_at_47 : decode cX2_at 47 = .ok (.iaload, 1) := by decide +kernel
theorem dX2_at_48 : decode cX2_at 48 = .ok (.goto 4, 3) := by decide +kernel
theorem dX2_at_51 : decode cX2_at 51 = .ok (.iconst (-1), 1) := by decide +kernel
theorem dX2_at_52 : decode cX2_at 52 = .ok (.ireturn, 1) := by decide +kernel
theorem dX2_put_0 : decode cX2_put 0 = .ok (.iload_n 1, 1) := by decide +kernel
theorem dX2_put_1 : decode cX2_put 1 = .ok (.aload_n 0, 1) := by decide +kernel
theorem dX2_put_2 : decode cX2_put 2 = .ok (.getfield 15, 3) := by decide +kernel
theorem dX2_put_5 : decode cX2_put 5 = .ok (.imul, 1) := by decide +kernel
theorem dX2_put_6 : decode cX2_put 6 = .ok (.iload_n 2, 1) := by decide +kernel
theorem dX2_put_7 : decode cX2_put 7 = .ok (.iadd, 1) := by decide +kernel
theorem dX2_put_8 : decode cX2_put 8 = .ok (.istore 4, 2) := by decide +kernel
theorem dX2_put_10 : decode cX2_put 10 = .ok (.iload_n 1, 1) := by decide +kernel
theorem dX2_put_11 : decode cX2_put 11 = .ok (.ifCond .lt 41, 3) := by decide +kernel
theorem dX2_put_14 : decode cX2_put 14 = .ok (.iload_n 1, 1) := by decide +kernel
theorem dX2_put_15 : decode cX2_put 15 = .ok (.aload_n 0, 1) := by decide +kernel
theorem dX2_put_16 : decode cX2_put 16 = .ok (.getfield 25, 3) := by decide +kernel
theorem dX2_put_19 : decode cX2_put 19 = .ok (.if_icmp .ge 33, 3) := by decide +kernel
theorem dX2_put_22 : decode cX2_put 22 = .ok (.iload_n 2, 1) := by decide +kernel
theorem dX2_put_23 : decode cX2_put 23 = .ok (.ifCond .lt 29, 3) := by decide +kernel
theorem dX2_put_26 : decode cX2_put 26 = .ok (.iload_n 2, 1) := by decide +kernel
theorem dX2_put_27 : decode cX2_put 27 = .ok (.aload_n 0, 1) := by decide +kernel
theorem dX2_put_28 : decode cX2_put 28 = .ok (.getfield 15, 3) := by decide +kernel
theorem dX2_put_31 : decode cX2_put 31 = .ok (.if_icmp .ge 21, 3) := by decide +kernel
theorem dX2_put_34 : decode cX2_put 34 = .ok (.iload 4, 2) := by decide +kernel
theorem dX2_put_36 : decode cX2_put 36 = .ok (.aload_n 0, 1) := by decide +kernel
theorem dX2_put_37 : decode cX2_put 37 = .ok (.getfield 21, 3) := by decide +kernel
theorem dX2_put_40 : decode cX2_put 40 = .ok (.arraylength, 1) := by decide +kernel
theorem dX2_put_41 : decode cX2_put 41 = .ok (.if_icmp .ge 11, 3) := by decide +kernel
theorem dX2_put_44 : decode cX2_put 44 = .ok (.aload_n 0, 1) := by decide +kernel
theorem dX2_put_45 : decode cX2_put 45 = .ok (.getfield 21, 3) := by decide +kernel
theorem dX2_put_48 : decode cX2_put 48 = .ok (.iload 4, 2) := by decide +kernel
theorem dX2_put_50 : decode cX2_put 50 = .ok (.iload_n 3, 1) := by decide +kernel
theorem dX2_put_51 : decode cX2_put 51 = .ok (.iastore, 1) := by decide +kernel
theorem dX2_put_52 : decode cX2_put 52 = .ok (.return_, 1) := by decide +kernel
theorem dX2_increase_0 : decode cX2_increase 0 = .ok (.aload_n 0, 1) := by decide +kernel
theorem dX2_increase_1 : decode cX2_increase 1 = .ok (.iload_n 1, 1) := by decide +kernel
theorem dX2_increase_2 : decode cX2_increase 2 = .ok (.iload_n 2, 1) := by decide +kernel
theorem dX2_increase_3 : decode cX2_increase 3 = .ok (.aload_n 0, 1) := by decide +kernel
theorem dX2_increase_4 : decode cX2_increase 4 = .ok (.iload_n 1, 1) := by decide +kernel
theorem dX2_increase_5 : decode cX2_increase 5 = .ok (.iload_n 2, 1) := by decide +kernel
theorem dX2_increase_6 : decode cX2_increase 6 = .ok (.invokevirtual 28, 3) := by decide +kernel
theorem dX2_increase_9 : decode cX2_increase 9 = .ok (.iload_n 3, 1) := by decide +kernel
theorem dX2_increase_10 : decode cX2_increase 10 = .ok (.iadd, 1) := by decide +kernel
theorem dX2_increase_11 : decode cX2_increase 11 = .ok (.invokevirtual 31, 3) := by decide +kernel
theorem dX2_increase_14 : decode cX2_increase 14 = .ok (.return_, 1) := by decide +kernel
theorem dX2_sum_0 : decode cX2_sum 0 = .ok (.iconst 0, 1) := by decide +kernel
theorem dX2_sum_1 : decode cX2_sum 1 = .ok (.istore_n 2, 1) := by decide +kernel
theorem dX2_sum_2 : decode cX2_sum 2 = .ok (.iconst 0, 1) := by decide +kernel
theorem dX2_sum_3 : decode cX2_sum 3 = .ok (.istore_n 3, 1) := by decide +kernel
theorem dX2_sum_4 : decode cX2_sum 4 = .ok (.iload_n 3, 1) := by decide +kernel
theorem dX2_sum_5 : decode cX2_sum 5 = .ok (.aload_n 0, 1) := by decide +kernel
theorem dX2_sum_6 : decode cX2_sum 6 = .ok (.getfield 25, 3) := by decide +kernel
theorem dX2_sum_9 : decode cX2_sum 9 = .ok (.if_icmp .ge 18, 3) := by decide +kernel
theorem dX2_sum_12 : decode cX2_sum 12 = .ok (.iload_n 2, 1) := by decide +kernel
theorem dX2_sum_13 : decode cX2_sum 13 = .ok (.aload_n 0, 1) := by decide +kernel
theorem dX2_sum_14 : decode cX2_sum 14 = .ok (.iload_n 3, 1) := by decide +kernel
theorem dX2_sum_15 : decode cX2_sum 15 = .ok (.iload_n 1, 1) := by decide +kernel
theorem dX2_sum_16 : decode cX2_sum 16 = .ok (.invokevirtual 28, 3) := by decide +kernel
theorem dX2_sum_19 : decode cX2_sum 19 = .ok (.iadd, 1) := by decide +kernel
theorem dX2_sum_20 : decode cX2_sum 20 = .ok (.istore_n 2, 1) := by decide +kernel
theorem dX2_sum_21 : decode cX2_sum 21 = .ok (.iinc 3 1, 3) := by decide +kernel
theorem dX2_sum_24 : decode cX2_sum 24 = .ok (.goto (-20), 3) := by decide +kernel
theorem dX2_sum_27 : decode cX2_sum 27 = .ok (.iload_n 2, 1) := by decide +kernel
theorem dX2_sum_28 : decode cX2_sum 28 = .ok (.ireturn, 1) := by decide +kernel
theorem dX2_count_0 : decode cX2_count 0 = .ok (.iconst 0, 1) := by decide +kernel
theorem dX2_count_1 : decode cX2_count 1 = .ok (.istore_n 3, 1) := by decide +kernel
theorem dX2_count_2 : decode cX2_count 2 = .ok (.iconst 0, 1) := by decide +kernel
theorem dX2_count_3 : decode cX2_count 3 = .ok (.istore 4, 2) := by decide +kernel
theorem dX2_count_5 : decode cX2_count 5 = .ok (.iload 4, 2) := by decide +kernel
theorem dX2_count_7 : decode cX2_count 7 = .ok (.aload_n 0, 1) := by decide +kernel
theorem dX2_count_8 : decode cX2_count 8 = .ok (.getfield 25, 3) := by decide +kernel
theorem dX2_count_11 : decode cX2_count 11 = .ok (.if_icmp .ge 23, 3) := by decide +kernel
theorem dX2_count_14 : decode cX2_count 14 = .ok (.aload_n 0, 1) := by decide +kernel
theorem dX2_count_15 : decode cX2_count 15 = .ok (.iload 4, 2) := by decide +kernel
theorem dX2_count_17 : decode cX2_count 17 = .ok (.iload_n 1, 1) := by decide +kernel
theorem dX2_count_18 : decode cX2_count 18 = .ok (.invokevirtual 28, 3) := by decide +kernel
theorem dX2_count_21 : decode cX2_count 21 = .ok (.iload_n 2, 1) := by decide +kernel
theorem dX2_count_22 : decode cX2_count 22 = .ok (.if_icmp .ne 6, 3) := by decide +kernel
theorem dX2_count_25 : decode cX2_count 25 = .ok (.iinc 3 1, 3) := by decide +kernel
theorem dX2_count_28 : decode cX2_count 28 = .ok (.iinc 4 1, 3) := by decide +kernel
theorem dX2_count_31 : decode cX2_count 31 = .ok (.goto (-26), 3) := by decide +kernel
theorem dX2_count_34 : decode cX2_count 34 = .ok (.iload_n 3, 1) := by decide +kernel
theorem dX2_count_35 : decode cX2_count 35 = .ok (.ireturn, 1) := by decide +kernel
theorem dX2_copyFrom_0 : decode cX2_copyFrom 0 = .ok (.aload_n 0, 1) := by decide +kernel
theorem dX2_copyFrom_1 : decode cX2_copyFrom 1 = .ok (.aload_n 1, 1) := by decide +kernel
theorem dX2_copyFrom_2 : decode cX2_copyFrom 2 = .ok (.getfield 25, 3) := by decide +kernel
theorem dX2_copyFrom_5 : decode cX2_copyFrom 5 = .ok (.putfield 25, 3) := by decide +kernel
theorem dX2_copyFrom_8 : decode cX2_copyFrom 8 = .ok (.aload_n 1, 1) := by decide +kernel
theorem dX2_copyFrom_9 : decode cX2_copyFrom 9 = .ok (.getfield 21, 3) := by decide +kernel
theorem dX2_copyFrom_12 : decode cX2_copyFrom 12 = .ok (.iconst 0, 1) := by decide +kernel
theorem dX2_copyFrom_13 : decode cX2_copyFrom 13 = .ok (.aload_n 0, 1) := by decide +kernel
theorem dX2_copyFrom_14 : decode cX2_copyFrom 14 = .ok (.getfield 21, 3) := by decide +kernel
theorem dX2_copyFrom_17 : decode cX2_copyFrom 17 = .ok (.iconst 0, 1) := by decide +kernel
theorem dX2_copyFrom_18 : decode cX2_copyFrom 18 = .ok (.aload_n 0, 1) := by decide +kernel
theorem dX2_copyFrom_19 : decode cX2_copyFrom 19 = .ok (.getfield 21, 3) := by decide +kernel
theorem dX2_copyFrom_22 : decode cX2_copyFrom 22 = .ok (.arraylength, 1) := by decide +kernel
theorem dX2_copyFrom_23 : decode cX2_copyFrom 23 = .ok (.aload_n 1, 1) := by decide +kernel
theorem dX2_copyFrom_24 : decode cX2_copyFrom 24 = .ok (.getfield 21, 3) := by decide +kernel
theorem dX2_copyFrom_27 : decode cX2_copyFrom 27 = .ok (.arraylength, 1) := by decide +kernel
theorem dX2_copyFrom_28 : decode cX2_copyFrom 28 = .ok (.invokestatic 35, 3) := by decide +kernel
theorem dX2_copyFrom_31 : decode cX2_copyFrom 31 = .ok (.invokestatic 38, 3) := by decide +kernel
theorem dX2_copyFrom_34 : decode cX2_copyFrom 34 = .ok (.return_, 1) := by decide +kernel
theorem dX3_init_0 : decode cX3_init 0 = .ok (.aload_n 0, 1) := by decide +kernel
theorem dX3_init_1 : decode cX3_init 1 = .ok (.invokespecial 3, 3) := by decide +kernel
theorem dX3_init_4 : decode cX3_init 4 = .ok (.aload_n 0, 1) := by decide +kernel
theorem dX3_init_5 : decode cX3_init 5 = .ok (.bipush 120, 2) := by decide +kernel
theorem dX3_init_7 : decode cX3_init 7 = .ok (.newarray .int, 2) := by decide +kernel
theorem dX3_init_9 : decode cX3_init 9 = .ok (.putfield 9, 3) := by decide +kernel
theorem dX3_init_12 : decode cX3_init 12 = .ok (.aload_n 0, 1) := by decide +kernel
theorem dX3_init_13 : decode cX3_init 13 = .ok (.iconst 4, 1) := by decide +kernel
theorem dX3_init_14 : decode cX3_init 14 = .ok (.newarray .int, 2) := by decide +kernel
theorem dX3_init_16 : decode cX3_init 16 = .ok (.putfield 15, 3) := by decide +kernel
theorem dX3_init_19 : decode cX3_init 19 = .ok (.return_, 1) := by decide +kernel
theorem dX3_isFull_0 : decode cX3_isFull 0 = .ok (.aload_n 0, 1) := by decide +kernel
theorem dX3_isFull_1 : decode cX3_isFull 1 = .ok (.getfield 18, 3) := by decide +kernel
theorem dX3_isFull_4 : decode cX3_isFull 4 = .ok (.bipush 120, 2) := by decide +kernel
theorem dX3_isFull_6 : decode cX3_isFull 6 = .ok (.if_icmp .lt 7, 3) := by decide +kernel
theorem dX3_isFull_9 : decode cX3_isFull 9 = .ok (.iconst 1, 1) := by decide +kernel
theorem dX3_isFull_10 : decode cX3_isFull 10 = .ok (.goto 4, 3) := by decide +kernel
theorem dX3_isFull_13 : decode cX3_isFull 13 = .ok (.iconst 0, 1) := by decide +kernel
theorem dX3_isFull_14 : decode cX3_isFull 14 = .ok (.ireturn, 1) := by decide +kernel
theorem dX3_add_0 : decode cX3_add 0 = .ok (.aload_n 0, 1) := by decide +kernel
theorem dX3_add_1 : decode cX3_add 1 = .ok (.getfield 18, 3) := by decide +kernel
theorem dX3_add_4 : decode cX3_add 4 = .ok (.ifCond .lt 35, 3) := by decide +kernel
theorem dX3_add_7 : decode cX3_add 7 = .ok (.aload_n 0, 1) := by decide +kernel
theorem dX3_add_8 : decode cX3_add 8 = .ok (.getfield 18, 3) := by decide +kernel
theorem dX3_add_11 : decode cX3_add 11 = .ok (.aload_n 0, 1) := by decide +kernel
theorem dX3_add_12 : decode cX3_add 12 = .ok (.getfield 9, 3) := by decide +kernel
theorem dX3_add_15 : decode cX3_add 15 = .ok (.arraylength, 1) := by decide +kernel
theorem dX3_add_16 : decode cX3_add 16 = .ok (.if_icmp .ge 23, 3) := by decide +kernel
theorem dX3_add_19 : decode cX3_add 19 = .ok (.aload_n 0, 1) := by decide +kernel
theorem dX3_add_20 : decode cX3_add 20 = .ok (.getfield 9, 3) := by decide +kernel
theorem dX3_add_23 : decode cX3_add 23 = .ok (.aload_n 0, 1) := by decide +kernel
theorem dX3_add_24 : decode cX3_add 24 = .ok (.getfield 18, 3) := by decide +kernel
theorem dX3_add_27 : decode cX3_add 27 = .ok (.iload_n 1, 1) := by decide +kernel
theorem dX3_add_28 : decode cX3_add 28 = .ok (.iastore, 1) := by decide +kernel
theorem dX3_add_29 : decode cX3_add 29 = .ok (.aload_n 0, 1) := by decide +kernel
theorem dX3_add_30 : decode cX3_add 30 = .ok (.dup, 1) := by decide +kernel
theorem dX3_add_31 : decode cX3_add 31 = .ok (.getfield 18, 3) := by decide +kernel
theorem dX3_add_34 : decode cX3_add 34 = .ok (.iconst 1, 1) := by decide +kernel
theorem dX3_add_35 : decode cX3_add 35 = .ok (.iadd, 1) := by decide +kernel
theorem dX3_add_36 : decode cX3_add 36 = .ok (.putfield 18, 3) := by decide +kernel
theorem dX3_add_39 : decode cX3_add 39 = .ok (.aload_n 0, 1) := by decide +kernel
theorem dX3_add_40 : decode cX3_add 40 = .ok (.getfield 18, 3) := by decide +kernel
theorem dX3_add_43 : decode cX3_add 43 = .ok (.ireturn, 1) := by decide +kernel
theorem dX3_makeEmpty_0 : decode cX3_makeEmpty 0 = .ok (.aload_n 0, 1) := by decide +kernel
theorem dX3_makeEmpty_1 : decode cX3_makeEmpty 1 = .ok (.getfield 18, 3) := by decide +kernel
theorem dX3_makeEmpty_4 : decode cX3_makeEmpty 4 = .ok (.istore_n 1, 1) := by decide +kernel
theorem dX3_makeEmpty_5 : decode cX3_makeEmpty 5 = .ok (.aload_n 0, 1) := by decide +kernel
theorem dX3_makeEmpty_6 : decode cX3_makeEmpty 6 = .ok (.iconst 0, 1) := by decide +kernel
theorem dX3_makeEmpty_7 : decode cX3_makeEmpty 7 = .ok (.putfield 18, 3) := by decide +kernel
theorem dX3_makeEmpty_10 : decode cX3_makeEmpty 10 = .ok (.iload_n 1, 1) := by decide +kernel
theorem dX3_makeEmpty_11 : decode cX3_makeEmpty 11 = .ok (.ireturn, 1) := by decide +kernel
theorem dX3_firstError_0 : decode cX3_firstError 0 = .ok (.aload_n 0, 1) := by decide +kernel
theorem dX3_firstError_1 : decode cX3_firstError 1 = .ok (.iconst 0, 1) := by decide +kernel
theorem dX3_firstError_2 : decode cX3_firstError 2 = .ok (.putfield 22, 3) := by decide +kernel
theorem dX3_firstError_5 : decode cX3_firstError 5 = .ok (.aload_n 0, 1) := by decide +kernel
theorem dX3_firstError_6 : decode cX3_firstError 6 = .ok (.invokevirtual 25, 3) := by decide +kernel
theorem dX3_firstError_9 : decode cX3_firstError 9 = .ok (.bipush 84, 2) := by decide +kernel
theorem dX3_firstError_11 : decode cX3_firstError 11 = .ok (.if_icmp .eq 5, 3) := by decide +kernel
theorem dX3_firstError_14 : decode cX3_firstError 14 = .ok (.iconst 0, 1) := by decide +kernel
theorem dX3_firstError_15 : decode cX3_firstError 15 = .ok (.ireturn, 1) := by decide +kernel
theorem dX3_firstError_16 : decode cX3_firstError 16 = .ok (.aload_n 0, 1) := by decide +kernel
theorem dX3_firstError_17 : decode cX3_firstError 17 = .ok (.iconst 1, 1) := by decide +kernel
theorem dX3_firstError_18 : decode cX3_firstError 18 = .ok (.putfield 22, 3) := by decide +kernel
theorem dX3_firstError_21 : decode cX3_firstError 21 = .ok (.iconst 0, 1) := by decide +kernel
theorem dX3_firstError_22 : decode cX3_firstError 22 = .ok (.istore_n 1, 1) := by decide +kernel
theorem dX3_firstError_23 : decode cX3_firstError 23 = .ok (.iload_n 1, 1) := by decide +kernel
theorem dX3_firstError_24 : decode cX3_firstError 24 = .ok (.bipush 120, 2) := by decide +kernel
theorem dX3_firstError_26 : decode cX3_firstError 26 = .ok (.if_icmp .ge 32, 3) := by decide +kernel
theorem dX3_firstError_29 : decode cX3_firstError 29 = .ok (.aload_n 0, 1) := by decide +kernel
theorem dX3_firstError_30 : decode cX3_firstError 30 = .ok (.getfield 22, 3) := by decide +kernel
theorem dX3_firstError_33 : decode cX3_firstError 33 = .ok (.aload_n 0, 1) := by decide +kernel
theorem dX3_firstError_34 : decode cX3_firstError 34 = .ok (.getfield 18, 3) := by decide +kernel
theorem dX3_firstError_37 : decode cX3_firstError 37 = .ok (.if_icmp .ge 21, 3) := by decide +kernel
theorem dX3_firstError_40 : decode cX3_firstError 40 = .ok (.aload_n 0, 1) := by decide +kernel
theorem dX3_firstError_41 : decode cX3_firstError 41 = .ok (.invokevirtual 29, 3) := by decide +kernel
theorem dX3_firstError_44 : decode cX3_firstError 44 = .ok (.ifCond .ne 8, 3) := by decide +kernel
theorem dX3_firstError_47 : decode cX3_firstError 47 = .ok (.aload_n 0, 1) := by decide +kernel
theorem dX3_firstError_48 : decode cX3_firstError 48 = .ok (.getfield 22, 3) := by decide +kernel
theorem dX3_firstError_51 : decode cX3_firstError 51 = .ok (.ireturn, 1) := by decide +kernel
theorem dX3_firstError_52 : decode cX3_firstError 52 = .ok (.iinc 1 1, 3) := by decide +kernel
theorem dX3_firstError_55 : decode cX3_firstError 55 = .ok (.goto (-32), 3) := by decide +kernel
theorem dX3_firstError_58 : decode cX3_firstError 58 = .ok (.iconst (-1), 1) := by decide +kernel
theorem dX3_firstError_59 : decode cX3_firstError 59 = .ok (.ireturn, 1) := by decide +kernel
theorem dX3_runCommands_0 : decode cX3_runCommands 0 = .ok (.iconst 0, 1) := by decide +kernel
theorem dX3_runCommands_1 : decode cX3_runCommands 1 = .ok (.istore_n 2, 1) := by decide +kernel
theorem dX3_runCommands_2 : decode cX3_runCommands 2 = .ok (.aload_n 0, 1) := by decide +kernel
theorem dX3_runCommands_3 : decode cX3_runCommands 3 = .ok (.iconst 1, 1) := by decide +kernel
theorem dX3_runCommands_4 : decode cX3_runCommands 4 = .ok (.putfield 22, 3) := by decide +kernel
theorem dX3_runCommands_7 : decode cX3_runCommands 7 = .ok (.iconst 0, 1) := by decide +kernel
theorem dX3_runCommands_8 : decode cX3_runCommands 8 = .ok (.istore_n 3, 1) := by decide +kernel
theorem dX3_runCommands_9 : decode cX3_runCommands 9 = .ok (.iload_n 3, 1) := by decide +kernel
theorem dX3_runCommands_10 : decode cX3_runCommands 10 = .ok (.bipush 120, 2) := by decide +kernel
theorem dX3_runCommands_12 : decode cX3_runCommands 12 = .ok (.if_icmp .ge 63, 3) := by decide +kernel
theorem dX3_runCommands_15 : decode cX3_runCommands 15 = .ok (.aload_n 0, 1) := by decide +kernel
theorem dX3_runCommands_16 : decode cX3_runCommands 16 = .ok (.getfield 22, 3) := by decide +kernel
theorem dX3_runCommands_19 : decode cX3_runCommands 19 = .ok (.aload_n 0, 1) := by decide +kernel
theorem dX3_runCommands_20 : decode cX3_runCommands 20 = .ok (.getfield 18, 3) := by decide +kernel
theorem dX3_runCommands_23 : decode cX3_runCommands 23 = .ok (.if_icmp .ge 52, 3) := by decide +kernel
theorem dX3_runCommands_26 : decode cX3_runCommands 26 = .ok (.aload_n 0, 1) := by decide +kernel
theorem dX3_runCommands_27 : decode cX3_runCommands 27 = .ok (.invokevirtual 29, 3) := by decide +kernel
theorem dX3_runCommands_30 : decode cX3_runCommands 30 = .ok (.pop, 1) := by decide +kernel
theorem dX3_runCommands_31 : decode cX3_runCommands 31 = .ok (.aload_n 1, 1) := by decide +kernel
theorem dX3_runCommands_32 : decode cX3_runCommands 32 = .ok (.aload_n 0, 1) := by decide +kernel
theorem dX3_runCommands_33 : decode cX3_runCommands 33 = .ok (.getfield 33, 3) := by decide +kernel
theorem dX3_runCommands_36 : decode cX3_runCommands 36 = .ok (.aload_n 0, 1) := by decide +kernel
theorem dX3_runCommands_37 : decode cX3_runCommands 37 = .ok (.getfield 15, 3) := by decide +kernel
theorem dX3_runCommands_40 : decode cX3_runCommands 40 = .ok (.iconst 0, 1) := by decide +kernel
theorem dX3_runCommands_41 : decode cX3_runCommands 41 = .ok (.iaload, 1) := by decide +kernel
theorem dX3_runCommands_42 : decode cX3_runCommands 42 = .ok (.aload_n 0, 1) := by decide +kernel
theorem dX3_runCommands_43 : decode cX3_runCommands 43 = .ok (.getfield 15, 3) := by decide +kernel
theorem dX3_runCommands_46 : decode cX3_runCommands 46 = .ok (.iconst 1, 1) := by decide +kernel
theorem dX3_runCommands_47 : decode cX3_runCommands 47 = .ok (.iaload, 1) := by decide +kernel
theorem dX3_runCommands_48 : decode cX3_runCommands 48 = .ok (.aload_n 0, 1) := by decide +kernel
theorem dX3_runCommands_49 : decode cX3_runCommands 49 = .ok (.getfield 15, 3) := by decide +kernel
theorem dX3_runCommands_52 : decode cX3_runCommands 52 = .ok (.iconst 2, 1) := by decide +kernel
theorem dX3_runCommands_53 : decode cX3_runCommands 53 = .ok (.iaload, 1) := by decide +kernel
theorem dX3_runCommands_54 : decode cX3_runCommands 54 = .ok (.aload_n 0, 1) := by decide +kernel
theorem dX3_runCommands_55 : decode cX3_runCommands 55 = .ok (.getfield 15, 3) := by decide +kernel
theorem dX3_runCommands_58 : decode cX3_runCommands 58 = .ok (.iconst 3, 1) := by decide +kernel
theorem dX3_runCommands_59 : decode cX3_runCommands 59 = .ok (.iaload, 1) := by decide +kernel
theorem dX3_runCommands_60 : decode cX3_runCommands 60 = .ok (.invokevirtual 36, 3) := by decide +kernel
theorem dX3_runCommands_63 : decode cX3_runCommands 63 = .ok (.ifCond .ne 6, 3) := by decide +kernel
theorem dX3_runCommands_66 : decode cX3_runCommands 66 = .ok (.iinc 2 1, 3) := by decide +kernel
theorem dX3_runCommands_69 : decode cX3_runCommands 69 = .ok (.iinc 3 1, 3) := by decide +kernel
theorem dX3_runCommands_72 : decode cX3_runCommands 72 = .ok (.goto (-63), 3) := by decide +kernel
theorem dX3_runCommands_75 : decode cX3_runCommands 75 = .ok (.iload_n 2, 1) := by decide +kernel
theorem dX3_runCommands_76 : decode cX3_runCommands 76 = .ok (.ireturn, 1) := by decide +kernel
theorem dX3_readCommand_0 : decode cX3_readCommand 0 = .ok (.aload_n 0, 1) := by decide +kernel
theorem dX3_readCommand_1 : decode cX3_readCommand 1 = .ok (.aload_n 0, 1) := by decide +kernel
theorem dX3_readCommand_2 : decode cX3_readCommand 2 = .ok (.invokevirtual 25, 3) := by decide +kernel
theorem dX3_readCommand_5 : decode cX3_readCommand 5 = .ok (.putfield 33, 3) := by decide +kernel
theorem dX3_readCommand_8 : decode cX3_readCommand 8 = .ok (.aload_n 0, 1) := by decide +kernel
theorem dX3_readCommand_9 : decode cX3_readCommand 9 = .ok (.getfield 33, 3) := by decide +kernel
theorem dX3_readCommand_12 : decode cX3_readCommand 12 = .ok (.invokestatic 42, 3) := by decide +kernel
theorem dX3_readCommand_15 : decode cX3_readCommand 15 = .ok (.astore_n 1, 1) := by decide +kernel
theorem dX3_readCommand_16 : decode cX3_readCommand 16 = .ok (.aload_n 1, 1) := by decide +kernel
theorem dX3_readCommand_17 : decode cX3_readCommand 17 = .ok (.arraylength, 1) := by decide +kernel
theorem dX3_readCommand_18 : decode cX3_readCommand 18 = .ok (.ifCond .ne 5, 3) := by decide +kernel
theorem dX3_readCommand_21 : decode cX3_readCommand 21 = .ok (.iconst 0, 1) := by decide +kernel
theorem dX3_readCommand_22 : decode cX3_readCommand 22 = .ok (.ireturn, 1) := by decide +kernel
theorem dX3_readCommand_23 : decode cX3_readCommand 23 = .ok (.aload_n 0, 1) := by decide +kernel
theorem dX3_readCommand_24 : decode cX3_readCommand 24 = .ok (.dup, 1) := by decide +kernel
theorem dX3_readCommand_25 : decode cX3_readCommand 25 = .ok (.getfield 22, 3) := by decide +kernel
theorem dX3_readCommand_28 : decode cX3_readCommand 28 = .ok (.iconst 1, 1) := by decide +kernel
theorem dX3_readCommand_29 : decode cX3_readCommand 29 = .ok (.iadd, 1) := by decide +kernel
theorem dX3_readCommand_30 : decode cX3_readCommand 30 = .ok (.putfield 22, 3) := by decide +kernel
theorem dX3_readCommand_33 : decode cX3_readCommand 33 = .ok (.iconst 0, 1) := by decide +kernel
theorem dX3_readCommand_34 : decode cX3_readCommand 34 = .ok (.istore_n 2, 1) := by decide +kernel
theorem dX3_readCommand_35 : decode cX3_readCommand 35 = .ok (.iload_n 2, 1) := by decide +kernel
theorem dX3_readCommand_36 : decode cX3_readCommand 36 = .ok (.aload_n 0, 1) := by decide +kernel
theorem dX3_readCommand_37 : decode cX3_readCommand 37 = .ok (.getfield 15, 3) := by decide +kernel
theorem dX3_readCommand_40 : decode cX3_readCommand 40 = .ok (.arraylength, 1) := by decide +kernel
theorem dX3_readCommand_41 : decode cX3_readCommand 41 = .ok (.if_icmp .ge 57, 3) := by decide +kernel
theorem dX3_readCommand_44 : decode cX3_readCommand 44 = .ok (.iconst 3, 1) := by decide +kernel
theorem dX3_readCommand_45 : decode cX3_readCommand 45 = .ok (.iload_n 2, 1) := by decide +kernel
theorem dX3_readCommand_46 : decode cX3_readCommand 46 = .ok (.imul, 1) := by decide +kernel
theorem dX3_readCommand_47 : decode cX3_readCommand 47 = .ok (.iconst 2, 1) := by decide +kernel
theorem dX3_readCommand_48 : decode cX3_readCommand 48 = .ok (.iadd, 1) := by decide +kernel
theorem dX3_readCommand_49 : decode cX3_readCommand 49 = .ok (.aload_n 1, 1) := by decide +kernel
theorem dX3_readCommand_50 : decode cX3_readCommand 50 = .ok (.arraylength, 1) := by decide +kernel
theorem dX3_readCommand_51 : decode cX3_readCommand 51 = .ok (.if_icmp .ge 47, 3) := by decide +kernel
theorem dX3_readCommand_54 : decode cX3_readCommand 54 = .ok (.aload_n 0, 1) := by decide +kernel
theorem dX3_readCommand_55 : decode cX3_readCommand 55 = .ok (.aload_n 1, 1) := by decide +kernel
theorem dX3_readCommand_56 : decode cX3_readCommand 56 = .ok (.iconst 3, 1) := by decide +kernel
theorem dX3_readCommand_57 : decode cX3_readCommand 57 = .ok (.iload_n 2, 1) := by decide +kernel
theorem dX3_readCommand_58 : decode cX3_readCommand 58 = .ok (.imul, 1) := by decide +kernel
theorem dX3_readCommand_59 : decode cX3_readCommand 59 = .ok (.iaload, 1) := by decide +kernel
theorem dX3_readCommand_60 : decode cX3_readCommand 60 = .ok (.aload_n 1, 1) := by decide +kernel
theorem dX3_readCommand_61 : decode cX3_readCommand 61 = .ok (.iconst 3, 1) := by decide +kernel
theorem dX3_readCommand_62 : decode cX3_readCommand 62 = .ok (.iload_n 2, 1) := by decide +kernel
theorem dX3_readCommand_63 : decode cX3_readCommand 63 = .ok (.imul, 1) := by decide +kernel
theorem dX3_readCommand_64 : decode cX3_readCommand 64 = .ok (.iconst 1, 1) := by decide +kernel
theorem dX3_readCommand_65 : decode cX3_readCommand 65 = .ok (.iadd, 1) := by decide +kernel
theorem dX3_readCommand_66 : decode cX3_readCommand 66 = .ok (.iaload, 1) := by decide +kernel
theorem dX3_readCommand_67 : decode cX3_readCommand 67 = .ok (.aload_n 1, 1) := by decide +kernel
theorem dX3_readCommand_68 : decode cX3_readCommand 68 = .ok (.iconst 3, 1) := by decide +kernel
theorem dX3_readCommand_69 : decode cX3_readCommand 69 = .ok (.iload_n 2, 1) := by decide +kernel
theorem dX3_readCommand_70 : decode cX3_readCommand 70 = .ok (.imul, 1) := by decide +kernel
theorem dX3_readCommand_71 : decode cX3_readCommand 71 = .ok (.iconst 2, 1) := by decide +kernel
theorem dX3_readCommand_72 : decode cX3_readCommand 72 = .ok (.iadd, 1) := by decide +kernel
theorem dX3_readCommand_73 : decode cX3_readCommand 73 = .ok (.iaload, 1) := by decide +kernel
theorem dX3_readCommand_74 : decode cX3_readCommand 74 = .ok (.invokevirtual 46, 3) := by decide +kernel
theorem dX3_readCommand_77 : decode cX3_readCommand 77 = .ok (.istore_n 3, 1) := by decide +kernel
theorem dX3_readCommand_78 : decode cX3_readCommand 78 = .ok (.iload_n 3, 1) := by decide +kernel
theorem dX3_readCommand_79 : decode cX3_readCommand 79 = .ok (.iconst (-1), 1) := by decide +kernel
theorem dX3_readCommand_80 : decode cX3_readCommand 80 = .ok (.if_icmp .ne 5, 3) := by decide +kernel
theorem dX3_readCommand_83 : decode cX3_readCommand 83 = .ok (.iconst 0, 1) := by decide +kernel
theorem dX3_readCommand_84 : decode cX3_readCommand 84 = .ok (.ireturn, 1) := by decide +kernel
theorem dX3_readCommand_85 : decode cX3_readCommand 85 = .ok (.aload_n 0, 1) := by decide +kernel
theorem dX3_readCommand_86 : decode cX3_readCommand 86 = .ok (.getfield 15, 3) := by decide +kernel
theorem dX3_readCommand_89 : decode cX3_readCommand 89 = .ok (.iload_n 2, 1) := by decide +kernel
theorem dX3_readCommand_90 : decode cX3_readCommand 90 = .ok (.iload_n 3, 1) := by decide +kernel
theorem dX3_readCommand_91 : decode cX3_readCommand 91 = .ok (.iastore, 1) := by decide +kernel
theorem dX3_readCommand_92 : decode cX3_readCommand 92 = .ok (.iinc 2 1, 3) := by decide +kernel
theorem dX3_readCommand_95 : decode cX3_readCommand 95 = .ok (.goto (-60), 3) := by decide +kernel
theorem dX3_readCommand_98 : decode cX3_readCommand 98 = .ok (.iconst 1, 1) := by decide +kernel
theorem dX3_readCommand_99 : decode cX3_readCommand 99 = .ok (.ireturn, 1) := by decide +kernel
theorem dX3_readNumber_0 : decode cX3_readNumber 0 = .ok (.iconst 0, 1) := by decide +kernel
theorem dX3_readNumber_1 : decode cX3_readNumber 1 = .ok (.istore 4, 2) := by decide +kernel
theorem dX3_readNumber_3 : decode cX3_readNumber 3 = .ok (.iload_n 1, 1) := by decide +kernel
theorem dX3_readNumber_4 : decode cX3_readNumber 4 = .ok (.istore 5, 2) := by decide +kernel
theorem dX3_readNumber_6 : decode cX3_readNumber 6 = .ok (.iload 5, 2) := by decide +kernel
theorem dX3_readNumber_8 : decode cX3_readNumber 8 = .ok (.ifCond .le 75, 3) := by decide +kernel
theorem dX3_readNumber_11 : decode cX3_readNumber 11 = .ok (.aload_n 0, 1) := by decide +kernel
theorem dX3_readNumber_12 : decode cX3_readNumber 12 = .ok (.invokevirtual 25, 3) := by decide +kernel
theorem dX3_readNumber_15 : decode cX3_readNumber 15 = .ok (.bipush 48, 2) := by decide +kernel
theorem dX3_readNumber_17 : decode cX3_readNumber 17 = .ok (.isub, 1) := by decide +kernel
theorem dX3_readNumber_18 : decode cX3_readNumber 18 = .ok (.istore 6, 2) := by decide +kernel
theorem dX3_readNumber_20 : decode cX3_readNumber 20 = .ok (.iload 6, 2) := by decide +kernel
theorem dX3_readNumber_22 : decode cX3_readNumber 22 = .ok (.ifCond .lt 10, 3) := by decide +kernel
theorem dX3_readNumber_25 : decode cX3_readNumber 25 = .ok (.iload 6, 2) := by decide +kernel
theorem dX3_readNumber_27 : decode cX3_readNumber 27 = .ok (.bipush 9, 2) := by decide +kernel
theorem dX3_readNumber_29 : decode cX3_readNumber 29 = .ok (.if_icmp .le 5, 3) := by decide +kernel
theorem dX3_readNumber_32 : decode cX3_readNumber 32 = .ok (.iconst (-1), 1) := by decide +kernel
theorem dX3_readNumber_33 : decode cX3_readNumber 33 = .ok (.ireturn, 1) := by decide +kernel
theorem dX3_readNumber_34 : decode cX3_readNumber 34 = .ok (.iload 4, 2) := by decide +kernel
theorem dX3_readNumber_36 : decode cX3_readNumber 36 = .ok (.iload 6, 2) := by decide +kernel
theorem dX3_readNumber_38 : decode cX3_readNumber 38 = .ok (.iload 5, 2) := by decide +kernel
theorem dX3_readNumber_40 : decode cX3_readNumber 40 = .ok (.imul, 1) := by decide +kernel
theorem dX3_readNumber_41 : decode cX3_readNumber 41 = .ok (.iadd, 1) := by decide +kernel
theorem dX3_readNumber_42 : decode cX3_readNumber 42 = .ok (.istore 4, 2) := by decide +kernel
theorem dX3_readNumber_44 : decode cX3_readNumber 44 = .ok (.iload 4, 2) := by decide +kernel
theorem dX3_readNumber_46 : decode cX3_readNumber 46 = .ok (.iload_n 3, 1) := by decide +kernel
theorem dX3_readNumber_47 : decode cX3_readNumber 47 = .ok (.if_icmp .gt 14, 3) := by decide +kernel
theorem dX3_readNumber_50 : decode cX3_readNumber 50 = .ok (.iload 4, 2) := by decide +kernel
theorem dX3_readNumber_52 : decode cX3_readNumber 52 = .ok (.iload 5, 2) := by decide +kernel
theorem dX3_readNumber_54 : decode cX3_readNumber 54 = .ok (.iadd, 1) := by decide +kernel
theorem dX3_readNumber_55 : decode cX3_readNumber 55 = .ok (.iconst 1, 1) := by decide +kernel
theorem dX3_readNumber_56 : decode cX3_readNumber 56 = .ok (.isub, 1) := by decide +kernel
theorem dX3_readNumber_57 : decode cX3_readNumber 57 = .ok (.iload_n 2, 1) := by decide +kernel
theorem dX3_readNumber_58 : decode cX3_readNumber 58 = .ok (.if_icmp .ge 5, 3) := by decide +kernel
theorem dX3_readNumber_61 : decode cX3_readNumber 61 = .ok (.iconst (-1), 1) := by decide +kernel
theorem dX3_readNumber_62 : decode cX3_readNumber 62 = .ok (.ireturn, 1) := by decide +kernel
theorem dX3_readNumber_63 : decode cX3_readNumber 63 = .ok (.aload_n 0, 1) := by decide +kernel
theorem dX3_readNumber_64 : decode cX3_readNumber 64 = .ok (.dup, 1) := by decide +kernel
theorem dX3_readNumber_65 : decode cX3_readNumber 65 = .ok (.getfield 22, 3) := by decide +kernel
theorem dX3_readNumber_68 : decode cX3_readNumber 68 = .ok (.iconst 1, 1) := by decide +kernel
theorem dX3_readNumber_69 : decode cX3_readNumber 69 = .ok (.iadd, 1) := by decide +kernel
theorem dX3_readNumber_70 : decode cX3_readNumber 70 = .ok (.putfield 22, 3) := by decide +kernel
theorem dX3_readNumber_73 : decode cX3_readNumber 73 = .ok (.iload 5, 2) := by decide +kernel
theorem dX3_readNumber_75 : decode cX3_readNumber 75 = .ok (.bipush 10, 2) := by decide +kernel
theorem dX3_readNumber_77 : decode cX3_readNumber 77 = .ok (.idiv, 1) := by decide +kernel
theorem dX3_readNumber_78 : decode cX3_readNumber 78 = .ok (.istore 5, 2) := by decide +kernel
theorem dX3_readNumber_80 : decode cX3_readNumber 80 = .ok (.goto (-74), 3) := by decide +kernel
theorem dX3_readNumber_83 : decode cX3_readNumber 83 = .ok (.iload 4, 2) := by decide +kernel
theorem dX3_readNumber_85 : decode cX3_readNumber 85 = .ok (.ireturn, 1) := by decide +kernel
theorem dX3_atHand_0 : decode cX3_atHand 0 = .ok (.aload_n 0, 1) := by decide +kernel
theorem dX3_atHand_1 : decode cX3_atHand 1 = .ok (.getfield 22, 3) := by decide +kernel
theorem dX3_atHand_4 : decode cX3_atHand 4 = .ok (.ifCond .lt 38, 3) := by decide +kernel
theorem dX3_atHand_7 : decode cX3_atHand 7 = .ok (.aload_n 0, 1) := by decide +kernel
theorem dX3_atHand_8 : decode cX3_atHand 8 = .ok (.getfield 22, 3) := by decide +kernel
theorem dX3_atHand_11 : decode cX3_atHand 11 = .ok (.aload_n 0, 1) := by decide +kernel
theorem dX3_atHand_12 : decode cX3_atHand 12 = .ok (.getfield 18, 3) := by decide +kernel
theorem dX3_atHand_15 : decode cX3_atHand 15 = .ok (.if_icmp .ge 27, 3) := by decide +kernel
theorem dX3_atHand_18 : decode cX3_atHand 18 = .ok (.aload_n 0, 1) := by decide +kernel
theorem dX3_atHand_19 : decode cX3_atHand 19 = .ok (.getfield 22, 3) := by decide +kernel
theorem dX3_atHand_22 : decode cX3_atHand 22 = .ok (.aload_n 0, 1) := by decide +kernel
theorem dX3_atHand_23 : decode cX3_atHand 23 = .ok (.getfield 9, 3) := by decide +kernel
theorem dX3_atHand_26 : decode cX3_atHand 26 = .ok (.arraylength, 1) := by decide +kernel
theorem dX3_atHand_27 : decode cX3_atHand 27 = .ok (.if_icmp .ge 15, 3) := by decide +kernel
theorem dX3_atHand_30 : decode cX3_atHand 30 = .ok (.aload_n 0, 1) := by decide +kernel
theorem dX3_atHand_31 : decode cX3_atHand 31 = .ok (.getfield 9, 3) := by decide +kernel
theorem dX3_atHand_34 : decode cX3_atHand 34 = .ok (.aload_n 0, 1) := by decide +kernel
theorem dX3_atHand_35 : decode cX3_atHand 35 = .ok (.getfield 22, 3) := by decide +kernel
theorem dX3_atHand_38 : decode cX3_atHand 38 = .ok (.iaload, 1) := by decide +kernel
theorem dX3_atHand_39 : decode cX3_atHand 39 = .ok (.goto 4, 3) := by decide +kernel
theorem dX3_atHand_42 : decode cX3_atHand 42 = .ok (.iconst (-1), 1) := by decide +kernel
theorem dX3_atHand_43 : decode cX3_atHand 43 = .ok (.ireturn, 1) := by decide +kernel
theorem dX3_numbersBehind_0 : decode cX3_numbersBehind 0 = .ok (.iload_n 0, 1) := by decide +kernel
theorem dX3_numbersBehind_1 : decode cX3_numbersBehind 1 = .ok (.tableswitch 115 98 115 #[91, 107, 115, 115, 115, 87, 103, 115, 115, 115, 95, 99, 115, 115, 115, 115, 115, 111], 87) := by decide +kernel
theorem dX3_numbersBehind_88 : decode cX3_numbersBehind 88 = .ok (.getstatic 50, 3) := by decide +kernel
theorem dX3_numbersBehind_91 : decode cX3_numbersBehind 91 = .ok (.areturn, 1) := by decide +kernel
theorem dX3_numbersBehind_92 : decode cX3_numbersBehind 92 = .ok (.getstatic 53, 3) := by decide +kernel
theorem dX3_numbersBehind_95 : decode cX3_numbersBehind 95 = .ok (.areturn, 1) := by decide +kernel
theorem dX3_numbersBehind_96 : decode cX3_numbersBehind 96 = .ok (.getstatic 56, 3) := by decide +kernel
theorem dX3_numbersBehind_99 : decode cX3_numbersBehind 99 = .ok (.areturn, 1) := by decide +kernel
theorem dX3_numbersBehind_100 : decode cX3_numbersBehind 100 = .ok (.getstatic 59, 3) := by decide +kernel
theorem dX3_numbersBehind_103 : decode cX3_numbersBehind 103 = .ok (.areturn, 1) := by decide +kernel
theorem dX3_numbersBehind_104 : decode cX3_numbersBehind 104 = .ok (.getstatic 62, 3) := by decide +kernel
theorem dX3_numbersBehind_107 : decode cX3_numbersBehind 107 = .ok (.areturn, 1) := by decide +kernel
theorem dX3_numbersBehind_108 : decode cX3_numbersBehind 108 = .ok (.getstatic 65, 3) := by decide +kernel
theorem dX3_numbersBehind_111 : decode cX3_numbersBehind 111 = .ok (.areturn, 1) := by decide +kernel
theorem dX3_numbersBehind_112 : decode cX3_numbersBehind 112 = .ok (.getstatic 68, 3) := by decide +kernel
theorem dX3_numbersBehind_115 : decode cX3_numbersBehind 115 = .ok (.areturn, 1) := by decide +kernel
theorem dX3_numbersBehind_116 : decode cX3_numbersBehind 116 = .ok (.getstatic 71, 3) := by decide +kernel
theorem dX3_numbersBehind_119 : decode cX3_numbersBehind 119 = .ok (.areturn, 1) := by decide +kernel
theorem dX4_init_0 : decode cX4_init 0 = .ok (.aload_n 0, 1) := by decide +kernel
theorem dX4_init_1 : decode cX4_init 1 = .ok (.invokespecial 3, 3) := by decide +kernel
theorem dX4_init_4 : decode cX4_init 4 = .ok (.aload_n 0, 1) := by decide +kernel
theorem dX4_init_5 : decode cX4_init 5 = .ok (.new 9, 3) := by decide +kernel
theorem dX4_init_8 : decode cX4_init 8 = .ok (.dup, 1) := by decide +kernel
theorem dX4_init_9 : decode cX4_init 9 = .ok (.bipush 6, 2) := by decide +kernel
theorem dX4_init_11 : decode cX4_init 11 = .ok (.iconst 4, 1) := by decide +kernel
theorem dX4_init_12 : decode cX4_init 12 = .ok (.invokespecial 11, 3) := by decide +kernel
theorem dX4_init_15 : decode cX4_init 15 = .ok (.putfield 14, 3) := by decide +kernel
theorem dX4_init_18 : decode cX4_init 18 = .ok (.aload_n 0, 1) := by decide +kernel
theorem dX4_init_19 : decode cX4_init 19 = .ok (.new 9, 3) := by decide +kernel
theorem dX4_init_22 : decode cX4_init 22 = .ok (.dup, 1) := by decide +kernel
theorem dX4_init_23 : decode cX4_init 23 = .ok (.bipush 11, 2) := by decide +kernel
theorem dX4_init_25 : decode cX4_init 25 = .ok (.bipush 10, 2) := by decide +kernel
theorem dX4_init_27 : decode cX4_init 27 = .ok (.invokespecial 11, 3) := by decide +kernel
theorem dX4_init_30 : decode cX4_init 30 = .ok (.putfield 20, 3) := by decide +kernel
theorem dX4_init_33 : decode cX4_init 33 = .ok (.aload_n 0, 1) := by decide +kernel
theorem dX4_init_34 : decode cX4_init 34 = .ok (.new 9, 3) := by decide +kernel
theorem dX4_init_37 : decode cX4_init 37 = .ok (.dup, 1) := by decide +kernel
theorem dX4_init_38 : decode cX4_init 38 = .ok (.iconst 4, 1) := by decide +kernel
theorem dX4_init_39 : decode cX4_init 39 = .ok (.iconst 3, 1) := by decide +kernel
theorem dX4_init_40 : decode cX4_init 40 = .ok (.invokespecial 11, 3) := by decide +kernel
theorem dX4_init_43 : decode cX4_init 43 = .ok (.putfield 23, 3) := by decide +kernel
theorem dX4_init_46 : decode cX4_init 46 = .ok (.aload_n 0, 1) := by decide +kernel
theorem dX4_init_47 : decode cX4_init 47 = .ok (.invokevirtual 26, 3) := by decide +kernel
theorem dX4_init_50 : decode cX4_init 50 = .ok (.return_, 1) := by decide +kernel
theorem dX4_makeNew_0 : decode cX4_makeNew 0 = .ok (.aload_n 0, 1) := by decide +kernel
theorem dX4_makeNew_1 : decode cX4_makeNew 1 = .ok (.getfield 14, 3) := by decide +kernel
theorem dX4_makeNew_4 : decode cX4_makeNew 4 = .ok (.iconst 0, 1) := by decide +kernel
theorem dX4_makeNew_5 : decode cX4_makeNew 5 = .ok (.putfield 29, 3) := by decide +kernel
theorem dX4_makeNew_8 : decode cX4_makeNew 8 = .ok (.aload_n 0, 1) := by decide +kernel
theorem dX4_makeNew_9 : decode cX4_makeNew 9 = .ok (.getfield 20, 3) := by decide +kernel
theorem dX4_makeNew_12 : decode cX4_makeNew 12 = .ok (.iconst 0, 1) := by decide +kernel
theorem dX4_makeNew_13 : decode cX4_makeNew 13 = .ok (.putfield 29, 3) := by decide +kernel
theorem dX4_makeNew_16 : decode cX4_makeNew 16 = .ok (.aload_n 0, 1) := by decide +kernel
theorem dX4_makeNew_17 : decode cX4_makeNew 17 = .ok (.getfield 23, 3) := by decide +kernel
theorem dX4_makeNew_20 : decode cX4_makeNew 20 = .ok (.iconst 0, 1) := by decide +kernel
theorem dX4_makeNew_21 : decode cX4_makeNew 21 = .ok (.putfield 29, 3) := by decide +kernel
theorem dX4_makeNew_24 : decode cX4_makeNew 24 = .ok (.iconst 0, 1) := by decide +kernel
theorem dX4_makeNew_25 : decode cX4_makeNew 25 = .ok (.istore_n 1, 1) := by decide +kernel
theorem dX4_makeNew_26 : decode cX4_makeNew 26 = .ok (.iload_n 1, 1) := by decide +kernel
theorem dX4_makeNew_27 : decode cX4_makeNew 27 = .ok (.iconst 4, 1) := by decide +kernel
theorem dX4_makeNew_28 : decode cX4_makeNew 28 = .ok (.if_icmp .ge 37, 3) := by decide +kernel
theorem dX4_makeNew_31 : decode cX4_makeNew 31 = .ok (.aload_n 0, 1) := by decide +kernel
theorem dX4_makeNew_32 : decode cX4_makeNew 32 = .ok (.getfield 23, 3) := by decide +kernel
theorem dX4_makeNew_35 : decode cX4_makeNew 35 = .ok (.invokevirtual 33, 3) := by decide +kernel
theorem dX4_makeNew_38 : decode cX4_makeNew 38 = .ok (.istore_n 2, 1) := by decide +kernel
theorem dX4_makeNew_39 : decode cX4_makeNew 39 = .ok (.aload_n 0, 1) := by decide +kernel
theorem dX4_makeNew_40 : decode cX4_makeNew 40 = .ok (.getfield 23, 3) := by decide +kernel
theorem dX4_makeNew_43 : decode cX4_makeNew 43 = .ok (.iload_n 2, 1) := by decide +kernel
theorem dX4_makeNew_44 : decode cX4_makeNew 44 = .ok (.iconst 1, 1) := by decide +kernel
theorem dX4_makeNew_45 : decode cX4_makeNew 45 = .ok (.iconst (-1), 1) := by decide +kernel
theorem dX4_makeNew_46 : decode cX4_makeNew 46 = .ok (.invokevirtual 37, 3) := by decide +kernel
theorem dX4_makeNew_49 : decode cX4_makeNew 49 = .ok (.aload_n 0, 1) := by decide +kernel
theorem dX4_makeNew_50 : decode cX4_makeNew 50 = .ok (.getfield 23, 3) := by decide +kernel
theorem dX4_makeNew_53 : decode cX4_makeNew 53 = .ok (.iload_n 2, 1) := by decide +kernel
theorem dX4_makeNew_54 : decode cX4_makeNew 54 = .ok (.iconst 2, 1) := by decide +kernel
theorem dX4_makeNew_55 : decode cX4_makeNew 55 = .ok (.iconst (-1), 1) := by decide +kernel
theorem dX4_makeNew_56 : decode cX4_makeNew 56 = .ok (.invokevirtual 37, 3) := by decide +kernel
theorem dX4_makeNew_59 : decode cX4_makeNew 59 = .ok (.iinc 1 1, 3) := by decide +kernel
theorem dX4_makeNew_62 : decode cX4_makeNew 62 = .ok (.goto (-36), 3) := by decide +kernel
theorem dX4_makeNew_65 : decode cX4_makeNew 65 = .ok (.aload_n 0, 1) := by decide +kernel
theorem dX4_makeNew_66 : decode cX4_makeNew 66 = .ok (.iconst 0, 1) := by decide +kernel
theorem dX4_makeNew_67 : decode cX4_makeNew 67 = .ok (.putfield 41, 3) := by decide +kernel
theorem dX4_makeNew_70 : decode cX4_makeNew 70 = .ok (.aload_n 0, 1) := by decide +kernel
theorem dX4_makeNew_71 : decode cX4_makeNew 71 = .ok (.iconst 3, 1) := by decide +kernel
theorem dX4_makeNew_72 : decode cX4_makeNew 72 = .ok (.putfield 44, 3) := by decide +kernel
theorem dX4_makeNew_75 : decode cX4_makeNew 75 = .ok (.aload_n 0, 1) := by decide +kernel
theorem dX4_makeNew_76 : decode cX4_makeNew 76 = .ok (.iconst 2, 1) := by decide +kernel
theorem dX4_makeNew_77 : decode cX4_makeNew 77 = .ok (.putfield 47, 3) := by decide +kernel
theorem dX4_makeNew_80 : decode cX4_makeNew 80 = .ok (.aload_n 0, 1) := by decide +kernel
theorem dX4_makeNew_81 : decode cX4_makeNew 81 = .ok (.iconst 0, 1) := by decide +kernel
theorem dX4_makeNew_82 : decode cX4_makeNew 82 = .ok (.putfield 50, 3) := by decide +kernel
theorem dX4_makeNew_85 : decode cX4_makeNew 85 = .ok (.aload_n 0, 1) := by decide +kernel
theorem dX4_makeNew_86 : decode cX4_makeNew 86 = .ok (.iconst 0, 1) := by decide +kernel
theorem dX4_makeNew_87 : decode cX4_makeNew 87 = .ok (.putfield 53, 3) := by decide +kernel
theorem dX4_makeNew_90 : decode cX4_makeNew 90 = .ok (.aload_n 0, 1) := by decide +kernel
theorem dX4_makeNew_91 : decode cX4_makeNew 91 = .ok (.iconst 0, 1) := by decide +kernel
theorem dX4_makeNew_92 : decode cX4_makeNew 92 = .ok (.putfield 56, 3) := by decide +kernel
theorem dX4_makeNew_95 : decode cX4_makeNew 95 = .ok (.aload_n 0, 1) := by decide +kernel
theorem dX4_makeNew_96 : decode cX4_makeNew 96 = .ok (.iconst 0, 1) := by decide +kernel
theorem dX4_makeNew_97 : decode cX4_makeNew 97 = .ok (.putfield 60, 3) := by decide +kernel
theorem dX4_makeNew_100 : decode cX4_makeNew 100 = .ok (.return_, 1) := by decide +kernel
theorem dX4_copyFrom_0 : decode cX4_copyFrom 0 = .ok (.aload_n 0, 1) := by decide +kernel
theorem dX4_copyFrom_1 : decode cX4_copyFrom 1 = .ok (.getfield 14, 3) := by decide +kernel
theorem dX4_copyFrom_4 : decode cX4_copyFrom 4 = .ok (.aload_n 1, 1) := by decide +kernel
theorem dX4_copyFrom_5 : decode cX4_copyFrom 5 = .ok (.getfield 14, 3) := by decide +kernel
theorem dX4_copyFrom_8 : decode cX4_copyFrom 8 = .ok (.invokevirtual 63, 3) := by decide +kernel
theorem dX4_copyFrom_11 : decode cX4_copyFrom 11 = .ok (.aload_n 0, 1) := by decide +kernel
theorem dX4_copyFrom_12 : decode cX4_copyFrom 12 = .ok (.getfield 20, 3) := by decide +kernel
theorem dX4_copyFrom_15 : decode cX4_copyFrom 15 = .ok (.aload_n 1, 1) := by decide +kernel
theorem dX4_copyFrom_16 : decode cX4_copyFrom 16 = .ok (.getfield 20, 3) := by decide +kernel
theorem dX4_copyFrom_19 : decode cX4_copyFrom 19 = .ok (.invokevirtual 63, 3) := by decide +kernel
theorem dX4_copyFrom_22 : decode cX4_copyFrom 22 = .ok (.aload_n 0, 1) := by decide +kernel
theorem dX4_copyFrom_23 : decode cX4_copyFrom 23 = .ok (.getfield 23, 3) := by decide +kernel
theorem dX4_copyFrom_26 : decode cX4_copyFrom 26 = .ok (.aload_n 1, 1) := by decide +kernel
theorem dX4_copyFrom_27 : decode cX4_copyFrom 27 = .ok (.getfield 23, 3) := by decide +kernel
theorem dX4_copyFrom_30 : decode cX4_copyFrom 30 = .ok (.invokevirtual 63, 3) := by decide +kernel
theorem dX4_copyFrom_33 : decode cX4_copyFrom 33 = .ok (.aload_n 0, 1) := by decide +kernel
theorem dX4_copyFrom_34 : decode cX4_copyFrom 34 = .ok (.aload_n 1, 1) := by decide +kernel
theorem dX4_copyFrom_35 : decode cX4_copyFrom 35 = .ok (.getfield 41, 3) := by decide +kernel
theorem dX4_copyFrom_38 : decode cX4_copyFrom 38 = .ok (.putfield 41, 3) := by decide +kernel
theorem dX4_copyFrom_41 : decode cX4_copyFrom 41 = .ok (.aload_n 0, 1) := by decide +kernel
theorem dX4_copyFrom_42 : decode cX4_copyFrom 42 = .ok (.aload_n 1, 1) := by decide +kernel
theorem dX4_copyFrom_43 : decode cX4_copyFrom 43 = .ok (.getfield 44, 3) := by decide +kernel
theorem dX4_copyFrom_46 : decode cX4_copyFrom 46 = .ok (.putfield 44, 3) := by decide +kernel
theorem dX4_copyFrom_49 : decode cX4_copyFrom 49 = .ok (.aload_n 0, 1) := by decide +kernel
theorem dX4_copyFrom_50 : decode cX4_copyFrom 50 = .ok (.aload_n 1, 1) := by decide +kernel
theorem dX4_copyFrom_51 : decode cX4_copyFrom 51 = .ok (.getfield 47, 3) := by decide +kernel
theorem dX4_copyFrom_54 : decode cX4_copyFrom 54 = .ok (.putfield 47, 3) := by decide +kernel
theorem dX4_copyFrom_57 : decode cX4_copyFrom 57 = .ok (.aload_n 0, 1) := by decide +kernel
theorem dX4_copyFrom_58 : decode cX4_copyFrom 58 = .ok (.aload_n 1, 1) := by decide +kernel
theorem dX4_copyFrom_59 : decode cX4_copyFrom 59 = .ok (.getfield 50, 3) := by decide +kernel
theorem dX4_copyFrom_62 : decode cX4_copyFrom 62 = .ok (.putfield 50, 3) := by decide +kernel
theorem dX4_copyFrom_65 : decode cX4_copyFrom 65 = .ok (.aload_n 0, 1) := by decide +kernel
theorem dX4_copyFrom_66 : decode cX4_copyFrom 66 = .ok (.aload_n 1, 1) := by decide +kernel
theorem dX4_copyFrom_67 : decode cX4_copyFrom 67 = .ok (.getfield 53, 3) := by decide +kernel
theorem dX4_copyFrom_70 : decode cX4_copyFrom 70 = .ok (.putfield 53, 3) := by decide +kernel
theorem dX4_copyFrom_73 : decode cX4_copyFrom 73 = .ok (.aload_n 0, 1) := by decide +kernel
theorem dX4_copyFrom_74 : decode cX4_copyFrom 74 = .ok (.aload_n 1, 1) := by decide +kernel
theorem dX4_copyFrom_75 : decode cX4_copyFrom 75 = .ok (.getfield 56, 3) := by decide +kernel
theorem dX4_copyFrom_78 : decode cX4_copyFrom 78 = .ok (.putfield 56, 3) := by decide +kernel
theorem dX4_copyFrom_81 : decode cX4_copyFrom 81 = .ok (.aload_n 0, 1) := by decide +kernel
theorem dX4_copyFrom_82 : decode cX4_copyFrom 82 = .ok (.aload_n 1, 1) := by decide +kernel
theorem dX4_copyFrom_83 : decode cX4_copyFrom 83 = .ok (.getfield 60, 3) := by decide +kernel
theorem dX4_copyFrom_86 : decode cX4_copyFrom 86 = .ok (.putfield 60, 3) := by decide +kernel
theorem dX4_copyFrom_89 : decode cX4_copyFrom 89 = .ok (.return_, 1) := by decide +kernel
theorem dX4_hasGutter_0 : decode cX4_hasGutter 0 = .ok (.iload_n 1, 1) := by decide +kernel
theorem dX4_hasGutter_1 : decode cX4_hasGutter 1 = .ok (.ifCond .lt 18, 3) := by decide +kernel
theorem dX4_hasGutter_4 : decode cX4_hasGutter 4 = .ok (.iload_n 1, 1) := by decide +kernel
theorem dX4_hasGutter_5 : decode cX4_hasGutter 5 = .ok (.aload_n 0, 1) := by decide +kernel
theorem dX4_hasGutter_6 : decode cX4_hasGutter 6 = .ok (.getfield 14, 3) := by decide +kernel
theorem dX4_hasGutter_9 : decode cX4_hasGutter 9 = .ok (.getfield 29, 3) := by decide +kernel
theorem dX4_hasGutter_12 : decode cX4_hasGutter 12 = .ok (.if_icmp .ge 7, 3) := by decide +kernel
theorem dX4_hasGutter_15 : decode cX4_hasGutter 15 = .ok (.iconst 1, 1) := by decide +kernel
theorem dX4_hasGutter_16 : decode cX4_hasGutter 16 = .ok (.goto 4, 3) := by decide +kernel
theorem dX4_hasGutter_19 : decode cX4_hasGutter 19 = .ok (.iconst 0, 1) := by decide +kernel
theorem dX4_hasGutter_20 : decode cX4_hasGutter 20 = .ok (.ireturn, 1) := by decide +kernel
theorem dX4_hasCell_0 : decode cX4_hasCell 0 = .ok (.aload_n 0, 1) := by decide +kernel
theorem dX4_hasCell_1 : decode cX4_hasCell 1 = .ok (.iload_n 1, 1) := by decide +kernel
theorem dX4_hasCell_2 : decode cX4_hasCell 2 = .ok (.invokevirtual 67, 3) := by decide +kernel
theorem dX4_hasCell_5 : decode cX4_hasCell 5 = .ok (.ifCond .eq 24, 3) := by decide +kernel
theorem dX4_hasCell_8 : decode cX4_hasCell 8 = .ok (.iload_n 2, 1) := by decide +kernel
theorem dX4_hasCell_9 : decode cX4_hasCell 9 = .ok (.ifCond .lt 20, 3) := by decide +kernel
theorem dX4_hasCell_12 : decode cX4_hasCell 12 = .ok (.iload_n 2, 1) := by decide +kernel
theorem dX4_hasCell_13 : decode cX4_hasCell 13 = .ok (.aload_n 0, 1) := by decide +kernel
theorem dX4_hasCell_14 : decode cX4_hasCell 14 = .ok (.getfield 14, 3) := by decide +kernel
theorem dX4_hasCell_17 : decode cX4_hasCell 17 = .ok (.iload_n 1, 1) := by decide +kernel
theorem dX4_hasCell_18 : decode cX4_hasCell 18 = .ok (.iconst 0, 1) := by decide +kernel
theorem dX4_hasCell_19 : decode cX4_hasCell 19 = .ok (.invokevirtual 71, 3) := by decide +kernel
theorem dX4_hasCell_22 : decode cX4_hasCell 22 = .ok (.if_icmp .ge 7, 3) := by decide +kernel
theorem dX4_hasCell_25 : decode cX4_hasCell 25 = .ok (.iconst 1, 1) := by decide +kernel
theorem dX4_hasCell_26 : decode cX4_hasCell 26 = .ok (.goto 4, 3) := by decide +kernel
theorem dX4_hasCell_29 : decode cX4_hasCell 29 = .ok (.iconst 0, 1) := by decide +kernel
theorem dX4_hasCell_30 : decode cX4_hasCell 30 = .ok (.ireturn, 1) := by decide +kernel
theorem dX4_hasBoat_0 : decode cX4_hasBoat 0 = .ok (.iload_n 1, 1) := by decide +kernel
theorem dX4_hasBoat_1 : decode cX4_hasBoat 1 = .ok (.ifCond .lt 18, 3) := by decide +kernel
theorem dX4_hasBoat_4 : decode cX4_hasBoat 4 = .ok (.iload_n 1, 1) := by decide +kernel
theorem dX4_hasBoat_5 : decode cX4_hasBoat 5 = .ok (.aload_n 0, 1) := by decide +kernel
theorem dX4_hasBoat_6 : decode cX4_hasBoat 6 = .ok (.getfield 20, 3) := by decide +kernel
theorem dX4_hasBoat_9 : decode cX4_hasBoat 9 = .ok (.getfield 29, 3) := by decide +kernel
theorem dX4_hasBoat_12 : decode cX4_hasBoat 12 = .ok (.if_icmp .ge 7, 3) := by decide +kernel
theorem dX4_hasBoat_15 : decode cX4_hasBoat 15 = .ok (.iconst 1, 1) := by decide +kernel
theorem dX4_hasBoat_16 : decode cX4_hasBoat 16 = .ok (.goto 4, 3) := by decide +kernel
theorem dX4_hasBoat_19 : decode cX4_hasBoat 19 = .ok (.iconst 0, 1) := by decide +kernel
theorem dX4_hasBoat_20 : decode cX4_hasBoat 20 = .ok (.ireturn, 1) := by decide +kernel
theorem dX4_hasOwner_0 : decode cX4_hasOwner 0 = .ok (.iload_n 1, 1) := by decide +kernel
theorem dX4_hasOwner_1 : decode cX4_hasOwner 1 = .ok (.ifCond .lt 12, 3) := by decide +kernel
theorem dX4_hasOwner_4 : decode cX4_hasOwner 4 = .ok (.iload_n 1, 1) := by decide +kernel
theorem dX4_hasOwner_5 : decode cX4_hasOwner 5 = .ok (.iconst 4, 1) := by decide +kernel
theorem dX4_hasOwner_6 : decode cX4_hasOwner 6 = .ok (.if_icmp .ge 7, 3) := by decide +kernel
theorem dX4_hasOwner_9 : decode cX4_hasOwner 9 = .ok (.iconst 1, 1) := by decide +kernel
theorem dX4_hasOwner_10 : decode cX4_hasOwner 10 = .ok (.goto 4, 3) := by decide +kernel
theorem dX4_hasOwner_13 : decode cX4_hasOwner 13 = .ok (.iconst 0, 1) := by decide +kernel
theorem dX4_hasOwner_14 : decode cX4_hasOwner 14 = .ok (.ireturn, 1) := by decide +kernel
theorem dX4_gutterFault_0 : decode cX4_gutterFault 0 = .ok (.aload_n 0, 1) := by decide +kernel
theorem dX4_gutterFault_1 : decode cX4_gutterFault 1 = .ok (.getfield 14, 3) := by decide +kernel
theorem dX4_gutterFault_4 : decode cX4_gutterFault 4 = .ok (.getfield 29, 3) := by decide +kernel
theorem dX4_gutterFault_7 : decode cX4_gutterFault 7 = .ok (.ifCond .le 15, 3) := by decide +kernel
theorem dX4_gutterFault_10 : decode cX4_gutterFault 10 = .ok (.aload_n 0, 1) := by decide +kernel
theorem dX4_gutterFault_11 : decode cX4_gutterFault 11 = .ok (.iload_n 3, 1) := by decide +kernel
theorem dX4_gutterFault_12 : decode cX4_gutterFault 12 = .ok (.iload 4, 2) := by decide +kernel
theorem dX4_gutterFault_14 : decode cX4_gutterFault 14 = .ok (.invokevirtual 75, 3) := by decide +kernel
theorem dX4_gutterFault_17 : decode cX4_gutterFault 17 = .ok (.ifCond .ne 5, 3) := by decide +kernel
theorem dX4_gutterFault_20 : decode cX4_gutterFault 20 = .ok (.iconst 1, 1) := by decide +kernel
theorem dX4_gutterFault_21 : decode cX4_gutterFault 21 = .ok (.ireturn, 1) := by decide +kernel
theorem dX4_gutterFault_22 : decode cX4_gutterFault 22 = .ok (.iload_n 1, 1) := by decide +kernel
theorem dX4_gutterFault_23 : decode cX4_gutterFault 23 = .ok (.iconst 4, 1) := by decide +kernel
theorem dX4_gutterFault_24 : decode cX4_gutterFault 24 = .ok (.if_icmp .lt 18, 3) := by decide +kernel
theorem dX4_gutterFault_27 : decode cX4_gutterFault 27 = .ok (.iload_n 1, 1) := by decide +kernel
theorem dX4_gutterFault_28 : decode cX4_gutterFault 28 = .ok (.bipush 40, 2) := by decide +kernel
theorem dX4_gutterFault_30 : decode cX4_gutterFault 30 = .ok (.if_icmp .gt 12, 3) := by decide +kernel
theorem dX4_gutterFault_33 : decode cX4_gutterFault 33 = .ok (.iload_n 2, 1) := by decide +kernel
theorem dX4_gutterFault_34 : decode cX4_gutterFault 34 = .ok (.ifCond .lt 8, 3) := by decide +kernel
theorem dX4_gutterFault_37 : decode cX4_gutterFault 37 = .ok (.iload_n 2, 1) := by decide +kernel
theorem dX4_gutterFault_38 : decode cX4_gutterFault 38 = .ok (.iconst 5, 1) := by decide +kernel
theorem dX4_gutterFault_39 : decode cX4_gutterFault 39 = .ok (.if_icmp .le 5, 3) := by decide +kernel
theorem dX4_gutterFault_42 : decode cX4_gutterFault 42 = .ok (.iconst 2, 1) := by decide +kernel
theorem dX4_gutterFault_43 : decode cX4_gutterFault 43 = .ok (.ireturn, 1) := by decide +kernel
theorem dX4_gutterFault_44 : decode cX4_gutterFault 44 = .ok (.aload_n 0, 1) := by decide +kernel
theorem dX4_gutterFault_45 : decode cX4_gutterFault 45 = .ok (.getfield 14, 3) := by decide +kernel
theorem dX4_gutterFault_48 : decode cX4_gutterFault 48 = .ok (.getfield 29, 3) := by decide +kernel
theorem dX4_gutterFault_51 : decode cX4_gutterFault 51 = .ok (.bipush 6, 2) := by decide +kernel
theorem dX4_gutterFault_53 : decode cX4_gutterFault 53 = .ok (.if_icmp .lt 7, 3) := by decide +kernel
theorem dX4_gutterFault_56 : decode cX4_gutterFault 56 = .ok (.iconst 3, 1) := by decide +kernel
theorem dX4_gutterFault_57 : decode cX4_gutterFault 57 = .ok (.goto 4, 3) := by decide +kernel
theorem dX4_gutterFault_60 : decode cX4_gutterFault 60 = .ok (.iconst 0, 1) := by decide +kernel
theorem dX4_gutterFault_61 : decode cX4_gutterFault 61 = .ok (.ireturn, 1) := by decide +kernel
theorem dX4_boatFault_0 : decode cX4_boatFault 0 = .ok (.aload_n 0, 1) := by decide +kernel
theorem dX4_boatFault_1 : decode cX4_boatFault 1 = .ok (.iload_n 3, 1) := by decide +kernel
theorem dX4_boatFault_2 : decode cX4_boatFault 2 = .ok (.invokevirtual 79, 3) := by decide +kernel
theorem dX4_boatFault_5 : decode cX4_boatFault 5 = .ok (.ifCond .ne 5, 3) := by decide +kernel
theorem dX4_boatFault_8 : decode cX4_boatFault 8 = .ok (.iconst 1, 1) := by decide +kernel
theorem dX4_boatFault_9 : decode cX4_boatFault 9 = .ok (.ireturn, 1) := by decide +kernel
theorem dX4_boatFault_10 : decode cX4_boatFault 10 = .ok (.iload_n 1, 1) := by decide +kernel
theorem dX4_boatFault_11 : decode cX4_boatFault 11 = .ok (.iconst 1, 1) := by decide +kernel
theorem dX4_boatFault_12 : decode cX4_boatFault 12 = .ok (.if_icmp .lt 18, 3) := by decide +kernel
theorem dX4_boatFault_15 : decode cX4_boatFault 15 = .ok (.iload_n 1, 1) := by decide +kernel
theorem dX4_boatFault_16 : decode cX4_boatFault 16 = .ok (.bipush 9, 2) := by decide +kernel
theorem dX4_boatFault_18 : decode cX4_boatFault 18 = .ok (.if_icmp .gt 12, 3) := by decide +kernel
theorem dX4_boatFault_21 : decode cX4_boatFault 21 = .ok (.iload_n 2, 1) := by decide +kernel
theorem dX4_boatFault_22 : decode cX4_boatFault 22 = .ok (.ifCond .lt 8, 3) := by decide +kernel
theorem dX4_boatFault_25 : decode cX4_boatFault 25 = .ok (.iload_n 2, 1) := by decide +kernel
theorem dX4_boatFault_26 : decode cX4_boatFault 26 = .ok (.iconst 3, 1) := by decide +kernel
theorem dX4_boatFault_27 : decode cX4_boatFault 27 = .ok (.if_icmp .le 5, 3) := by decide +kernel
theorem dX4_boatFault_30 : decode cX4_boatFault 30 = .ok (.iconst 2, 1) := by decide +kernel
theorem dX4_boatFault_31 : decode cX4_boatFault 31 = .ok (.ireturn, 1) := by decide +kernel
theorem dX4_boatFault_32 : decode cX4_boatFault 32 = .ok (.aload_n 0, 1) := by decide +kernel
theorem dX4_boatFault_33 : decode cX4_boatFault 33 = .ok (.getfield 20, 3) := by decide +kernel
theorem dX4_boatFault_36 : decode cX4_boatFault 36 = .ok (.getfield 29, 3) := by decide +kernel
theorem dX4_boatFault_39 : decode cX4_boatFault 39 = .ok (.bipush 10, 2) := by decide +kernel
theorem dX4_boatFault_41 : decode cX4_boatFault 41 = .ok (.if_icmp .lt 7, 3) := by decide +kernel
theorem dX4_boatFault_44 : decode cX4_boatFault 44 = .ok (.iconst 3, 1) := by decide +kernel
theorem dX4_boatFault_45 : decode cX4_boatFault 45 = .ok (.goto 4, 3) := by decide +kernel
theorem dX4_boatFault_48 : decode cX4_boatFault 48 = .ok (.iconst 0, 1) := by decide +kernel
theorem dX4_boatFault_49 : decode cX4_boatFault 49 = .ok (.ireturn, 1) := by decide +kernel
theorem dX4_launchFault_0 : decode cX4_launchFault 0 = .ok (.aload_n 0, 1) := by decide +kernel
theorem dX4_launchFault_1 : decode cX4_launchFault 1 = .ok (.iload_n 1, 1) := by decide +kernel
theorem dX4_launchFault_2 : decode cX4_launchFault 2 = .ok (.invokevirtual 82, 3) := by decide +kernel
theorem dX4_launchFault_5 : decode cX4_launchFault 5 = .ok (.ifCond .eq 11, 3) := by decide +kernel
theorem dX4_launchFault_8 : decode cX4_launchFault 8 = .ok (.aload_n 0, 1) := by decide +kernel
theorem dX4_launchFault_9 : decode cX4_launchFault 9 = .ok (.iload_n 2, 1) := by decide +kernel
theorem dX4_launchFault_10 : decode cX4_launchFault 10 = .ok (.invokevirtual 67, 3) := by decide +kernel
theorem dX4_launchFault_13 : decode cX4_launchFault 13 = .ok (.ifCond .ne 5, 3) := by decide +kernel
theorem dX4_launchFault_16 : decode cX4_launchFault 16 = .ok (.iconst 1, 1) := by decide +kernel
theorem dX4_launchFault_17 : decode cX4_launchFault 17 = .ok (.ireturn, 1) := by decide +kernel
theorem dX4_launchFault_18 : decode cX4_launchFault 18 = .ok (.aload_n 0, 1) := by decide +kernel
theorem dX4_launchFault_19 : decode cX4_launchFault 19 = .ok (.getfield 20, 3) := by decide +kernel
theorem dX4_launchFault_22 : decode cX4_launchFault 22 = .ok (.iload_n 1, 1) := by decide +kernel
theorem dX4_launchFault_23 : decode cX4_launchFault 23 = .ok (.iconst 3, 1) := by decide +kernel
theorem dX4_launchFault_24 : decode cX4_launchFault 24 = .ok (.invokevirtual 71, 3) := by decide +kernel
theorem dX4_launchFault_27 : decode cX4_launchFault 27 = .ok (.ifCond .eq 7, 3) := by decide +kernel
theorem dX4_launchFault_30 : decode cX4_launchFault 30 = .ok (.iconst 3, 1) := by decide +kernel
theorem dX4_launchFault_31 : decode cX4_launchFault 31 = .ok (.goto 4, 3) := by decide +kernel
theorem dX4_launchFault_34 : decode cX4_launchFault 34 = .ok (.iconst 0, 1) := by decide +kernel
theorem dX4_launchFault_35 : decode cX4_launchFault 35 = .ok (.ireturn, 1) := by decide +kernel
theorem dX4_hookFault_0 : decode cX4_hookFault 0 = .ok (.aload_n 0, 1) := by decide +kernel
theorem dX4_hookFault_1 : decode cX4_hookFault 1 = .ok (.iload_n 1, 1) := by decide +kernel
theorem dX4_hookFault_2 : decode cX4_hookFault 2 = .ok (.invokevirtual 79, 3) := by decide +kernel
theorem dX4_hookFault_5 : decode cX4_hookFault 5 = .ok (.ifCond .eq 16, 3) := by decide +kernel
theorem dX4_hookFault_8 : decode cX4_hookFault 8 = .ok (.aload_n 0, 1) := by decide +kernel
theorem dX4_hookFault_9 : decode cX4_hookFault 9 = .ok (.iload_n 2, 1) := by decide +kernel
theorem dX4_hookFault_10 : decode cX4_hookFault 10 = .ok (.iload_n 3, 1) := by decide +kernel
theorem dX4_hookFault_11 : decode cX4_hookFault 11 = .ok (.invokevirtual 75, 3) := by decide +kernel
theorem dX4_hookFault_14 : decode cX4_hookFault 14 = .ok (.ifCond .eq 7, 3) := by decide +kernel
theorem dX4_hookFault_17 : decode cX4_hookFault 17 = .ok (.iconst 0, 1) := by decide +kernel
theorem dX4_hookFault_18 : decode cX4_hookFault 18 = .ok (.goto 4, 3) := by decide +kernel
theorem dX4_hookFault_21 : decode cX4_hookFault 21 = .ok (.iconst 1, 1) := by decide +kernel
theorem dX4_hookFault_22 : decode cX4_hookFault 22 = .ok (.ireturn, 1) := by decide +kernel
theorem dX4_claimFault_0 : decode cX4_claimFault 0 = .ok (.aload_n 0, 1) := by decide +kernel
theorem dX4_claimFault_1 : decode cX4_claimFault 1 = .ok (.iload_n 1, 1) := by decide +kernel
theorem dX4_claimFault_2 : decode cX4_claimFault 2 = .ok (.invokevirtual 79, 3) := by decide +kernel
theorem dX4_claimFault_5 : decode cX4_claimFault 5 = .ok (.ifCond .eq 15, 3) := by decide +kernel
theorem dX4_claimFault_8 : decode cX4_claimFault 8 = .ok (.aload_n 0, 1) := by decide +kernel
theorem dX4_claimFault_9 : decode cX4_claimFault 9 = .ok (.iload_n 2, 1) := by decide +kernel
theorem dX4_claimFault_10 : decode cX4_claimFault 10 = .ok (.invokevirtual 82, 3) := by decide +kernel
theorem dX4_claimFault_13 : decode cX4_claimFault 13 = .ok (.ifCond .eq 7, 3) := by decide +kernel
theorem dX4_claimFault_16 : decode cX4_claimFault 16 = .ok (.iconst 0, 1) := by decide +kernel
theorem dX4_claimFault_17 : decode cX4_claimFault 17 = .ok (.goto 4, 3) := by decide +kernel
theorem dX4_claimFault_20 : decode cX4_claimFault 20 = .ok (.iconst 1, 1) := by decide +kernel
theorem dX4_claimFault_21 : decode cX4_claimFault 21 = .ok (.ireturn, 1) := by decide +kernel
theorem dX4_minutesFault_0 : decode cX4_minutesFault 0 = .ok (.iload_n 1, 1) := by decide +kernel
theorem dX4_minutesFault_1 : decode cX4_minutesFault 1 = .ok (.iconst 1, 1) := by decide +kernel
theorem dX4_minutesFault_2 : decode cX4_minutesFault 2 = .ok (.if_icmp .lt 9, 3) := by decide +kernel
theorem dX4_minutesFault_5 : decode cX4_minutesFault 5 = .ok (.iload_n 1, 1) := by decide +kernel
theorem dX4_minutesFault_6 : decode cX4_minutesFault 6 = .ok (.bipush 60, 2) := by decide +kernel
theorem dX4_minutesFault_8 : decode cX4_minutesFault 8 = .ok (.if_icmp .le 7, 3) := by decide +kernel
theorem dX4_minutesFault_11 : decode cX4_minutesFault 11 = .ok (.iconst 2, 1) := by decide +kernel
theorem dX4_minutesFault_12 : decode cX4_minutesFault 12 = .ok (.goto 4, 3) := by decide +kernel
theorem dX4_minutesFault_15 : decode cX4_minutesFault 15 = .ok (.iconst 0, 1) := by decide +kernel
theorem dX4_minutesFault_16 : decode cX4_minutesFault 16 = .ok (.ireturn, 1) := by decide +kernel
theorem dX4_settingFault_0 : decode cX4_settingFault 0 = .ok (.iload_n 1, 1) := by decide +kernel
theorem dX4_settingFault_1 : decode cX4_settingFault 1 = .ok (.ifCond .lt 8, 3) := by decide +kernel
theorem dX4_settingFault_4 : decode cX4_settingFault 4 = .ok (.iload_n 1, 1) := by decide +kernel
theorem dX4_settingFault_5 : decode cX4_settingFault 5 = .ok (.iconst 2, 1) := by decide +kernel
theorem dX4_settingFault_6 : decode cX4_settingFault 6 = .ok (.if_icmp .le 5, 3) := by decide +kernel
theorem dX4_settingFault_9 : decode cX4_settingFault 9 = .ok (.iconst 2, 1) := by decide +kernel
theorem dX4_settingFault_10 : decode cX4_settingFault 10 = .ok (.ireturn, 1) := by decide +kernel
theorem dX4_settingFault_11 : decode cX4_settingFault 11 = .ok (.iload_n 1, 1) := by decide +kernel
theorem dX4_settingFault_12 : decode cX4_settingFault 12 = .ok (.iconst 1, 1) := by decide +kernel
theorem dX4_settingFault_13 : decode cX4_settingFault 13 = .ok (.if_icmp .ne 7, 3) := by decide +kernel
theorem dX4_settingFault_16 : decode cX4_settingFault 16 = .ok (.iconst 1, 1) := by decide +kernel
theorem dX4_settingFault_17 : decode cX4_settingFault 17 = .ok (.goto 4, 3) := by decide +kernel
theorem dX4_settingFault_20 : decode cX4_settingFault 20 = .ok (.iconst 0, 1) := by decide +kernel
theorem dX4_settingFault_21 : decode cX4_settingFault 21 = .ok (.istore_n 3, 1) := by decide +kernel
theorem dX4_settingFault_22 : decode cX4_settingFault 22 = .ok (.iload_n 1, 1) := by decide +kernel
theorem dX4_settingFault_23 : decode cX4_settingFault 23 = .ok (.ifCond .ne 7, 3) := by decide +kernel
theorem dX4_settingFault_26 : decode cX4_settingFault 26 = .ok (.iconst 3, 1) := by decide +kernel
theorem dX4_settingFault_27 : decode cX4_settingFault 27 = .ok (.goto 5, 3) := by decide +kernel
theorem dX4_settingFault_30 : decode cX4_settingFault 30 = .ok (.bipush 9, 2) := by decide +kernel
theorem dX4_settingFault_32 : decode cX4_settingFault 32 = .ok (.istore 4, 2) := by decide +kernel
theorem dX4_settingFault_34 : decode cX4_settingFault 34 = .ok (.iload_n 2, 1) := by decide +kernel
theorem dX4_settingFault_35 : decode cX4_settingFault 35 = .ok (.iload_n 3, 1) := by decide +kernel
theorem dX4_settingFault_36 : decode cX4_settingFault 36 = .ok (.if_icmp .lt 9, 3) := by decide +kernel
theorem dX4_settingFault_39 : decode cX4_settingFault 39 = .ok (.iload_n 2, 1) := by decide +kernel
theorem dX4_settingFault_40 : decode cX4_settingFault 40 = .ok (.iload 4, 2) := by decide +kernel
theorem dX4_settingFault_42 : decode cX4_settingFault 42 = .ok (.if_icmp .le 7, 3) := by decide +kernel
theorem dX4_settingFault_45 : decode cX4_settingFault 45 = .ok (.iconst 2, 1) := by decide +kernel
theorem dX4_settingFault_46 : decode cX4_settingFault 46 = .ok (.goto 4, 3) := by decide +kernel
theorem dX4_settingFault_49 : decode cX4_settingFault 49 = .ok (.iconst 0, 1) := by decide +kernel
theorem dX4_settingFault_50 : decode cX4_settingFault 50 = .ok (.ireturn, 1) := by decide +kernel
theorem dX4_perform_0 : decode cX4_perform 0 = .ok (.iload_n 1, 1) := by decide +kernel
theorem dX4_perform_1 : decode cX4_perform 1 = .ok (.tableswitch 273 98 115 #[119, 216, 273, 273, 273, 87, 193, 273, 273, 273, 147, 171, 273, 273, 273, 273, 273, 249], 87) := by decide +kernel
theorem dX4_perform_88 : decode cX4_perform 88 = .ok (.aload_n 0, 1) := by decide +kernel
theorem dX4_perform_89 : decode cX4_perform 89 = .ok (.iload_n 2, 1) := by decide +kernel
theorem dX4_perform_90 : decode cX4_perform 90 = .ok (.iload_n 3, 1) := by decide +kernel
theorem dX4_perform_91 : decode cX4_perform 91 = .ok (.iload 4, 2) := by decide +kernel
theorem dX4_perform_93 : decode cX4_perform 93 = .ok (.iload 5, 2) := by decide +kernel
theorem dX4_perform_95 : decode cX4_perform 95 = .ok (.invokevirtual 85, 3) := by decide +kernel
theorem dX4_perform_98 : decode cX4_perform 98 = .ok (.ifCond .ne 20, 3) := by decide +kernel
theorem dX4_perform_101 : decode cX4_perform 101 = .ok (.aload_n 0, 1) := by decide +kernel
theorem dX4_perform_102 : decode cX4_perform 102 = .ok (.iload_n 2, 1) := by decide +kernel
theorem dX4_perform_103 : decode cX4_perform 103 = .ok (.iload_n 3, 1) := by decide +kernel
theorem dX4_perform_104 : decode cX4_perform 104 = .ok (.iload 4, 2) := by decide +kernel
theorem dX4_perform_106 : decode cX4_perform 106 = .ok (.iload 5, 2) := by decide +kernel
theorem dX4_perform_108 : decode cX4_perform 108 = .ok (.invokevirtual 89, 3) := by decide +kernel
theorem dX4_perform_111 : decode cX4_perform 111 = .ok (.ifCond .lt 7, 3) := by decide +kernel
theorem dX4_perform_114 : decode cX4_perform 114 = .ok (.iconst 1, 1) := by decide +kernel
theorem dX4_perform_115 : decode cX4_perform 115 = .ok (.goto 4, 3) := by decide +kernel
theorem dX4_perform_118 : decode cX4_perform 118 = .ok (.iconst 0, 1) := by decide +kernel
theorem dX4_perform_119 : decode cX4_perform 119 = .ok (.ireturn, 1) := by decide +kernel
theorem dX4_perform_120 : decode cX4_perform 120 = .ok (.aload_n 0, 1) := by decide +kernel
theorem dX4_perform_121 : decode cX4_perform 121 = .ok (.iload_n 2, 1) := by decide +kernel
theorem dX4_perform_122 : decode cX4_perform 122 = .ok (.iload_n 3, 1) := by decide +kernel
theorem dX4_perform_123 : decode cX4_perform 123 = .ok (.iload 4, 2) := by decide +kernel
theorem dX4_perform_125 : decode cX4_perform 125 = .ok (.invokevirtual 92, 3) := by decide +kernel
theorem dX4_perform_128 : decode cX4_perform 128 = .ok (.ifCond .ne 18, 3) := by decide +kernel
theorem dX4_perform_131 : decode cX4_perform 131 = .ok (.aload_n 0, 1) := by decide +kernel
theorem dX4_perform_132 : decode cX4_perform 132 = .ok (.iload_n 2, 1) := by decide +kernel
theorem dX4_perform_133 : decode cX4_perform 133 = .ok (.iload_n 3, 1) := by decide +kernel
theorem dX4_perform_134 : decode cX4_perform 134 = .ok (.iload 4, 2) := by decide +kernel
theorem dX4_perform_136 : decode cX4_perform 136 = .ok (.invokevirtual 96, 3) := by decide +kernel
theorem dX4_perform_139 : decode cX4_perform 139 = .ok (.ifCond .lt 7, 3) := by decide +kernel
theorem dX4_perform_142 : decode cX4_perform 142 = .ok (.iconst 1, 1) := by decide +kernel
theorem dX4_perform_143 : decode cX4_perform 143 = .ok (.goto 4, 3) := by decide +kernel
theorem dX4_perform_146 : decode cX4_perform 146 = .ok (.iconst 0, 1) := by decide +kernel
theorem dX4_perform_147 : decode cX4_perform 147 = .ok (.ireturn, 1) := by decide +kernel
theorem dX4_perform_148 : decode cX4_perform 148 = .ok (.aload_n 0, 1) := by decide +kernel
theorem dX4_perform_149 : decode cX4_perform 149 = .ok (.iload_n 2, 1) := by decide +kernel
theorem dX4_perform_150 : decode cX4_perform 150 = .ok (.iload_n 3, 1) := by decide +kernel
theorem dX4_perform_151 : decode cX4_perform 151 = .ok (.invokevirtual 99, 3) := by decide +kernel
theorem dX4_perform_154 : decode cX4_perform 154 = .ok (.ifCond .ne 16, 3) := by decide +kernel
theorem dX4_perform_157 : decode cX4_perform 157 = .ok (.aload_n 0, 1) := by decide +kernel
theorem dX4_perform_158 : decode cX4_perform 158 = .ok (.iload_n 2, 1) := by decide +kernel
theorem dX4_perform_159 : decode cX4_perform 159 = .ok (.iload_n 3, 1) := by decide +kernel
theorem dX4_perform_160 : decode cX4_perform 160 = .ok (.invokevirtual 102, 3) := by decide +kernel
theorem dX4_perform_163 : decode cX4_perform 163 = .ok (.ifCond .lt 7, 3) := by decide +kernel
theorem dX4_perform_166 : decode cX4_perform 166 = .ok (.iconst 1, 1) := by decide +kernel
theorem dX4_perform_167 : decode cX4_perform 167 = .ok (.goto 4, 3) := by decide +kernel
theorem dX4_perform_170 : decode cX4_perform 170 = .ok (.iconst 0, 1) := by decide +kernel
theorem dX4_perform_171 : decode cX4_perform 171 = .ok (.ireturn, 1) := by decide +kernel
theorem dX4_perform_172 : decode cX4_perform 172 = .ok (.aload_n 0, 1) := by decide +kernel
theorem dX4_perform_173 : decode cX4_perform 173 = .ok (.iload_n 2, 1) := by decide +kernel
theorem dX4_perform_174 : decode cX4_perform 174 = .ok (.invokevirtual 105, 3) := by decide +kernel
theorem dX4_perform_177 : decode cX4_perform 177 = .ok (.ifCond .ne 15, 3) := by decide +kernel
theorem dX4_perform_180 : decode cX4_perform 180 = .ok (.aload_n 0, 1) := by decide +kernel
theorem dX4_perform_181 : decode cX4_perform 181 = .ok (.iload_n 2, 1) := by decide +kernel
theorem dX4_perform_182 : decode cX4_perform 182 = .ok (.invokevirtual 109, 3) := by decide +kernel
theorem dX4_perform_185 : decode cX4_perform 185 = .ok (.ifCond .lt 7, 3) := by decide +kernel
theorem dX4_perform_188 : decode cX4_perform 188 = .ok (.iconst 1, 1) := by decide +kernel
theorem dX4_perform_189 : decode cX4_perform 189 = .ok (.goto 4, 3) := by decide +kernel
theorem dX4_perform_192 : decode cX4_perform 192 = .ok (.iconst 0, 1) := by decide +kernel
theorem dX4_perform_193 : decode cX4_perform 193 = .ok (.ireturn, 1) := by decide +kernel
theorem dX4_perform_194 : decode cX4_perform 194 = .ok (.aload_n 0, 1) := by decide +kernel
theorem dX4_perform_195 : decode cX4_perform 195 = .ok (.iload_n 2, 1) := by decide +kernel
theorem dX4_perform_196 : decode cX4_perform 196 = .ok (.iload_n 3, 1) := by decide +kernel
theorem dX4_perform_197 : decode cX4_perform 197 = .ok (.iload 4, 2) := by decide +kernel
theorem dX4_perform_199 : decode cX4_perform 199 = .ok (.invokevirtual 112, 3) := by decide +kernel
theorem dX4_perform_202 : decode cX4_perform 202 = .ok (.ifCond .eq 5, 3) := by decide +kernel
theorem dX4_perform_205 : decode cX4_perform 205 = .ok (.iconst 0, 1) := by decide +kernel
theorem dX4_perform_206 : decode cX4_perform 206 = .ok (.ireturn, 1) := by decide +kernel
theorem dX4_perform_207 : decode cX4_perform 207 = .ok (.aload_n 0, 1) := by decide +kernel
theorem dX4_perform_208 : decode cX4_perform 208 = .ok (.iload_n 2, 1) := by decide +kernel
theorem dX4_perform_209 : decode cX4_perform 209 = .ok (.iload_n 3, 1) := by decide +kernel
theorem dX4_perform_210 : decode cX4_perform 210 = .ok (.iload 4, 2) := by decide +kernel
theorem dX4_perform_212 : decode cX4_perform 212 = .ok (.invokevirtual 115, 3) := by decide +kernel
theorem dX4_perform_215 : decode cX4_perform 215 = .ok (.iconst 1, 1) := by decide +kernel
theorem dX4_perform_216 : decode cX4_perform 216 = .ok (.ireturn, 1) := by decide +kernel
theorem dX4_perform_217 : decode cX4_perform 217 = .ok (.aload_n 0, 1) := by decide +kernel
theorem dX4_perform_218 : decode cX4_perform 218 = .ok (.iload_n 2, 1) := by decide +kernel
theorem dX4_perform_219 : decode cX4_perform 219 = .ok (.iload_n 3, 1) := by decide +kernel
theorem dX4_perform_220 : decode cX4_perform 220 = .ok (.invokevirtual 118, 3) := by decide +kernel
theorem dX4_perform_223 : decode cX4_perform 223 = .ok (.ifCond .ne 25, 3) := by decide +kernel
theorem dX4_perform_226 : decode cX4_perform 226 = .ok (.aload_n 0, 1) := by decide +kernel
theorem dX4_perform_227 : decode cX4_perform 227 = .ok (.iload_n 2, 1) := by decide +kernel
theorem dX4_perform_228 : decode cX4_perform 228 = .ok (.iload_n 3, 1) := by decide +kernel
theorem dX4_perform_229 : decode cX4_perform 229 = .ok (.invokevirtual 121, 3) := by decide +kernel
theorem dX4_perform_232 : decode cX4_perform 232 = .ok (.ifCond .ne 16, 3) := by decide +kernel
theorem dX4_perform_235 : decode cX4_perform 235 = .ok (.aload_n 0, 1) := by decide +kernel
theorem dX4_perform_236 : decode cX4_perform 236 = .ok (.iload_n 2, 1) := by decide +kernel
theorem dX4_perform_237 : decode cX4_perform 237 = .ok (.iload_n 3, 1) := by decide +kernel
theorem dX4_perform_238 : decode cX4_perform 238 = .ok (.invokevirtual 124, 3) := by decide +kernel
theorem dX4_perform_241 : decode cX4_perform 241 = .ok (.ifCond .lt 7, 3) := by decide +kernel
theorem dX4_perform_244 : decode cX4_perform 244 = .ok (.iconst 1, 1) := by decide +kernel
theorem dX4_perform_245 : decode cX4_perform 245 = .ok (.goto 4, 3) := by decide +kernel
theorem dX4_perform_248 : decode cX4_perform 248 = .ok (.iconst 0, 1) := by decide +kernel
theorem dX4_perform_249 : decode cX4_perform 249 = .ok (.ireturn, 1) := by decide +kernel
theorem dX4_perform_250 : decode cX4_perform 250 = .ok (.aload_n 0, 1) := by decide +kernel
theorem dX4_perform_251 : decode cX4_perform 251 = .ok (.iload_n 2, 1) := by decide +kernel
theorem dX4_perform_252 : decode cX4_perform 252 = .ok (.iload_n 3, 1) := by decide +kernel
theorem dX4_perform_253 : decode cX4_perform 253 = .ok (.invokevirtual 127, 3) := by decide +kernel
theorem dX4_perform_256 : decode cX4_perform 256 = .ok (.ifCond .ne 16, 3) := by decide +kernel
theorem dX4_perform_259 : decode cX4_perform 259 = .ok (.aload_n 0, 1) := by decide +kernel
theorem dX4_perform_260 : decode cX4_perform 260 = .ok (.iload_n 2, 1) := by decide +kernel
theorem dX4_perform_261 : decode cX4_perform 261 = .ok (.iload_n 3, 1) := by decide +kernel
theorem dX4_perform_262 : decode cX4_perform 262 = .ok (.invokevirtual 130, 3) := by decide +kernel
theorem dX4_perform_265 : decode cX4_perform 265 = .ok (.ifCond .lt 7, 3) := by decide +kernel
theorem dX4_perform_268 : decode cX4_perform 268 = .ok (.iconst 1, 1) := by decide +kernel
theorem dX4_perform_269 : decode cX4_perform 269 = .ok (.goto 4, 3) := by decide +kernel
theorem dX4_perform_272 : decode cX4_perform 272 = .ok (.iconst 0, 1) := by decide +kernel
theorem dX4_perform_273 : decode cX4_perform 273 = .ok (.ireturn, 1) := by decide +kernel
theorem dX4_perform_274 : decode cX4_perform 274 = .ok (.iconst 0, 1) := by decide +kernel
theorem dX4_perform_275 : decode cX4_perform 275 = .ok (.ireturn, 1) := by decide +kernel
theorem dX4_addGutter_0 : decode cX4_addGutter 0 = .ok (.aload_n 0, 1) := by decide +kernel
theorem dX4_addGutter_1 : decode cX4_addGutter 1 = .ok (.getfield 14, 3) := by decide +kernel
theorem dX4_addGutter_4 : decode cX4_addGutter 4 = .ok (.invokevirtual 33, 3) := by decide +kernel
theorem dX4_addGutter_7 : decode cX4_addGutter 7 = .ok (.istore 5, 2) := by decide +kernel
theorem dX4_addGutter_9 : decode cX4_addGutter 9 = .ok (.aload_n 0, 1) := by decide +kernel
theorem dX4_addGutter_10 : decode cX4_addGutter 10 = .ok (.getfield 14, 3) := by decide +kernel
theorem dX4_addGutter_13 : decode cX4_addGutter 13 = .ok (.iload 5, 2) := by decide +kernel
theorem dX4_addGutter_15 : decode cX4_addGutter 15 = .ok (.iconst 0, 1) := by decide +kernel
theorem dX4_addGutter_16 : decode cX4_addGutter 16 = .ok (.iload_n 1, 1) := by decide +kernel
theorem dX4_addGutter_17 : decode cX4_addGutter 17 = .ok (.invokevirtual 37, 3) := by decide +kernel
theorem dX4_addGutter_20 : decode cX4_addGutter 20 = .ok (.aload_n 0, 1) := by decide +kernel
theorem dX4_addGutter_21 : decode cX4_addGutter 21 = .ok (.getfield 14, 3) := by decide +kernel
theorem dX4_addGutter_24 : decode cX4_addGutter 24 = .ok (.iload 5, 2) := by decide +kernel
theorem dX4_addGutter_26 : decode cX4_addGutter 26 = .ok (.iconst 1, 1) := by decide +kernel
theorem dX4_addGutter_27 : decode cX4_addGutter 27 = .ok (.iload_n 2, 1) := by decide +kernel
theorem dX4_addGutter_28 : decode cX4_addGutter 28 = .ok (.invokevirtual 37, 3) := by decide +kernel
theorem dX4_addGutter_31 : decode cX4_addGutter 31 = .ok (.aload_n 0, 1) := by decide +kernel
theorem dX4_addGutter_32 : decode cX4_addGutter 32 = .ok (.getfield 14, 3) := by decide +kernel
theorem dX4_addGutter_35 : decode cX4_addGutter 35 = .ok (.iload 5, 2) := by decide +kernel
theorem dX4_addGutter_37 : decode cX4_addGutter 37 = .ok (.iconst 2, 1) := by decide +kernel
theorem dX4_addGutter_38 : decode cX4_addGutter 38 = .ok (.iload 5, 2) := by decide +kernel
theorem dX4_addGutter_40 : decode cX4_addGutter 40 = .ok (.ifCond .ne 7, 3) := by decide +kernel
theorem dX4_addGutter_43 : decode cX4_addGutter 43 = .ok (.iconst (-1), 1) := by decide +kernel
theorem dX4_addGutter_44 : decode cX4_addGutter 44 = .ok (.goto 4, 3) := by decide +kernel
theorem dX4_addGutter_47 : decode cX4_addGutter 47 = .ok (.iload_n 3, 1) := by decide +kernel
theorem dX4_addGutter_48 : decode cX4_addGutter 48 = .ok (.invokevirtual 37, 3) := by decide +kernel
theorem dX4_addGutter_51 : decode cX4_addGutter 51 = .ok (.aload_n 0, 1) := by decide +kernel
theorem dX4_addGutter_52 : decode cX4_addGutter 52 = .ok (.getfield 14, 3) := by decide +kernel
theorem dX4_addGutter_55 : decode cX4_addGutter 55 = .ok (.iload 5, 2) := by decide +kernel
theorem dX4_addGutter_57 : decode cX4_addGutter 57 = .ok (.iconst 3, 1) := by decide +kernel
theorem dX4_addGutter_58 : decode cX4_addGutter 58 = .ok (.iload 5, 2) := by decide +kernel
theorem dX4_addGutter_60 : decode cX4_addGutter 60 = .ok (.ifCond .ne 7, 3) := by decide +kernel
theorem dX4_addGutter_63 : decode cX4_addGutter 63 = .ok (.iconst (-1), 1) := by decide +kernel
theorem dX4_addGutter_64 : decode cX4_addGutter 64 = .ok (.goto 5, 3) := by decide +kernel
theorem dX4_addGutter_67 : decode cX4_addGutter 67 = .ok (.iload 4, 2) := by decide +kernel
theorem dX4_addGutter_69 : decode cX4_addGutter 69 = .ok (.invokevirtual 37, 3) := by decide +kernel
theorem dX4_addGutter_72 : decode cX4_addGutter 72 = .ok (.iload 5, 2) := by decide +kernel
theorem dX4_addGutter_74 : decode cX4_addGutter 74 = .ok (.ireturn, 1) := by decide +kernel
theorem dX4_addBoat_0 : decode cX4_addBoat 0 = .ok (.aload_n 0, 1) := by decide +kernel
theorem dX4_addBoat_1 : decode cX4_addBoat 1 = .ok (.getfield 20, 3) := by decide +kernel
theorem dX4_addBoat_4 : decode cX4_addBoat 4 = .ok (.invokevirtual 33, 3) := by decide +kernel
theorem dX4_addBoat_7 : decode cX4_addBoat 7 = .ok (.istore 4, 2) := by decide +kernel
theorem dX4_addBoat_9 : decode cX4_addBoat 9 = .ok (.aload_n 0, 1) := by decide +kernel
theorem dX4_addBoat_10 : decode cX4_addBoat 10 = .ok (.getfield 20, 3) := by decide +kernel
theorem dX4_addBoat_13 : decode cX4_addBoat 13 = .ok (.iload 4, 2) := by decide +kernel
theorem dX4_addBoat_15 : decode cX4_addBoat 15 = .ok (.iconst 0, 1) := by decide +kernel
theorem dX4_addBoat_16 : decode cX4_addBoat 16 = .ok (.iload_n 1, 1) := by decide +kernel
theorem dX4_addBoat_17 : decode cX4_addBoat 17 = .ok (.invokevirtual 37, 3) := by decide +kernel
theorem dX4_addBoat_20 : decode cX4_addBoat 20 = .ok (.aload_n 0, 1) := by decide +kernel
theorem dX4_addBoat_21 : decode cX4_addBoat 21 = .ok (.getfield 20, 3) := by decide +kernel
theorem dX4_addBoat_24 : decode cX4_addBoat 24 = .ok (.iload 4, 2) := by decide +kernel
theorem dX4_addBoat_26 : decode cX4_addBoat 26 = .ok (.iconst 1, 1) := by decide +kernel
theorem dX4_addBoat_27 : decode cX4_addBoat 27 = .ok (.iload_n 2, 1) := by decide +kernel
theorem dX4_addBoat_28 : decode cX4_addBoat 28 = .ok (.invokevirtual 37, 3) := by decide +kernel
theorem dX4_addBoat_31 : decode cX4_addBoat 31 = .ok (.aload_n 0, 1) := by decide +kernel
theorem dX4_addBoat_32 : decode cX4_addBoat 32 = .ok (.getfield 20, 3) := by decide +kernel
theorem dX4_addBoat_35 : decode cX4_addBoat 35 = .ok (.iload 4, 2) := by decide +kernel
theorem dX4_addBoat_37 : decode cX4_addBoat 37 = .ok (.iconst 2, 1) := by decide +kernel
theorem dX4_addBoat_38 : decode cX4_addBoat 38 = .ok (.iload_n 3, 1) := by decide +kernel
theorem dX4_addBoat_39 : decode cX4_addBoat 39 = .ok (.invokevirtual 37, 3) := by decide +kernel
theorem dX4_addBoat_42 : decode cX4_addBoat 42 = .ok (.aload_n 0, 1) := by decide +kernel
theorem dX4_addBoat_43 : decode cX4_addBoat 43 = .ok (.iload 4, 2) := by decide +kernel
theorem dX4_addBoat_45 : decode cX4_addBoat 45 = .ok (.iconst 0, 1) := by decide +kernel
theorem dX4_addBoat_46 : decode cX4_addBoat 46 = .ok (.invokevirtual 133, 3) := by decide +kernel
theorem dX4_addBoat_49 : decode cX4_addBoat 49 = .ok (.iload 4, 2) := by decide +kernel
theorem dX4_addBoat_51 : decode cX4_addBoat 51 = .ok (.ireturn, 1) := by decide +kernel
theorem dX4_launchBoat_0 : decode cX4_launchBoat 0 = .ok (.aload_n 0, 1) := by decide +kernel
theorem dX4_launchBoat_1 : decode cX4_launchBoat 1 = .ok (.getfield 20, 3) := by decide +kernel
theorem dX4_launchBoat_4 : decode cX4_launchBoat 4 = .ok (.iconst 3, 1) := by decide +kernel
theorem dX4_launchBoat_5 : decode cX4_launchBoat 5 = .ok (.iconst 1, 1) := by decide +kernel
theorem dX4_launchBoat_6 : decode cX4_launchBoat 6 = .ok (.invokevirtual 136, 3) := by decide +kernel
theorem dX4_launchBoat_9 : decode cX4_launchBoat 9 = .ok (.ifCond .ne 30, 3) := by decide +kernel
theorem dX4_launchBoat_12 : decode cX4_launchBoat 12 = .ok (.aload_n 0, 1) := by decide +kernel
theorem dX4_launchBoat_13 : decode cX4_launchBoat 13 = .ok (.getfield 20, 3) := by decide +kernel
theorem dX4_launchBoat_16 : decode cX4_launchBoat 16 = .ok (.iconst 3, 1) := by decide +kernel
theorem dX4_launchBoat_17 : decode cX4_launchBoat 17 = .ok (.iconst 2, 1) := by decide +kernel
theorem dX4_launchBoat_18 : decode cX4_launchBoat 18 = .ok (.invokevirtual 136, 3) := by decide +kernel
theorem dX4_launchBoat_21 : decode cX4_launchBoat 21 = .ok (.ifCond .ne 18, 3) := by decide +kernel
theorem dX4_launchBoat_24 : decode cX4_launchBoat 24 = .ok (.aload_n 0, 1) := by decide +kernel
theorem dX4_launchBoat_25 : decode cX4_launchBoat 25 = .ok (.dup, 1) := by decide +kernel
theorem dX4_launchBoat_26 : decode cX4_launchBoat 26 = .ok (.getfield 53, 3) := by decide +kernel
theorem dX4_launchBoat_29 : decode cX4_launchBoat 29 = .ok (.iconst 1, 1) := by decide +kernel
theorem dX4_launchBoat_30 : decode cX4_launchBoat 30 = .ok (.iadd, 1) := by decide +kernel
theorem dX4_launchBoat_31 : decode cX4_launchBoat 31 = .ok (.putfield 53, 3) := by decide +kernel
theorem dX4_launchBoat_34 : decode cX4_launchBoat 34 = .ok (.aload_n 0, 1) := by decide +kernel
theorem dX4_launchBoat_35 : decode cX4_launchBoat 35 = .ok (.iconst 1, 1) := by decide +kernel
theorem dX4_launchBoat_36 : decode cX4_launchBoat 36 = .ok (.putfield 56, 3) := by decide +kernel
theorem dX4_launchBoat_39 : decode cX4_launchBoat 39 = .ok (.aload_n 0, 1) := by decide +kernel
theorem dX4_launchBoat_40 : decode cX4_launchBoat 40 = .ok (.getfield 20, 3) := by decide +kernel
theorem dX4_launchBoat_43 : decode cX4_launchBoat 43 = .ok (.iload_n 1, 1) := by decide +kernel
theorem dX4_launchBoat_44 : decode cX4_launchBoat 44 = .ok (.iconst 3, 1) := by decide +kernel
theorem dX4_launchBoat_45 : decode cX4_launchBoat 45 = .ok (.iconst 1, 1) := by decide +kernel
theorem dX4_launchBoat_46 : decode cX4_launchBoat 46 = .ok (.invokevirtual 37, 3) := by decide +kernel
theorem dX4_launchBoat_49 : decode cX4_launchBoat 49 = .ok (.aload_n 0, 1) := by decide +kernel
theorem dX4_launchBoat_50 : decode cX4_launchBoat 50 = .ok (.getfield 20, 3) := by decide +kernel
theorem dX4_launchBoat_53 : decode cX4_launchBoat 53 = .ok (.iload_n 1, 1) := by decide +kernel
theorem dX4_launchBoat_54 : decode cX4_launchBoat 54 = .ok (.iconst 4, 1) := by decide +kernel
theorem dX4_launchBoat_55 : decode cX4_launchBoat 55 = .ok (.iload_n 2, 1) := by decide +kernel
theorem dX4_launchBoat_56 : decode cX4_launchBoat 56 = .ok (.invokevirtual 37, 3) := by decide +kernel
theorem dX4_launchBoat_59 : decode cX4_launchBoat 59 = .ok (.aload_n 0, 1) := by decide +kernel
theorem dX4_launchBoat_60 : decode cX4_launchBoat 60 = .ok (.getfield 20, 3) := by decide +kernel
theorem dX4_launchBoat_63 : decode cX4_launchBoat 63 = .ok (.iload_n 1, 1) := by decide +kernel
theorem dX4_launchBoat_64 : decode cX4_launchBoat 64 = .ok (.iconst 5, 1) := by decide +kernel
theorem dX4_launchBoat_65 : decode cX4_launchBoat 65 = .ok (.iconst 0, 1) := by decide +kernel
theorem dX4_launchBoat_66 : decode cX4_launchBoat 66 = .ok (.invokevirtual 37, 3) := by decide +kernel
theorem dX4_launchBoat_69 : decode cX4_launchBoat 69 = .ok (.aload_n 0, 1) := by decide +kernel
theorem dX4_launchBoat_70 : decode cX4_launchBoat 70 = .ok (.getfield 20, 3) := by decide +kernel
theorem dX4_launchBoat_73 : decode cX4_launchBoat 73 = .ok (.iload_n 1, 1) := by decide +kernel
theorem dX4_launchBoat_74 : decode cX4_launchBoat 74 = .ok (.bipush 6, 2) := by decide +kernel
theorem dX4_launchBoat_76 : decode cX4_launchBoat 76 = .ok (.iconst 0, 1) := by decide +kernel
theorem dX4_launchBoat_77 : decode cX4_launchBoat 77 = .ok (.invokevirtual 37, 3) := by decide +kernel
theorem dX4_launchBoat_80 : decode cX4_launchBoat 80 = .ok (.aload_n 0, 1) := by decide +kernel
theorem dX4_launchBoat_81 : decode cX4_launchBoat 81 = .ok (.iload_n 2, 1) := by decide +kernel
theorem dX4_launchBoat_82 : decode cX4_launchBoat 82 = .ok (.iconst 0, 1) := by decide +kernel
theorem dX4_launchBoat_83 : decode cX4_launchBoat 83 = .ok (.invokevirtual 139, 3) := by decide +kernel
theorem dX4_launchBoat_86 : decode cX4_launchBoat 86 = .ok (.ireturn, 1) := by decide +kernel
theorem dX4_putHook_0 : decode cX4_putHook 0 = .ok (.aload_n 0, 1) := by decide +kernel
theorem dX4_putHook_1 : decode cX4_putHook 1 = .ok (.getfield 23, 3) := by decide +kernel
theorem dX4_putHook_4 : decode cX4_putHook 4 = .ok (.iload_n 1, 1) := by decide +kernel
theorem dX4_putHook_5 : decode cX4_putHook 5 = .ok (.iconst 1, 1) := by decide +kernel
theorem dX4_putHook_6 : decode cX4_putHook 6 = .ok (.iload_n 2, 1) := by decide +kernel
theorem dX4_putHook_7 : decode cX4_putHook 7 = .ok (.invokevirtual 37, 3) := by decide +kernel
theorem dX4_putHook_10 : decode cX4_putHook 10 = .ok (.aload_n 0, 1) := by decide +kernel
theorem dX4_putHook_11 : decode cX4_putHook 11 = .ok (.getfield 23, 3) := by decide +kernel
theorem dX4_putHook_14 : decode cX4_putHook 14 = .ok (.iload_n 1, 1) := by decide +kernel
theorem dX4_putHook_15 : decode cX4_putHook 15 = .ok (.iconst 2, 1) := by decide +kernel
theorem dX4_putHook_16 : decode cX4_putHook 16 = .ok (.iload_n 3, 1) := by decide +kernel
theorem dX4_putHook_17 : decode cX4_putHook 17 = .ok (.invokevirtual 37, 3) := by decide +kernel
theorem dX4_putHook_20 : decode cX4_putHook 20 = .ok (.return_, 1) := by decide +kernel
theorem dX4_takeWreck_0 : decode cX4_takeWreck 0 = .ok (.aload_n 0, 1) := by decide +kernel
theorem dX4_takeWreck_1 : decode cX4_takeWreck 1 = .ok (.getfield 20, 3) := by decide +kernel
theorem dX4_takeWreck_4 : decode cX4_takeWreck 4 = .ok (.iload_n 2, 1) := by decide +kernel
theorem dX4_takeWreck_5 : decode cX4_takeWreck 5 = .ok (.iconst 0, 1) := by decide +kernel
theorem dX4_takeWreck_6 : decode cX4_takeWreck 6 = .ok (.invokevirtual 71, 3) := by decide +kernel
theorem dX4_takeWreck_9 : decode cX4_takeWreck 9 = .ok (.istore_n 3, 1) := by decide +kernel
theorem dX4_takeWreck_10 : decode cX4_takeWreck 10 = .ok (.aload_n 0, 1) := by decide +kernel
theorem dX4_takeWreck_11 : decode cX4_takeWreck 11 = .ok (.getfield 23, 3) := by decide +kernel
theorem dX4_takeWreck_14 : decode cX4_takeWreck 14 = .ok (.iload_n 1, 1) := by decide +kernel
theorem dX4_takeWreck_15 : decode cX4_takeWreck 15 = .ok (.iconst 0, 1) := by decide +kernel
theorem dX4_takeWreck_16 : decode cX4_takeWreck 16 = .ok (.iload_n 3, 1) := by decide +kernel
theorem dX4_takeWreck_17 : decode cX4_takeWreck 17 = .ok (.invokevirtual 142, 3) := by decide +kernel
theorem dX4_takeWreck_20 : decode cX4_takeWreck 20 = .ok (.aload_n 0, 1) := by decide +kernel
theorem dX4_takeWreck_21 : decode cX4_takeWreck 21 = .ok (.iload_n 2, 1) := by decide +kernel
theorem dX4_takeWreck_22 : decode cX4_takeWreck 22 = .ok (.iconst 4, 1) := by decide +kernel
theorem dX4_takeWreck_23 : decode cX4_takeWreck 23 = .ok (.invokevirtual 133, 3) := by decide +kernel
theorem dX4_takeWreck_26 : decode cX4_takeWreck 26 = .ok (.iload_n 3, 1) := by decide +kernel
theorem dX4_takeWreck_27 : decode cX4_takeWreck 27 = .ok (.ireturn, 1) := by decide +kernel
theorem dX4_changeSetting_0 : decode cX4_changeSetting 0 = .ok (.aload_n 0, 1) := by decide +kernel
theorem dX4_changeSetting_1 : decode cX4_changeSetting 1 = .ok (.iload_n 1, 1) := by decide +kernel
theorem dX4_changeSetting_2 : decode cX4_changeSetting 2 = .ok (.invokevirtual 145, 3) := by decide +kernel
theorem dX4_changeSetting_5 : decode cX4_changeSetting 5 = .ok (.istore_n 3, 1) := by decide +kernel
theorem dX4_changeSetting_6 : decode cX4_changeSetting 6 = .ok (.iload_n 1, 1) := by decide +kernel
theorem dX4_changeSetting_7 : decode cX4_changeSetting 7 = .ok (.ifCond .ne 11, 3) := by decide +kernel
theorem dX4_changeSetting_10 : decode cX4_changeSetting 10 = .ok (.aload_n 0, 1) := by decide +kernel
theorem dX4_changeSetting_11 : decode cX4_changeSetting 11 = .ok (.iload_n 2, 1) := by decide +kernel
theorem dX4_changeSetting_12 : decode cX4_changeSetting 12 = .ok (.putfield 41, 3) := by decide +kernel
theorem dX4_changeSetting_15 : decode cX4_changeSetting 15 = .ok (.goto 21, 3) := by decide +kernel
theorem dX4_changeSetting_18 : decode cX4_changeSetting 18 = .ok (.iload_n 1, 1) := by decide +kernel
theorem dX4_changeSetting_19 : decode cX4_changeSetting 19 = .ok (.iconst 1, 1) := by decide +kernel
theorem dX4_changeSetting_20 : decode cX4_changeSetting 20 = .ok (.if_icmp .ne 11, 3) := by decide +kernel
theorem dX4_changeSetting_23 : decode cX4_changeSetting 23 = .ok (.aload_n 0, 1) := by decide +kernel
theorem dX4_changeSetting_24 : decode cX4_changeSetting 24 = .ok (.iload_n 2, 1) := by decide +kernel
theorem dX4_changeSetting_25 : decode cX4_changeSetting 25 = .ok (.putfield 44, 3) := by decide +kernel
theorem dX4_changeSetting_28 : decode cX4_changeSetting 28 = .ok (.goto 8, 3) := by decide +kernel
theorem dX4_changeSetting_31 : decode cX4_changeSetting 31 = .ok (.aload_n 0, 1) := by decide +kernel
theorem dX4_changeSetting_32 : decode cX4_changeSetting 32 = .ok (.iload_n 2, 1) := by decide +kernel
theorem dX4_changeSetting_33 : decode cX4_changeSetting 33 = .ok (.putfield 47, 3) := by decide +kernel
theorem dX4_changeSetting_36 : decode cX4_changeSetting 36 = .ok (.iload_n 3, 1) := by decide +kernel
theorem dX4_changeSetting_37 : decode cX4_changeSetting 37 = .ok (.ireturn, 1) := by decide +kernel
theorem dX4_settingNow_0 : decode cX4_settingNow 0 = .ok (.iload_n 1, 1) := by decide +kernel
theorem dX4_settingNow_1 : decode cX4_settingNow 1 = .ok (.ifCond .ne 8, 3) := by decide +kernel
theorem dX4_settingNow_4 : decode cX4_settingNow 4 = .ok (.aload_n 0, 1) := by decide +kernel
theorem dX4_settingNow_5 : decode cX4_settingNow 5 = .ok (.getfield 41, 3) := by decide +kernel
theorem dX4_settingNow_8 : decode cX4_settingNow 8 = .ok (.ireturn, 1) := by decide +kernel
theorem dX4_settingNow_9 : decode cX4_settingNow 9 = .ok (.iload_n 1, 1) := by decide +kernel
theorem dX4_settingNow_10 : decode cX4_settingNow 10 = .ok (.iconst 1, 1) := by decide +kernel
theorem dX4_settingNow_11 : decode cX4_settingNow 11 = .ok (.if_icmp .ne 10, 3) := by decide +kernel
theorem dX4_settingNow_14 : decode cX4_settingNow 14 = .ok (.aload_n 0, 1) := by decide +kernel
theorem dX4_settingNow_15 : decode cX4_settingNow 15 = .ok (.getfield 44, 3) := by decide +kernel
theorem dX4_settingNow_18 : decode cX4_settingNow 18 = .ok (.goto 7, 3) := by decide +kernel
theorem dX4_settingNow_21 : decode cX4_settingNow 21 = .ok (.aload_n 0, 1) := by decide +kernel
theorem dX4_settingNow_22 : decode cX4_settingNow 22 = .ok (.getfield 47, 3) := by decide +kernel
theorem dX4_settingNow_25 : decode cX4_settingNow 25 = .ok (.ireturn, 1) := by decide +kernel
theorem dX4_passMinutes_0 : decode cX4_passMinutes 0 = .ok (.iconst 0, 1) := by decide +kernel
theorem dX4_passMinutes_1 : decode cX4_passMinutes 1 = .ok (.istore_n 2, 1) := by decide +kernel
theorem dX4_passMinutes_2 : decode cX4_passMinutes 2 = .ok (.iconst 0, 1) := by decide +kernel
theorem dX4_passMinutes_3 : decode cX4_passMinutes 3 = .ok (.istore_n 3, 1) := by decide +kernel
theorem dX4_passMinutes_4 : decode cX4_passMinutes 4 = .ok (.iload_n 3, 1) := by decide +kernel
theorem dX4_passMinutes_5 : decode cX4_passMinutes 5 = .ok (.iload_n 1, 1) := by decide +kernel
theorem dX4_passMinutes_6 : decode cX4_passMinutes 6 = .ok (.if_icmp .ge 107, 3) := by decide +kernel
theorem dX4_passMinutes_9 : decode cX4_passMinutes 9 = .ok (.aload_n 0, 1) := by decide +kernel
theorem dX4_passMinutes_10 : decode cX4_passMinutes 10 = .ok (.dup, 1) := by decide +kernel
theorem dX4_passMinutes_11 : decode cX4_passMinutes 11 = .ok (.getfield 50, 3) := by decide +kernel
theorem dX4_passMinutes_14 : decode cX4_passMinutes 14 = .ok (.iconst 1, 1) := by decide +kernel
theorem dX4_passMinutes_15 : decode cX4_passMinutes 15 = .ok (.iadd, 1) := by decide +kernel
theorem dX4_passMinutes_16 : decode cX4_passMinutes 16 = .ok (.putfield 50, 3) := by decide +kernel
theorem dX4_passMinutes_19 : decode cX4_passMinutes 19 = .ok (.iconst 0, 1) := by decide +kernel
theorem dX4_passMinutes_20 : decode cX4_passMinutes 20 = .ok (.istore 4, 2) := by decide +kernel
theorem dX4_passMinutes_22 : decode cX4_passMinutes 22 = .ok (.iload 4, 2) := by decide +kernel
theorem dX4_passMinutes_24 : decode cX4_passMinutes 24 = .ok (.aload_n 0, 1) := by decide +kernel
theorem dX4_passMinutes_25 : decode cX4_passMinutes 25 = .ok (.getfield 20, 3) := by decide +kernel
theorem dX4_passMinutes_28 : decode cX4_passMinutes 28 = .ok (.getfield 29, 3) := by decide +kernel
theorem dX4_passMinutes_31 : decode cX4_passMinutes 31 = .ok (.if_icmp .ge 53, 3) := by decide +kernel
theorem dX4_passMinutes_34 : decode cX4_passMinutes 34 = .ok (.aload_n 0, 1) := by decide +kernel
theorem dX4_passMinutes_35 : decode cX4_passMinutes 35 = .ok (.getfield 20, 3) := by decide +kernel
theorem dX4_passMinutes_38 : decode cX4_passMinutes 38 = .ok (.iload 4, 2) := by decide +kernel
theorem dX4_passMinutes_40 : decode cX4_passMinutes 40 = .ok (.iconst 3, 1) := by decide +kernel
theorem dX4_passMinutes_41 : decode cX4_passMinutes 41 = .ok (.invokevirtual 71, 3) := by decide +kernel
theorem dX4_passMinutes_44 : decode cX4_passMinutes 44 = .ok (.iconst 1, 1) := by decide +kernel
theorem dX4_passMinutes_45 : decode cX4_passMinutes 45 = .ok (.if_icmp .eq 6, 3) := by decide +kernel
theorem dX4_passMinutes_48 : decode cX4_passMinutes 48 = .ok (.goto 30, 3) := by decide +kernel
theorem dX4_passMinutes_51 : decode cX4_passMinutes 51 = .ok (.aload_n 0, 1) := by decide +kernel
theorem dX4_passMinutes_52 : decode cX4_passMinutes 52 = .ok (.iload 4, 2) := by decide +kernel
theorem dX4_passMinutes_54 : decode cX4_passMinutes 54 = .ok (.invokevirtual 148, 3) := by decide +kernel
theorem dX4_passMinutes_57 : decode cX4_passMinutes 57 = .ok (.ifCond .eq 15, 3) := by decide +kernel
theorem dX4_passMinutes_60 : decode cX4_passMinutes 60 = .ok (.aload_n 0, 1) := by decide +kernel
theorem dX4_passMinutes_61 : decode cX4_passMinutes 61 = .ok (.iload 4, 2) := by decide +kernel
theorem dX4_passMinutes_63 : decode cX4_passMinutes 63 = .ok (.invokevirtual 151, 3) := by decide +kernel
theorem dX4_passMinutes_66 : decode cX4_passMinutes 66 = .ok (.iinc 2 1, 3) := by decide +kernel
theorem dX4_passMinutes_69 : decode cX4_passMinutes 69 = .ok (.goto 9, 3) := by decide +kernel
theorem dX4_passMinutes_72 : decode cX4_passMinutes 72 = .ok (.aload_n 0, 1) := by decide +kernel
theorem dX4_passMinutes_73 : decode cX4_passMinutes 73 = .ok (.iload 4, 2) := by decide +kernel
theorem dX4_passMinutes_75 : decode cX4_passMinutes 75 = .ok (.invokevirtual 155, 3) := by decide +kernel
theorem dX4_passMinutes_78 : decode cX4_passMinutes 78 = .ok (.iinc 4 1, 3) := by decide +kernel
theorem dX4_passMinutes_81 : decode cX4_passMinutes 81 = .ok (.goto (-59), 3) := by decide +kernel
theorem dX4_passMinutes_84 : decode cX4_passMinutes 84 = .ok (.aload_n 0, 1) := by decide +kernel
theorem dX4_passMinutes_85 : decode cX4_passMinutes 85 = .ok (.getfield 56, 3) := by decide +kernel
theorem dX4_passMinutes_88 : decode cX4_passMinutes 88 = .ok (.ifCond .eq 19, 3) := by decide +kernel
theorem dX4_passMinutes_91 : decode cX4_passMinutes 91 = .ok (.aload_n 0, 1) := by decide +kernel
theorem dX4_passMinutes_92 : decode cX4_passMinutes 92 = .ok (.getfield 20, 3) := by decide +kernel
theorem dX4_passMinutes_95 : decode cX4_passMinutes 95 = .ok (.iconst 3, 1) := by decide +kernel
theorem dX4_passMinutes_96 : decode cX4_passMinutes 96 = .ok (.iconst 1, 1) := by decide +kernel
theorem dX4_passMinutes_97 : decode cX4_passMinutes 97 = .ok (.invokevirtual 136, 3) := by decide +kernel
theorem dX4_passMinutes_100 : decode cX4_passMinutes 100 = .ok (.ifCond .ne 7, 3) := by decide +kernel
theorem dX4_passMinutes_103 : decode cX4_passMinutes 103 = .ok (.aload_n 0, 1) := by decide +kernel
theorem dX4_passMinutes_104 : decode cX4_passMinutes 104 = .ok (.invokevirtual 158, 3) := by decide +kernel
theorem dX4_passMinutes_107 : decode cX4_passMinutes 107 = .ok (.iinc 3 1, 3) := by decide +kernel
theorem dX4_passMinutes_110 : decode cX4_passMinutes 110 = .ok (.goto (-106), 3) := by decide +kernel
theorem dX4_passMinutes_113 : decode cX4_passMinutes 113 = .ok (.iload_n 2, 1) := by decide +kernel
theorem dX4_passMinutes_114 : decode cX4_passMinutes 114 = .ok (.ireturn, 1) := by decide +kernel
theorem dX4_driftsIntoDrain_0 : decode cX4_driftsIntoDrain 0 = .ok (.aload_n 0, 1) := by decide +kernel
theorem dX4_driftsIntoDrain_1 : decode cX4_driftsIntoDrain 1 = .ok (.getfield 14, 3) := by decide +kernel
theorem dX4_driftsIntoDrain_4 : decode cX4_driftsIntoDrain 4 = .ok (.aload_n 0, 1) := by decide +kernel
theorem dX4_driftsIntoDrain_5 : decode cX4_driftsIntoDrain 5 = .ok (.getfield 20, 3) := by decide +kernel
theorem dX4_driftsIntoDrain_8 : decode cX4_driftsIntoDrain 8 = .ok (.iload_n 1, 1) := by decide +kernel
theorem dX4_driftsIntoDrain_9 : decode cX4_driftsIntoDrain 9 = .ok (.iconst 4, 1) := by decide +kernel
theorem dX4_driftsIntoDrain_10 : decode cX4_driftsIntoDrain 10 = .ok (.invokevirtual 71, 3) := by decide +kernel
theorem dX4_driftsIntoDrain_13 : decode cX4_driftsIntoDrain 13 = .ok (.iconst 1, 1) := by decide +kernel
theorem dX4_driftsIntoDrain_14 : decode cX4_driftsIntoDrain 14 = .ok (.invokevirtual 71, 3) := by decide +kernel
theorem dX4_driftsIntoDrain_17 : decode cX4_driftsIntoDrain 17 = .ok (.aload_n 0, 1) := by decide +kernel
theorem dX4_driftsIntoDrain_18 : decode cX4_driftsIntoDrain 18 = .ok (.getfield 41, 3) := by decide +kernel
theorem dX4_driftsIntoDrain_21 : decode cX4_driftsIntoDrain 21 = .ok (.iadd, 1) := by decide +kernel
theorem dX4_driftsIntoDrain_22 : decode cX4_driftsIntoDrain 22 = .ok (.aload_n 0, 1) := by decide +kernel
theorem dX4_driftsIntoDrain_23 : decode cX4_driftsIntoDrain 23 = .ok (.getfield 20, 3) := by decide +kernel
theorem dX4_driftsIntoDrain_26 : decode cX4_driftsIntoDrain 26 = .ok (.iload_n 1, 1) := by decide +kernel
theorem dX4_driftsIntoDrain_27 : decode cX4_driftsIntoDrain 27 = .ok (.iconst 0, 1) := by decide +kernel
theorem dX4_driftsIntoDrain_28 : decode cX4_driftsIntoDrain 28 = .ok (.invokevirtual 71, 3) := by decide +kernel
theorem dX4_driftsIntoDrain_31 : decode cX4_driftsIntoDrain 31 = .ok (.iconst 4, 1) := by decide +kernel
theorem dX4_driftsIntoDrain_32 : decode cX4_driftsIntoDrain 32 = .ok (.idiv, 1) := by decide +kernel
theorem dX4_driftsIntoDrain_33 : decode cX4_driftsIntoDrain 33 = .ok (.isub, 1) := by decide +kernel
theorem dX4_driftsIntoDrain_34 : decode cX4_driftsIntoDrain 34 = .ok (.istore_n 2, 1) := by decide +kernel
theorem dX4_driftsIntoDrain_35 : decode cX4_driftsIntoDrain 35 = .ok (.iconst 0, 1) := by decide +kernel
theorem dX4_driftsIntoDrain_36 : decode cX4_driftsIntoDrain 36 = .ok (.istore_n 3, 1) := by decide +kernel
theorem dX4_driftsIntoDrain_37 : decode cX4_driftsIntoDrain 37 = .ok (.iload_n 3, 1) := by decide +kernel
theorem dX4_driftsIntoDrain_38 : decode cX4_driftsIntoDrain 38 = .ok (.iload_n 2, 1) := by decide +kernel
theorem dX4_driftsIntoDrain_39 : decode cX4_driftsIntoDrain 39 = .ok (.if_icmp .ge 117, 3) := by decide +kernel
theorem dX4_driftsIntoDrain_42 : decode cX4_driftsIntoDrain 42 = .ok (.aload_n 0, 1) := by decide +kernel
theorem dX4_driftsIntoDrain_43 : decode cX4_driftsIntoDrain 43 = .ok (.aload_n 0, 1) := by decide +kernel
theorem dX4_driftsIntoDrain_44 : decode cX4_driftsIntoDrain 44 = .ok (.getfield 20, 3) := by decide +kernel
theorem dX4_driftsIntoDrain_47 : decode cX4_driftsIntoDrain 47 = .ok (.iload_n 1, 1) := by decide +kernel
theorem dX4_driftsIntoDrain_48 : decode cX4_driftsIntoDrain 48 = .ok (.iconst 4, 1) := by decide +kernel
theorem dX4_driftsIntoDrain_49 : decode cX4_driftsIntoDrain 49 = .ok (.invokevirtual 71, 3) := by decide +kernel
theorem dX4_driftsIntoDrain_52 : decode cX4_driftsIntoDrain 52 = .ok (.aload_n 0, 1) := by decide +kernel
theorem dX4_driftsIntoDrain_53 : decode cX4_driftsIntoDrain 53 = .ok (.getfield 20, 3) := by decide +kernel
theorem dX4_driftsIntoDrain_56 : decode cX4_driftsIntoDrain 56 = .ok (.iload_n 1, 1) := by decide +kernel
theorem dX4_driftsIntoDrain_57 : decode cX4_driftsIntoDrain 57 = .ok (.iconst 5, 1) := by decide +kernel
theorem dX4_driftsIntoDrain_58 : decode cX4_driftsIntoDrain 58 = .ok (.invokevirtual 71, 3) := by decide +kernel
theorem dX4_driftsIntoDrain_61 : decode cX4_driftsIntoDrain 61 = .ok (.invokevirtual 161, 3) := by decide +kernel
theorem dX4_driftsIntoDrain_64 : decode cX4_driftsIntoDrain 64 = .ok (.istore 4, 2) := by decide +kernel
theorem dX4_driftsIntoDrain_66 : decode cX4_driftsIntoDrain 66 = .ok (.aload_n 0, 1) := by decide +kernel
theorem dX4_driftsIntoDrain_67 : decode cX4_driftsIntoDrain 67 = .ok (.aload_n 0, 1) := by decide +kernel
theorem dX4_driftsIntoDrain_68 : decode cX4_driftsIntoDrain 68 = .ok (.getfield 20, 3) := by decide +kernel
theorem dX4_driftsIntoDrain_71 : decode cX4_driftsIntoDrain 71 = .ok (.iload_n 1, 1) := by decide +kernel
theorem dX4_driftsIntoDrain_72 : decode cX4_driftsIntoDrain 72 = .ok (.iconst 4, 1) := by decide +kernel
theorem dX4_driftsIntoDrain_73 : decode cX4_driftsIntoDrain 73 = .ok (.invokevirtual 71, 3) := by decide +kernel
theorem dX4_driftsIntoDrain_76 : decode cX4_driftsIntoDrain 76 = .ok (.aload_n 0, 1) := by decide +kernel
theorem dX4_driftsIntoDrain_77 : decode cX4_driftsIntoDrain 77 = .ok (.getfield 20, 3) := by decide +kernel
theorem dX4_driftsIntoDrain_80 : decode cX4_driftsIntoDrain 80 = .ok (.iload_n 1, 1) := by decide +kernel
theorem dX4_driftsIntoDrain_81 : decode cX4_driftsIntoDrain 81 = .ok (.iconst 5, 1) := by decide +kernel
theorem dX4_driftsIntoDrain_82 : decode cX4_driftsIntoDrain 82 = .ok (.invokevirtual 71, 3) := by decide +kernel
theorem dX4_driftsIntoDrain_85 : decode cX4_driftsIntoDrain 85 = .ok (.invokevirtual 164, 3) := by decide +kernel
theorem dX4_driftsIntoDrain_88 : decode cX4_driftsIntoDrain 88 = .ok (.istore 5, 2) := by decide +kernel
theorem dX4_driftsIntoDrain_90 : decode cX4_driftsIntoDrain 90 = .ok (.iload 4, 2) := by decide +kernel
theorem dX4_driftsIntoDrain_92 : decode cX4_driftsIntoDrain 92 = .ok (.iconst (-1), 1) := by decide +kernel
theorem dX4_driftsIntoDrain_93 : decode cX4_driftsIntoDrain 93 = .ok (.if_icmp .eq 16, 3) := by decide +kernel
theorem dX4_driftsIntoDrain_96 : decode cX4_driftsIntoDrain 96 = .ok (.aload_n 0, 1) := by decide +kernel
theorem dX4_driftsIntoDrain_97 : decode cX4_driftsIntoDrain 97 = .ok (.iload 4, 2) := by decide +kernel
theorem dX4_driftsIntoDrain_99 : decode cX4_driftsIntoDrain 99 = .ok (.iload 5, 2) := by decide +kernel
theorem dX4_driftsIntoDrain_101 : decode cX4_driftsIntoDrain 101 = .ok (.invokevirtual 167, 3) := by decide +kernel
theorem dX4_driftsIntoDrain_104 : decode cX4_driftsIntoDrain 104 = .ok (.ifCond .eq 5, 3) := by decide +kernel
theorem dX4_driftsIntoDrain_107 : decode cX4_driftsIntoDrain 107 = .ok (.iconst 0, 1) := by decide +kernel
theorem dX4_driftsIntoDrain_108 : decode cX4_driftsIntoDrain 108 = .ok (.ireturn, 1) := by decide +kernel
theorem dX4_driftsIntoDrain_109 : decode cX4_driftsIntoDrain 109 = .ok (.aload_n 0, 1) := by decide +kernel
theorem dX4_driftsIntoDrain_110 : decode cX4_driftsIntoDrain 110 = .ok (.getfield 20, 3) := by decide +kernel
theorem dX4_driftsIntoDrain_113 : decode cX4_driftsIntoDrain 113 = .ok (.iload_n 1, 1) := by decide +kernel
theorem dX4_driftsIntoDrain_114 : decode cX4_driftsIntoDrain 114 = .ok (.bipush 9, 2) := by decide +kernel
theorem dX4_driftsIntoDrain_116 : decode cX4_driftsIntoDrain 116 = .ok (.iconst 1, 1) := by decide +kernel
theorem dX4_driftsIntoDrain_117 : decode cX4_driftsIntoDrain 117 = .ok (.invokevirtual 142, 3) := by decide +kernel
theorem dX4_driftsIntoDrain_120 : decode cX4_driftsIntoDrain 120 = .ok (.aload_n 0, 1) := by decide +kernel
theorem dX4_driftsIntoDrain_121 : decode cX4_driftsIntoDrain 121 = .ok (.getfield 20, 3) := by decide +kernel
theorem dX4_driftsIntoDrain_124 : decode cX4_driftsIntoDrain 124 = .ok (.iload_n 1, 1) := by decide +kernel
theorem dX4_driftsIntoDrain_125 : decode cX4_driftsIntoDrain 125 = .ok (.iconst 4, 1) := by decide +kernel
theorem dX4_driftsIntoDrain_126 : decode cX4_driftsIntoDrain 126 = .ok (.iload 4, 2) := by decide +kernel
theorem dX4_driftsIntoDrain_128 : decode cX4_driftsIntoDrain 128 = .ok (.invokevirtual 37, 3) := by decide +kernel
theorem dX4_driftsIntoDrain_131 : decode cX4_driftsIntoDrain 131 = .ok (.aload_n 0, 1) := by decide +kernel
theorem dX4_driftsIntoDrain_132 : decode cX4_driftsIntoDrain 132 = .ok (.getfield 20, 3) := by decide +kernel
theorem dX4_driftsIntoDrain_135 : decode cX4_driftsIntoDrain 135 = .ok (.iload_n 1, 1) := by decide +kernel
theorem dX4_driftsIntoDrain_136 : decode cX4_driftsIntoDrain 136 = .ok (.iconst 5, 1) := by decide +kernel
theorem dX4_driftsIntoDrain_137 : decode cX4_driftsIntoDrain 137 = .ok (.iload 5, 2) := by decide +kernel
theorem dX4_driftsIntoDrain_139 : decode cX4_driftsIntoDrain 139 = .ok (.invokevirtual 37, 3) := by decide +kernel
theorem dX4_driftsIntoDrain_142 : decode cX4_driftsIntoDrain 142 = .ok (.iload 4, 2) := by decide +kernel
theorem dX4_driftsIntoDrain_144 : decode cX4_driftsIntoDrain 144 = .ok (.iconst (-1), 1) := by decide +kernel
theorem dX4_driftsIntoDrain_145 : decode cX4_driftsIntoDrain 145 = .ok (.if_icmp .ne 5, 3) := by decide +kernel
theorem dX4_driftsIntoDrain_148 : decode cX4_driftsIntoDrain 148 = .ok (.iconst 1, 1) := by decide +kernel
theorem dX4_driftsIntoDrain_149 : decode cX4_driftsIntoDrain 149 = .ok (.ireturn, 1) := by decide +kernel
theorem dX4_driftsIntoDrain_150 : decode cX4_driftsIntoDrain 150 = .ok (.iinc 3 1, 3) := by decide +kernel
theorem dX4_driftsIntoDrain_153 : decode cX4_driftsIntoDrain 153 = .ok (.goto (-116), 3) := by decide +kernel
theorem dX4_driftsIntoDrain_156 : decode cX4_driftsIntoDrain 156 = .ok (.iconst 0, 1) := by decide +kernel
theorem dX4_driftsIntoDrain_157 : decode cX4_driftsIntoDrain 157 = .ok (.ireturn, 1) := by decide +kernel
theorem dX4_nextGutter_0 : decode cX4_nextGutter 0 = .ok (.iload_n 2, 1) := by decide +kernel
theorem dX4_nextGutter_1 : decode cX4_nextGutter 1 = .ok (.iconst 1, 1) := by decide +kernel
theorem dX4_nextGutter_2 : decode cX4_nextGutter 2 = .ok (.iadd, 1) := by decide +kernel
theorem dX4_nextGutter_3 : decode cX4_nextGutter 3 = .ok (.aload_n 0, 1) := by decide +kernel
theorem dX4_nextGutter_4 : decode cX4_nextGutter 4 = .ok (.getfield 14, 3) := by decide +kernel
theorem dX4_nextGutter_7 : decode cX4_nextGutter 7 = .ok (.iload_n 1, 1) := by decide +kernel
theorem dX4_nextGutter_8 : decode cX4_nextGutter 8 = .ok (.iconst 0, 1) := by decide +kernel
theorem dX4_nextGutter_9 : decode cX4_nextGutter 9 = .ok (.invokevirtual 71, 3) := by decide +kernel
theorem dX4_nextGutter_12 : decode cX4_nextGutter 12 = .ok (.if_icmp .ge 7, 3) := by decide +kernel
theorem dX4_nextGutter_15 : decode cX4_nextGutter 15 = .ok (.iload_n 1, 1) := by decide +kernel
theorem dX4_nextGutter_16 : decode cX4_nextGutter 16 = .ok (.goto 12, 3) := by decide +kernel
theorem dX4_nextGutter_19 : decode cX4_nextGutter 19 = .ok (.aload_n 0, 1) := by decide +kernel
theorem dX4_nextGutter_20 : decode cX4_nextGutter 20 = .ok (.getfield 14, 3) := by decide +kernel
theorem dX4_nextGutter_23 : decode cX4_nextGutter 23 = .ok (.iload_n 1, 1) := by decide +kernel
theorem dX4_nextGutter_24 : decode cX4_nextGutter 24 = .ok (.iconst 2, 1) := by decide +kernel
theorem dX4_nextGutter_25 : decode cX4_nextGutter 25 = .ok (.invokevirtual 71, 3) := by decide +kernel
theorem dX4_nextGutter_28 : decode cX4_nextGutter 28 = .ok (.ireturn, 1) := by decide +kernel
theorem dX4_nextCell_0 : decode cX4_nextCell 0 = .ok (.iload_n 2, 1) := by decide +kernel
theorem dX4_nextCell_1 : decode cX4_nextCell 1 = .ok (.iconst 1, 1) := by decide +kernel
theorem dX4_nextCell_2 : decode cX4_nextCell 2 = .ok (.iadd, 1) := by decide +kernel
theorem dX4_nextCell_3 : decode cX4_nextCell 3 = .ok (.aload_n 0, 1) := by decide +kernel
theorem dX4_nextCell_4 : decode cX4_nextCell 4 = .ok (.getfield 14, 3) := by decide +kernel
theorem dX4_nextCell_7 : decode cX4_nextCell 7 = .ok (.iload_n 1, 1) := by decide +kernel
theorem dX4_nextCell_8 : decode cX4_nextCell 8 = .ok (.iconst 0, 1) := by decide +kernel
theorem dX4_nextCell_9 : decode cX4_nextCell 9 = .ok (.invokevirtual 71, 3) := by decide +kernel
theorem dX4_nextCell_12 : decode cX4_nextCell 12 = .ok (.if_icmp .ge 9, 3) := by decide +kernel
theorem dX4_nextCell_15 : decode cX4_nextCell 15 = .ok (.iload_n 2, 1) := by decide +kernel
theorem dX4_nextCell_16 : decode cX4_nextCell 16 = .ok (.iconst 1, 1) := by decide +kernel
theorem dX4_nextCell_17 : decode cX4_nextCell 17 = .ok (.iadd, 1) := by decide +kernel
theorem dX4_nextCell_18 : decode cX4_nextCell 18 = .ok (.goto 12, 3) := by decide +kernel
theorem dX4_nextCell_21 : decode cX4_nextCell 21 = .ok (.aload_n 0, 1) := by decide +kernel
theorem dX4_nextCell_22 : decode cX4_nextCell 22 = .ok (.getfield 14, 3) := by decide +kernel
theorem dX4_nextCell_25 : decode cX4_nextCell 25 = .ok (.iload_n 1, 1) := by decide +kernel
theorem dX4_nextCell_26 : decode cX4_nextCell 26 = .ok (.iconst 3, 1) := by decide +kernel
theorem dX4_nextCell_27 : decode cX4_nextCell 27 = .ok (.invokevirtual 71, 3) := by decide +kernel
theorem dX4_nextCell_30 : decode cX4_nextCell 30 = .ok (.ireturn, 1) := by decide +kernel
theorem dX4_hasWreck_0 : decode cX4_hasWreck 0 = .ok (.iconst 0, 1) := by decide +kernel
theorem dX4_hasWreck_1 : decode cX4_hasWreck 1 = .ok (.istore_n 3, 1) := by decide +kernel
theorem dX4_hasWreck_2 : decode cX4_hasWreck 2 = .ok (.iload_n 3, 1) := by decide +kernel
theorem dX4_hasWreck_3 : decode cX4_hasWreck 3 = .ok (.aload_n 0, 1) := by decide +kernel
theorem dX4_hasWreck_4 : decode cX4_hasWreck 4 = .ok (.getfield 20, 3) := by decide +kernel
theorem dX4_hasWreck_7 : decode cX4_hasWreck 7 = .ok (.getfield 29, 3) := by decide +kernel
theorem dX4_hasWreck_10 : decode cX4_hasWreck 10 = .ok (.if_icmp .ge 50, 3) := by decide +kernel
theorem dX4_hasWreck_13 : decode cX4_hasWreck 13 = .ok (.aload_n 0, 1) := by decide +kernel
theorem dX4_hasWreck_14 : decode cX4_hasWreck 14 = .ok (.getfield 20, 3) := by decide +kernel
theorem dX4_hasWreck_17 : decode cX4_hasWreck 17 = .ok (.iload_n 3, 1) := by decide +kernel
theorem dX4_hasWreck_18 : decode cX4_hasWreck 18 = .ok (.iconst 3, 1) := by decide +kernel
theorem dX4_hasWreck_19 : decode cX4_hasWreck 19 = .ok (.invokevirtual 71, 3) := by decide +kernel
theorem dX4_hasWreck_22 : decode cX4_hasWreck 22 = .ok (.iconst 3, 1) := by decide +kernel
theorem dX4_hasWreck_23 : decode cX4_hasWreck 23 = .ok (.if_icmp .ne 31, 3) := by decide +kernel
theorem dX4_hasWreck_26 : decode cX4_hasWreck 26 = .ok (.aload_n 0, 1) := by decide +kernel
theorem dX4_hasWreck_27 : decode cX4_hasWreck 27 = .ok (.getfield 20, 3) := by decide +kernel
theorem dX4_hasWreck_30 : decode cX4_hasWreck 30 = .ok (.iload_n 3, 1) := by decide +kernel
theorem dX4_hasWreck_31 : decode cX4_hasWreck 31 = .ok (.iconst 4, 1) := by decide +kernel
theorem dX4_hasWreck_32 : decode cX4_hasWreck 32 = .ok (.invokevirtual 71, 3) := by decide +kernel
theorem dX4_hasWreck_35 : decode cX4_hasWreck 35 = .ok (.iload_n 1, 1) := by decide +kernel
theorem dX4_hasWreck_36 : decode cX4_hasWreck 36 = .ok (.if_icmp .ne 18, 3) := by decide +kernel
theorem dX4_hasWreck_39 : decode cX4_hasWreck 39 = .ok (.aload_n 0, 1) := by decide +kernel
theorem dX4_hasWreck_40 : decode cX4_hasWreck 40 = .ok (.getfield 20, 3) := by decide +kernel
theorem dX4_hasWreck_43 : decode cX4_hasWreck 43 = .ok (.iload_n 3, 1) := by decide +kernel
theorem dX4_hasWreck_44 : decode cX4_hasWreck 44 = .ok (.iconst 5, 1) := by decide +kernel
theorem dX4_hasWreck_45 : decode cX4_hasWreck 45 = .ok (.invokevirtual 71, 3) := by decide +kernel
theorem dX4_hasWreck_48 : decode cX4_hasWreck 48 = .ok (.iload_n 2, 1) := by decide +kernel
theorem dX4_hasWreck_49 : decode cX4_hasWreck 49 = .ok (.if_icmp .ne 5, 3) := by decide +kernel
theorem dX4_hasWreck_52 : decode cX4_hasWreck 52 = .ok (.iconst 1, 1) := by decide +kernel
theorem dX4_hasWreck_53 : decode cX4_hasWreck 53 = .ok (.ireturn, 1) := by decide +kernel
theorem dX4_hasWreck_54 : decode cX4_hasWreck 54 = .ok (.iinc 3 1, 3) := by decide +kernel
theorem dX4_hasWreck_57 : decode cX4_hasWreck 57 = .ok (.goto (-55), 3) := by decide +kernel
theorem dX4_hasWreck_60 : decode cX4_hasWreck 60 = .ok (.iconst 0, 1) := by decide +kernel
theorem dX4_hasWreck_61 : decode cX4_hasWreck 61 = .ok (.ireturn, 1) := by decide +kernel
theorem dX4_arrive_0 : decode cX4_arrive 0 = .ok (.aload_n 0, 1) := by decide +kernel
theorem dX4_arrive_1 : decode cX4_arrive 1 = .ok (.getfield 20, 3) := by decide +kernel
theorem dX4_arrive_4 : decode cX4_arrive 4 = .ok (.iconst 3, 1) := by decide +kernel
theorem dX4_arrive_5 : decode cX4_arrive 5 = .ok (.iconst 2, 1) := by decide +kernel
theorem dX4_arrive_6 : decode cX4_arrive 6 = .ok (.invokevirtual 136, 3) := by decide +kernel
theorem dX4_arrive_9 : decode cX4_arrive 9 = .ok (.iconst 1, 1) := by decide +kernel
theorem dX4_arrive_10 : decode cX4_arrive 10 = .ok (.iadd, 1) := by decide +kernel
theorem dX4_arrive_11 : decode cX4_arrive 11 = .ok (.istore_n 2, 1) := by decide +kernel
theorem dX4_arrive_12 : decode cX4_arrive 12 = .ok (.aload_n 0, 1) := by decide +kernel
theorem dX4_arrive_13 : decode cX4_arrive 13 = .ok (.iload_n 1, 1) := by decide +kernel
theorem dX4_arrive_14 : decode cX4_arrive 14 = .ok (.iconst 2, 1) := by decide +kernel
theorem dX4_arrive_15 : decode cX4_arrive 15 = .ok (.invokevirtual 133, 3) := by decide +kernel
theorem dX4_arrive_18 : decode cX4_arrive 18 = .ok (.aload_n 0, 1) := by decide +kernel
theorem dX4_arrive_19 : decode cX4_arrive 19 = .ok (.getfield 20, 3) := by decide +kernel
theorem dX4_arrive_22 : decode cX4_arrive 22 = .ok (.iload_n 1, 1) := by decide +kernel
theorem dX4_arrive_23 : decode cX4_arrive 23 = .ok (.bipush 7, 2) := by decide +kernel
theorem dX4_arrive_25 : decode cX4_arrive 25 = .ok (.iload_n 2, 1) := by decide +kernel
theorem dX4_arrive_26 : decode cX4_arrive 26 = .ok (.invokevirtual 37, 3) := by decide +kernel
theorem dX4_arrive_29 : decode cX4_arrive 29 = .ok (.return_, 1) := by decide +kernel
theorem dX4_soakUp_0 : decode cX4_soakUp 0 = .ok (.aload_n 0, 1) := by decide +kernel
theorem dX4_soakUp_1 : decode cX4_soakUp 1 = .ok (.getfield 20, 3) := by decide +kernel
theorem dX4_soakUp_4 : decode cX4_soakUp 4 = .ok (.iload_n 1, 1) := by decide +kernel
theorem dX4_soakUp_5 : decode cX4_soakUp 5 = .ok (.bipush 6, 2) := by decide +kernel
theorem dX4_soakUp_7 : decode cX4_soakUp 7 = .ok (.iconst 1, 1) := by decide +kernel
theorem dX4_soakUp_8 : decode cX4_soakUp 8 = .ok (.aload_n 0, 1) := by decide +kernel
theorem dX4_soakUp_9 : decode cX4_soakUp 9 = .ok (.getfield 41, 3) := by decide +kernel
theorem dX4_soakUp_12 : decode cX4_soakUp 12 = .ok (.iadd, 1) := by decide +kernel
theorem dX4_soakUp_13 : decode cX4_soakUp 13 = .ok (.invokevirtual 142, 3) := by decide +kernel
theorem dX4_soakUp_16 : decode cX4_soakUp 16 = .ok (.aload_n 0, 1) := by decide +kernel
theorem dX4_soakUp_17 : decode cX4_soakUp 17 = .ok (.getfield 20, 3) := by decide +kernel
theorem dX4_soakUp_20 : decode cX4_soakUp 20 = .ok (.iload_n 1, 1) := by decide +kernel
theorem dX4_soakUp_21 : decode cX4_soakUp 21 = .ok (.bipush 6, 2) := by decide +kernel
theorem dX4_soakUp_23 : decode cX4_soakUp 23 = .ok (.invokevirtual 71, 3) := by decide +kernel
theorem dX4_soakUp_26 : decode cX4_soakUp 26 = .ok (.aload_n 0, 1) := by decide +kernel
theorem dX4_soakUp_27 : decode cX4_soakUp 27 = .ok (.iload_n 1, 1) := by decide +kernel
theorem dX4_soakUp_28 : decode cX4_soakUp 28 = .ok (.invokevirtual 170, 3) := by decide +kernel
theorem dX4_soakUp_31 : decode cX4_soakUp 31 = .ok (.if_icmp .le 13, 3) := by decide +kernel
theorem dX4_soakUp_34 : decode cX4_soakUp 34 = .ok (.aload_n 0, 1) := by decide +kernel
theorem dX4_soakUp_35 : decode cX4_soakUp 35 = .ok (.getfield 20, 3) := by decide +kernel
theorem dX4_soakUp_38 : decode cX4_soakUp 38 = .ok (.iload_n 1, 1) := by decide +kernel
theorem dX4_soakUp_39 : decode cX4_soakUp 39 = .ok (.iconst 3, 1) := by decide +kernel
theorem dX4_soakUp_40 : decode cX4_soakUp 40 = .ok (.iconst 3, 1) := by decide +kernel
theorem dX4_soakUp_41 : decode cX4_soakUp 41 = .ok (.invokevirtual 37, 3) := by decide +kernel
theorem dX4_soakUp_44 : decode cX4_soakUp 44 = .ok (.return_, 1) := by decide +kernel
theorem dX4_soakLimit_0 : decode cX4_soakLimit 0 = .ok (.aload_n 0, 1) := by decide +kernel
theorem dX4_soakLimit_1 : decode cX4_soakLimit 1 = .ok (.getfield 20, 3) := by decide +kernel
theorem dX4_soakLimit_4 : decode cX4_soakLimit 4 = .ok (.iload_n 1, 1) := by decide +kernel
theorem dX4_soakLimit_5 : decode cX4_soakLimit 5 = .ok (.iconst 0, 1) := by decide +kernel
theorem dX4_soakLimit_6 : decode cX4_soakLimit 6 = .ok (.invokevirtual 71, 3) := by decide +kernel
theorem dX4_soakLimit_9 : decode cX4_soakLimit 9 = .ok (.aload_n 0, 1) := by decide +kernel
theorem dX4_soakLimit_10 : decode cX4_soakLimit 10 = .ok (.getfield 44, 3) := by decide +kernel
theorem dX4_soakLimit_13 : decode cX4_soakLimit 13 = .ok (.imul, 1) := by decide +kernel
theorem dX4_soakLimit_14 : decode cX4_soakLimit 14 = .ok (.iconst 4, 1) := by decide +kernel
theorem dX4_soakLimit_15 : decode cX4_soakLimit 15 = .ok (.aload_n 0, 1) := by decide +kernel
theorem dX4_soakLimit_16 : decode cX4_soakLimit 16 = .ok (.getfield 20, 3) := by decide +kernel
theorem dX4_soakLimit_19 : decode cX4_soakLimit 19 = .ok (.iload_n 1, 1) := by decide +kernel
theorem dX4_soakLimit_20 : decode cX4_soakLimit 20 = .ok (.iconst 1, 1) := by decide +kernel
theorem dX4_soakLimit_21 : decode cX4_soakLimit 21 = .ok (.invokevirtual 71, 3) := by decide +kernel
theorem dX4_soakLimit_24 : decode cX4_soakLimit 24 = .ok (.imul, 1) := by decide +kernel
theorem dX4_soakLimit_25 : decode cX4_soakLimit 25 = .ok (.iadd, 1) := by decide +kernel
theorem dX4_soakLimit_26 : decode cX4_soakLimit 26 = .ok (.ireturn, 1) := by decide +kernel
theorem dX4_endHeat_0 : decode cX4_endHeat 0 = .ok (.aload_n 0, 1) := by decide +kernel
theorem dX4_endHeat_1 : decode cX4_endHeat 1 = .ok (.iconst 0, 1) := by decide +kernel
theorem dX4_endHeat_2 : decode cX4_endHeat 2 = .ok (.putfield 56, 3) := by decide +kernel
theorem dX4_endHeat_5 : decode cX4_endHeat 5 = .ok (.iconst 0, 1) := by decide +kernel
theorem dX4_endHeat_6 : decode cX4_endHeat 6 = .ok (.istore_n 1, 1) := by decide +kernel
theorem dX4_endHeat_7 : decode cX4_endHeat 7 = .ok (.iload_n 1, 1) := by decide +kernel
theorem dX4_endHeat_8 : decode cX4_endHeat 8 = .ok (.aload_n 0, 1) := by decide +kernel
theorem dX4_endHeat_9 : decode cX4_endHeat 9 = .ok (.getfield 20, 3) := by decide +kernel
theorem dX4_endHeat_12 : decode cX4_endHeat 12 = .ok (.getfield 29, 3) := by decide +kernel
theorem dX4_endHeat_15 : decode cX4_endHeat 15 = .ok (.if_icmp .ge 74, 3) := by decide +kernel
theorem dX4_endHeat_18 : decode cX4_endHeat 18 = .ok (.aload_n 0, 1) := by decide +kernel
theorem dX4_endHeat_19 : decode cX4_endHeat 19 = .ok (.getfield 20, 3) := by decide +kernel
theorem dX4_endHeat_22 : decode cX4_endHeat 22 = .ok (.iload_n 1, 1) := by decide +kernel
theorem dX4_endHeat_23 : decode cX4_endHeat 23 = .ok (.iconst 3, 1) := by decide +kernel
theorem dX4_endHeat_24 : decode cX4_endHeat 24 = .ok (.invokevirtual 71, 3) := by decide +kernel
theorem dX4_endHeat_27 : decode cX4_endHeat 27 = .ok (.iconst 2, 1) := by decide +kernel
theorem dX4_endHeat_28 : decode cX4_endHeat 28 = .ok (.if_icmp .eq 6, 3) := by decide +kernel
theorem dX4_endHeat_31 : decode cX4_endHeat 31 = .ok (.goto 52, 3) := by decide +kernel
theorem dX4_endHeat_34 : decode cX4_endHeat 34 = .ok (.aload_n 0, 1) := by decide +kernel
theorem dX4_endHeat_35 : decode cX4_endHeat 35 = .ok (.getfield 20, 3) := by decide +kernel
theorem dX4_endHeat_38 : decode cX4_endHeat 38 = .ok (.iload_n 1, 1) := by decide +kernel
theorem dX4_endHeat_39 : decode cX4_endHeat 39 = .ok (.bipush 7, 2) := by decide +kernel
theorem dX4_endHeat_41 : decode cX4_endHeat 41 = .ok (.invokevirtual 71, 3) := by decide +kernel
theorem dX4_endHeat_44 : decode cX4_endHeat 44 = .ok (.iconst 1, 1) := by decide +kernel
theorem dX4_endHeat_45 : decode cX4_endHeat 45 = .ok (.if_icmp .ne 32, 3) := by decide +kernel
theorem dX4_endHeat_48 : decode cX4_endHeat 48 = .ok (.aload_n 0, 1) := by decide +kernel
theorem dX4_endHeat_49 : decode cX4_endHeat 49 = .ok (.getfield 23, 3) := by decide +kernel
theorem dX4_endHeat_52 : decode cX4_endHeat 52 = .ok (.aload_n 0, 1) := by decide +kernel
theorem dX4_endHeat_53 : decode cX4_endHeat 53 = .ok (.getfield 20, 3) := by decide +kernel
theorem dX4_endHeat_56 : decode cX4_endHeat 56 = .ok (.iload_n 1, 1) := by decide +kernel
theorem dX4_endHeat_57 : decode cX4_endHeat 57 = .ok (.iconst 2, 1) := by decide +kernel
theorem dX4_endHeat_58 : decode cX4_endHeat 58 = .ok (.invokevirtual 71, 3) := by decide +kernel
theorem dX4_endHeat_61 : decode cX4_endHeat 61 = .ok (.iconst 0, 1) := by decide +kernel
theorem dX4_endHeat_62 : decode cX4_endHeat 62 = .ok (.iconst 3, 1) := by decide +kernel
theorem dX4_endHeat_63 : decode cX4_endHeat 63 = .ok (.invokevirtual 142, 3) := by decide +kernel
theorem dX4_endHeat_66 : decode cX4_endHeat 66 = .ok (.aload_n 0, 1) := by decide +kernel
theorem dX4_endHeat_67 : decode cX4_endHeat 67 = .ok (.getfield 20, 3) := by decide +kernel
theorem dX4_endHeat_70 : decode cX4_endHeat 70 = .ok (.iload_n 1, 1) := by decide +kernel
theorem dX4_endHeat_71 : decode cX4_endHeat 71 = .ok (.bipush 8, 2) := by decide +kernel
theorem dX4_endHeat_73 : decode cX4_endHeat 73 = .ok (.iconst 1, 1) := by decide +kernel
theorem dX4_endHeat_74 : decode cX4_endHeat 74 = .ok (.invokevirtual 142, 3) := by decide +kernel
theorem dX4_endHeat_77 : decode cX4_endHeat 77 = .ok (.aload_n 0, 1) := by decide +kernel
theorem dX4_endHeat_78 : decode cX4_endHeat 78 = .ok (.iload_n 1, 1) := by decide +kernel
theorem dX4_endHeat_79 : decode cX4_endHeat 79 = .ok (.iconst 0, 1) := by decide +kernel
theorem dX4_endHeat_80 : decode cX4_endHeat 80 = .ok (.invokevirtual 133, 3) := by decide +kernel
theorem dX4_endHeat_83 : decode cX4_endHeat 83 = .ok (.iinc 1 1, 3) := by decide +kernel
theorem dX4_endHeat_86 : decode cX4_endHeat 86 = .ok (.goto (-79), 3) := by decide +kernel
theorem dX4_endHeat_89 : decode cX4_endHeat 89 = .ok (.return_, 1) := by decide +kernel
theorem dX4_takeOut_0 : decode cX4_takeOut 0 = .ok (.aload_n 0, 1) := by decide +kernel
theorem dX4_takeOut_1 : decode cX4_takeOut 1 = .ok (.getfield 20, 3) := by decide +kernel
theorem dX4_takeOut_4 : decode cX4_takeOut 4 = .ok (.iload_n 1, 1) := by decide +kernel
theorem dX4_takeOut_5 : decode cX4_takeOut 5 = .ok (.iconst 3, 1) := by decide +kernel
theorem dX4_takeOut_6 : decode cX4_takeOut 6 = .ok (.iload_n 2, 1) := by decide +kernel
theorem dX4_takeOut_7 : decode cX4_takeOut 7 = .ok (.invokevirtual 37, 3) := by decide +kernel
theorem dX4_takeOut_10 : decode cX4_takeOut 10 = .ok (.aload_n 0, 1) := by decide +kernel
theorem dX4_takeOut_11 : decode cX4_takeOut 11 = .ok (.getfield 20, 3) := by decide +kernel
theorem dX4_takeOut_14 : decode cX4_takeOut 14 = .ok (.iload_n 1, 1) := by decide +kernel
theorem dX4_takeOut_15 : decode cX4_takeOut 15 = .ok (.iconst 4, 1) := by decide +kernel
theorem dX4_takeOut_16 : decode cX4_takeOut 16 = .ok (.iconst (-1), 1) := by decide +kernel
theorem dX4_takeOut_17 : decode cX4_takeOut 17 = .ok (.invokevirtual 37, 3) := by decide +kernel
theorem dX4_takeOut_20 : decode cX4_takeOut 20 = .ok (.aload_n 0, 1) := by decide +kernel
theorem dX4_takeOut_21 : decode cX4_takeOut 21 = .ok (.getfield 20, 3) := by decide +kernel
theorem dX4_takeOut_24 : decode cX4_takeOut 24 = .ok (.iload_n 1, 1) := by decide +kernel
theorem dX4_takeOut_25 : decode cX4_takeOut 25 = .ok (.iconst 5, 1) := by decide +kernel
theorem dX4_takeOut_26 : decode cX4_takeOut 26 = .ok (.iconst (-1), 1) := by decide +kernel
theorem dX4_takeOut_27 : decode cX4_takeOut 27 = .ok (.invokevirtual 37, 3) := by decide +kernel
theorem dX4_takeOut_30 : decode cX4_takeOut 30 = .ok (.aload_n 0, 1) := by decide +kernel
theorem dX4_takeOut_31 : decode cX4_takeOut 31 = .ok (.getfield 20, 3) := by decide +kernel
theorem dX4_takeOut_34 : decode cX4_takeOut 34 = .ok (.iload_n 1, 1) := by decide +kernel
theorem dX4_takeOut_35 : decode cX4_takeOut 35 = .ok (.bipush 7, 2) := by decide +kernel
theorem dX4_takeOut_37 : decode cX4_takeOut 37 = .ok (.iconst (-1), 1) := by decide +kernel
theorem dX4_takeOut_38 : decode cX4_takeOut 38 = .ok (.invokevirtual 37, 3) := by decide +kernel
theorem dX4_takeOut_41 : decode cX4_takeOut 41 = .ok (.return_, 1) := by decide +kernel
theorem dX4_minutesUntilEnd_0 : decode cX4_minutesUntilEnd 0 = .ok (.iconst 0, 1) := by decide +kernel
theorem dX4_minutesUntilEnd_1 : decode cX4_minutesUntilEnd 1 = .ok (.istore_n 2, 1) := by decide +kernel
theorem dX4_minutesUntilEnd_2 : decode cX4_minutesUntilEnd 2 = .ok (.iload_n 2, 1) := by decide +kernel
theorem dX4_minutesUntilEnd_3 : decode cX4_minutesUntilEnd 3 = .ok (.sipush 1000, 3) := by decide +kernel
theorem dX4_minutesUntilEnd_6 : decode cX4_minutesUntilEnd 6 = .ok (.if_icmp .ge 30, 3) := by decide +kernel
theorem dX4_minutesUntilEnd_9 : decode cX4_minutesUntilEnd 9 = .ok (.aload_n 0, 1) := by decide +kernel
theorem dX4_minutesUntilEnd_10 : decode cX4_minutesUntilEnd 10 = .ok (.getfield 20, 3) := by decide +kernel
theorem dX4_minutesUntilEnd_13 : decode cX4_minutesUntilEnd 13 = .ok (.iload_n 1, 1) := by decide +kernel
theorem dX4_minutesUntilEnd_14 : decode cX4_minutesUntilEnd 14 = .ok (.iconst 3, 1) := by decide +kernel
theorem dX4_minutesUntilEnd_15 : decode cX4_minutesUntilEnd 15 = .ok (.invokevirtual 71, 3) := by decide +kernel
theorem dX4_minutesUntilEnd_18 : decode cX4_minutesUntilEnd 18 = .ok (.iconst 1, 1) := by decide +kernel
theorem dX4_minutesUntilEnd_19 : decode cX4_minutesUntilEnd 19 = .ok (.if_icmp .eq 5, 3) := by decide +kernel
theorem dX4_minutesUntilEnd_22 : decode cX4_minutesUntilEnd 22 = .ok (.iload_n 2, 1) := by decide +kernel
theorem dX4_minutesUntilEnd_23 : decode cX4_minutesUntilEnd 23 = .ok (.ireturn, 1) := by decide +kernel
theorem dX4_minutesUntilEnd_24 : decode cX4_minutesUntilEnd 24 = .ok (.aload_n 0, 1) := by decide +kernel
theorem dX4_minutesUntilEnd_25 : decode cX4_minutesUntilEnd 25 = .ok (.iconst 1, 1) := by decide +kernel
theorem dX4_minutesUntilEnd_26 : decode cX4_minutesUntilEnd 26 = .ok (.invokevirtual 109, 3) := by decide +kernel
theorem dX4_minutesUntilEnd_29 : decode cX4_minutesUntilEnd 29 = .ok (.pop, 1) := by decide +kernel
theorem dX4_minutesUntilEnd_30 : decode cX4_minutesUntilEnd 30 = .ok (.iinc 2 1, 3) := by decide +kernel
theorem dX4_minutesUntilEnd_33 : decode cX4_minutesUntilEnd 33 = .ok (.goto (-31), 3) := by decide +kernel
theorem dX4_minutesUntilEnd_36 : decode cX4_minutesUntilEnd 36 = .ok (.iconst (-1), 1) := by decide +kernel
theorem dX4_minutesUntilEnd_37 : decode cX4_minutesUntilEnd 37 = .ok (.ireturn, 1) := by decide +kernel
theorem dX4_letHeatEnd_0 : decode cX4_letHeatEnd 0 = .ok (.iconst 0, 1) := by decide +kernel
theorem dX4_letHeatEnd_1 : decode cX4_letHeatEnd 1 = .ok (.istore_n 1, 1) := by decide +kernel
theorem dX4_letHeatEnd_2 : decode cX4_letHeatEnd 2 = .ok (.iload_n 1, 1) := by decide +kernel
theorem dX4_letHeatEnd_3 : decode cX4_letHeatEnd 3 = .ok (.sipush 1000, 3) := by decide +kernel
theorem dX4_letHeatEnd_6 : decode cX4_letHeatEnd 6 = .ok (.if_icmp .ge 22, 3) := by decide +kernel
theorem dX4_letHeatEnd_9 : decode cX4_letHeatEnd 9 = .ok (.aload_n 0, 1) := by decide +kernel
theorem dX4_letHeatEnd_10 : decode cX4_letHeatEnd 10 = .ok (.getfield 56, 3) := by decide +kernel
theorem dX4_letHeatEnd_13 : decode cX4_letHeatEnd 13 = .ok (.ifCond .eq 15, 3) := by decide +kernel
theorem dX4_letHeatEnd_16 : decode cX4_letHeatEnd 16 = .ok (.aload_n 0, 1) := by decide +kernel
theorem dX4_letHeatEnd_17 : decode cX4_letHeatEnd 17 = .ok (.iconst 1, 1) := by decide +kernel
theorem dX4_letHeatEnd_18 : decode cX4_letHeatEnd 18 = .ok (.invokevirtual 109, 3) := by decide +kernel
theorem dX4_letHeatEnd_21 : decode cX4_letHeatEnd 21 = .ok (.pop, 1) := by decide +kernel
theorem dX4_letHeatEnd_22 : decode cX4_letHeatEnd 22 = .ok (.iinc 1 1, 3) := by decide +kernel
theorem dX4_letHeatEnd_25 : decode cX4_letHeatEnd 25 = .ok (.goto (-23), 3) := by decide +kernel
theorem dX4_letHeatEnd_28 : decode cX4_letHeatEnd 28 = .ok (.return_, 1) := by decide +kernel
theorem dX4_wayByGutters_0 : decode cX4_wayByGutters 0 = .ok (.aload_n 0, 1) := by decide +kernel
theorem dX4_wayByGutters_1 : decode cX4_wayByGutters 1 = .ok (.getfield 14, 3) := by decide +kernel
theorem dX4_wayByGutters_4 : decode cX4_wayByGutters 4 = .ok (.iload_n 1, 1) := by decide +kernel
theorem dX4_wayByGutters_5 : decode cX4_wayByGutters 5 = .ok (.iconst 0, 1) := by decide +kernel
theorem dX4_wayByGutters_6 : decode cX4_wayByGutters 6 = .ok (.invokevirtual 71, 3) := by decide +kernel
theorem dX4_wayByGutters_9 : decode cX4_wayByGutters 9 = .ok (.iload_n 2, 1) := by decide +kernel
theorem dX4_wayByGutters_10 : decode cX4_wayByGutters 10 = .ok (.isub, 1) := by decide +kernel
theorem dX4_wayByGutters_11 : decode cX4_wayByGutters 11 = .ok (.istore_n 3, 1) := by decide +kernel
theorem dX4_wayByGutters_12 : decode cX4_wayByGutters 12 = .ok (.iload_n 1, 1) := by decide +kernel
theorem dX4_wayByGutters_13 : decode cX4_wayByGutters 13 = .ok (.istore 4, 2) := by decide +kernel
theorem dX4_wayByGutters_15 : decode cX4_wayByGutters 15 = .ok (.iconst 0, 1) := by decide +kernel
theorem dX4_wayByGutters_16 : decode cX4_wayByGutters 16 = .ok (.istore 5, 2) := by decide +kernel
theorem dX4_wayByGutters_18 : decode cX4_wayByGutters 18 = .ok (.iload 5, 2) := by decide +kernel
theorem dX4_wayByGutters_20 : decode cX4_wayByGutters 20 = .ok (.bipush 6, 2) := by decide +kernel
theorem dX4_wayByGutters_22 : decode cX4_wayByGutters 22 = .ok (.if_icmp .ge 63, 3) := by decide +kernel
theorem dX4_wayByGutters_25 : decode cX4_wayByGutters 25 = .ok (.aload_n 0, 1) := by decide +kernel
theorem dX4_wayByGutters_26 : decode cX4_wayByGutters 26 = .ok (.getfield 14, 3) := by decide +kernel
theorem dX4_wayByGutters_29 : decode cX4_wayByGutters 29 = .ok (.iload 4, 2) := by decide +kernel
theorem dX4_wayByGutters_31 : decode cX4_wayByGutters 31 = .ok (.iconst 2, 1) := by decide +kernel
theorem dX4_wayByGutters_32 : decode cX4_wayByGutters 32 = .ok (.invokevirtual 71, 3) := by decide +kernel
theorem dX4_wayByGutters_35 : decode cX4_wayByGutters 35 = .ok (.iconst (-1), 1) := by decide +kernel
theorem dX4_wayByGutters_36 : decode cX4_wayByGutters 36 = .ok (.if_icmp .eq 49, 3) := by decide +kernel
theorem dX4_wayByGutters_39 : decode cX4_wayByGutters 39 = .ok (.aload_n 0, 1) := by decide +kernel
theorem dX4_wayByGutters_40 : decode cX4_wayByGutters 40 = .ok (.getfield 14, 3) := by decide +kernel
theorem dX4_wayByGutters_43 : decode cX4_wayByGutters 43 = .ok (.iload 4, 2) := by decide +kernel
theorem dX4_wayByGutters_45 : decode cX4_wayByGutters 45 = .ok (.iconst 2, 1) := by decide +kernel
theorem dX4_wayByGutters_46 : decode cX4_wayByGutters 46 = .ok (.invokevirtual 71, 3) := by decide +kernel
theorem dX4_wayByGutters_49 : decode cX4_wayByGutters 49 = .ok (.istore 6, 2) := by decide +kernel
theorem dX4_wayByGutters_51 : decode cX4_wayByGutters 51 = .ok (.iload_n 3, 1) := by decide +kernel
theorem dX4_wayByGutters_52 : decode cX4_wayByGutters 52 = .ok (.aload_n 0, 1) := by decide +kernel
theorem dX4_wayByGutters_53 : decode cX4_wayByGutters 53 = .ok (.getfield 14, 3) := by decide +kernel
theorem dX4_wayByGutters_56 : decode cX4_wayByGutters 56 = .ok (.iload 6, 2) := by decide +kernel
theorem dX4_wayByGutters_58 : decode cX4_wayByGutters 58 = .ok (.iconst 0, 1) := by decide +kernel
theorem dX4_wayByGutters_59 : decode cX4_wayByGutters 59 = .ok (.invokevirtual 71, 3) := by decide +kernel
theorem dX4_wayByGutters_62 : decode cX4_wayByGutters 62 = .ok (.aload_n 0, 1) := by decide +kernel
theorem dX4_wayByGutters_63 : decode cX4_wayByGutters 63 = .ok (.getfield 14, 3) := by decide +kernel
theorem dX4_wayByGutters_66 : decode cX4_wayByGutters 66 = .ok (.iload 4, 2) := by decide +kernel
theorem dX4_wayByGutters_68 : decode cX4_wayByGutters 68 = .ok (.iconst 3, 1) := by decide +kernel
theorem dX4_wayByGutters_69 : decode cX4_wayByGutters 69 = .ok (.invokevirtual 71, 3) := by decide +kernel
theorem dX4_wayByGutters_72 : decode cX4_wayByGutters 72 = .ok (.isub, 1) := by decide +kernel
theorem dX4_wayByGutters_73 : decode cX4_wayByGutters 73 = .ok (.iadd, 1) := by decide +kernel
theorem dX4_wayByGutters_74 : decode cX4_wayByGutters 74 = .ok (.istore_n 3, 1) := by decide +kernel
theorem dX4_wayByGutters_75 : decode cX4_wayByGutters 75 = .ok (.iload 6, 2) := by decide +kernel
theorem dX4_wayByGutters_77 : decode cX4_wayByGutters 77 = .ok (.istore 4, 2) := by decide +kernel
theorem dX4_wayByGutters_79 : decode cX4_wayByGutters 79 = .ok (.iinc 5 1, 3) := by decide +kernel
theorem dX4_wayByGutters_82 : decode cX4_wayByGutters 82 = .ok (.goto (-64), 3) := by decide +kernel
theorem dX4_wayByGutters_85 : decode cX4_wayByGutters 85 = .ok (.iload_n 3, 1) := by decide +kernel
theorem dX4_wayByGutters_86 : decode cX4_wayByGutters 86 = .ok (.ireturn, 1) := by decide +kernel
theorem dX4_wayByCells_0 : decode cX4_wayByCells 0 = .ok (.iload_n 1, 1) := by decide +kernel
theorem dX4_wayByCells_1 : decode cX4_wayByCells 1 = .ok (.istore_n 3, 1) := by decide +kernel
theorem dX4_wayByCells_2 : decode cX4_wayByCells 2 = .ok (.iload_n 2, 1) := by decide +kernel
theorem dX4_wayByCells_3 : decode cX4_wayByCells 3 = .ok (.istore 4, 2) := by decide +kernel
theorem dX4_wayByCells_5 : decode cX4_wayByCells 5 = .ok (.iconst 0, 1) := by decide +kernel
theorem dX4_wayByCells_6 : decode cX4_wayByCells 6 = .ok (.istore 5, 2) := by decide +kernel
theorem dX4_wayByCells_8 : decode cX4_wayByCells 8 = .ok (.iload 5, 2) := by decide +kernel
theorem dX4_wayByCells_10 : decode cX4_wayByCells 10 = .ok (.sipush 1000, 3) := by decide +kernel
theorem dX4_wayByCells_13 : decode cX4_wayByCells 13 = .ok (.if_icmp .ge 38, 3) := by decide +kernel
theorem dX4_wayByCells_16 : decode cX4_wayByCells 16 = .ok (.iload_n 3, 1) := by decide +kernel
theorem dX4_wayByCells_17 : decode cX4_wayByCells 17 = .ok (.iconst (-1), 1) := by decide +kernel
theorem dX4_wayByCells_18 : decode cX4_wayByCells 18 = .ok (.if_icmp .ne 6, 3) := by decide +kernel
theorem dX4_wayByCells_21 : decode cX4_wayByCells 21 = .ok (.iload 5, 2) := by decide +kernel
theorem dX4_wayByCells_23 : decode cX4_wayByCells 23 = .ok (.ireturn, 1) := by decide +kernel
theorem dX4_wayByCells_24 : decode cX4_wayByCells 24 = .ok (.aload_n 0, 1) := by decide +kernel
theorem dX4_wayByCells_25 : decode cX4_wayByCells 25 = .ok (.iload_n 3, 1) := by decide +kernel
theorem dX4_wayByCells_26 : decode cX4_wayByCells 26 = .ok (.iload 4, 2) := by decide +kernel
theorem dX4_wayByCells_28 : decode cX4_wayByCells 28 = .ok (.invokevirtual 161, 3) := by decide +kernel
theorem dX4_wayByCells_31 : decode cX4_wayByCells 31 = .ok (.istore 6, 2) := by decide +kernel
theorem dX4_wayByCells_33 : decode cX4_wayByCells 33 = .ok (.aload_n 0, 1) := by decide +kernel
theorem dX4_wayByCells_34 : decode cX4_wayByCells 34 = .ok (.iload_n 3, 1) := by decide +kernel
theorem dX4_wayByCells_35 : decode cX4_wayByCells 35 = .ok (.iload 4, 2) := by decide +kernel
theorem dX4_wayByCells_37 : decode cX4_wayByCells 37 = .ok (.invokevirtual 164, 3) := by decide +kernel
theorem dX4_wayByCells_40 : decode cX4_wayByCells 40 = .ok (.istore 4, 2) := by decide +kernel
theorem dX4_wayByCells_42 : decode cX4_wayByCells 42 = .ok (.iload 6, 2) := by decide +kernel
theorem dX4_wayByCells_44 : decode cX4_wayByCells 44 = .ok (.istore_n 3, 1) := by decide +kernel
theorem dX4_wayByCells_45 : decode cX4_wayByCells 45 = .ok (.iinc 5 1, 3) := by decide +kernel
theorem dX4_wayByCells_48 : decode cX4_wayByCells 48 = .ok (.goto (-40), 3) := by decide +kernel
theorem dX4_wayByCells_51 : decode cX4_wayByCells 51 = .ok (.iconst (-1), 1) := by decide +kernel
theorem dX4_wayByCells_52 : decode cX4_wayByCells 52 = .ok (.ireturn, 1) := by decide +kernel
theorem dX4_reasonAgainst_0 : decode cX4_reasonAgainst 0 = .ok (.aload_n 0, 1) := by decide +kernel
theorem dX4_reasonAgainst_1 : decode cX4_reasonAgainst 1 = .ok (.getfield 20, 3) := by decide +kernel
theorem dX4_reasonAgainst_4 : decode cX4_reasonAgainst 4 = .ok (.iload_n 2, 1) := by decide +kernel
theorem dX4_reasonAgainst_5 : decode cX4_reasonAgainst 5 = .ok (.iconst 3, 1) := by decide +kernel
theorem dX4_reasonAgainst_6 : decode cX4_reasonAgainst 6 = .ok (.invokevirtual 71, 3) := by decide +kernel
theorem dX4_reasonAgainst_9 : decode cX4_reasonAgainst 9 = .ok (.iconst 3, 1) := by decide +kernel
theorem dX4_reasonAgainst_10 : decode cX4_reasonAgainst 10 = .ok (.if_icmp .eq 5, 3) := by decide +kernel
theorem dX4_reasonAgainst_13 : decode cX4_reasonAgainst 13 = .ok (.iconst 1, 1) := by decide +kernel
theorem dX4_reasonAgainst_14 : decode cX4_reasonAgainst 14 = .ok (.ireturn, 1) := by decide +kernel
theorem dX4_reasonAgainst_15 : decode cX4_reasonAgainst 15 = .ok (.aload_n 0, 1) := by decide +kernel
theorem dX4_reasonAgainst_16 : decode cX4_reasonAgainst 16 = .ok (.iload_n 1, 1) := by decide +kernel
theorem dX4_reasonAgainst_17 : decode cX4_reasonAgainst 17 = .ok (.iload_n 2, 1) := by decide +kernel
theorem dX4_reasonAgainst_18 : decode cX4_reasonAgainst 18 = .ok (.invokevirtual 173, 3) := by decide +kernel
theorem dX4_reasonAgainst_21 : decode cX4_reasonAgainst 21 = .ok (.istore_n 3, 1) := by decide +kernel
theorem dX4_reasonAgainst_22 : decode cX4_reasonAgainst 22 = .ok (.iload_n 3, 1) := by decide +kernel
theorem dX4_reasonAgainst_23 : decode cX4_reasonAgainst 23 = .ok (.iconst (-1), 1) := by decide +kernel
theorem dX4_reasonAgainst_24 : decode cX4_reasonAgainst 24 = .ok (.if_icmp .eq 11, 3) := by decide +kernel
theorem dX4_reasonAgainst_27 : decode cX4_reasonAgainst 27 = .ok (.iload_n 3, 1) := by decide +kernel
theorem dX4_reasonAgainst_28 : decode cX4_reasonAgainst 28 = .ok (.aload_n 0, 1) := by decide +kernel
theorem dX4_reasonAgainst_29 : decode cX4_reasonAgainst 29 = .ok (.getfield 47, 3) := by decide +kernel
theorem dX4_reasonAgainst_32 : decode cX4_reasonAgainst 32 = .ok (.if_icmp .le 5, 3) := by decide +kernel
theorem dX4_reasonAgainst_35 : decode cX4_reasonAgainst 35 = .ok (.iconst 2, 1) := by decide +kernel
theorem dX4_reasonAgainst_36 : decode cX4_reasonAgainst 36 = .ok (.ireturn, 1) := by decide +kernel
theorem dX4_reasonAgainst_37 : decode cX4_reasonAgainst 37 = .ok (.iconst 0, 1) := by decide +kernel
theorem dX4_reasonAgainst_38 : decode cX4_reasonAgainst 38 = .ok (.istore 4, 2) := by decide +kernel
theorem dX4_reasonAgainst_40 : decode cX4_reasonAgainst 40 = .ok (.iload 4, 2) := by decide +kernel
theorem dX4_reasonAgainst_42 : decode cX4_reasonAgainst 42 = .ok (.iconst 4, 1) := by decide +kernel
theorem dX4_reasonAgainst_43 : decode cX4_reasonAgainst 43 = .ok (.if_icmp .ge 32, 3) := by decide +kernel
theorem dX4_reasonAgainst_46 : decode cX4_reasonAgainst 46 = .ok (.aload_n 0, 1) := by decide +kernel
theorem dX4_reasonAgainst_47 : decode cX4_reasonAgainst 47 = .ok (.iload 4, 2) := by decide +kernel
theorem dX4_reasonAgainst_49 : decode cX4_reasonAgainst 49 = .ok (.iload_n 2, 1) := by decide +kernel
theorem dX4_reasonAgainst_50 : decode cX4_reasonAgainst 50 = .ok (.invokevirtual 173, 3) := by decide +kernel
theorem dX4_reasonAgainst_53 : decode cX4_reasonAgainst 53 = .ok (.istore 5, 2) := by decide +kernel
theorem dX4_reasonAgainst_55 : decode cX4_reasonAgainst 55 = .ok (.iload 5, 2) := by decide +kernel
theorem dX4_reasonAgainst_57 : decode cX4_reasonAgainst 57 = .ok (.iconst (-1), 1) := by decide +kernel
theorem dX4_reasonAgainst_58 : decode cX4_reasonAgainst 58 = .ok (.if_icmp .eq 11, 3) := by decide +kernel
theorem dX4_reasonAgainst_61 : decode cX4_reasonAgainst 61 = .ok (.iload 5, 2) := by decide +kernel
theorem dX4_reasonAgainst_63 : decode cX4_reasonAgainst 63 = .ok (.iload_n 3, 1) := by decide +kernel
theorem dX4_reasonAgainst_64 : decode cX4_reasonAgainst 64 = .ok (.if_icmp .ge 5, 3) := by decide +kernel
theorem dX4_reasonAgainst_67 : decode cX4_reasonAgainst 67 = .ok (.iconst 3, 1) := by decide +kernel
theorem dX4_reasonAgainst_68 : decode cX4_reasonAgainst 68 = .ok (.ireturn, 1) := by decide +kernel
theorem dX4_reasonAgainst_69 : decode cX4_reasonAgainst 69 = .ok (.iinc 4 1, 3) := by decide +kernel
theorem dX4_reasonAgainst_72 : decode cX4_reasonAgainst 72 = .ok (.goto (-32), 3) := by decide +kernel
theorem dX4_reasonAgainst_75 : decode cX4_reasonAgainst 75 = .ok (.iconst 0, 1) := by decide +kernel
theorem dX4_reasonAgainst_76 : decode cX4_reasonAgainst 76 = .ok (.ireturn, 1) := by decide +kernel
theorem dX4_hookDistance_0 : decode cX4_hookDistance 0 = .ok (.aload_n 0, 1) := by decide +kernel
theorem dX4_hookDistance_1 : decode cX4_hookDistance 1 = .ok (.getfield 23, 3) := by decide +kernel
theorem dX4_hookDistance_4 : decode cX4_hookDistance 4 = .ok (.iload_n 1, 1) := by decide +kernel
theorem dX4_hookDistance_5 : decode cX4_hookDistance 5 = .ok (.iconst 1, 1) := by decide +kernel
theorem dX4_hookDistance_6 : decode cX4_hookDistance 6 = .ok (.invokevirtual 71, 3) := by decide +kernel
theorem dX4_hookDistance_9 : decode cX4_hookDistance 9 = .ok (.aload_n 0, 1) := by decide +kernel
theorem dX4_hookDistance_10 : decode cX4_hookDistance 10 = .ok (.getfield 20, 3) := by decide +kernel
theorem dX4_hookDistance_13 : decode cX4_hookDistance 13 = .ok (.iload_n 2, 1) := by decide +kernel
theorem dX4_hookDistance_14 : decode cX4_hookDistance 14 = .ok (.iconst 4, 1) := by decide +kernel
theorem dX4_hookDistance_15 : decode cX4_hookDistance 15 = .ok (.invokevirtual 71, 3) := by decide +kernel
theorem dX4_hookDistance_18 : decode cX4_hookDistance 18 = .ok (.if_icmp .eq 5, 3) := by decide +kernel
theorem dX4_hookDistance_21 : decode cX4_hookDistance 21 = .ok (.iconst (-1), 1) := by decide +kernel
theorem dX4_hookDistance_22 : decode cX4_hookDistance 22 = .ok (.ireturn, 1) := by decide +kernel
theorem dX4_hookDistance_23 : decode cX4_hookDistance 23 = .ok (.aload_n 0, 1) := by decide +kernel
theorem dX4_hookDistance_24 : decode cX4_hookDistance 24 = .ok (.getfield 23, 3) := by decide +kernel
theorem dX4_hookDistance_27 : decode cX4_hookDistance 27 = .ok (.iload_n 1, 1) := by decide +kernel
theorem dX4_hookDistance_28 : decode cX4_hookDistance 28 = .ok (.iconst 2, 1) := by decide +kernel
theorem dX4_hookDistance_29 : decode cX4_hookDistance 29 = .ok (.invokevirtual 71, 3) := by decide +kernel
theorem dX4_hookDistance_32 : decode cX4_hookDistance 32 = .ok (.aload_n 0, 1) := by decide +kernel
theorem dX4_hookDistance_33 : decode cX4_hookDistance 33 = .ok (.getfield 20, 3) := by decide +kernel
theorem dX4_hookDistance_36 : decode cX4_hookDistance 36 = .ok (.iload_n 2, 1) := by decide +kernel
theorem dX4_hookDistance_37 : decode cX4_hookDistance 37 = .ok (.iconst 5, 1) := by decide +kernel
theorem dX4_hookDistance_38 : decode cX4_hookDistance 38 = .ok (.invokevirtual 71, 3) := by decide +kernel
theorem dX4_hookDistance_41 : decode cX4_hookDistance 41 = .ok (.isub, 1) := by decide +kernel
theorem dX4_hookDistance_42 : decode cX4_hookDistance 42 = .ok (.invokestatic 176, 3) := by decide +kernel
theorem dX4_hookDistance_45 : decode cX4_hookDistance 45 = .ok (.ireturn, 1) := by decide +kernel
theorem dX4_countClaimable_0 : decode cX4_countClaimable 0 = .ok (.iconst 0, 1) := by decide +kernel
theorem dX4_countClaimable_1 : decode cX4_countClaimable 1 = .ok (.istore_n 2, 1) := by decide +kernel
theorem dX4_countClaimable_2 : decode cX4_countClaimable 2 = .ok (.iconst 0, 1) := by decide +kernel
theorem dX4_countClaimable_3 : decode cX4_countClaimable 3 = .ok (.istore_n 3, 1) := by decide +kernel
theorem dX4_countClaimable_4 : decode cX4_countClaimable 4 = .ok (.iload_n 3, 1) := by decide +kernel
theorem dX4_countClaimable_5 : decode cX4_countClaimable 5 = .ok (.aload_n 0, 1) := by decide +kernel
theorem dX4_countClaimable_6 : decode cX4_countClaimable 6 = .ok (.getfield 20, 3) := by decide +kernel
theorem dX4_countClaimable_9 : decode cX4_countClaimable 9 = .ok (.getfield 29, 3) := by decide +kernel
theorem dX4_countClaimable_12 : decode cX4_countClaimable 12 = .ok (.if_icmp .ge 21, 3) := by decide +kernel
theorem dX4_countClaimable_15 : decode cX4_countClaimable 15 = .ok (.aload_n 0, 1) := by decide +kernel
theorem dX4_countClaimable_16 : decode cX4_countClaimable 16 = .ok (.iload_n 1, 1) := by decide +kernel
theorem dX4_countClaimable_17 : decode cX4_countClaimable 17 = .ok (.iload_n 3, 1) := by decide +kernel
theorem dX4_countClaimable_18 : decode cX4_countClaimable 18 = .ok (.invokevirtual 121, 3) := by decide +kernel
theorem dX4_countClaimable_21 : decode cX4_countClaimable 21 = .ok (.ifCond .ne 6, 3) := by decide +kernel
theorem dX4_countClaimable_24 : decode cX4_countClaimable 24 = .ok (.iinc 2 1, 3) := by decide +kernel
theorem dX4_countClaimable_27 : decode cX4_countClaimable 27 = .ok (.iinc 3 1, 3) := by decide +kernel
theorem dX4_countClaimable_30 : decode cX4_countClaimable 30 = .ok (.goto (-26), 3) := by decide +kernel
theorem dX4_countClaimable_33 : decode cX4_countClaimable 33 = .ok (.iload_n 2, 1) := by decide +kernel
theorem dX4_countClaimable_34 : decode cX4_countClaimable 34 = .ok (.ireturn, 1) := by decide +kernel
theorem dX4_number_0 : decode cX4_number 0 = .ok (.iload_n 1, 1) := by decide +kernel
theorem dX4_number_1 : decode cX4_number 1 = .ok (.tableswitch 144 0 13 #[71, 79, 144, 144, 144, 144, 144, 87, 92, 97, 110, 120, 125, 134], 71) := by decide +kernel
theorem dX4_number_72 : decode cX4_number 72 = .ok (.aload_n 0, 1) := by decide +kernel
theorem dX4_number_73 : decode cX4_number 73 = .ok (.getfield 14, 3) := by decide +kernel
theorem dX4_number_76 : decode cX4_number 76 = .ok (.getfield 29, 3) := by decide +kernel
theorem dX4_number_79 : decode cX4_number 79 = .ok (.ireturn, 1) := by decide +kernel
theorem dX4_number_80 : decode cX4_number 80 = .ok (.aload_n 0, 1) := by decide +kernel
theorem dX4_number_81 : decode cX4_number 81 = .ok (.getfield 20, 3) := by decide +kernel
theorem dX4_number_84 : decode cX4_number 84 = .ok (.getfield 29, 3) := by decide +kernel
theorem dX4_number_87 : decode cX4_number 87 = .ok (.ireturn, 1) := by decide +kernel
theorem dX4_number_88 : decode cX4_number 88 = .ok (.aload_n 0, 1) := by decide +kernel
theorem dX4_number_89 : decode cX4_number 89 = .ok (.getfield 50, 3) := by decide +kernel
theorem dX4_number_92 : decode cX4_number 92 = .ok (.ireturn, 1) := by decide +kernel
theorem dX4_number_93 : decode cX4_number 93 = .ok (.aload_n 0, 1) := by decide +kernel
theorem dX4_number_94 : decode cX4_number 94 = .ok (.getfield 53, 3) := by decide +kernel
theorem dX4_number_97 : decode cX4_number 97 = .ok (.ireturn, 1) := by decide +kernel
theorem dX4_number_98 : decode cX4_number 98 = .ok (.aload_n 0, 1) := by decide +kernel
theorem dX4_number_99 : decode cX4_number 99 = .ok (.getfield 56, 3) := by decide +kernel
theorem dX4_number_102 : decode cX4_number 102 = .ok (.ifCond .eq 7, 3) := by decide +kernel
theorem dX4_number_105 : decode cX4_number 105 = .ok (.iconst 1, 1) := by decide +kernel
theorem dX4_number_106 : decode cX4_number 106 = .ok (.goto 4, 3) := by decide +kernel
theorem dX4_number_109 : decode cX4_number 109 = .ok (.iconst 0, 1) := by decide +kernel
theorem dX4_number_110 : decode cX4_number 110 = .ok (.ireturn, 1) := by decide +kernel
theorem dX4_number_111 : decode cX4_number 111 = .ok (.aload_n 0, 1) := by decide +kernel
theorem dX4_number_112 : decode cX4_number 112 = .ok (.getfield 20, 3) := by decide +kernel
theorem dX4_number_115 : decode cX4_number 115 = .ok (.bipush 8, 2) := by decide +kernel
theorem dX4_number_117 : decode cX4_number 117 = .ok (.invokevirtual 181, 3) := by decide +kernel
theorem dX4_number_120 : decode cX4_number 120 = .ok (.ireturn, 1) := by decide +kernel
theorem dX4_number_121 : decode cX4_number 121 = .ok (.aload_n 0, 1) := by decide +kernel
theorem dX4_number_122 : decode cX4_number 122 = .ok (.getfield 60, 3) := by decide +kernel
theorem dX4_number_125 : decode cX4_number 125 = .ok (.ireturn, 1) := by decide +kernel
theorem dX4_number_126 : decode cX4_number 126 = .ok (.aload_n 0, 1) := by decide +kernel
theorem dX4_number_127 : decode cX4_number 127 = .ok (.getfield 23, 3) := by decide +kernel
theorem dX4_number_130 : decode cX4_number 130 = .ok (.iconst 0, 1) := by decide +kernel
theorem dX4_number_131 : decode cX4_number 131 = .ok (.invokevirtual 181, 3) := by decide +kernel
theorem dX4_number_134 : decode cX4_number 134 = .ok (.ireturn, 1) := by decide +kernel
theorem dX4_number_135 : decode cX4_number 135 = .ok (.aload_n 0, 1) := by decide +kernel
theorem dX4_number_136 : decode cX4_number 136 = .ok (.getfield 20, 3) := by decide +kernel
theorem dX4_number_139 : decode cX4_number 139 = .ok (.bipush 9, 2) := by decide +kernel
theorem dX4_number_141 : decode cX4_number 141 = .ok (.invokevirtual 181, 3) := by decide +kernel
theorem dX4_number_144 : decode cX4_number 144 = .ok (.ireturn, 1) := by decide +kernel
theorem dX4_number_145 : decode cX4_number 145 = .ok (.aload_n 0, 1) := by decide +kernel
theorem dX4_number_146 : decode cX4_number 146 = .ok (.getfield 20, 3) := by decide +kernel
theorem dX4_number_149 : decode cX4_number 149 = .ok (.iconst 3, 1) := by decide +kernel
theorem dX4_number_150 : decode cX4_number 150 = .ok (.iload_n 1, 1) := by decide +kernel
theorem dX4_number_151 : decode cX4_number 151 = .ok (.iconst 2, 1) := by decide +kernel
theorem dX4_number_152 : decode cX4_number 152 = .ok (.isub, 1) := by decide +kernel
theorem dX4_number_153 : decode cX4_number 153 = .ok (.invokevirtual 136, 3) := by decide +kernel
theorem dX4_number_156 : decode cX4_number 156 = .ok (.ireturn, 1) := by decide +kernel
theorem dX4_numberOfGutter_0 : decode cX4_numberOfGutter 0 = .ok (.iload_n 2, 1) := by decide +kernel
theorem dX4_numberOfGutter_1 : decode cX4_numberOfGutter 1 = .ok (.tableswitch 47 4 6 #[27, 34, 41], 27) := by decide +kernel
theorem dX4_numberOfGutter_28 : decode cX4_numberOfGutter 28 = .ok (.aload_n 0, 1) := by decide +kernel
theorem dX4_numberOfGutter_29 : decode cX4_numberOfGutter 29 = .ok (.iload_n 1, 1) := by decide +kernel
theorem dX4_numberOfGutter_30 : decode cX4_numberOfGutter 30 = .ok (.iconst 1, 1) := by decide +kernel
theorem dX4_numberOfGutter_31 : decode cX4_numberOfGutter 31 = .ok (.invokevirtual 184, 3) := by decide +kernel
theorem dX4_numberOfGutter_34 : decode cX4_numberOfGutter 34 = .ok (.ireturn, 1) := by decide +kernel
theorem dX4_numberOfGutter_35 : decode cX4_numberOfGutter 35 = .ok (.aload_n 0, 1) := by decide +kernel
theorem dX4_numberOfGutter_36 : decode cX4_numberOfGutter 36 = .ok (.iload_n 1, 1) := by decide +kernel
theorem dX4_numberOfGutter_37 : decode cX4_numberOfGutter 37 = .ok (.iconst 3, 1) := by decide +kernel
theorem dX4_numberOfGutter_38 : decode cX4_numberOfGutter 38 = .ok (.invokevirtual 184, 3) := by decide +kernel
theorem dX4_numberOfGutter_41 : decode cX4_numberOfGutter 41 = .ok (.ireturn, 1) := by decide +kernel
theorem dX4_numberOfGutter_42 : decode cX4_numberOfGutter 42 = .ok (.aload_n 0, 1) := by decide +kernel
theorem dX4_numberOfGutter_43 : decode cX4_numberOfGutter 43 = .ok (.iload_n 1, 1) := by decide +kernel
theorem dX4_numberOfGutter_44 : decode cX4_numberOfGutter 44 = .ok (.invokevirtual 187, 3) := by decide +kernel
theorem dX4_numberOfGutter_47 : decode cX4_numberOfGutter 47 = .ok (.ireturn, 1) := by decide +kernel
theorem dX4_numberOfGutter_48 : decode cX4_numberOfGutter 48 = .ok (.aload_n 0, 1) := by decide +kernel
theorem dX4_numberOfGutter_49 : decode cX4_numberOfGutter 49 = .ok (.getfield 14, 3) := by decide +kernel
theorem dX4_numberOfGutter_52 : decode cX4_numberOfGutter 52 = .ok (.iload_n 1, 1) := by decide +kernel
theorem dX4_numberOfGutter_53 : decode cX4_numberOfGutter 53 = .ok (.iload_n 2, 1) := by decide +kernel
theorem dX4_numberOfGutter_54 : decode cX4_numberOfGutter 54 = .ok (.invokevirtual 71, 3) := by decide +kernel
theorem dX4_numberOfGutter_57 : decode cX4_numberOfGutter 57 = .ok (.ireturn, 1) := by decide +kernel
theorem dX4_countInGutter_0 : decode cX4_countInGutter 0 = .ok (.iconst 0, 1) := by decide +kernel
theorem dX4_countInGutter_1 : decode cX4_countInGutter 1 = .ok (.istore_n 3, 1) := by decide +kernel
theorem dX4_countInGutter_2 : decode cX4_countInGutter 2 = .ok (.iconst 0, 1) := by decide +kernel
theorem dX4_countInGutter_3 : decode cX4_countInGutter 3 = .ok (.istore 4, 2) := by decide +kernel
theorem dX4_countInGutter_5 : decode cX4_countInGutter 5 = .ok (.iload 4, 2) := by decide +kernel
theorem dX4_countInGutter_7 : decode cX4_countInGutter 7 = .ok (.aload_n 0, 1) := by decide +kernel
theorem dX4_countInGutter_8 : decode cX4_countInGutter 8 = .ok (.getfield 20, 3) := by decide +kernel
theorem dX4_countInGutter_11 : decode cX4_countInGutter 11 = .ok (.getfield 29, 3) := by decide +kernel
theorem dX4_countInGutter_14 : decode cX4_countInGutter 14 = .ok (.if_icmp .ge 40, 3) := by decide +kernel
theorem dX4_countInGutter_17 : decode cX4_countInGutter 17 = .ok (.aload_n 0, 1) := by decide +kernel
theorem dX4_countInGutter_18 : decode cX4_countInGutter 18 = .ok (.getfield 20, 3) := by decide +kernel
theorem dX4_countInGutter_21 : decode cX4_countInGutter 21 = .ok (.iload 4, 2) := by decide +kernel
theorem dX4_countInGutter_23 : decode cX4_countInGutter 23 = .ok (.iconst 3, 1) := by decide +kernel
theorem dX4_countInGutter_24 : decode cX4_countInGutter 24 = .ok (.invokevirtual 71, 3) := by decide +kernel
theorem dX4_countInGutter_27 : decode cX4_countInGutter 27 = .ok (.iload_n 2, 1) := by decide +kernel
theorem dX4_countInGutter_28 : decode cX4_countInGutter 28 = .ok (.if_icmp .ne 20, 3) := by decide +kernel
theorem dX4_countInGutter_31 : decode cX4_countInGutter 31 = .ok (.aload_n 0, 1) := by decide +kernel
theorem dX4_countInGutter_32 : decode cX4_countInGutter 32 = .ok (.getfield 20, 3) := by decide +kernel
theorem dX4_countInGutter_35 : decode cX4_countInGutter 35 = .ok (.iload 4, 2) := by decide +kernel
theorem dX4_countInGutter_37 : decode cX4_countInGutter 37 = .ok (.iconst 4, 1) := by decide +kernel
theorem dX4_countInGutter_38 : decode cX4_countInGutter 38 = .ok (.invokevirtual 71, 3) := by decide +kernel
theorem dX4_countInGutter_41 : decode cX4_countInGutter 41 = .ok (.iload_n 1, 1) := by decide +kernel
theorem dX4_countInGutter_42 : decode cX4_countInGutter 42 = .ok (.if_icmp .ne 6, 3) := by decide +kernel
theorem dX4_countInGutter_45 : decode cX4_countInGutter 45 = .ok (.iinc 3 1, 3) := by decide +kernel
theorem dX4_countInGutter_48 : decode cX4_countInGutter 48 = .ok (.iinc 4 1, 3) := by decide +kernel
theorem dX4_countInGutter_51 : decode cX4_countInGutter 51 = .ok (.goto (-46), 3) := by decide +kernel
theorem dX4_countInGutter_54 : decode cX4_countInGutter 54 = .ok (.iload_n 3, 1) := by decide +kernel
theorem dX4_countInGutter_55 : decode cX4_countInGutter 55 = .ok (.ireturn, 1) := by decide +kernel
theorem dX4_lowestWreck_0 : decode cX4_lowestWreck 0 = .ok (.iconst 0, 1) := by decide +kernel
theorem dX4_lowestWreck_1 : decode cX4_lowestWreck 1 = .ok (.istore_n 2, 1) := by decide +kernel
theorem dX4_lowestWreck_2 : decode cX4_lowestWreck 2 = .ok (.iload_n 2, 1) := by decide +kernel
theorem dX4_lowestWreck_3 : decode cX4_lowestWreck 3 = .ok (.aload_n 0, 1) := by decide +kernel
theorem dX4_lowestWreck_4 : decode cX4_lowestWreck 4 = .ok (.getfield 14, 3) := by decide +kernel
theorem dX4_lowestWreck_7 : decode cX4_lowestWreck 7 = .ok (.iload_n 1, 1) := by decide +kernel
theorem dX4_lowestWreck_8 : decode cX4_lowestWreck 8 = .ok (.iconst 0, 1) := by decide +kernel
theorem dX4_lowestWreck_9 : decode cX4_lowestWreck 9 = .ok (.invokevirtual 71, 3) := by decide +kernel
theorem dX4_lowestWreck_12 : decode cX4_lowestWreck 12 = .ok (.if_icmp .ge 20, 3) := by decide +kernel
theorem dX4_lowestWreck_15 : decode cX4_lowestWreck 15 = .ok (.aload_n 0, 1) := by decide +kernel
theorem dX4_lowestWreck_16 : decode cX4_lowestWreck 16 = .ok (.iload_n 1, 1) := by decide +kernel
theorem dX4_lowestWreck_17 : decode cX4_lowestWreck 17 = .ok (.iload_n 2, 1) := by decide +kernel
theorem dX4_lowestWreck_18 : decode cX4_lowestWreck 18 = .ok (.invokevirtual 167, 3) := by decide +kernel
theorem dX4_lowestWreck_21 : decode cX4_lowestWreck 21 = .ok (.ifCond .eq 5, 3) := by decide +kernel
theorem dX4_lowestWreck_24 : decode cX4_lowestWreck 24 = .ok (.iload_n 2, 1) := by decide +kernel
theorem dX4_lowestWreck_25 : decode cX4_lowestWreck 25 = .ok (.ireturn, 1) := by decide +kernel
theorem dX4_lowestWreck_26 : decode cX4_lowestWreck 26 = .ok (.iinc 2 1, 3) := by decide +kernel
theorem dX4_lowestWreck_29 : decode cX4_lowestWreck 29 = .ok (.goto (-27), 3) := by decide +kernel
theorem dX4_lowestWreck_32 : decode cX4_lowestWreck 32 = .ok (.iconst (-1), 1) := by decide +kernel
theorem dX4_lowestWreck_33 : decode cX4_lowestWreck 33 = .ok (.ireturn, 1) := by decide +kernel
theorem dX4_numberOfOwner_0 : decode cX4_numberOfOwner 0 = .ok (.iload_n 2, 1) := by decide +kernel
theorem dX4_numberOfOwner_1 : decode cX4_numberOfOwner 1 = .ok (.tableswitch 71 0 3 #[31, 41, 51, 61], 31) := by decide +kernel
theorem dX4_numberOfOwner_32 : decode cX4_numberOfOwner 32 = .ok (.aload_n 0, 1) := by decide +kernel
theorem dX4_numberOfOwner_33 : decode cX4_numberOfOwner 33 = .ok (.getfield 23, 3) := by decide +kernel
theorem dX4_numberOfOwner_36 : decode cX4_numberOfOwner 36 = .ok (.iload_n 1, 1) := by decide +kernel
theorem dX4_numberOfOwner_37 : decode cX4_numberOfOwner 37 = .ok (.iconst 0, 1) := by decide +kernel
theorem dX4_numberOfOwner_38 : decode cX4_numberOfOwner 38 = .ok (.invokevirtual 71, 3) := by decide +kernel
theorem dX4_numberOfOwner_41 : decode cX4_numberOfOwner 41 = .ok (.ireturn, 1) := by decide +kernel
theorem dX4_numberOfOwner_42 : decode cX4_numberOfOwner 42 = .ok (.aload_n 0, 1) := by decide +kernel
theorem dX4_numberOfOwner_43 : decode cX4_numberOfOwner 43 = .ok (.getfield 20, 3) := by decide +kernel
theorem dX4_numberOfOwner_46 : decode cX4_numberOfOwner 46 = .ok (.iconst 2, 1) := by decide +kernel
theorem dX4_numberOfOwner_47 : decode cX4_numberOfOwner 47 = .ok (.iload_n 1, 1) := by decide +kernel
theorem dX4_numberOfOwner_48 : decode cX4_numberOfOwner 48 = .ok (.invokevirtual 136, 3) := by decide +kernel
theorem dX4_numberOfOwner_51 : decode cX4_numberOfOwner 51 = .ok (.ireturn, 1) := by decide +kernel
theorem dX4_numberOfOwner_52 : decode cX4_numberOfOwner 52 = .ok (.aload_n 0, 1) := by decide +kernel
theorem dX4_numberOfOwner_53 : decode cX4_numberOfOwner 53 = .ok (.getfield 23, 3) := by decide +kernel
theorem dX4_numberOfOwner_56 : decode cX4_numberOfOwner 56 = .ok (.iload_n 1, 1) := by decide +kernel
theorem dX4_numberOfOwner_57 : decode cX4_numberOfOwner 57 = .ok (.iconst 1, 1) := by decide +kernel
theorem dX4_numberOfOwner_58 : decode cX4_numberOfOwner 58 = .ok (.invokevirtual 71, 3) := by decide +kernel
theorem dX4_numberOfOwner_61 : decode cX4_numberOfOwner 61 = .ok (.ireturn, 1) := by decide +kernel
theorem dX4_numberOfOwner_62 : decode cX4_numberOfOwner 62 = .ok (.aload_n 0, 1) := by decide +kernel
theorem dX4_numberOfOwner_63 : decode cX4_numberOfOwner 63 = .ok (.getfield 23, 3) := by decide +kernel
theorem dX4_numberOfOwner_66 : decode cX4_numberOfOwner 66 = .ok (.iload_n 1, 1) := by decide +kernel
theorem dX4_numberOfOwner_67 : decode cX4_numberOfOwner 67 = .ok (.iconst 2, 1) := by decide +kernel
theorem dX4_numberOfOwner_68 : decode cX4_numberOfOwner 68 = .ok (.invokevirtual 71, 3) := by decide +kernel
theorem dX4_numberOfOwner_71 : decode cX4_numberOfOwner 71 = .ok (.ireturn, 1) := by decide +kernel
theorem dX4_numberOfOwner_72 : decode cX4_numberOfOwner 72 = .ok (.aload_n 0, 1) := by decide +kernel
theorem dX4_numberOfOwner_73 : decode cX4_numberOfOwner 73 = .ok (.iload_n 1, 1) := by decide +kernel
theorem dX4_numberOfOwner_74 : decode cX4_numberOfOwner 74 = .ok (.invokevirtual 190, 3) := by decide +kernel
theorem dX4_numberOfOwner_77 : decode cX4_numberOfOwner 77 = .ok (.ireturn, 1) := by decide +kernel
theorem dX5_init_0 : decode cX5_init 0 = .ok (.aload_n 0, 1) := by decide +kernel
theorem dX5_init_1 : decode cX5_init 1 = .ok (.invokespecial 1, 3) := by decide +kernel
theorem dX5_init_4 : decode cX5_init 4 = .ok (.aload_n 0, 1) := by decide +kernel
theorem dX5_init_5 : decode cX5_init 5 = .ok (.new 7, 3) := by decide +kernel
theorem dX5_init_8 : decode cX5_init 8 = .ok (.dup, 1) := by decide +kernel
theorem dX5_init_9 : decode cX5_init 9 = .ok (.invokespecial 9, 3) := by decide +kernel
theorem dX5_init_12 : decode cX5_init 12 = .ok (.putfield 10, 3) := by decide +kernel
theorem dX5_init_15 : decode cX5_init 15 = .ok (.aload_n 0, 1) := by decide +kernel
theorem dX5_init_16 : decode cX5_init 16 = .ok (.new 16, 3) := by decide +kernel
theorem dX5_init_19 : decode cX5_init 19 = .ok (.dup, 1) := by decide +kernel
theorem dX5_init_20 : decode cX5_init 20 = .ok (.invokespecial 18, 3) := by decide +kernel
theorem dX5_init_23 : decode cX5_init 23 = .ok (.putfield 19, 3) := by decide +kernel
theorem dX5_init_26 : decode cX5_init 26 = .ok (.aload_n 0, 1) := by decide +kernel
theorem dX5_init_27 : decode cX5_init 27 = .ok (.new 16, 3) := by decide +kernel
theorem dX5_init_30 : decode cX5_init 30 = .ok (.dup, 1) := by decide +kernel
theorem dX5_init_31 : decode cX5_init 31 = .ok (.invokespecial 18, 3) := by decide +kernel
theorem dX5_init_34 : decode cX5_init 34 = .ok (.putfield 23, 3) := by decide +kernel
theorem dX5_init_37 : decode cX5_init 37 = .ok (.aload_n 0, 1) := by decide +kernel
theorem dX5_init_38 : decode cX5_init 38 = .ok (.new 26, 3) := by decide +kernel
theorem dX5_init_41 : decode cX5_init 41 = .ok (.dup, 1) := by decide +kernel
theorem dX5_init_42 : decode cX5_init 42 = .ok (.invokespecial 28, 3) := by decide +kernel
theorem dX5_init_45 : decode cX5_init 45 = .ok (.putfield 29, 3) := by decide +kernel
theorem dX5_init_48 : decode cX5_init 48 = .ok (.aload_n 0, 1) := by decide +kernel
theorem dX5_init_49 : decode cX5_init 49 = .ok (.new 33, 3) := by decide +kernel
theorem dX5_init_52 : decode cX5_init 52 = .ok (.dup, 1) := by decide +kernel
theorem dX5_init_53 : decode cX5_init 53 = .ok (.iconst 2, 1) := by decide +kernel
theorem dX5_init_54 : decode cX5_init 54 = .ok (.invokespecial 35, 3) := by decide +kernel
theorem dX5_init_57 : decode cX5_init 57 = .ok (.putfield 38, 3) := by decide +kernel
theorem dX5_init_60 : decode cX5_init 60 = .ok (.return_, 1) := by decide +kernel
theorem dX5_append_0 : decode cX5_append 0 = .ok (.iload_n 1, 1) := by decide +kernel
theorem dX5_append_1 : decode cX5_append 1 = .ok (.ifCond .lt 10, 3) := by decide +kernel
theorem dX5_append_4 : decode cX5_append 4 = .ok (.iload_n 1, 1) := by decide +kernel
theorem dX5_append_5 : decode cX5_append 5 = .ok (.sipush 255, 3) := by decide +kernel
theorem dX5_append_8 : decode cX5_append 8 = .ok (.if_icmp .le 7, 3) := by decide +kernel
theorem dX5_append_11 : decode cX5_append 11 = .ok (.iconst 2, 1) := by decide +kernel
theorem dX5_append_12 : decode cX5_append 12 = .ok (.goto 4, 3) := by decide +kernel
theorem dX5_append_15 : decode cX5_append 15 = .ok (.iconst 0, 1) := by decide +kernel
theorem dX5_append_16 : decode cX5_append 16 = .ok (.invokestatic 42, 3) := by decide +kernel
theorem dX5_append_19 : decode cX5_append 19 = .ok (.aload_n 0, 1) := by decide +kernel
theorem dX5_append_20 : decode cX5_append 20 = .ok (.getfield 10, 3) := by decide +kernel
theorem dX5_append_23 : decode cX5_append 23 = .ok (.invokevirtual 45, 3) := by decide +kernel
theorem dX5_append_26 : decode cX5_append 26 = .ok (.ifCond .eq 7, 3) := by decide +kernel
theorem dX5_append_29 : decode cX5_append 29 = .ok (.iconst 3, 1) := by decide +kernel
theorem dX5_append_30 : decode cX5_append 30 = .ok (.goto 4, 3) := by decide +kernel
theorem dX5_append_33 : decode cX5_append 33 = .ok (.iconst 0, 1) := by decide +kernel
theorem dX5_append_34 : decode cX5_append 34 = .ok (.invokestatic 42, 3) := by decide +kernel
theorem dX5_append_37 : decode cX5_append 37 = .ok (.aload_n 0, 1) := by decide +kernel
theorem dX5_append_38 : decode cX5_append 38 = .ok (.getfield 10, 3) := by decide +kernel
theorem dX5_append_41 : decode cX5_append 41 = .ok (.iload_n 1, 1) := by decide +kernel
theorem dX5_append_42 : decode cX5_append 42 = .ok (.invokevirtual 49, 3) := by decide +kernel
theorem dX5_append_45 : decode cX5_append 45 = .ok (.ireturn, 1) := by decide +kernel
theorem dX5_clearText_0 : decode cX5_clearText 0 = .ok (.aload_n 0, 1) := by decide +kernel
theorem dX5_clearText_1 : decode cX5_clearText 1 = .ok (.getfield 10, 3) := by decide +kernel
theorem dX5_clearText_4 : decode cX5_clearText 4 = .ok (.invokevirtual 53, 3) := by decide +kernel
theorem dX5_clearText_7 : decode cX5_clearText 7 = .ok (.ireturn, 1) := by decide +kernel
theorem dX5_errorPosition_0 : decode cX5_errorPosition 0 = .ok (.aload_n 0, 1) := by decide +kernel
theorem dX5_errorPosition_1 : decode cX5_errorPosition 1 = .ok (.getfield 10, 3) := by decide +kernel
theorem dX5_errorPosition_4 : decode cX5_errorPosition 4 = .ok (.invokevirtual 57, 3) := by decide +kernel
theorem dX5_errorPosition_7 : decode cX5_errorPosition 7 = .ok (.ireturn, 1) := by decide +kernel
theorem dX5_load_0 : decode cX5_load 0 = .ok (.aload_n 0, 1) := by decide +kernel
theorem dX5_load_1 : decode cX5_load 1 = .ok (.getfield 10, 3) := by decide +kernel
theorem dX5_load_4 : decode cX5_load 4 = .ok (.invokevirtual 57, 3) := by decide +kernel
theorem dX5_load_7 : decode cX5_load 7 = .ok (.iconst (-1), 1) := by decide +kernel
theorem dX5_load_8 : decode cX5_load 8 = .ok (.if_icmp .eq 7, 3) := by decide +kernel
theorem dX5_load_11 : decode cX5_load 11 = .ok (.iconst 3, 1) := by decide +kernel
theorem dX5_load_12 : decode cX5_load 12 = .ok (.goto 4, 3) := by decide +kernel
theorem dX5_load_15 : decode cX5_load 15 = .ok (.iconst 0, 1) := by decide +kernel
theorem dX5_load_16 : decode cX5_load 16 = .ok (.invokestatic 42, 3) := by decide +kernel
theorem dX5_load_19 : decode cX5_load 19 = .ok (.aload_n 0, 1) := by decide +kernel
theorem dX5_load_20 : decode cX5_load 20 = .ok (.getfield 19, 3) := by decide +kernel
theorem dX5_load_23 : decode cX5_load 23 = .ok (.invokevirtual 60, 3) := by decide +kernel
theorem dX5_load_26 : decode cX5_load 26 = .ok (.aload_n 0, 1) := by decide +kernel
theorem dX5_load_27 : decode cX5_load 27 = .ok (.getfield 29, 3) := by decide +kernel
theorem dX5_load_30 : decode cX5_load 30 = .ok (.invokevirtual 63, 3) := by decide +kernel
theorem dX5_load_33 : decode cX5_load 33 = .ok (.aload_n 0, 1) := by decide +kernel
theorem dX5_load_34 : decode cX5_load 34 = .ok (.getfield 38, 3) := by decide +kernel
theorem dX5_load_37 : decode cX5_load 37 = .ok (.invokevirtual 66, 3) := by decide +kernel
theorem dX5_load_40 : decode cX5_load 40 = .ok (.aload_n 0, 1) := by decide +kernel
theorem dX5_load_41 : decode cX5_load 41 = .ok (.getfield 10, 3) := by decide +kernel
theorem dX5_load_44 : decode cX5_load 44 = .ok (.aload_n 0, 1) := by decide +kernel
theorem dX5_load_45 : decode cX5_load 45 = .ok (.getfield 19, 3) := by decide +kernel
theorem dX5_load_48 : decode cX5_load 48 = .ok (.invokevirtual 69, 3) := by decide +kernel
theorem dX5_load_51 : decode cX5_load 51 = .ok (.ireturn, 1) := by decide +kernel
theorem dX5_about_0 : decode cX5_about 0 = .ok (.iload_n 1, 1) := by decide +kernel
theorem dX5_about_1 : decode cX5_about 1 = .ok (.ifCond .lt 9, 3) := by decide +kernel
theorem dX5_about_4 : decode cX5_about 4 = .ok (.iload_n 1, 1) := by decide +kernel
theorem dX5_about_5 : decode cX5_about 5 = .ok (.bipush 13, 2) := by decide +kernel
theorem dX5_about_7 : decode cX5_about 7 = .ok (.if_icmp .le 7, 3) := by decide +kernel
theorem dX5_about_10 : decode cX5_about 10 = .ok (.iconst 2, 1) := by decide +kernel
theorem dX5_about_11 : decode cX5_about 11 = .ok (.goto 4, 3) := by decide +kernel
theorem dX5_about_14 : decode cX5_about 14 = .ok (.iconst 0, 1) := by decide +kernel
theorem dX5_about_15 : decode cX5_about 15 = .ok (.invokestatic 42, 3) := by decide +kernel
theorem dX5_about_18 : decode cX5_about 18 = .ok (.aload_n 0, 1) := by decide +kernel
theorem dX5_about_19 : decode cX5_about 19 = .ok (.getfield 19, 3) := by decide +kernel
theorem dX5_about_22 : decode cX5_about 22 = .ok (.iload_n 1, 1) := by decide +kernel
theorem dX5_about_23 : decode cX5_about 23 = .ok (.invokevirtual 73, 3) := by decide +kernel
theorem dX5_about_26 : decode cX5_about 26 = .ok (.ireturn, 1) := by decide +kernel
theorem dX5_gutterOf_0 : decode cX5_gutterOf 0 = .ok (.aload_n 0, 1) := by decide +kernel
theorem dX5_gutterOf_1 : decode cX5_gutterOf 1 = .ok (.getfield 19, 3) := by decide +kernel
theorem dX5_gutterOf_4 : decode cX5_gutterOf 4 = .ok (.iload_n 1, 1) := by decide +kernel
theorem dX5_gutterOf_5 : decode cX5_gutterOf 5 = .ok (.invokevirtual 76, 3) := by decide +kernel
theorem dX5_gutterOf_8 : decode cX5_gutterOf 8 = .ok (.ifCond .eq 7, 3) := by decide +kernel
theorem dX5_gutterOf_11 : decode cX5_gutterOf 11 = .ok (.iconst 0, 1) := by decide +kernel
theorem dX5_gutterOf_12 : decode cX5_gutterOf 12 = .ok (.goto 4, 3) := by decide +kernel
theorem dX5_gutterOf_15 : decode cX5_gutterOf 15 = .ok (.iconst 1, 1) := by decide +kernel
theorem dX5_gutterOf_16 : decode cX5_gutterOf 16 = .ok (.invokestatic 42, 3) := by decide +kernel
theorem dX5_gutterOf_19 : decode cX5_gutterOf 19 = .ok (.iload_n 2, 1) := by decide +kernel
theorem dX5_gutterOf_20 : decode cX5_gutterOf 20 = .ok (.ifCond .lt 9, 3) := by decide +kernel
theorem dX5_gutterOf_23 : decode cX5_gutterOf 23 = .ok (.iload_n 2, 1) := by decide +kernel
theorem dX5_gutterOf_24 : decode cX5_gutterOf 24 = .ok (.bipush 6, 2) := by decide +kernel
theorem dX5_gutterOf_26 : decode cX5_gutterOf 26 = .ok (.if_icmp .le 7, 3) := by decide +kernel
theorem dX5_gutterOf_29 : decode cX5_gutterOf 29 = .ok (.iconst 2, 1) := by decide +kernel
theorem dX5_gutterOf_30 : decode cX5_gutterOf 30 = .ok (.goto 4, 3) := by decide +kernel
theorem dX5_gutterOf_33 : decode cX5_gutterOf 33 = .ok (.iconst 0, 1) := by decide +kernel
theorem dX5_gutterOf_34 : decode cX5_gutterOf 34 = .ok (.invokestatic 42, 3) := by decide +kernel
theorem dX5_gutterOf_37 : decode cX5_gutterOf 37 = .ok (.aload_n 0, 1) := by decide +kernel
theorem dX5_gutterOf_38 : decode cX5_gutterOf 38 = .ok (.getfield 19, 3) := by decide +kernel
theorem dX5_gutterOf_41 : decode cX5_gutterOf 41 = .ok (.iload_n 1, 1) := by decide +kernel
theorem dX5_gutterOf_42 : decode cX5_gutterOf 42 = .ok (.iload_n 2, 1) := by decide +kernel
theorem dX5_gutterOf_43 : decode cX5_gutterOf 43 = .ok (.invokevirtual 80, 3) := by decide +kernel
theorem dX5_gutterOf_46 : decode cX5_gutterOf 46 = .ok (.ireturn, 1) := by decide +kernel
theorem dX5_boatOf_0 : decode cX5_boatOf 0 = .ok (.aload_n 0, 1) := by decide +kernel
theorem dX5_boatOf_1 : decode cX5_boatOf 1 = .ok (.getfield 19, 3) := by decide +kernel
theorem dX5_boatOf_4 : decode cX5_boatOf 4 = .ok (.iload_n 1, 1) := by decide +kernel
theorem dX5_boatOf_5 : decode cX5_boatOf 5 = .ok (.invokevirtual 84, 3) := by decide +kernel
theorem dX5_boatOf_8 : decode cX5_boatOf 8 = .ok (.ifCond .eq 7, 3) := by decide +kernel
theorem dX5_boatOf_11 : decode cX5_boatOf 11 = .ok (.iconst 0, 1) := by decide +kernel
theorem dX5_boatOf_12 : decode cX5_boatOf 12 = .ok (.goto 4, 3) := by decide +kernel
theorem dX5_boatOf_15 : decode cX5_boatOf 15 = .ok (.iconst 1, 1) := by decide +kernel
theorem dX5_boatOf_16 : decode cX5_boatOf 16 = .ok (.invokestatic 42, 3) := by decide +kernel
theorem dX5_boatOf_19 : decode cX5_boatOf 19 = .ok (.iload_n 2, 1) := by decide +kernel
theorem dX5_boatOf_20 : decode cX5_boatOf 20 = .ok (.ifCond .lt 9, 3) := by decide +kernel
theorem dX5_boatOf_23 : decode cX5_boatOf 23 = .ok (.iload_n 2, 1) := by decide +kernel
theorem dX5_boatOf_24 : decode cX5_boatOf 24 = .ok (.bipush 10, 2) := by decide +kernel
theorem dX5_boatOf_26 : decode cX5_boatOf 26 = .ok (.if_icmp .le 7, 3) := by decide +kernel
theorem dX5_boatOf_29 : decode cX5_boatOf 29 = .ok (.iconst 2, 1) := by decide +kernel
theorem dX5_boatOf_30 : decode cX5_boatOf 30 = .ok (.goto 4, 3) := by decide +kernel
theorem dX5_boatOf_33 : decode cX5_boatOf 33 = .ok (.iconst 0, 1) := by decide +kernel
theorem dX5_boatOf_34 : decode cX5_boatOf 34 = .ok (.invokestatic 42, 3) := by decide +kernel
theorem dX5_boatOf_37 : decode cX5_boatOf 37 = .ok (.iload_n 2, 1) := by decide +kernel
theorem dX5_boatOf_38 : decode cX5_boatOf 38 = .ok (.bipush 10, 2) := by decide +kernel
theorem dX5_boatOf_40 : decode cX5_boatOf 40 = .ok (.if_icmp .ne 14, 3) := by decide +kernel
theorem dX5_boatOf_43 : decode cX5_boatOf 43 = .ok (.aload_n 0, 1) := by decide +kernel
theorem dX5_boatOf_44 : decode cX5_boatOf 44 = .ok (.getfield 19, 3) := by decide +kernel
theorem dX5_boatOf_47 : decode cX5_boatOf 47 = .ok (.iload_n 1, 1) := by decide +kernel
theorem dX5_boatOf_48 : decode cX5_boatOf 48 = .ok (.invokevirtual 87, 3) := by decide +kernel
theorem dX5_boatOf_51 : decode cX5_boatOf 51 = .ok (.goto 15, 3) := by decide +kernel
theorem dX5_boatOf_54 : decode cX5_boatOf 54 = .ok (.aload_n 0, 1) := by decide +kernel
theorem dX5_boatOf_55 : decode cX5_boatOf 55 = .ok (.getfield 19, 3) := by decide +kernel
theorem dX5_boatOf_58 : decode cX5_boatOf 58 = .ok (.getfield 90, 3) := by decide +kernel
theorem dX5_boatOf_61 : decode cX5_boatOf 61 = .ok (.iload_n 1, 1) := by decide +kernel
theorem dX5_boatOf_62 : decode cX5_boatOf 62 = .ok (.iload_n 2, 1) := by decide +kernel
theorem dX5_boatOf_63 : decode cX5_boatOf 63 = .ok (.invokevirtual 94, 3) := by decide +kernel
theorem dX5_boatOf_66 : decode cX5_boatOf 66 = .ok (.ireturn, 1) := by decide +kernel
theorem dX5_ownerOf_0 : decode cX5_ownerOf 0 = .ok (.aload_n 0, 1) := by decide +kernel
theorem dX5_ownerOf_1 : decode cX5_ownerOf 1 = .ok (.getfield 19, 3) := by decide +kernel
theorem dX5_ownerOf_4 : decode cX5_ownerOf 4 = .ok (.iload_n 1, 1) := by decide +kernel
theorem dX5_ownerOf_5 : decode cX5_ownerOf 5 = .ok (.invokevirtual 99, 3) := by decide +kernel
theorem dX5_ownerOf_8 : decode cX5_ownerOf 8 = .ok (.ifCond .eq 7, 3) := by decide +kernel
theorem dX5_ownerOf_11 : decode cX5_ownerOf 11 = .ok (.iconst 0, 1) := by decide +kernel
theorem dX5_ownerOf_12 : decode cX5_ownerOf 12 = .ok (.goto 4, 3) := by decide +kernel
theorem dX5_ownerOf_15 : decode cX5_ownerOf 15 = .ok (.iconst 1, 1) := by decide +kernel
theorem dX5_ownerOf_16 : decode cX5_ownerOf 16 = .ok (.invokestatic 42, 3) := by decide +kernel
theorem dX5_ownerOf_19 : decode cX5_ownerOf 19 = .ok (.iload_n 2, 1) := by decide +kernel
theorem dX5_ownerOf_20 : decode cX5_ownerOf 20 = .ok (.ifCond .lt 8, 3) := by decide +kernel
theorem dX5_ownerOf_23 : decode cX5_ownerOf 23 = .ok (.iload_n 2, 1) := by decide +kernel
theorem dX5_ownerOf_24 : decode cX5_ownerOf 24 = .ok (.iconst 4, 1) := by decide +kernel
theorem dX5_ownerOf_25 : decode cX5_ownerOf 25 = .ok (.if_icmp .le 7, 3) := by decide +kernel
theorem dX5_ownerOf_28 : decode cX5_ownerOf 28 = .ok (.iconst 2, 1) := by decide +kernel
theorem dX5_ownerOf_29 : decode cX5_ownerOf 29 = .ok (.goto 4, 3) := by decide +kernel
theorem dX5_ownerOf_32 : decode cX5_ownerOf 32 = .ok (.iconst 0, 1) := by decide +kernel
theorem dX5_ownerOf_33 : decode cX5_ownerOf 33 = .ok (.invokestatic 42, 3) := by decide +kernel
theorem dX5_ownerOf_36 : decode cX5_ownerOf 36 = .ok (.aload_n 0, 1) := by decide +kernel
theorem dX5_ownerOf_37 : decode cX5_ownerOf 37 = .ok (.getfield 19, 3) := by decide +kernel
theorem dX5_ownerOf_40 : decode cX5_ownerOf 40 = .ok (.iload_n 1, 1) := by decide +kernel
theorem dX5_ownerOf_41 : decode cX5_ownerOf 41 = .ok (.iload_n 2, 1) := by decide +kernel
theorem dX5_ownerOf_42 : decode cX5_ownerOf 42 = .ok (.invokevirtual 102, 3) := by decide +kernel
theorem dX5_ownerOf_45 : decode cX5_ownerOf 45 = .ok (.ireturn, 1) := by decide +kernel
theorem dX5_way_0 : decode cX5_way 0 = .ok (.aload_n 0, 1) := by decide +kernel
theorem dX5_way_1 : decode cX5_way 1 = .ok (.getfield 19, 3) := by decide +kernel
theorem dX5_way_4 : decode cX5_way 4 = .ok (.iload_n 1, 1) := by decide +kernel
theorem dX5_way_5 : decode cX5_way 5 = .ok (.iload_n 2, 1) := by decide +kernel
theorem dX5_way_6 : decode cX5_way 6 = .ok (.invokevirtual 105, 3) := by decide +kernel
theorem dX5_way_9 : decode cX5_way 9 = .ok (.ifCond .eq 7, 3) := by decide +kernel
theorem dX5_way_12 : decode cX5_way 12 = .ok (.iconst 0, 1) := by decide +kernel
theorem dX5_way_13 : decode cX5_way 13 = .ok (.goto 4, 3) := by decide +kernel
theorem dX5_way_16 : decode cX5_way 16 = .ok (.iconst 1, 1) := by decide +kernel
theorem dX5_way_17 : decode cX5_way 17 = .ok (.invokestatic 42, 3) := by decide +kernel
theorem dX5_way_20 : decode cX5_way 20 = .ok (.iload_n 3, 1) := by decide +kernel
theorem dX5_way_21 : decode cX5_way 21 = .ok (.ifCond .eq 12, 3) := by decide +kernel
theorem dX5_way_24 : decode cX5_way 24 = .ok (.iload_n 3, 1) := by decide +kernel
theorem dX5_way_25 : decode cX5_way 25 = .ok (.iconst 1, 1) := by decide +kernel
theorem dX5_way_26 : decode cX5_way 26 = .ok (.if_icmp .eq 7, 3) := by decide +kernel
theorem dX5_way_29 : decode cX5_way 29 = .ok (.iconst 2, 1) := by decide +kernel
theorem dX5_way_30 : decode cX5_way 30 = .ok (.goto 4, 3) := by decide +kernel
theorem dX5_way_33 : decode cX5_way 33 = .ok (.iconst 0, 1) := by decide +kernel
theorem dX5_way_34 : decode cX5_way 34 = .ok (.invokestatic 42, 3) := by decide +kernel
theorem dX5_way_37 : decode cX5_way 37 = .ok (.iload_n 3, 1) := by decide +kernel
theorem dX5_way_38 : decode cX5_way 38 = .ok (.ifCond .ne 15, 3) := by decide +kernel
theorem dX5_way_41 : decode cX5_way 41 = .ok (.aload_n 0, 1) := by decide +kernel
theorem dX5_way_42 : decode cX5_way 42 = .ok (.getfield 19, 3) := by decide +kernel
theorem dX5_way_45 : decode cX5_way 45 = .ok (.iload_n 1, 1) := by decide +kernel
theorem dX5_way_46 : decode cX5_way 46 = .ok (.iload_n 2, 1) := by decide +kernel
theorem dX5_way_47 : decode cX5_way 47 = .ok (.invokevirtual 109, 3) := by decide +kernel
theorem dX5_way_50 : decode cX5_way 50 = .ok (.goto 12, 3) := by decide +kernel
theorem dX5_way_53 : decode cX5_way 53 = .ok (.aload_n 0, 1) := by decide +kernel
theorem dX5_way_54 : decode cX5_way 54 = .ok (.getfield 19, 3) := by decide +kernel
theorem dX5_way_57 : decode cX5_way 57 = .ok (.iload_n 1, 1) := by decide +kernel
theorem dX5_way_58 : decode cX5_way 58 = .ok (.iload_n 2, 1) := by decide +kernel
theorem dX5_way_59 : decode cX5_way 59 = .ok (.invokevirtual 112, 3) := by decide +kernel
theorem dX5_way_62 : decode cX5_way 62 = .ok (.ireturn, 1) := by decide +kernel
theorem dX5_setting_0 : decode cX5_setting 0 = .ok (.iload_n 1, 1) := by decide +kernel
theorem dX5_setting_1 : decode cX5_setting 1 = .ok (.ifCond .lt 8, 3) := by decide +kernel
theorem dX5_setting_4 : decode cX5_setting 4 = .ok (.iload_n 1, 1) := by decide +kernel
theorem dX5_setting_5 : decode cX5_setting 5 = .ok (.iconst 2, 1) := by decide +kernel
theorem dX5_setting_6 : decode cX5_setting 6 = .ok (.if_icmp .le 7, 3) := by decide +kernel
theorem dX5_setting_9 : decode cX5_setting 9 = .ok (.iconst 2, 1) := by decide +kernel
theorem dX5_setting_10 : decode cX5_setting 10 = .ok (.goto 4, 3) := by decide +kernel
theorem dX5_setting_13 : decode cX5_setting 13 = .ok (.iconst 0, 1) := by decide +kernel
theorem dX5_setting_14 : decode cX5_setting 14 = .ok (.invokestatic 42, 3) := by decide +kernel
theorem dX5_setting_17 : decode cX5_setting 17 = .ok (.aload_n 0, 1) := by decide +kernel
theorem dX5_setting_18 : decode cX5_setting 18 = .ok (.getfield 19, 3) := by decide +kernel
theorem dX5_setting_21 : decode cX5_setting 21 = .ok (.iload_n 1, 1) := by decide +kernel
theorem dX5_setting_22 : decode cX5_setting 22 = .ok (.invokevirtual 115, 3) := by decide +kernel
theorem dX5_setting_25 : decode cX5_setting 25 = .ok (.ireturn, 1) := by decide +kernel
theorem dX5_gutter_0 : decode cX5_gutter 0 = .ok (.aload_n 0, 1) := by decide +kernel
theorem dX5_gutter_1 : decode cX5_gutter 1 = .ok (.getfield 19, 3) := by decide +kernel
theorem dX5_gutter_4 : decode cX5_gutter 4 = .ok (.iload_n 1, 1) := by decide +kernel
theorem dX5_gutter_5 : decode cX5_gutter 5 = .ok (.iload_n 2, 1) := by decide +kernel
theorem dX5_gutter_6 : decode cX5_gutter 6 = .ok (.iload_n 3, 1) := by decide +kernel
theorem dX5_gutter_7 : decode cX5_gutter 7 = .ok (.iload 4, 2) := by decide +kernel
theorem dX5_gutter_9 : decode cX5_gutter 9 = .ok (.invokevirtual 118, 3) := by decide +kernel
theorem dX5_gutter_12 : decode cX5_gutter 12 = .ok (.invokestatic 42, 3) := by decide +kernel
theorem dX5_gutter_15 : decode cX5_gutter 15 = .ok (.aload_n 0, 1) := by decide +kernel
theorem dX5_gutter_16 : decode cX5_gutter 16 = .ok (.getfield 29, 3) := by decide +kernel
theorem dX5_gutter_19 : decode cX5_gutter 19 = .ok (.aload_n 0, 1) := by decide +kernel
theorem dX5_gutter_20 : decode cX5_gutter 20 = .ok (.getfield 19, 3) := by decide +kernel
theorem dX5_gutter_23 : decode cX5_gutter 23 = .ok (.invokevirtual 122, 3) := by decide +kernel
theorem dX5_gutter_26 : decode cX5_gutter 26 = .ok (.aload_n 0, 1) := by decide +kernel
theorem dX5_gutter_27 : decode cX5_gutter 27 = .ok (.getfield 19, 3) := by decide +kernel
theorem dX5_gutter_30 : decode cX5_gutter 30 = .ok (.iload_n 1, 1) := by decide +kernel
theorem dX5_gutter_31 : decode cX5_gutter 31 = .ok (.iload_n 2, 1) := by decide +kernel
theorem dX5_gutter_32 : decode cX5_gutter 32 = .ok (.iload_n 3, 1) := by decide +kernel
theorem dX5_gutter_33 : decode cX5_gutter 33 = .ok (.iload 4, 2) := by decide +kernel
theorem dX5_gutter_35 : decode cX5_gutter 35 = .ok (.invokevirtual 126, 3) := by decide +kernel
theorem dX5_gutter_38 : decode cX5_gutter 38 = .ok (.ireturn, 1) := by decide +kernel
theorem dX5_boat_0 : decode cX5_boat 0 = .ok (.aload_n 0, 1) := by decide +kernel
theorem dX5_boat_1 : decode cX5_boat 1 = .ok (.getfield 19, 3) := by decide +kernel
theorem dX5_boat_4 : decode cX5_boat 4 = .ok (.iload_n 1, 1) := by decide +kernel
theorem dX5_boat_5 : decode cX5_boat 5 = .ok (.iload_n 2, 1) := by decide +kernel
theorem dX5_boat_6 : decode cX5_boat 6 = .ok (.iload_n 3, 1) := by decide +kernel
theorem dX5_boat_7 : decode cX5_boat 7 = .ok (.invokevirtual 129, 3) := by decide +kernel
theorem dX5_boat_10 : decode cX5_boat 10 = .ok (.invokestatic 42, 3) := by decide +kernel
theorem dX5_boat_13 : decode cX5_boat 13 = .ok (.aload_n 0, 1) := by decide +kernel
theorem dX5_boat_14 : decode cX5_boat 14 = .ok (.getfield 29, 3) := by decide +kernel
theorem dX5_boat_17 : decode cX5_boat 17 = .ok (.aload_n 0, 1) := by decide +kernel
theorem dX5_boat_18 : decode cX5_boat 18 = .ok (.getfield 19, 3) := by decide +kernel
theorem dX5_boat_21 : decode cX5_boat 21 = .ok (.invokevirtual 122, 3) := by decide +kernel
theorem dX5_boat_24 : decode cX5_boat 24 = .ok (.aload_n 0, 1) := by decide +kernel
theorem dX5_boat_25 : decode cX5_boat 25 = .ok (.getfield 19, 3) := by decide +kernel
theorem dX5_boat_28 : decode cX5_boat 28 = .ok (.iload_n 1, 1) := by decide +kernel
theorem dX5_boat_29 : decode cX5_boat 29 = .ok (.iload_n 2, 1) := by decide +kernel
theorem dX5_boat_30 : decode cX5_boat 30 = .ok (.iload_n 3, 1) := by decide +kernel
theorem dX5_boat_31 : decode cX5_boat 31 = .ok (.invokevirtual 133, 3) := by decide +kernel
theorem dX5_boat_34 : decode cX5_boat 34 = .ok (.ireturn, 1) := by decide +kernel
theorem dX5_launch_0 : decode cX5_launch 0 = .ok (.aload_n 0, 1) := by decide +kernel
theorem dX5_launch_1 : decode cX5_launch 1 = .ok (.getfield 19, 3) := by decide +kernel
theorem dX5_launch_4 : decode cX5_launch 4 = .ok (.iload_n 1, 1) := by decide +kernel
theorem dX5_launch_5 : decode cX5_launch 5 = .ok (.iload_n 2, 1) := by decide +kernel
theorem dX5_launch_6 : decode cX5_launch 6 = .ok (.invokevirtual 136, 3) := by decide +kernel
theorem dX5_launch_9 : decode cX5_launch 9 = .ok (.invokestatic 42, 3) := by decide +kernel
theorem dX5_launch_12 : decode cX5_launch 12 = .ok (.aload_n 0, 1) := by decide +kernel
theorem dX5_launch_13 : decode cX5_launch 13 = .ok (.getfield 29, 3) := by decide +kernel
theorem dX5_launch_16 : decode cX5_launch 16 = .ok (.aload_n 0, 1) := by decide +kernel
theorem dX5_launch_17 : decode cX5_launch 17 = .ok (.getfield 19, 3) := by decide +kernel
theorem dX5_launch_20 : decode cX5_launch 20 = .ok (.invokevirtual 122, 3) := by decide +kernel
theorem dX5_launch_23 : decode cX5_launch 23 = .ok (.aload_n 0, 1) := by decide +kernel
theorem dX5_launch_24 : decode cX5_launch 24 = .ok (.getfield 19, 3) := by decide +kernel
theorem dX5_launch_27 : decode cX5_launch 27 = .ok (.iload_n 1, 1) := by decide +kernel
theorem dX5_launch_28 : decode cX5_launch 28 = .ok (.iload_n 2, 1) := by decide +kernel
theorem dX5_launch_29 : decode cX5_launch 29 = .ok (.invokevirtual 139, 3) := by decide +kernel
theorem dX5_launch_32 : decode cX5_launch 32 = .ok (.ireturn, 1) := by decide +kernel
theorem dX5_hook_0 : decode cX5_hook 0 = .ok (.aload_n 0, 1) := by decide +kernel
theorem dX5_hook_1 : decode cX5_hook 1 = .ok (.getfield 19, 3) := by decide +kernel
theorem dX5_hook_4 : decode cX5_hook 4 = .ok (.iload_n 1, 1) := by decide +kernel
theorem dX5_hook_5 : decode cX5_hook 5 = .ok (.iload_n 2, 1) := by decide +kernel
theorem dX5_hook_6 : decode cX5_hook 6 = .ok (.iload_n 3, 1) := by decide +kernel
theorem dX5_hook_7 : decode cX5_hook 7 = .ok (.invokevirtual 142, 3) := by decide +kernel
theorem dX5_hook_10 : decode cX5_hook 10 = .ok (.invokestatic 42, 3) := by decide +kernel
theorem dX5_hook_13 : decode cX5_hook 13 = .ok (.aload_n 0, 1) := by decide +kernel
theorem dX5_hook_14 : decode cX5_hook 14 = .ok (.getfield 29, 3) := by decide +kernel
theorem dX5_hook_17 : decode cX5_hook 17 = .ok (.aload_n 0, 1) := by decide +kernel
theorem dX5_hook_18 : decode cX5_hook 18 = .ok (.getfield 19, 3) := by decide +kernel
theorem dX5_hook_21 : decode cX5_hook 21 = .ok (.invokevirtual 122, 3) := by decide +kernel
theorem dX5_hook_24 : decode cX5_hook 24 = .ok (.aload_n 0, 1) := by decide +kernel
theorem dX5_hook_25 : decode cX5_hook 25 = .ok (.getfield 19, 3) := by decide +kernel
theorem dX5_hook_28 : decode cX5_hook 28 = .ok (.iload_n 1, 1) := by decide +kernel
theorem dX5_hook_29 : decode cX5_hook 29 = .ok (.iload_n 2, 1) := by decide +kernel
theorem dX5_hook_30 : decode cX5_hook 30 = .ok (.iload_n 3, 1) := by decide +kernel
theorem dX5_hook_31 : decode cX5_hook 31 = .ok (.invokevirtual 145, 3) := by decide +kernel
theorem dX5_hook_34 : decode cX5_hook 34 = .ok (.aload_n 0, 1) := by decide +kernel
theorem dX5_hook_35 : decode cX5_hook 35 = .ok (.getfield 19, 3) := by decide +kernel
theorem dX5_hook_38 : decode cX5_hook 38 = .ok (.iload_n 1, 1) := by decide +kernel
theorem dX5_hook_39 : decode cX5_hook 39 = .ok (.invokevirtual 149, 3) := by decide +kernel
theorem dX5_hook_42 : decode cX5_hook 42 = .ok (.ireturn, 1) := by decide +kernel
theorem dX5_claim_0 : decode cX5_claim 0 = .ok (.aload_n 0, 1) := by decide +kernel
theorem dX5_claim_1 : decode cX5_claim 1 = .ok (.getfield 19, 3) := by decide +kernel
theorem dX5_claim_4 : decode cX5_claim 4 = .ok (.iload_n 1, 1) := by decide +kernel
theorem dX5_claim_5 : decode cX5_claim 5 = .ok (.iload_n 2, 1) := by decide +kernel
theorem dX5_claim_6 : decode cX5_claim 6 = .ok (.invokevirtual 152, 3) := by decide +kernel
theorem dX5_claim_9 : decode cX5_claim 9 = .ok (.invokestatic 42, 3) := by decide +kernel
theorem dX5_claim_12 : decode cX5_claim 12 = .ok (.aload_n 0, 1) := by decide +kernel
theorem dX5_claim_13 : decode cX5_claim 13 = .ok (.getfield 29, 3) := by decide +kernel
theorem dX5_claim_16 : decode cX5_claim 16 = .ok (.aload_n 0, 1) := by decide +kernel
theorem dX5_claim_17 : decode cX5_claim 17 = .ok (.getfield 19, 3) := by decide +kernel
theorem dX5_claim_20 : decode cX5_claim 20 = .ok (.invokevirtual 122, 3) := by decide +kernel
theorem dX5_claim_23 : decode cX5_claim 23 = .ok (.aload_n 0, 1) := by decide +kernel
theorem dX5_claim_24 : decode cX5_claim 24 = .ok (.getfield 19, 3) := by decide +kernel
theorem dX5_claim_27 : decode cX5_claim 27 = .ok (.iload_n 1, 1) := by decide +kernel
theorem dX5_claim_28 : decode cX5_claim 28 = .ok (.iload_n 2, 1) := by decide +kernel
theorem dX5_claim_29 : decode cX5_claim 29 = .ok (.invokevirtual 155, 3) := by decide +kernel
theorem dX5_claim_32 : decode cX5_claim 32 = .ok (.istore_n 3, 1) := by decide +kernel
theorem dX5_claim_33 : decode cX5_claim 33 = .ok (.iload_n 3, 1) := by decide +kernel
theorem dX5_claim_34 : decode cX5_claim 34 = .ok (.ifCond .ne 16, 3) := by decide +kernel
theorem dX5_claim_37 : decode cX5_claim 37 = .ok (.aload_n 0, 1) := by decide +kernel
theorem dX5_claim_38 : decode cX5_claim 38 = .ok (.getfield 19, 3) := by decide +kernel
theorem dX5_claim_41 : decode cX5_claim 41 = .ok (.iload_n 1, 1) := by decide +kernel
theorem dX5_claim_42 : decode cX5_claim 42 = .ok (.iload_n 2, 1) := by decide +kernel
theorem dX5_claim_43 : decode cX5_claim 43 = .ok (.invokevirtual 158, 3) := by decide +kernel
theorem dX5_claim_46 : decode cX5_claim 46 = .ok (.pop, 1) := by decide +kernel
theorem dX5_claim_47 : decode cX5_claim 47 = .ok (.goto 16, 3) := by decide +kernel
theorem dX5_claim_50 : decode cX5_claim 50 = .ok (.aload_n 0, 1) := by decide +kernel
theorem dX5_claim_51 : decode cX5_claim 51 = .ok (.getfield 19, 3) := by decide +kernel
theorem dX5_claim_54 : decode cX5_claim 54 = .ok (.dup, 1) := by decide +kernel
theorem dX5_claim_55 : decode cX5_claim 55 = .ok (.getfield 161, 3) := by decide +kernel
theorem dX5_claim_58 : decode cX5_claim 58 = .ok (.iconst 1, 1) := by decide +kernel
theorem dX5_claim_59 : decode cX5_claim 59 = .ok (.iadd, 1) := by decide +kernel
theorem dX5_claim_60 : decode cX5_claim 60 = .ok (.putfield 161, 3) := by decide +kernel
theorem dX5_claim_63 : decode cX5_claim 63 = .ok (.iload_n 3, 1) := by decide +kernel
theorem dX5_claim_64 : decode cX5_claim 64 = .ok (.ireturn, 1) := by decide +kernel
theorem dX5_minutes_0 : decode cX5_minutes 0 = .ok (.aload_n 0, 1) := by decide +kernel
theorem dX5_minutes_1 : decode cX5_minutes 1 = .ok (.getfield 19, 3) := by decide +kernel
theorem dX5_minutes_4 : decode cX5_minutes 4 = .ok (.iload_n 1, 1) := by decide +kernel
theorem dX5_minutes_5 : decode cX5_minutes 5 = .ok (.invokevirtual 165, 3) := by decide +kernel
theorem dX5_minutes_8 : decode cX5_minutes 8 = .ok (.invokestatic 42, 3) := by decide +kernel
theorem dX5_minutes_11 : decode cX5_minutes 11 = .ok (.aload_n 0, 1) := by decide +kernel
theorem dX5_minutes_12 : decode cX5_minutes 12 = .ok (.getfield 29, 3) := by decide +kernel
theorem dX5_minutes_15 : decode cX5_minutes 15 = .ok (.aload_n 0, 1) := by decide +kernel
theorem dX5_minutes_16 : decode cX5_minutes 16 = .ok (.getfield 19, 3) := by decide +kernel
theorem dX5_minutes_19 : decode cX5_minutes 19 = .ok (.invokevirtual 122, 3) := by decide +kernel
theorem dX5_minutes_22 : decode cX5_minutes 22 = .ok (.aload_n 0, 1) := by decide +kernel
theorem dX5_minutes_23 : decode cX5_minutes 23 = .ok (.getfield 19, 3) := by decide +kernel
theorem dX5_minutes_26 : decode cX5_minutes 26 = .ok (.iload_n 1, 1) := by decide +kernel
theorem dX5_minutes_27 : decode cX5_minutes 27 = .ok (.invokevirtual 168, 3) := by decide +kernel
theorem dX5_minutes_30 : decode cX5_minutes 30 = .ok (.ireturn, 1) := by decide +kernel
theorem dX5_set_0 : decode cX5_set 0 = .ok (.aload_n 0, 1) := by decide +kernel
theorem dX5_set_1 : decode cX5_set 1 = .ok (.getfield 19, 3) := by decide +kernel
theorem dX5_set_4 : decode cX5_set 4 = .ok (.iload_n 1, 1) := by decide +kernel
theorem dX5_set_5 : decode cX5_set 5 = .ok (.iload_n 2, 1) := by decide +kernel
theorem dX5_set_6 : decode cX5_set 6 = .ok (.invokevirtual 171, 3) := by decide +kernel
theorem dX5_set_9 : decode cX5_set 9 = .ok (.invokestatic 42, 3) := by decide +kernel
theorem dX5_set_12 : decode cX5_set 12 = .ok (.aload_n 0, 1) := by decide +kernel
theorem dX5_set_13 : decode cX5_set 13 = .ok (.getfield 29, 3) := by decide +kernel
theorem dX5_set_16 : decode cX5_set 16 = .ok (.aload_n 0, 1) := by decide +kernel
theorem dX5_set_17 : decode cX5_set 17 = .ok (.getfield 19, 3) := by decide +kernel
theorem dX5_set_20 : decode cX5_set 20 = .ok (.invokevirtual 122, 3) := by decide +kernel
theorem dX5_set_23 : decode cX5_set 23 = .ok (.aload_n 0, 1) := by decide +kernel
theorem dX5_set_24 : decode cX5_set 24 = .ok (.getfield 19, 3) := by decide +kernel
theorem dX5_set_27 : decode cX5_set 27 = .ok (.iload_n 1, 1) := by decide +kernel
theorem dX5_set_28 : decode cX5_set 28 = .ok (.iload_n 2, 1) := by decide +kernel
theorem dX5_set_29 : decode cX5_set 29 = .ok (.invokevirtual 174, 3) := by decide +kernel
theorem dX5_set_32 : decode cX5_set 32 = .ok (.ireturn, 1) := by decide +kernel
theorem dX5_undo_0 : decode cX5_undo 0 = .ok (.aload_n 0, 1) := by decide +kernel
theorem dX5_undo_1 : decode cX5_undo 1 = .ok (.getfield 29, 3) := by decide +kernel
theorem dX5_undo_4 : decode cX5_undo 4 = .ok (.getfield 177, 3) := by decide +kernel
theorem dX5_undo_7 : decode cX5_undo 7 = .ok (.ifCond .ne 7, 3) := by decide +kernel
theorem dX5_undo_10 : decode cX5_undo 10 = .ok (.iconst 3, 1) := by decide +kernel
theorem dX5_undo_11 : decode cX5_undo 11 = .ok (.goto 4, 3) := by decide +kernel
theorem dX5_undo_14 : decode cX5_undo 14 = .ok (.iconst 0, 1) := by decide +kernel
theorem dX5_undo_15 : decode cX5_undo 15 = .ok (.invokestatic 42, 3) := by decide +kernel
theorem dX5_undo_18 : decode cX5_undo 18 = .ok (.aload_n 0, 1) := by decide +kernel
theorem dX5_undo_19 : decode cX5_undo 19 = .ok (.getfield 29, 3) := by decide +kernel
theorem dX5_undo_22 : decode cX5_undo 22 = .ok (.aload_n 0, 1) := by decide +kernel
theorem dX5_undo_23 : decode cX5_undo 23 = .ok (.getfield 19, 3) := by decide +kernel
theorem dX5_undo_26 : decode cX5_undo 26 = .ok (.invokevirtual 180, 3) := by decide +kernel
theorem dX5_undo_29 : decode cX5_undo 29 = .ok (.ireturn, 1) := by decide +kernel
theorem dX5_why_0 : decode cX5_why 0 = .ok (.aload_n 0, 1) := by decide +kernel
theorem dX5_why_1 : decode cX5_why 1 = .ok (.getfield 19, 3) := by decide +kernel
theorem dX5_why_4 : decode cX5_why 4 = .ok (.iload_n 1, 1) := by decide +kernel
theorem dX5_why_5 : decode cX5_why 5 = .ok (.iload_n 2, 1) := by decide +kernel
theorem dX5_why_6 : decode cX5_why 6 = .ok (.invokevirtual 152, 3) := by decide +kernel
theorem dX5_why_9 : decode cX5_why 9 = .ok (.invokestatic 42, 3) := by decide +kernel
theorem dX5_why_12 : decode cX5_why 12 = .ok (.aload_n 0, 1) := by decide +kernel
theorem dX5_why_13 : decode cX5_why 13 = .ok (.getfield 19, 3) := by decide +kernel
theorem dX5_why_16 : decode cX5_why 16 = .ok (.iload_n 1, 1) := by decide +kernel
theorem dX5_why_17 : decode cX5_why 17 = .ok (.iload_n 2, 1) := by decide +kernel
theorem dX5_why_18 : decode cX5_why 18 = .ok (.invokevirtual 155, 3) := by decide +kernel
theorem dX5_why_21 : decode cX5_why 21 = .ok (.ireturn, 1) := by decide +kernel
theorem dX5_endsIn_0 : decode cX5_endsIn 0 = .ok (.aload_n 0, 1) := by decide +kernel
theorem dX5_endsIn_1 : decode cX5_endsIn 1 = .ok (.getfield 19, 3) := by decide +kernel
theorem dX5_endsIn_4 : decode cX5_endsIn 4 = .ok (.iload_n 1, 1) := by decide +kernel
theorem dX5_endsIn_5 : decode cX5_endsIn 5 = .ok (.invokevirtual 84, 3) := by decide +kernel
theorem dX5_endsIn_8 : decode cX5_endsIn 8 = .ok (.ifCond .eq 7, 3) := by decide +kernel
theorem dX5_endsIn_11 : decode cX5_endsIn 11 = .ok (.iconst 0, 1) := by decide +kernel
theorem dX5_endsIn_12 : decode cX5_endsIn 12 = .ok (.goto 4, 3) := by decide +kernel
theorem dX5_endsIn_15 : decode cX5_endsIn 15 = .ok (.iconst 1, 1) := by decide +kernel
theorem dX5_endsIn_16 : decode cX5_endsIn 16 = .ok (.invokestatic 42, 3) := by decide +kernel
theorem dX5_endsIn_19 : decode cX5_endsIn 19 = .ok (.iload_n 2, 1) := by decide +kernel
theorem dX5_endsIn_20 : decode cX5_endsIn 20 = .ok (.ifCond .eq 12, 3) := by decide +kernel
theorem dX5_endsIn_23 : decode cX5_endsIn 23 = .ok (.iload_n 2, 1) := by decide +kernel
theorem dX5_endsIn_24 : decode cX5_endsIn 24 = .ok (.iconst 1, 1) := by decide +kernel
theorem dX5_endsIn_25 : decode cX5_endsIn 25 = .ok (.if_icmp .eq 7, 3) := by decide +kernel
theorem dX5_endsIn_28 : decode cX5_endsIn 28 = .ok (.iconst 2, 1) := by decide +kernel
theorem dX5_endsIn_29 : decode cX5_endsIn 29 = .ok (.goto 4, 3) := by decide +kernel
theorem dX5_endsIn_32 : decode cX5_endsIn 32 = .ok (.iconst 0, 1) := by decide +kernel
theorem dX5_endsIn_33 : decode cX5_endsIn 33 = .ok (.invokestatic 42, 3) := by decide +kernel
theorem dX5_endsIn_36 : decode cX5_endsIn 36 = .ok (.aload_n 0, 1) := by decide +kernel
theorem dX5_endsIn_37 : decode cX5_endsIn 37 = .ok (.getfield 19, 3) := by decide +kernel
theorem dX5_endsIn_40 : decode cX5_endsIn 40 = .ok (.getfield 90, 3) := by decide +kernel
theorem dX5_endsIn_43 : decode cX5_endsIn 43 = .ok (.iload_n 1, 1) := by decide +kernel
theorem dX5_endsIn_44 : decode cX5_endsIn 44 = .ok (.iconst 3, 1) := by decide +kernel
theorem dX5_endsIn_45 : decode cX5_endsIn 45 = .ok (.invokevirtual 94, 3) := by decide +kernel
theorem dX5_endsIn_48 : decode cX5_endsIn 48 = .ok (.iconst 1, 1) := by decide +kernel
theorem dX5_endsIn_49 : decode cX5_endsIn 49 = .ok (.if_icmp .eq 7, 3) := by decide +kernel
theorem dX5_endsIn_52 : decode cX5_endsIn 52 = .ok (.iconst 3, 1) := by decide +kernel
theorem dX5_endsIn_53 : decode cX5_endsIn 53 = .ok (.goto 4, 3) := by decide +kernel
theorem dX5_endsIn_56 : decode cX5_endsIn 56 = .ok (.iconst 0, 1) := by decide +kernel
theorem dX5_endsIn_57 : decode cX5_endsIn 57 = .ok (.invokestatic 42, 3) := by decide +kernel
theorem dX5_endsIn_60 : decode cX5_endsIn 60 = .ok (.aload_n 0, 1) := by decide +kernel
theorem dX5_endsIn_61 : decode cX5_endsIn 61 = .ok (.getfield 23, 3) := by decide +kernel
theorem dX5_endsIn_64 : decode cX5_endsIn 64 = .ok (.aload_n 0, 1) := by decide +kernel
theorem dX5_endsIn_65 : decode cX5_endsIn 65 = .ok (.getfield 19, 3) := by decide +kernel
theorem dX5_endsIn_68 : decode cX5_endsIn 68 = .ok (.invokevirtual 183, 3) := by decide +kernel
theorem dX5_endsIn_71 : decode cX5_endsIn 71 = .ok (.aload_n 0, 1) := by decide +kernel
theorem dX5_endsIn_72 : decode cX5_endsIn 72 = .ok (.getfield 23, 3) := by decide +kernel
theorem dX5_endsIn_75 : decode cX5_endsIn 75 = .ok (.iload_n 1, 1) := by decide +kernel
theorem dX5_endsIn_76 : decode cX5_endsIn 76 = .ok (.invokevirtual 186, 3) := by decide +kernel
theorem dX5_endsIn_79 : decode cX5_endsIn 79 = .ok (.istore_n 3, 1) := by decide +kernel
theorem dX5_endsIn_80 : decode cX5_endsIn 80 = .ok (.aload_n 0, 1) := by decide +kernel
theorem dX5_endsIn_81 : decode cX5_endsIn 81 = .ok (.getfield 23, 3) := by decide +kernel
theorem dX5_endsIn_84 : decode cX5_endsIn 84 = .ok (.getfield 90, 3) := by decide +kernel
theorem dX5_endsIn_87 : decode cX5_endsIn 87 = .ok (.iload_n 1, 1) := by decide +kernel
theorem dX5_endsIn_88 : decode cX5_endsIn 88 = .ok (.iconst 3, 1) := by decide +kernel
theorem dX5_endsIn_89 : decode cX5_endsIn 89 = .ok (.invokevirtual 94, 3) := by decide +kernel
theorem dX5_endsIn_92 : decode cX5_endsIn 92 = .ok (.iconst 3, 1) := by decide +kernel
theorem dX5_endsIn_93 : decode cX5_endsIn 93 = .ok (.if_icmp .ne 7, 3) := by decide +kernel
theorem dX5_endsIn_96 : decode cX5_endsIn 96 = .ok (.iconst 1, 1) := by decide +kernel
theorem dX5_endsIn_97 : decode cX5_endsIn 97 = .ok (.goto 4, 3) := by decide +kernel
theorem dX5_endsIn_100 : decode cX5_endsIn 100 = .ok (.iconst 0, 1) := by decide +kernel
theorem dX5_endsIn_101 : decode cX5_endsIn 101 = .ok (.istore 4, 2) := by decide +kernel
theorem dX5_endsIn_103 : decode cX5_endsIn 103 = .ok (.iload 4, 2) := by decide +kernel
theorem dX5_endsIn_105 : decode cX5_endsIn 105 = .ok (.iload_n 2, 1) := by decide +kernel
theorem dX5_endsIn_106 : decode cX5_endsIn 106 = .ok (.iconst 1, 1) := by decide +kernel
theorem dX5_endsIn_107 : decode cX5_endsIn 107 = .ok (.if_icmp .ne 7, 3) := by decide +kernel
theorem dX5_endsIn_110 : decode cX5_endsIn 110 = .ok (.iconst 1, 1) := by decide +kernel
theorem dX5_endsIn_111 : decode cX5_endsIn 111 = .ok (.goto 4, 3) := by decide +kernel
theorem dX5_endsIn_114 : decode cX5_endsIn 114 = .ok (.iconst 0, 1) := by decide +kernel
theorem dX5_endsIn_115 : decode cX5_endsIn 115 = .ok (.if_icmp .ne 7, 3) := by decide +kernel
theorem dX5_endsIn_118 : decode cX5_endsIn 118 = .ok (.iload_n 3, 1) := by decide +kernel
theorem dX5_endsIn_119 : decode cX5_endsIn 119 = .ok (.goto 4, 3) := by decide +kernel
theorem dX5_endsIn_122 : decode cX5_endsIn 122 = .ok (.iconst (-1), 1) := by decide +kernel
theorem dX5_endsIn_123 : decode cX5_endsIn 123 = .ok (.ireturn, 1) := by decide +kernel
theorem dX5_winner_0 : decode cX5_winner 0 = .ok (.aload_n 0, 1) := by decide +kernel
theorem dX5_winner_1 : decode cX5_winner 1 = .ok (.getfield 23, 3) := by decide +kernel
theorem dX5_winner_4 : decode cX5_winner 4 = .ok (.aload_n 0, 1) := by decide +kernel
theorem dX5_winner_5 : decode cX5_winner 5 = .ok (.getfield 19, 3) := by decide +kernel
theorem dX5_winner_8 : decode cX5_winner 8 = .ok (.invokevirtual 183, 3) := by decide +kernel
theorem dX5_winner_11 : decode cX5_winner 11 = .ok (.aload_n 0, 1) := by decide +kernel
theorem dX5_winner_12 : decode cX5_winner 12 = .ok (.getfield 23, 3) := by decide +kernel
theorem dX5_winner_15 : decode cX5_winner 15 = .ok (.invokevirtual 189, 3) := by decide +kernel
theorem dX5_winner_18 : decode cX5_winner 18 = .ok (.iconst 0, 1) := by decide +kernel
theorem dX5_winner_19 : decode cX5_winner 19 = .ok (.istore_n 1, 1) := by decide +kernel
theorem dX5_winner_20 : decode cX5_winner 20 = .ok (.iload_n 1, 1) := by decide +kernel
theorem dX5_winner_21 : decode cX5_winner 21 = .ok (.aload_n 0, 1) := by decide +kernel
theorem dX5_winner_22 : decode cX5_winner 22 = .ok (.getfield 19, 3) := by decide +kernel
theorem dX5_winner_25 : decode cX5_winner 25 = .ok (.getfield 90, 3) := by decide +kernel
theorem dX5_winner_28 : decode cX5_winner 28 = .ok (.getfield 192, 3) := by decide +kernel
theorem dX5_winner_31 : decode cX5_winner 31 = .ok (.if_icmp .ge 40, 3) := by decide +kernel
theorem dX5_winner_34 : decode cX5_winner 34 = .ok (.aload_n 0, 1) := by decide +kernel
theorem dX5_winner_35 : decode cX5_winner 35 = .ok (.getfield 23, 3) := by decide +kernel
theorem dX5_winner_38 : decode cX5_winner 38 = .ok (.getfield 90, 3) := by decide +kernel
theorem dX5_winner_41 : decode cX5_winner 41 = .ok (.iload_n 1, 1) := by decide +kernel
theorem dX5_winner_42 : decode cX5_winner 42 = .ok (.bipush 8, 2) := by decide +kernel
theorem dX5_winner_44 : decode cX5_winner 44 = .ok (.invokevirtual 94, 3) := by decide +kernel
theorem dX5_winner_47 : decode cX5_winner 47 = .ok (.aload_n 0, 1) := by decide +kernel
theorem dX5_winner_48 : decode cX5_winner 48 = .ok (.getfield 19, 3) := by decide +kernel
theorem dX5_winner_51 : decode cX5_winner 51 = .ok (.getfield 90, 3) := by decide +kernel
theorem dX5_winner_54 : decode cX5_winner 54 = .ok (.iload_n 1, 1) := by decide +kernel
theorem dX5_winner_55 : decode cX5_winner 55 = .ok (.bipush 8, 2) := by decide +kernel
theorem dX5_winner_57 : decode cX5_winner 57 = .ok (.invokevirtual 94, 3) := by decide +kernel
theorem dX5_winner_60 : decode cX5_winner 60 = .ok (.if_icmp .le 5, 3) := by decide +kernel
theorem dX5_winner_63 : decode cX5_winner 63 = .ok (.iload_n 1, 1) := by decide +kernel
theorem dX5_winner_64 : decode cX5_winner 64 = .ok (.ireturn, 1) := by decide +kernel
theorem dX5_winner_65 : decode cX5_winner 65 = .ok (.iinc 1 1, 3) := by decide +kernel
theorem dX5_winner_68 : decode cX5_winner 68 = .ok (.goto (-48), 3) := by decide +kernel
theorem dX5_winner_71 : decode cX5_winner 71 = .ok (.iconst (-1), 1) := by decide +kernel
theorem dX5_winner_72 : decode cX5_winner 72 = .ok (.ireturn, 1) := by decide +kernel
theorem dX5_leastFolds_0 : decode cX5_leastFolds 0 = .ok (.aload_n 0, 1) := by decide +kernel
theorem dX5_leastFolds_1 : decode cX5_leastFolds 1 = .ok (.getfield 19, 3) := by decide +kernel
theorem dX5_leastFolds_4 : decode cX5_leastFolds 4 = .ok (.iload_n 1, 1) := by decide +kernel
theorem dX5_leastFolds_5 : decode cX5_leastFolds 5 = .ok (.invokevirtual 76, 3) := by decide +kernel
theorem dX5_leastFolds_8 : decode cX5_leastFolds 8 = .ok (.ifCond .eq 7, 3) := by decide +kernel
theorem dX5_leastFolds_11 : decode cX5_leastFolds 11 = .ok (.iconst 0, 1) := by decide +kernel
theorem dX5_leastFolds_12 : decode cX5_leastFolds 12 = .ok (.goto 4, 3) := by decide +kernel
theorem dX5_leastFolds_15 : decode cX5_leastFolds 15 = .ok (.iconst 1, 1) := by decide +kernel
theorem dX5_leastFolds_16 : decode cX5_leastFolds 16 = .ok (.invokestatic 42, 3) := by decide +kernel
theorem dX5_leastFolds_19 : decode cX5_leastFolds 19 = .ok (.iload_n 2, 1) := by decide +kernel
theorem dX5_leastFolds_20 : decode cX5_leastFolds 20 = .ok (.ifCond .lt 8, 3) := by decide +kernel
theorem dX5_leastFolds_23 : decode cX5_leastFolds 23 = .ok (.iload_n 2, 1) := by decide +kernel
theorem dX5_leastFolds_24 : decode cX5_leastFolds 24 = .ok (.iconst 3, 1) := by decide +kernel
theorem dX5_leastFolds_25 : decode cX5_leastFolds 25 = .ok (.if_icmp .le 7, 3) := by decide +kernel
theorem dX5_leastFolds_28 : decode cX5_leastFolds 28 = .ok (.iconst 2, 1) := by decide +kernel
theorem dX5_leastFolds_29 : decode cX5_leastFolds 29 = .ok (.goto 4, 3) := by decide +kernel
theorem dX5_leastFolds_32 : decode cX5_leastFolds 32 = .ok (.iconst 0, 1) := by decide +kernel
theorem dX5_leastFolds_33 : decode cX5_leastFolds 33 = .ok (.invokestatic 42, 3) := by decide +kernel
theorem dX5_leastFolds_36 : decode cX5_leastFolds 36 = .ok (.iconst 1, 1) := by decide +kernel
theorem dX5_leastFolds_37 : decode cX5_leastFolds 37 = .ok (.istore_n 3, 1) := by decide +kernel
theorem dX5_leastFolds_38 : decode cX5_leastFolds 38 = .ok (.iload_n 3, 1) := by decide +kernel
theorem dX5_leastFolds_39 : decode cX5_leastFolds 39 = .ok (.bipush 9, 2) := by decide +kernel
theorem dX5_leastFolds_41 : decode cX5_leastFolds 41 = .ok (.if_icmp .gt 72, 3) := by decide +kernel
theorem dX5_leastFolds_44 : decode cX5_leastFolds 44 = .ok (.aload_n 0, 1) := by decide +kernel
theorem dX5_leastFolds_45 : decode cX5_leastFolds 45 = .ok (.getfield 23, 3) := by decide +kernel
theorem dX5_leastFolds_48 : decode cX5_leastFolds 48 = .ok (.aload_n 0, 1) := by decide +kernel
theorem dX5_leastFolds_49 : decode cX5_leastFolds 49 = .ok (.getfield 19, 3) := by decide +kernel
theorem dX5_leastFolds_52 : decode cX5_leastFolds 52 = .ok (.invokevirtual 183, 3) := by decide +kernel
theorem dX5_leastFolds_55 : decode cX5_leastFolds 55 = .ok (.aload_n 0, 1) := by decide +kernel
theorem dX5_leastFolds_56 : decode cX5_leastFolds 56 = .ok (.getfield 23, 3) := by decide +kernel
theorem dX5_leastFolds_59 : decode cX5_leastFolds 59 = .ok (.iload_n 3, 1) := by decide +kernel
theorem dX5_leastFolds_60 : decode cX5_leastFolds 60 = .ok (.iload_n 2, 1) := by decide +kernel
theorem dX5_leastFolds_61 : decode cX5_leastFolds 61 = .ok (.iconst 0, 1) := by decide +kernel
theorem dX5_leastFolds_62 : decode cX5_leastFolds 62 = .ok (.invokevirtual 133, 3) := by decide +kernel
theorem dX5_leastFolds_65 : decode cX5_leastFolds 65 = .ok (.istore 4, 2) := by decide +kernel
theorem dX5_leastFolds_67 : decode cX5_leastFolds 67 = .ok (.aload_n 0, 1) := by decide +kernel
theorem dX5_leastFolds_68 : decode cX5_leastFolds 68 = .ok (.getfield 23, 3) := by decide +kernel
theorem dX5_leastFolds_71 : decode cX5_leastFolds 71 = .ok (.iload 4, 2) := by decide +kernel
theorem dX5_leastFolds_73 : decode cX5_leastFolds 73 = .ok (.iload_n 1, 1) := by decide +kernel
theorem dX5_leastFolds_74 : decode cX5_leastFolds 74 = .ok (.invokevirtual 139, 3) := by decide +kernel
theorem dX5_leastFolds_77 : decode cX5_leastFolds 77 = .ok (.pop, 1) := by decide +kernel
theorem dX5_leastFolds_78 : decode cX5_leastFolds 78 = .ok (.aload_n 0, 1) := by decide +kernel
theorem dX5_leastFolds_79 : decode cX5_leastFolds 79 = .ok (.getfield 23, 3) := by decide +kernel
theorem dX5_leastFolds_82 : decode cX5_leastFolds 82 = .ok (.iload 4, 2) := by decide +kernel
theorem dX5_leastFolds_84 : decode cX5_leastFolds 84 = .ok (.invokevirtual 186, 3) := by decide +kernel
theorem dX5_leastFolds_87 : decode cX5_leastFolds 87 = .ok (.pop, 1) := by decide +kernel
theorem dX5_leastFolds_88 : decode cX5_leastFolds 88 = .ok (.aload_n 0, 1) := by decide +kernel
theorem dX5_leastFolds_89 : decode cX5_leastFolds 89 = .ok (.getfield 23, 3) := by decide +kernel
theorem dX5_leastFolds_92 : decode cX5_leastFolds 92 = .ok (.getfield 90, 3) := by decide +kernel
theorem dX5_leastFolds_95 : decode cX5_leastFolds 95 = .ok (.iload 4, 2) := by decide +kernel
theorem dX5_leastFolds_97 : decode cX5_leastFolds 97 = .ok (.iconst 3, 1) := by decide +kernel
theorem dX5_leastFolds_98 : decode cX5_leastFolds 98 = .ok (.invokevirtual 94, 3) := by decide +kernel
theorem dX5_leastFolds_101 : decode cX5_leastFolds 101 = .ok (.iconst 3, 1) := by decide +kernel
theorem dX5_leastFolds_102 : decode cX5_leastFolds 102 = .ok (.if_icmp .eq 5, 3) := by decide +kernel
theorem dX5_leastFolds_105 : decode cX5_leastFolds 105 = .ok (.iload_n 3, 1) := by decide +kernel
theorem dX5_leastFolds_106 : decode cX5_leastFolds 106 = .ok (.ireturn, 1) := by decide +kernel
theorem dX5_leastFolds_107 : decode cX5_leastFolds 107 = .ok (.iinc 3 1, 3) := by decide +kernel
theorem dX5_leastFolds_110 : decode cX5_leastFolds 110 = .ok (.goto (-72), 3) := by decide +kernel
theorem dX5_leastFolds_113 : decode cX5_leastFolds 113 = .ok (.iconst (-1), 1) := by decide +kernel
theorem dX5_leastFolds_114 : decode cX5_leastFolds 114 = .ok (.ireturn, 1) := by decide +kernel
theorem dX5_runScript_0 : decode cX5_runScript 0 = .ok (.iload_n 1, 1) := by decide +kernel
theorem dX5_runScript_1 : decode cX5_runScript 1 = .ok (.iconst 1, 1) := by decide +kernel
theorem dX5_runScript_2 : decode cX5_runScript 2 = .ok (.if_icmp .lt 8, 3) := by decide +kernel
theorem dX5_runScript_5 : decode cX5_runScript 5 = .ok (.iload_n 1, 1) := by decide +kernel
theorem dX5_runScript_6 : decode cX5_runScript 6 = .ok (.iconst 3, 1) := by decide +kernel
theorem dX5_runScript_7 : decode cX5_runScript 7 = .ok (.if_icmp .le 7, 3) := by decide +kernel
theorem dX5_runScript_10 : decode cX5_runScript 10 = .ok (.iconst 2, 1) := by decide +kernel
theorem dX5_runScript_11 : decode cX5_runScript 11 = .ok (.goto 4, 3) := by decide +kernel
theorem dX5_runScript_14 : decode cX5_runScript 14 = .ok (.iconst 0, 1) := by decide +kernel
theorem dX5_runScript_15 : decode cX5_runScript 15 = .ok (.invokestatic 42, 3) := by decide +kernel
theorem dX5_runScript_18 : decode cX5_runScript 18 = .ok (.lload_n 2, 1) := by decide +kernel
theorem dX5_runScript_19 : decode cX5_runScript 19 = .ok (.lconst 0, 1) := by decide +kernel
theorem dX5_runScript_20 : decode cX5_runScript 20 = .ok (.lcmp, 1) := by decide +kernel
theorem dX5_runScript_21 : decode cX5_runScript 21 = .ok (.ifCond .lt 13, 3) := by decide +kernel
theorem dX5_runScript_24 : decode cX5_runScript 24 = .ok (.lload_n 2, 1) := by decide +kernel
theorem dX5_runScript_25 : decode cX5_runScript 25 = .ok (.iload_n 1, 1) := by decide +kernel
theorem dX5_runScript_26 : decode cX5_runScript 26 = .ok (.invokestatic 195, 3) := by decide +kernel
theorem dX5_runScript_29 : decode cX5_runScript 29 = .ok (.lconst 0, 1) := by decide +kernel
theorem dX5_runScript_30 : decode cX5_runScript 30 = .ok (.lcmp, 1) := by decide +kernel
theorem dX5_runScript_31 : decode cX5_runScript 31 = .ok (.ifCond .eq 7, 3) := by decide +kernel
theorem dX5_runScript_34 : decode cX5_runScript 34 = .ok (.iconst 2, 1) := by decide +kernel
theorem dX5_runScript_35 : decode cX5_runScript 35 = .ok (.goto 4, 3) := by decide +kernel
theorem dX5_runScript_38 : decode cX5_runScript 38 = .ok (.iconst 0, 1) := by decide +kernel
theorem dX5_runScript_39 : decode cX5_runScript 39 = .ok (.invokestatic 42, 3) := by decide +kernel
theorem dX5_runScript_42 : decode cX5_runScript 42 = .ok (.aload_n 0, 1) := by decide +kernel
theorem dX5_runScript_43 : decode cX5_runScript 43 = .ok (.getfield 23, 3) := by decide +kernel
theorem dX5_runScript_46 : decode cX5_runScript 46 = .ok (.aload_n 0, 1) := by decide +kernel
theorem dX5_runScript_47 : decode cX5_runScript 47 = .ok (.getfield 19, 3) := by decide +kernel
theorem dX5_runScript_50 : decode cX5_runScript 50 = .ok (.invokevirtual 183, 3) := by decide +kernel
theorem dX5_runScript_53 : decode cX5_runScript 53 = .ok (.iconst 0, 1) := by decide +kernel
theorem dX5_runScript_54 : decode cX5_runScript 54 = .ok (.istore 4, 2) := by decide +kernel
theorem dX5_runScript_56 : decode cX5_runScript 56 = .ok (.iload 4, 2) := by decide +kernel
theorem dX5_runScript_58 : decode cX5_runScript 58 = .ok (.iload_n 1, 1) := by decide +kernel
theorem dX5_runScript_59 : decode cX5_runScript 59 = .ok (.if_icmp .ge 34, 3) := by decide +kernel
theorem dX5_runScript_62 : decode cX5_runScript 62 = .ok (.aload_n 0, 1) := by decide +kernel
theorem dX5_runScript_63 : decode cX5_runScript 63 = .ok (.lload_n 2, 1) := by decide +kernel
theorem dX5_runScript_64 : decode cX5_runScript 64 = .ok (.iload_n 1, 1) := by decide +kernel
theorem dX5_runScript_65 : decode cX5_runScript 65 = .ok (.iconst 1, 1) := by decide +kernel
theorem dX5_runScript_66 : decode cX5_runScript 66 = .ok (.isub, 1) := by decide +kernel
theorem dX5_runScript_67 : decode cX5_runScript 67 = .ok (.iload 4, 2) := by decide +kernel
theorem dX5_runScript_69 : decode cX5_runScript 69 = .ok (.isub, 1) := by decide +kernel
theorem dX5_runScript_70 : decode cX5_runScript 70 = .ok (.invokestatic 195, 3) := by decide +kernel
theorem dX5_runScript_73 : decode cX5_runScript 73 = .ok (.ldc2_w 199, 3) := by decide +kernel
theorem dX5_runScript_76 : decode cX5_runScript 76 = .ok (.lrem, 1) := by decide +kernel
theorem dX5_runScript_77 : decode cX5_runScript 77 = .ok (.l2i, 1) := by decide +kernel
theorem dX5_runScript_78 : decode cX5_runScript 78 = .ok (.invokevirtual 201, 3) := by decide +kernel
theorem dX5_runScript_81 : decode cX5_runScript 81 = .ok (.ifCond .ne 6, 3) := by decide +kernel
theorem dX5_runScript_84 : decode cX5_runScript 84 = .ok (.iload 4, 2) := by decide +kernel
theorem dX5_runScript_86 : decode cX5_runScript 86 = .ok (.ireturn, 1) := by decide +kernel
theorem dX5_runScript_87 : decode cX5_runScript 87 = .ok (.iinc 4 1, 3) := by decide +kernel
theorem dX5_runScript_90 : decode cX5_runScript 90 = .ok (.goto (-34), 3) := by decide +kernel
theorem dX5_runScript_93 : decode cX5_runScript 93 = .ok (.iconst (-1), 1) := by decide +kernel
theorem dX5_runScript_94 : decode cX5_runScript 94 = .ok (.ireturn, 1) := by decide +kernel
theorem dX5_simulate_0 : decode cX5_simulate 0 = .ok (.iload_n 3, 1) := by decide +kernel
theorem dX5_simulate_1 : decode cX5_simulate 1 = .ok (.iconst 1, 1) := by decide +kernel
theorem dX5_simulate_2 : decode cX5_simulate 2 = .ok (.if_icmp .lt 9, 3) := by decide +kernel
theorem dX5_simulate_5 : decode cX5_simulate 5 = .ok (.iload_n 3, 1) := by decide +kernel
theorem dX5_simulate_6 : decode cX5_simulate 6 = .ok (.bipush 60, 2) := by decide +kernel
theorem dX5_simulate_8 : decode cX5_simulate 8 = .ok (.if_icmp .le 7, 3) := by decide +kernel
theorem dX5_simulate_11 : decode cX5_simulate 11 = .ok (.iconst 2, 1) := by decide +kernel
theorem dX5_simulate_12 : decode cX5_simulate 12 = .ok (.goto 4, 3) := by decide +kernel
theorem dX5_simulate_15 : decode cX5_simulate 15 = .ok (.iconst 0, 1) := by decide +kernel
theorem dX5_simulate_16 : decode cX5_simulate 16 = .ok (.invokestatic 42, 3) := by decide +kernel
theorem dX5_simulate_19 : decode cX5_simulate 19 = .ok (.aload_n 0, 1) := by decide +kernel
theorem dX5_simulate_20 : decode cX5_simulate 20 = .ok (.getfield 23, 3) := by decide +kernel
theorem dX5_simulate_23 : decode cX5_simulate 23 = .ok (.aload_n 0, 1) := by decide +kernel
theorem dX5_simulate_24 : decode cX5_simulate 24 = .ok (.getfield 19, 3) := by decide +kernel
theorem dX5_simulate_27 : decode cX5_simulate 27 = .ok (.invokevirtual 183, 3) := by decide +kernel
theorem dX5_simulate_30 : decode cX5_simulate 30 = .ok (.lload_n 1, 1) := by decide +kernel
theorem dX5_simulate_31 : decode cX5_simulate 31 = .ok (.lstore 4, 2) := by decide +kernel
theorem dX5_simulate_33 : decode cX5_simulate 33 = .ok (.iconst 0, 1) := by decide +kernel
theorem dX5_simulate_34 : decode cX5_simulate 34 = .ok (.istore 6, 2) := by decide +kernel
theorem dX5_simulate_36 : decode cX5_simulate 36 = .ok (.iload 6, 2) := by decide +kernel
theorem dX5_simulate_38 : decode cX5_simulate 38 = .ok (.iload_n 3, 1) := by decide +kernel
theorem dX5_simulate_39 : decode cX5_simulate 39 = .ok (.if_icmp .ge 31, 3) := by decide +kernel
theorem dX5_simulate_42 : decode cX5_simulate 42 = .ok (.lload 4, 2) := by decide +kernel
theorem dX5_simulate_44 : decode cX5_simulate 44 = .ok (.ldc2_w 204, 3) := by decide +kernel
theorem dX5_simulate_47 : decode cX5_simulate 47 = .ok (.lmul, 1) := by decide +kernel
theorem dX5_simulate_48 : decode cX5_simulate 48 = .ok (.ldc2_w 206, 3) := by decide +kernel
theorem dX5_simulate_51 : decode cX5_simulate 51 = .ok (.ladd, 1) := by decide +kernel
theorem dX5_simulate_52 : decode cX5_simulate 52 = .ok (.lstore 4, 2) := by decide +kernel
theorem dX5_simulate_54 : decode cX5_simulate 54 = .ok (.aload_n 0, 1) := by decide +kernel
theorem dX5_simulate_55 : decode cX5_simulate 55 = .ok (.lload 4, 2) := by decide +kernel
theorem dX5_simulate_57 : decode cX5_simulate 57 = .ok (.bipush 33, 2) := by decide +kernel
theorem dX5_simulate_59 : decode cX5_simulate 59 = .ok (.lushr, 1) := by decide +kernel
theorem dX5_simulate_60 : decode cX5_simulate 60 = .ok (.l2i, 1) := by decide +kernel
theorem dX5_simulate_61 : decode cX5_simulate 61 = .ok (.invokevirtual 208, 3) := by decide +kernel
theorem dX5_simulate_64 : decode cX5_simulate 64 = .ok (.iinc 6 1, 3) := by decide +kernel
theorem dX5_simulate_67 : decode cX5_simulate 67 = .ok (.goto (-31), 3) := by decide +kernel
theorem dX5_simulate_70 : decode cX5_simulate 70 = .ok (.sipush 10000, 3) := by decide +kernel
theorem dX5_simulate_73 : decode cX5_simulate 73 = .ok (.aload_n 0, 1) := by decide +kernel
theorem dX5_simulate_74 : decode cX5_simulate 74 = .ok (.getfield 23, 3) := by decide +kernel
theorem dX5_simulate_77 : decode cX5_simulate 77 = .ok (.getfield 211, 3) := by decide +kernel
theorem dX5_simulate_80 : decode cX5_simulate 80 = .ok (.aload_n 0, 1) := by decide +kernel
theorem dX5_simulate_81 : decode cX5_simulate 81 = .ok (.getfield 19, 3) := by decide +kernel
theorem dX5_simulate_84 : decode cX5_simulate 84 = .ok (.getfield 211, 3) := by decide +kernel
theorem dX5_simulate_87 : decode cX5_simulate 87 = .ok (.isub, 1) := by decide +kernel
theorem dX5_simulate_88 : decode cX5_simulate 88 = .ok (.imul, 1) := by decide +kernel
theorem dX5_simulate_89 : decode cX5_simulate 89 = .ok (.bipush 100, 2) := by decide +kernel
theorem dX5_simulate_91 : decode cX5_simulate 91 = .ok (.aload_n 0, 1) := by decide +kernel
theorem dX5_simulate_92 : decode cX5_simulate 92 = .ok (.getfield 23, 3) := by decide +kernel
theorem dX5_simulate_95 : decode cX5_simulate 95 = .ok (.getfield 214, 3) := by decide +kernel
theorem dX5_simulate_98 : decode cX5_simulate 98 = .ok (.iconst 0, 1) := by decide +kernel
theorem dX5_simulate_99 : decode cX5_simulate 99 = .ok (.invokevirtual 217, 3) := by decide +kernel
theorem dX5_simulate_102 : decode cX5_simulate 102 = .ok (.bipush 100, 2) := by decide +kernel
theorem dX5_simulate_104 : decode cX5_simulate 104 = .ok (.irem, 1) := by decide +kernel
theorem dX5_simulate_105 : decode cX5_simulate 105 = .ok (.imul, 1) := by decide +kernel
theorem dX5_simulate_106 : decode cX5_simulate 106 = .ok (.iadd, 1) := by decide +kernel
theorem dX5_simulate_107 : decode cX5_simulate 107 = .ok (.aload_n 0, 1) := by decide +kernel
theorem dX5_simulate_108 : decode cX5_simulate 108 = .ok (.getfield 23, 3) := by decide +kernel
theorem dX5_simulate_111 : decode cX5_simulate 111 = .ok (.getfield 90, 3) := by decide +kernel
theorem dX5_simulate_114 : decode cX5_simulate 114 = .ok (.iconst 3, 1) := by decide +kernel
theorem dX5_simulate_115 : decode cX5_simulate 115 = .ok (.iconst 3, 1) := by decide +kernel
theorem dX5_simulate_116 : decode cX5_simulate 116 = .ok (.invokevirtual 220, 3) := by decide +kernel
theorem dX5_simulate_119 : decode cX5_simulate 119 = .ok (.iadd, 1) := by decide +kernel
theorem dX5_simulate_120 : decode cX5_simulate 120 = .ok (.ireturn, 1) := by decide +kernel
theorem dX5_save_0 : decode cX5_save 0 = .ok (.iload_n 1, 1) := by decide +kernel
theorem dX5_save_1 : decode cX5_save 1 = .ok (.ifCond .lt 8, 3) := by decide +kernel
theorem dX5_save_4 : decode cX5_save 4 = .ok (.iload_n 1, 1) := by decide +kernel
theorem dX5_save_5 : decode cX5_save 5 = .ok (.iconst 2, 1) := by decide +kernel
theorem dX5_save_6 : decode cX5_save 6 = .ok (.if_icmp .lt 7, 3) := by decide +kernel
theorem dX5_save_9 : decode cX5_save 9 = .ok (.iconst 1, 1) := by decide +kernel
theorem dX5_save_10 : decode cX5_save 10 = .ok (.goto 4, 3) := by decide +kernel
theorem dX5_save_13 : decode cX5_save 13 = .ok (.iconst 0, 1) := by decide +kernel
theorem dX5_save_14 : decode cX5_save 14 = .ok (.invokestatic 42, 3) := by decide +kernel
theorem dX5_save_17 : decode cX5_save 17 = .ok (.aload_n 0, 1) := by decide +kernel
theorem dX5_save_18 : decode cX5_save 18 = .ok (.getfield 38, 3) := by decide +kernel
theorem dX5_save_21 : decode cX5_save 21 = .ok (.iload_n 1, 1) := by decide +kernel
theorem dX5_save_22 : decode cX5_save 22 = .ok (.aload_n 0, 1) := by decide +kernel
theorem dX5_save_23 : decode cX5_save 23 = .ok (.getfield 19, 3) := by decide +kernel
theorem dX5_save_26 : decode cX5_save 26 = .ok (.invokevirtual 222, 3) := by decide +kernel
theorem dX5_save_29 : decode cX5_save 29 = .ok (.aload_n 0, 1) := by decide +kernel
theorem dX5_save_30 : decode cX5_save 30 = .ok (.getfield 19, 3) := by decide +kernel
theorem dX5_save_33 : decode cX5_save 33 = .ok (.getfield 226, 3) := by decide +kernel
theorem dX5_save_36 : decode cX5_save 36 = .ok (.ireturn, 1) := by decide +kernel
theorem dX5_restore_0 : decode cX5_restore 0 = .ok (.iload_n 1, 1) := by decide +kernel
theorem dX5_restore_1 : decode cX5_restore 1 = .ok (.ifCond .lt 8, 3) := by decide +kernel
theorem dX5_restore_4 : decode cX5_restore 4 = .ok (.iload_n 1, 1) := by decide +kernel
theorem dX5_restore_5 : decode cX5_restore 5 = .ok (.iconst 2, 1) := by decide +kernel
theorem dX5_restore_6 : decode cX5_restore 6 = .ok (.if_icmp .lt 7, 3) := by decide +kernel
theorem dX5_restore_9 : decode cX5_restore 9 = .ok (.iconst 1, 1) := by decide +kernel
theorem dX5_restore_10 : decode cX5_restore 10 = .ok (.goto 4, 3) := by decide +kernel
theorem dX5_restore_13 : decode cX5_restore 13 = .ok (.iconst 0, 1) := by decide +kernel
theorem dX5_restore_14 : decode cX5_restore 14 = .ok (.invokestatic 42, 3) := by decide +kernel
theorem dX5_restore_17 : decode cX5_restore 17 = .ok (.aload_n 0, 1) := by decide +kernel
theorem dX5_restore_18 : decode cX5_restore 18 = .ok (.getfield 38, 3) := by decide +kernel
theorem dX5_restore_21 : decode cX5_restore 21 = .ok (.iload_n 1, 1) := by decide +kernel
theorem dX5_restore_22 : decode cX5_restore 22 = .ok (.invokevirtual 229, 3) := by decide +kernel
theorem dX5_restore_25 : decode cX5_restore 25 = .ok (.ifCond .eq 7, 3) := by decide +kernel
theorem dX5_restore_28 : decode cX5_restore 28 = .ok (.iconst 0, 1) := by decide +kernel
theorem dX5_restore_29 : decode cX5_restore 29 = .ok (.goto 4, 3) := by decide +kernel
theorem dX5_restore_32 : decode cX5_restore 32 = .ok (.iconst 3, 1) := by decide +kernel
theorem dX5_restore_33 : decode cX5_restore 33 = .ok (.invokestatic 42, 3) := by decide +kernel
theorem dX5_restore_36 : decode cX5_restore 36 = .ok (.aload_n 0, 1) := by decide +kernel
theorem dX5_restore_37 : decode cX5_restore 37 = .ok (.getfield 38, 3) := by decide +kernel
theorem dX5_restore_40 : decode cX5_restore 40 = .ok (.iload_n 1, 1) := by decide +kernel
theorem dX5_restore_41 : decode cX5_restore 41 = .ok (.aload_n 0, 1) := by decide +kernel
theorem dX5_restore_42 : decode cX5_restore 42 = .ok (.getfield 19, 3) := by decide +kernel
theorem dX5_restore_45 : decode cX5_restore 45 = .ok (.invokevirtual 232, 3) := by decide +kernel
theorem dX5_restore_48 : decode cX5_restore 48 = .ok (.aload_n 0, 1) := by decide +kernel
theorem dX5_restore_49 : decode cX5_restore 49 = .ok (.getfield 29, 3) := by decide +kernel
theorem dX5_restore_52 : decode cX5_restore 52 = .ok (.invokevirtual 63, 3) := by decide +kernel
theorem dX5_restore_55 : decode cX5_restore 55 = .ok (.aload_n 0, 1) := by decide +kernel
theorem dX5_restore_56 : decode cX5_restore 56 = .ok (.getfield 19, 3) := by decide +kernel
theorem dX5_restore_59 : decode cX5_restore 59 = .ok (.getfield 226, 3) := by decide +kernel
theorem dX5_restore_62 : decode cX5_restore 62 = .ok (.ireturn, 1) := by decide +kernel
theorem dX5_throwFor_0 : decode cX5_throwFor 0 = .ok (.iload_n 0, 1) := by decide +kernel
theorem dX5_throwFor_1 : decode cX5_throwFor 1 = .ok (.iconst 1, 1) := by decide +kernel
theorem dX5_throwFor_2 : decode cX5_throwFor 2 = .ok (.if_icmp .ne 13, 3) := by decide +kernel
theorem dX5_throwFor_5 : decode cX5_throwFor 5 = .ok (.new 235, 3) := by decide +kernel
theorem dX5_throwFor_8 : decode cX5_throwFor 8 = .ok (.dup, 1) := by decide +kernel
theorem dX5_throwFor_9 : decode cX5_throwFor 9 = .ok (.ldc 237, 2) := by decide +kernel
theorem dX5_throwFor_11 : decode cX5_throwFor 11 = .ok (.invokespecial 239, 3) := by decide +kernel
theorem dX5_throwFor_14 : decode cX5_throwFor 14 = .ok (.athrow, 1) := by decide +kernel
theorem dX5_throwFor_15 : decode cX5_throwFor 15 = .ok (.iload_n 0, 1) := by decide +kernel
theorem dX5_throwFor_16 : decode cX5_throwFor 16 = .ok (.iconst 2, 1) := by decide +kernel
theorem dX5_throwFor_17 : decode cX5_throwFor 17 = .ok (.if_icmp .ne 13, 3) := by decide +kernel
theorem dX5_throwFor_20 : decode cX5_throwFor 20 = .ok (.new 242, 3) := by decide +kernel
theorem dX5_throwFor_23 : decode cX5_throwFor 23 = .ok (.dup, 1) := by decide +kernel
theorem dX5_throwFor_24 : decode cX5_throwFor 24 = .ok (.ldc 244, 2) := by decide +kernel
theorem dX5_throwFor_26 : decode cX5_throwFor 26 = .ok (.invokespecial 246, 3) := by decide +kernel
theorem dX5_throwFor_29 : decode cX5_throwFor 29 = .ok (.athrow, 1) := by decide +kernel
theorem dX5_throwFor_30 : decode cX5_throwFor 30 = .ok (.iload_n 0, 1) := by decide +kernel
theorem dX5_throwFor_31 : decode cX5_throwFor 31 = .ok (.iconst 3, 1) := by decide +kernel
theorem dX5_throwFor_32 : decode cX5_throwFor 32 = .ok (.if_icmp .ne 13, 3) := by decide +kernel
theorem dX5_throwFor_35 : decode cX5_throwFor 35 = .ok (.new 247, 3) := by decide +kernel
theorem dX5_throwFor_38 : decode cX5_throwFor 38 = .ok (.dup, 1) := by decide +kernel
theorem dX5_throwFor_39 : decode cX5_throwFor 39 = .ok (.ldc 249, 2) := by decide +kernel
theorem dX5_throwFor_41 : decode cX5_throwFor 41 = .ok (.invokespecial 251, 3) := by decide +kernel
theorem dX5_throwFor_44 : decode cX5_throwFor 44 = .ok (.athrow, 1) := by decide +kernel
theorem dX5_throwFor_45 : decode cX5_throwFor 45 = .ok (.return_, 1) := by decide +kernel
theorem dX5_withoutLowest_0 : decode cX5_withoutLowest 0 = .ok (.lload_n 0, 1) := by decide +kernel
theorem dX5_withoutLowest_1 : decode cX5_withoutLowest 1 = .ok (.lstore_n 3, 1) := by decide +kernel
theorem dX5_withoutLowest_2 : decode cX5_withoutLowest 2 = .ok (.iconst 0, 1) := by decide +kernel
theorem dX5_withoutLowest_3 : decode cX5_withoutLowest 3 = .ok (.istore 5, 2) := by decide +kernel
theorem dX5_withoutLowest_5 : decode cX5_withoutLowest 5 = .ok (.iload 5, 2) := by decide +kernel
theorem dX5_withoutLowest_7 : decode cX5_withoutLowest 7 = .ok (.iload_n 2, 1) := by decide +kernel
theorem dX5_withoutLowest_8 : decode cX5_withoutLowest 8 = .ok (.if_icmp .ge 15, 3) := by decide +kernel
theorem dX5_withoutLowest_11 : decode cX5_withoutLowest 11 = .ok (.lload_n 3, 1) := by decide +kernel
theorem dX5_withoutLowest_12 : decode cX5_withoutLowest 12 = .ok (.ldc2_w 199, 3) := by decide +kernel
theorem dX5_withoutLowest_15 : decode cX5_withoutLowest 15 = .ok (.ldiv, 1) := by decide +kernel
theorem dX5_withoutLowest_16 : decode cX5_withoutLowest 16 = .ok (.lstore_n 3, 1) := by decide +kernel
theorem dX5_withoutLowest_17 : decode cX5_withoutLowest 17 = .ok (.iinc 5 1, 3) := by decide +kernel
theorem dX5_withoutLowest_20 : decode cX5_withoutLowest 20 = .ok (.goto (-15), 3) := by decide +kernel
theorem dX5_withoutLowest_23 : decode cX5_withoutLowest 23 = .ok (.lload_n 3, 1) := by decide +kernel
theorem dX5_withoutLowest_24 : decode cX5_withoutLowest 24 = .ok (.lreturn, 1) := by decide +kernel
theorem dX5_succeeds_0 : decode cX5_succeeds 0 = .ok (.iload_n 1, 1) := by decide +kernel
theorem dX5_succeeds_1 : decode cX5_succeeds 1 = .ok (.sipush 1000, 3) := by decide +kernel
theorem dX5_succeeds_4 : decode cX5_succeeds 4 = .ok (.idiv, 1) := by decide +kernel
theorem dX5_succeeds_5 : decode cX5_succeeds 5 = .ok (.bipush 10, 2) := by decide +kernel
theorem dX5_succeeds_7 : decode cX5_succeeds 7 = .ok (.irem, 1) := by decide +kernel
theorem dX5_succeeds_8 : decode cX5_succeeds 8 = .ok (.istore_n 2, 1) := by decide +kernel
theorem dX5_succeeds_9 : decode cX5_succeeds 9 = .ok (.iload_n 1, 1) := by decide +kernel
theorem dX5_succeeds_10 : decode cX5_succeeds 10 = .ok (.bipush 100, 2) := by decide +kernel
theorem dX5_succeeds_12 : decode cX5_succeeds 12 = .ok (.idiv, 1) := by decide +kernel
theorem dX5_succeeds_13 : decode cX5_succeeds 13 = .ok (.bipush 10, 2) := by decide +kernel
theorem dX5_succeeds_15 : decode cX5_succeeds 15 = .ok (.irem, 1) := by decide +kernel
theorem dX5_succeeds_16 : decode cX5_succeeds 16 = .ok (.istore_n 3, 1) := by decide +kernel
theorem dX5_succeeds_17 : decode cX5_succeeds 17 = .ok (.iload_n 1, 1) := by decide +kernel
theorem dX5_succeeds_18 : decode cX5_succeeds 18 = .ok (.bipush 10, 2) := by decide +kernel
theorem dX5_succeeds_20 : decode cX5_succeeds 20 = .ok (.idiv, 1) := by decide +kernel
theorem dX5_succeeds_21 : decode cX5_succeeds 21 = .ok (.bipush 10, 2) := by decide +kernel
theorem dX5_succeeds_23 : decode cX5_succeeds 23 = .ok (.irem, 1) := by decide +kernel
theorem dX5_succeeds_24 : decode cX5_succeeds 24 = .ok (.istore 4, 2) := by decide +kernel
theorem dX5_succeeds_26 : decode cX5_succeeds 26 = .ok (.iload_n 1, 1) := by decide +kernel
theorem dX5_succeeds_27 : decode cX5_succeeds 27 = .ok (.bipush 10, 2) := by decide +kernel
theorem dX5_succeeds_29 : decode cX5_succeeds 29 = .ok (.irem, 1) := by decide +kernel
theorem dX5_succeeds_30 : decode cX5_succeeds 30 = .ok (.istore 5, 2) := by decide +kernel
theorem dX5_succeeds_32 : decode cX5_succeeds 32 = .ok (.bipush 10, 2) := by decide +kernel
theorem dX5_succeeds_34 : decode cX5_succeeds 34 = .ok (.iload 4, 2) := by decide +kernel
theorem dX5_succeeds_36 : decode cX5_succeeds 36 = .ok (.imul, 1) := by decide +kernel
theorem dX5_succeeds_37 : decode cX5_succeeds 37 = .ok (.iload 5, 2) := by decide +kernel
theorem dX5_succeeds_39 : decode cX5_succeeds 39 = .ok (.iadd, 1) := by decide +kernel
theorem dX5_succeeds_40 : decode cX5_succeeds 40 = .ok (.istore 6, 2) := by decide +kernel
theorem dX5_succeeds_42 : decode cX5_succeeds 42 = .ok (.iload_n 1, 1) := by decide +kernel
theorem dX5_succeeds_43 : decode cX5_succeeds 43 = .ok (.sipush 10000, 3) := by decide +kernel
theorem dX5_succeeds_46 : decode cX5_succeeds 46 = .ok (.idiv, 1) := by decide +kernel
theorem dX5_succeeds_47 : decode cX5_succeeds 47 = .ok (.tableswitch 329 1 9 #[49, 76, 107, 122, 149, 181, 209, 252, 290], 49) := by decide +kernel
theorem dX5_succeeds_96 : decode cX5_succeeds 96 = .ok (.iload 6, 2) := by decide +kernel
theorem dX5_succeeds_98 : decode cX5_succeeds 98 = .ok (.ifCond .ne 23, 3) := by decide +kernel
theorem dX5_succeeds_101 : decode cX5_succeeds 101 = .ok (.aload_n 0, 1) := by decide +kernel
theorem dX5_succeeds_102 : decode cX5_succeeds 102 = .ok (.getfield 23, 3) := by decide +kernel
theorem dX5_succeeds_105 : decode cX5_succeeds 105 = .ok (.bipush 108, 2) := by decide +kernel
theorem dX5_succeeds_107 : decode cX5_succeeds 107 = .ok (.iload_n 2, 1) := by decide +kernel
theorem dX5_succeeds_108 : decode cX5_succeeds 108 = .ok (.iload_n 3, 1) := by decide +kernel
theorem dX5_succeeds_109 : decode cX5_succeeds 109 = .ok (.iconst 0, 1) := by decide +kernel
theorem dX5_succeeds_110 : decode cX5_succeeds 110 = .ok (.iconst 0, 1) := by decide +kernel
theorem dX5_succeeds_111 : decode cX5_succeeds 111 = .ok (.invokevirtual 252, 3) := by decide +kernel
theorem dX5_succeeds_114 : decode cX5_succeeds 114 = .ok (.ifCond .eq 7, 3) := by decide +kernel
theorem dX5_succeeds_117 : decode cX5_succeeds 117 = .ok (.iconst 1, 1) := by decide +kernel
theorem dX5_succeeds_118 : decode cX5_succeeds 118 = .ok (.goto 4, 3) := by decide +kernel
theorem dX5_succeeds_121 : decode cX5_succeeds 121 = .ok (.iconst 0, 1) := by decide +kernel
theorem dX5_succeeds_122 : decode cX5_succeeds 122 = .ok (.ireturn, 1) := by decide +kernel
theorem dX5_succeeds_123 : decode cX5_succeeds 123 = .ok (.iload_n 2, 1) := by decide +kernel
theorem dX5_succeeds_124 : decode cX5_succeeds 124 = .ok (.ifCond .ne 28, 3) := by decide +kernel
theorem dX5_succeeds_127 : decode cX5_succeeds 127 = .ok (.iload_n 3, 1) := by decide +kernel
theorem dX5_succeeds_128 : decode cX5_succeeds 128 = .ok (.ifCond .ne 24, 3) := by decide +kernel
theorem dX5_succeeds_131 : decode cX5_succeeds 131 = .ok (.aload_n 0, 1) := by decide +kernel
theorem dX5_succeeds_132 : decode cX5_succeeds 132 = .ok (.getfield 23, 3) := by decide +kernel
theorem dX5_succeeds_135 : decode cX5_succeeds 135 = .ok (.bipush 109, 2) := by decide +kernel
theorem dX5_succeeds_137 : decode cX5_succeeds 137 = .ok (.iload 6, 2) := by decide +kernel
theorem dX5_succeeds_139 : decode cX5_succeeds 139 = .ok (.iconst 0, 1) := by decide +kernel
theorem dX5_succeeds_140 : decode cX5_succeeds 140 = .ok (.iconst 0, 1) := by decide +kernel
theorem dX5_succeeds_141 : decode cX5_succeeds 141 = .ok (.iconst 0, 1) := by decide +kernel
theorem dX5_succeeds_142 : decode cX5_succeeds 142 = .ok (.invokevirtual 252, 3) := by decide +kernel
theorem dX5_succeeds_145 : decode cX5_succeeds 145 = .ok (.ifCond .eq 7, 3) := by decide +kernel
theorem dX5_succeeds_148 : decode cX5_succeeds 148 = .ok (.iconst 1, 1) := by decide +kernel
theorem dX5_succeeds_149 : decode cX5_succeeds 149 = .ok (.goto 4, 3) := by decide +kernel
theorem dX5_succeeds_152 : decode cX5_succeeds 152 = .ok (.iconst 0, 1) := by decide +kernel
theorem dX5_succeeds_153 : decode cX5_succeeds 153 = .ok (.ireturn, 1) := by decide +kernel
theorem dX5_succeeds_154 : decode cX5_succeeds 154 = .ok (.aload_n 0, 1) := by decide +kernel
theorem dX5_succeeds_155 : decode cX5_succeeds 155 = .ok (.getfield 23, 3) := by decide +kernel
theorem dX5_succeeds_158 : decode cX5_succeeds 158 = .ok (.bipush 104, 2) := by decide +kernel
theorem dX5_succeeds_160 : decode cX5_succeeds 160 = .ok (.iload_n 2, 1) := by decide +kernel
theorem dX5_succeeds_161 : decode cX5_succeeds 161 = .ok (.iload_n 3, 1) := by decide +kernel
theorem dX5_succeeds_162 : decode cX5_succeeds 162 = .ok (.iload 6, 2) := by decide +kernel
theorem dX5_succeeds_164 : decode cX5_succeeds 164 = .ok (.iconst 0, 1) := by decide +kernel
theorem dX5_succeeds_165 : decode cX5_succeeds 165 = .ok (.invokevirtual 252, 3) := by decide +kernel
theorem dX5_succeeds_168 : decode cX5_succeeds 168 = .ok (.ireturn, 1) := by decide +kernel
theorem dX5_succeeds_169 : decode cX5_succeeds 169 = .ok (.iload 6, 2) := by decide +kernel
theorem dX5_succeeds_171 : decode cX5_succeeds 171 = .ok (.ifCond .ne 23, 3) := by decide +kernel
theorem dX5_succeeds_174 : decode cX5_succeeds 174 = .ok (.aload_n 0, 1) := by decide +kernel
theorem dX5_succeeds_175 : decode cX5_succeeds 175 = .ok (.getfield 23, 3) := by decide +kernel
theorem dX5_succeeds_178 : decode cX5_succeeds 178 = .ok (.bipush 99, 2) := by decide +kernel
theorem dX5_succeeds_180 : decode cX5_succeeds 180 = .ok (.iload_n 2, 1) := by decide +kernel
theorem dX5_succeeds_181 : decode cX5_succeeds 181 = .ok (.iload_n 3, 1) := by decide +kernel
theorem dX5_succeeds_182 : decode cX5_succeeds 182 = .ok (.iconst 0, 1) := by decide +kernel
theorem dX5_succeeds_183 : decode cX5_succeeds 183 = .ok (.iconst 0, 1) := by decide +kernel
theorem dX5_succeeds_184 : decode cX5_succeeds 184 = .ok (.invokevirtual 252, 3) := by decide +kernel
theorem dX5_succeeds_187 : decode cX5_succeeds 187 = .ok (.ifCond .eq 7, 3) := by decide +kernel
theorem dX5_succeeds_190 : decode cX5_succeeds 190 = .ok (.iconst 1, 1) := by decide +kernel
theorem dX5_succeeds_191 : decode cX5_succeeds 191 = .ok (.goto 4, 3) := by decide +kernel
theorem dX5_succeeds_194 : decode cX5_succeeds 194 = .ok (.iconst 0, 1) := by decide +kernel
theorem dX5_succeeds_195 : decode cX5_succeeds 195 = .ok (.ireturn, 1) := by decide +kernel
theorem dX5_succeeds_196 : decode cX5_succeeds 196 = .ok (.iload_n 3, 1) := by decide +kernel
theorem dX5_succeeds_197 : decode cX5_succeeds 197 = .ok (.ifCond .ne 29, 3) := by decide +kernel
theorem dX5_succeeds_200 : decode cX5_succeeds 200 = .ok (.iload 4, 2) := by decide +kernel
theorem dX5_succeeds_202 : decode cX5_succeeds 202 = .ok (.ifCond .ne 24, 3) := by decide +kernel
theorem dX5_succeeds_205 : decode cX5_succeeds 205 = .ok (.aload_n 0, 1) := by decide +kernel
theorem dX5_succeeds_206 : decode cX5_succeeds 206 = .ok (.getfield 23, 3) := by decide +kernel
theorem dX5_succeeds_209 : decode cX5_succeeds 209 = .ok (.bipush 115, 2) := by decide +kernel
theorem dX5_succeeds_211 : decode cX5_succeeds 211 = .ok (.iload_n 2, 1) := by decide +kernel
theorem dX5_succeeds_212 : decode cX5_succeeds 212 = .ok (.iload 5, 2) := by decide +kernel
theorem dX5_succeeds_214 : decode cX5_succeeds 214 = .ok (.iconst 0, 1) := by decide +kernel
theorem dX5_succeeds_215 : decode cX5_succeeds 215 = .ok (.iconst 0, 1) := by decide +kernel
theorem dX5_succeeds_216 : decode cX5_succeeds 216 = .ok (.invokevirtual 252, 3) := by decide +kernel
theorem dX5_succeeds_219 : decode cX5_succeeds 219 = .ok (.ifCond .eq 7, 3) := by decide +kernel
theorem dX5_succeeds_222 : decode cX5_succeeds 222 = .ok (.iconst 1, 1) := by decide +kernel
theorem dX5_succeeds_223 : decode cX5_succeeds 223 = .ok (.goto 4, 3) := by decide +kernel
theorem dX5_succeeds_226 : decode cX5_succeeds 226 = .ok (.iconst 0, 1) := by decide +kernel
theorem dX5_succeeds_227 : decode cX5_succeeds 227 = .ok (.ireturn, 1) := by decide +kernel
theorem dX5_succeeds_228 : decode cX5_succeeds 228 = .ok (.iload 5, 2) := by decide +kernel
theorem dX5_succeeds_230 : decode cX5_succeeds 230 = .ok (.ifCond .ne 24, 3) := by decide +kernel
theorem dX5_succeeds_233 : decode cX5_succeeds 233 = .ok (.aload_n 0, 1) := by decide +kernel
theorem dX5_succeeds_234 : decode cX5_succeeds 234 = .ok (.getfield 23, 3) := by decide +kernel
theorem dX5_succeeds_237 : decode cX5_succeeds 237 = .ok (.bipush 98, 2) := by decide +kernel
theorem dX5_succeeds_239 : decode cX5_succeeds 239 = .ok (.iload_n 2, 1) := by decide +kernel
theorem dX5_succeeds_240 : decode cX5_succeeds 240 = .ok (.iload_n 3, 1) := by decide +kernel
theorem dX5_succeeds_241 : decode cX5_succeeds 241 = .ok (.iload 4, 2) := by decide +kernel
theorem dX5_succeeds_243 : decode cX5_succeeds 243 = .ok (.iconst 0, 1) := by decide +kernel
theorem dX5_succeeds_244 : decode cX5_succeeds 244 = .ok (.invokevirtual 252, 3) := by decide +kernel
theorem dX5_succeeds_247 : decode cX5_succeeds 247 = .ok (.ifCond .eq 7, 3) := by decide +kernel
theorem dX5_succeeds_250 : decode cX5_succeeds 250 = .ok (.iconst 1, 1) := by decide +kernel
theorem dX5_succeeds_251 : decode cX5_succeeds 251 = .ok (.goto 4, 3) := by decide +kernel
theorem dX5_succeeds_254 : decode cX5_succeeds 254 = .ok (.iconst 0, 1) := by decide +kernel
theorem dX5_succeeds_255 : decode cX5_succeeds 255 = .ok (.ireturn, 1) := by decide +kernel
theorem dX5_succeeds_256 : decode cX5_succeeds 256 = .ok (.iload_n 3, 1) := by decide +kernel
theorem dX5_succeeds_257 : decode cX5_succeeds 257 = .ok (.ifCond .ne 40, 3) := by decide +kernel
theorem dX5_succeeds_260 : decode cX5_succeeds 260 = .ok (.iload 4, 2) := by decide +kernel
theorem dX5_succeeds_262 : decode cX5_succeeds 262 = .ok (.ifCond .ne 35, 3) := by decide +kernel
theorem dX5_succeeds_265 : decode cX5_succeeds 265 = .ok (.aload_n 0, 1) := by decide +kernel
theorem dX5_succeeds_266 : decode cX5_succeeds 266 = .ok (.getfield 23, 3) := by decide +kernel
theorem dX5_succeeds_269 : decode cX5_succeeds 269 = .ok (.iload_n 2, 1) := by decide +kernel
theorem dX5_succeeds_270 : decode cX5_succeeds 270 = .ok (.invokevirtual 84, 3) := by decide +kernel
theorem dX5_succeeds_273 : decode cX5_succeeds 273 = .ok (.ifCond .eq 24, 3) := by decide +kernel
theorem dX5_succeeds_276 : decode cX5_succeeds 276 = .ok (.aload_n 0, 1) := by decide +kernel
theorem dX5_succeeds_277 : decode cX5_succeeds 277 = .ok (.getfield 23, 3) := by decide +kernel
theorem dX5_succeeds_280 : decode cX5_succeeds 280 = .ok (.getfield 90, 3) := by decide +kernel
theorem dX5_succeeds_283 : decode cX5_succeeds 283 = .ok (.iload_n 2, 1) := by decide +kernel
theorem dX5_succeeds_284 : decode cX5_succeeds 284 = .ok (.iconst 3, 1) := by decide +kernel
theorem dX5_succeeds_285 : decode cX5_succeeds 285 = .ok (.invokevirtual 94, 3) := by decide +kernel
theorem dX5_succeeds_288 : decode cX5_succeeds 288 = .ok (.iload 5, 2) := by decide +kernel
theorem dX5_succeeds_290 : decode cX5_succeeds 290 = .ok (.if_icmp .ne 7, 3) := by decide +kernel
theorem dX5_succeeds_293 : decode cX5_succeeds 293 = .ok (.iconst 1, 1) := by decide +kernel
theorem dX5_succeeds_294 : decode cX5_succeeds 294 = .ok (.goto 4, 3) := by decide +kernel
theorem dX5_succeeds_297 : decode cX5_succeeds 297 = .ok (.iconst 0, 1) := by decide +kernel
theorem dX5_succeeds_298 : decode cX5_succeeds 298 = .ok (.ireturn, 1) := by decide +kernel
theorem dX5_succeeds_299 : decode cX5_succeeds 299 = .ok (.iload_n 3, 1) := by decide +kernel
theorem dX5_succeeds_300 : decode cX5_succeeds 300 = .ok (.ifCond .ne 35, 3) := by decide +kernel
theorem dX5_succeeds_303 : decode cX5_succeeds 303 = .ok (.aload_n 0, 1) := by decide +kernel
theorem dX5_succeeds_304 : decode cX5_succeeds 304 = .ok (.getfield 23, 3) := by decide +kernel
theorem dX5_succeeds_307 : decode cX5_succeeds 307 = .ok (.iload_n 2, 1) := by decide +kernel
theorem dX5_succeeds_308 : decode cX5_succeeds 308 = .ok (.invokevirtual 99, 3) := by decide +kernel
theorem dX5_succeeds_311 : decode cX5_succeeds 311 = .ok (.ifCond .eq 24, 3) := by decide +kernel
theorem dX5_succeeds_314 : decode cX5_succeeds 314 = .ok (.aload_n 0, 1) := by decide +kernel
theorem dX5_succeeds_315 : decode cX5_succeeds 315 = .ok (.getfield 23, 3) := by decide +kernel
theorem dX5_succeeds_318 : decode cX5_succeeds 318 = .ok (.getfield 214, 3) := by decide +kernel
theorem dX5_succeeds_321 : decode cX5_succeeds 321 = .ok (.iload_n 2, 1) := by decide +kernel
theorem dX5_succeeds_322 : decode cX5_succeeds 322 = .ok (.iconst 0, 1) := by decide +kernel
theorem dX5_succeeds_323 : decode cX5_succeeds 323 = .ok (.invokevirtual 94, 3) := by decide +kernel
theorem dX5_succeeds_326 : decode cX5_succeeds 326 = .ok (.iload 6, 2) := by decide +kernel
theorem dX5_succeeds_328 : decode cX5_succeeds 328 = .ok (.if_icmp .lt 7, 3) := by decide +kernel
theorem dX5_succeeds_331 : decode cX5_succeeds 331 = .ok (.iconst 1, 1) := by decide +kernel
theorem dX5_succeeds_332 : decode cX5_succeeds 332 = .ok (.goto 4, 3) := by decide +kernel
theorem dX5_succeeds_335 : decode cX5_succeeds 335 = .ok (.iconst 0, 1) := by decide +kernel
theorem dX5_succeeds_336 : decode cX5_succeeds 336 = .ok (.ireturn, 1) := by decide +kernel
theorem dX5_succeeds_337 : decode cX5_succeeds 337 = .ok (.iload_n 3, 1) := by decide +kernel
theorem dX5_succeeds_338 : decode cX5_succeeds 338 = .ok (.ifCond .ne 36, 3) := by decide +kernel
theorem dX5_succeeds_341 : decode cX5_succeeds 341 = .ok (.aload_n 0, 1) := by decide +kernel
theorem dX5_succeeds_342 : decode cX5_succeeds 342 = .ok (.getfield 23, 3) := by decide +kernel
theorem dX5_succeeds_345 : decode cX5_succeeds 345 = .ok (.iload_n 2, 1) := by decide +kernel
theorem dX5_succeeds_346 : decode cX5_succeeds 346 = .ok (.invokevirtual 84, 3) := by decide +kernel
theorem dX5_succeeds_349 : decode cX5_succeeds 349 = .ok (.ifCond .eq 25, 3) := by decide +kernel
theorem dX5_succeeds_352 : decode cX5_succeeds 352 = .ok (.aload_n 0, 1) := by decide +kernel
theorem dX5_succeeds_353 : decode cX5_succeeds 353 = .ok (.getfield 23, 3) := by decide +kernel
theorem dX5_succeeds_356 : decode cX5_succeeds 356 = .ok (.getfield 90, 3) := by decide +kernel
theorem dX5_succeeds_359 : decode cX5_succeeds 359 = .ok (.iload_n 2, 1) := by decide +kernel
theorem dX5_succeeds_360 : decode cX5_succeeds 360 = .ok (.bipush 6, 2) := by decide +kernel
theorem dX5_succeeds_362 : decode cX5_succeeds 362 = .ok (.invokevirtual 94, 3) := by decide +kernel
theorem dX5_succeeds_365 : decode cX5_succeeds 365 = .ok (.iload 6, 2) := by decide +kernel
theorem dX5_succeeds_367 : decode cX5_succeeds 367 = .ok (.if_icmp .gt 7, 3) := by decide +kernel
theorem dX5_succeeds_370 : decode cX5_succeeds 370 = .ok (.iconst 1, 1) := by decide +kernel
theorem dX5_succeeds_371 : decode cX5_succeeds 371 = .ok (.goto 4, 3) := by decide +kernel
theorem dX5_succeeds_374 : decode cX5_succeeds 374 = .ok (.iconst 0, 1) := by decide +kernel
theorem dX5_succeeds_375 : decode cX5_succeeds 375 = .ok (.ireturn, 1) := by decide +kernel
theorem dX5_succeeds_376 : decode cX5_succeeds 376 = .ok (.iconst 0, 1) := by decide +kernel
theorem dX5_succeeds_377 : decode cX5_succeeds 377 = .ok (.ireturn, 1) := by decide +kernel
theorem dX5_takeTurn_0 : decode cX5_takeTurn 0 = .ok (.iload_n 1, 1) := by decide +kernel
theorem dX5_takeTurn_1 : decode cX5_takeTurn 1 = .ok (.bipush 16, 2) := by decide +kernel
theorem dX5_takeTurn_3 : decode cX5_takeTurn 3 = .ok (.idiv, 1) := by decide +kernel
theorem dX5_takeTurn_4 : decode cX5_takeTurn 4 = .ok (.istore_n 2, 1) := by decide +kernel
theorem dX5_takeTurn_5 : decode cX5_takeTurn 5 = .ok (.iload_n 1, 1) := by decide +kernel
theorem dX5_takeTurn_6 : decode cX5_takeTurn 6 = .ok (.bipush 16, 2) := by decide +kernel
theorem dX5_takeTurn_8 : decode cX5_takeTurn 8 = .ok (.irem, 1) := by decide +kernel
theorem dX5_takeTurn_9 : decode cX5_takeTurn 9 = .ok (.tableswitch 236 0 10 #[59, 101, 101, 133, 133, 133, 133, 159, 189, 189, 213], 59) := by decide +kernel
theorem dX5_takeTurn_68 : decode cX5_takeTurn 68 = .ok (.aload_n 0, 1) := by decide +kernel
theorem dX5_takeTurn_69 : decode cX5_takeTurn 69 = .ok (.getfield 23, 3) := by decide +kernel
theorem dX5_takeTurn_72 : decode cX5_takeTurn 72 = .ok (.bipush 103, 2) := by decide +kernel
theorem dX5_takeTurn_74 : decode cX5_takeTurn 74 = .ok (.iconst 4, 1) := by decide +kernel
theorem dX5_takeTurn_75 : decode cX5_takeTurn 75 = .ok (.iload_n 2, 1) := by decide +kernel
theorem dX5_takeTurn_76 : decode cX5_takeTurn 76 = .ok (.bipush 20, 2) := by decide +kernel
theorem dX5_takeTurn_78 : decode cX5_takeTurn 78 = .ok (.irem, 1) := by decide +kernel
theorem dX5_takeTurn_79 : decode cX5_takeTurn 79 = .ok (.iadd, 1) := by decide +kernel
theorem dX5_takeTurn_80 : decode cX5_takeTurn 80 = .ok (.iload_n 2, 1) := by decide +kernel
theorem dX5_takeTurn_81 : decode cX5_takeTurn 81 = .ok (.bipush 32, 2) := by decide +kernel
theorem dX5_takeTurn_83 : decode cX5_takeTurn 83 = .ok (.idiv, 1) := by decide +kernel
theorem dX5_takeTurn_84 : decode cX5_takeTurn 84 = .ok (.bipush 6, 2) := by decide +kernel
theorem dX5_takeTurn_86 : decode cX5_takeTurn 86 = .ok (.irem, 1) := by decide +kernel
theorem dX5_takeTurn_87 : decode cX5_takeTurn 87 = .ok (.iload_n 2, 1) := by decide +kernel
theorem dX5_takeTurn_88 : decode cX5_takeTurn 88 = .ok (.sipush 256, 3) := by decide +kernel
theorem dX5_takeTurn_91 : decode cX5_takeTurn 91 = .ok (.idiv, 1) := by decide +kernel
theorem dX5_takeTurn_92 : decode cX5_takeTurn 92 = .ok (.bipush 6, 2) := by decide +kernel
theorem dX5_takeTurn_94 : decode cX5_takeTurn 94 = .ok (.irem, 1) := by decide +kernel
theorem dX5_takeTurn_95 : decode cX5_takeTurn 95 = .ok (.iload_n 2, 1) := by decide +kernel
theorem dX5_takeTurn_96 : decode cX5_takeTurn 96 = .ok (.sipush 2048, 3) := by decide +kernel
theorem dX5_takeTurn_99 : decode cX5_takeTurn 99 = .ok (.idiv, 1) := by decide +kernel
theorem dX5_takeTurn_100 : decode cX5_takeTurn 100 = .ok (.bipush 20, 2) := by decide +kernel
theorem dX5_takeTurn_102 : decode cX5_takeTurn 102 = .ok (.irem, 1) := by decide +kernel
theorem dX5_takeTurn_103 : decode cX5_takeTurn 103 = .ok (.invokevirtual 252, 3) := by decide +kernel
theorem dX5_takeTurn_106 : decode cX5_takeTurn 106 = .ok (.pop, 1) := by decide +kernel
theorem dX5_takeTurn_107 : decode cX5_takeTurn 107 = .ok (.goto 156, 3) := by decide +kernel
theorem dX5_takeTurn_110 : decode cX5_takeTurn 110 = .ok (.aload_n 0, 1) := by decide +kernel
theorem dX5_takeTurn_111 : decode cX5_takeTurn 111 = .ok (.getfield 23, 3) := by decide +kernel
theorem dX5_takeTurn_114 : decode cX5_takeTurn 114 = .ok (.bipush 98, 2) := by decide +kernel
theorem dX5_takeTurn_116 : decode cX5_takeTurn 116 = .ok (.iconst 1, 1) := by decide +kernel
theorem dX5_takeTurn_117 : decode cX5_takeTurn 117 = .ok (.iload_n 2, 1) := by decide +kernel
theorem dX5_takeTurn_118 : decode cX5_takeTurn 118 = .ok (.bipush 9, 2) := by decide +kernel
theorem dX5_takeTurn_120 : decode cX5_takeTurn 120 = .ok (.irem, 1) := by decide +kernel
theorem dX5_takeTurn_121 : decode cX5_takeTurn 121 = .ok (.iadd, 1) := by decide +kernel
theorem dX5_takeTurn_122 : decode cX5_takeTurn 122 = .ok (.iload_n 2, 1) := by decide +kernel
theorem dX5_takeTurn_123 : decode cX5_takeTurn 123 = .ok (.bipush 16, 2) := by decide +kernel
theorem dX5_takeTurn_125 : decode cX5_takeTurn 125 = .ok (.idiv, 1) := by decide +kernel
theorem dX5_takeTurn_126 : decode cX5_takeTurn 126 = .ok (.iconst 4, 1) := by decide +kernel
theorem dX5_takeTurn_127 : decode cX5_takeTurn 127 = .ok (.irem, 1) := by decide +kernel
theorem dX5_takeTurn_128 : decode cX5_takeTurn 128 = .ok (.iload_n 2, 1) := by decide +kernel
theorem dX5_takeTurn_129 : decode cX5_takeTurn 129 = .ok (.bipush 64, 2) := by decide +kernel
theorem dX5_takeTurn_131 : decode cX5_takeTurn 131 = .ok (.idiv, 1) := by decide +kernel
theorem dX5_takeTurn_132 : decode cX5_takeTurn 132 = .ok (.iconst 4, 1) := by decide +kernel
theorem dX5_takeTurn_133 : decode cX5_takeTurn 133 = .ok (.irem, 1) := by decide +kernel
theorem dX5_takeTurn_134 : decode cX5_takeTurn 134 = .ok (.iconst 0, 1) := by decide +kernel
theorem dX5_takeTurn_135 : decode cX5_takeTurn 135 = .ok (.invokevirtual 252, 3) := by decide +kernel
theorem dX5_takeTurn_138 : decode cX5_takeTurn 138 = .ok (.pop, 1) := by decide +kernel
theorem dX5_takeTurn_139 : decode cX5_takeTurn 139 = .ok (.goto 124, 3) := by decide +kernel
theorem dX5_takeTurn_142 : decode cX5_takeTurn 142 = .ok (.aload_n 0, 1) := by decide +kernel
theorem dX5_takeTurn_143 : decode cX5_takeTurn 143 = .ok (.getfield 23, 3) := by decide +kernel
theorem dX5_takeTurn_146 : decode cX5_takeTurn 146 = .ok (.bipush 108, 2) := by decide +kernel
theorem dX5_takeTurn_148 : decode cX5_takeTurn 148 = .ok (.iload_n 2, 1) := by decide +kernel
theorem dX5_takeTurn_149 : decode cX5_takeTurn 149 = .ok (.bipush 10, 2) := by decide +kernel
theorem dX5_takeTurn_151 : decode cX5_takeTurn 151 = .ok (.irem, 1) := by decide +kernel
theorem dX5_takeTurn_152 : decode cX5_takeTurn 152 = .ok (.iload_n 2, 1) := by decide +kernel
theorem dX5_takeTurn_153 : decode cX5_takeTurn 153 = .ok (.bipush 16, 2) := by decide +kernel
theorem dX5_takeTurn_155 : decode cX5_takeTurn 155 = .ok (.idiv, 1) := by decide +kernel
theorem dX5_takeTurn_156 : decode cX5_takeTurn 156 = .ok (.bipush 6, 2) := by decide +kernel
theorem dX5_takeTurn_158 : decode cX5_takeTurn 158 = .ok (.irem, 1) := by decide +kernel
theorem dX5_takeTurn_159 : decode cX5_takeTurn 159 = .ok (.iconst 0, 1) := by decide +kernel
theorem dX5_takeTurn_160 : decode cX5_takeTurn 160 = .ok (.iconst 0, 1) := by decide +kernel
theorem dX5_takeTurn_161 : decode cX5_takeTurn 161 = .ok (.invokevirtual 252, 3) := by decide +kernel
theorem dX5_takeTurn_164 : decode cX5_takeTurn 164 = .ok (.pop, 1) := by decide +kernel
theorem dX5_takeTurn_165 : decode cX5_takeTurn 165 = .ok (.goto 98, 3) := by decide +kernel
theorem dX5_takeTurn_168 : decode cX5_takeTurn 168 = .ok (.aload_n 0, 1) := by decide +kernel
theorem dX5_takeTurn_169 : decode cX5_takeTurn 169 = .ok (.getfield 23, 3) := by decide +kernel
theorem dX5_takeTurn_172 : decode cX5_takeTurn 172 = .ok (.bipush 104, 2) := by decide +kernel
theorem dX5_takeTurn_174 : decode cX5_takeTurn 174 = .ok (.iload_n 2, 1) := by decide +kernel
theorem dX5_takeTurn_175 : decode cX5_takeTurn 175 = .ok (.iconst 4, 1) := by decide +kernel
theorem dX5_takeTurn_176 : decode cX5_takeTurn 176 = .ok (.irem, 1) := by decide +kernel
theorem dX5_takeTurn_177 : decode cX5_takeTurn 177 = .ok (.iload_n 2, 1) := by decide +kernel
theorem dX5_takeTurn_178 : decode cX5_takeTurn 178 = .ok (.iconst 4, 1) := by decide +kernel
theorem dX5_takeTurn_179 : decode cX5_takeTurn 179 = .ok (.idiv, 1) := by decide +kernel
theorem dX5_takeTurn_180 : decode cX5_takeTurn 180 = .ok (.bipush 6, 2) := by decide +kernel
theorem dX5_takeTurn_182 : decode cX5_takeTurn 182 = .ok (.irem, 1) := by decide +kernel
theorem dX5_takeTurn_183 : decode cX5_takeTurn 183 = .ok (.iload_n 2, 1) := by decide +kernel
theorem dX5_takeTurn_184 : decode cX5_takeTurn 184 = .ok (.bipush 32, 2) := by decide +kernel
theorem dX5_takeTurn_186 : decode cX5_takeTurn 186 = .ok (.idiv, 1) := by decide +kernel
theorem dX5_takeTurn_187 : decode cX5_takeTurn 187 = .ok (.bipush 20, 2) := by decide +kernel
theorem dX5_takeTurn_189 : decode cX5_takeTurn 189 = .ok (.irem, 1) := by decide +kernel
theorem dX5_takeTurn_190 : decode cX5_takeTurn 190 = .ok (.iconst 0, 1) := by decide +kernel
theorem dX5_takeTurn_191 : decode cX5_takeTurn 191 = .ok (.invokevirtual 252, 3) := by decide +kernel
theorem dX5_takeTurn_194 : decode cX5_takeTurn 194 = .ok (.pop, 1) := by decide +kernel
theorem dX5_takeTurn_195 : decode cX5_takeTurn 195 = .ok (.goto 68, 3) := by decide +kernel
theorem dX5_takeTurn_198 : decode cX5_takeTurn 198 = .ok (.aload_n 0, 1) := by decide +kernel
theorem dX5_takeTurn_199 : decode cX5_takeTurn 199 = .ok (.getfield 23, 3) := by decide +kernel
theorem dX5_takeTurn_202 : decode cX5_takeTurn 202 = .ok (.bipush 99, 2) := by decide +kernel
theorem dX5_takeTurn_204 : decode cX5_takeTurn 204 = .ok (.iload_n 2, 1) := by decide +kernel
theorem dX5_takeTurn_205 : decode cX5_takeTurn 205 = .ok (.iconst 4, 1) := by decide +kernel
theorem dX5_takeTurn_206 : decode cX5_takeTurn 206 = .ok (.irem, 1) := by decide +kernel
theorem dX5_takeTurn_207 : decode cX5_takeTurn 207 = .ok (.iload_n 2, 1) := by decide +kernel
theorem dX5_takeTurn_208 : decode cX5_takeTurn 208 = .ok (.iconst 4, 1) := by decide +kernel
theorem dX5_takeTurn_209 : decode cX5_takeTurn 209 = .ok (.idiv, 1) := by decide +kernel
theorem dX5_takeTurn_210 : decode cX5_takeTurn 210 = .ok (.bipush 10, 2) := by decide +kernel
theorem dX5_takeTurn_212 : decode cX5_takeTurn 212 = .ok (.irem, 1) := by decide +kernel
theorem dX5_takeTurn_213 : decode cX5_takeTurn 213 = .ok (.iconst 0, 1) := by decide +kernel
theorem dX5_takeTurn_214 : decode cX5_takeTurn 214 = .ok (.iconst 0, 1) := by decide +kernel
theorem dX5_takeTurn_215 : decode cX5_takeTurn 215 = .ok (.invokevirtual 252, 3) := by decide +kernel
theorem dX5_takeTurn_218 : decode cX5_takeTurn 218 = .ok (.pop, 1) := by decide +kernel
theorem dX5_takeTurn_219 : decode cX5_takeTurn 219 = .ok (.goto 44, 3) := by decide +kernel
theorem dX5_takeTurn_222 : decode cX5_takeTurn 222 = .ok (.aload_n 0, 1) := by decide +kernel
theorem dX5_takeTurn_223 : decode cX5_takeTurn 223 = .ok (.getfield 23, 3) := by decide +kernel
theorem dX5_takeTurn_226 : decode cX5_takeTurn 226 = .ok (.bipush 115, 2) := by decide +kernel
theorem dX5_takeTurn_228 : decode cX5_takeTurn 228 = .ok (.iload_n 2, 1) := by decide +kernel
theorem dX5_takeTurn_229 : decode cX5_takeTurn 229 = .ok (.iconst 3, 1) := by decide +kernel
theorem dX5_takeTurn_230 : decode cX5_takeTurn 230 = .ok (.irem, 1) := by decide +kernel
theorem dX5_takeTurn_231 : decode cX5_takeTurn 231 = .ok (.iload_n 2, 1) := by decide +kernel
theorem dX5_takeTurn_232 : decode cX5_takeTurn 232 = .ok (.iconst 4, 1) := by decide +kernel
theorem dX5_takeTurn_233 : decode cX5_takeTurn 233 = .ok (.idiv, 1) := by decide +kernel
theorem dX5_takeTurn_234 : decode cX5_takeTurn 234 = .ok (.iconst 5, 1) := by decide +kernel
theorem dX5_takeTurn_235 : decode cX5_takeTurn 235 = .ok (.irem, 1) := by decide +kernel
theorem dX5_takeTurn_236 : decode cX5_takeTurn 236 = .ok (.iconst 0, 1) := by decide +kernel
theorem dX5_takeTurn_237 : decode cX5_takeTurn 237 = .ok (.iconst 0, 1) := by decide +kernel
theorem dX5_takeTurn_238 : decode cX5_takeTurn 238 = .ok (.invokevirtual 252, 3) := by decide +kernel
theorem dX5_takeTurn_241 : decode cX5_takeTurn 241 = .ok (.pop, 1) := by decide +kernel
theorem dX5_takeTurn_242 : decode cX5_takeTurn 242 = .ok (.goto 21, 3) := by decide +kernel
theorem dX5_takeTurn_245 : decode cX5_takeTurn 245 = .ok (.aload_n 0, 1) := by decide +kernel
theorem dX5_takeTurn_246 : decode cX5_takeTurn 246 = .ok (.getfield 23, 3) := by decide +kernel
theorem dX5_takeTurn_249 : decode cX5_takeTurn 249 = .ok (.bipush 109, 2) := by decide +kernel
theorem dX5_takeTurn_251 : decode cX5_takeTurn 251 = .ok (.iconst 1, 1) := by decide +kernel
theorem dX5_takeTurn_252 : decode cX5_takeTurn 252 = .ok (.iload_n 2, 1) := by decide +kernel
theorem dX5_takeTurn_253 : decode cX5_takeTurn 253 = .ok (.iconst 4, 1) := by decide +kernel
theorem dX5_takeTurn_254 : decode cX5_takeTurn 254 = .ok (.irem, 1) := by decide +kernel
theorem dX5_takeTurn_255 : decode cX5_takeTurn 255 = .ok (.iadd, 1) := by decide +kernel
theorem dX5_takeTurn_256 : decode cX5_takeTurn 256 = .ok (.iconst 0, 1) := by decide +kernel
theorem dX5_takeTurn_257 : decode cX5_takeTurn 257 = .ok (.iconst 0, 1) := by decide +kernel
theorem dX5_takeTurn_258 : decode cX5_takeTurn 258 = .ok (.iconst 0, 1) := by decide +kernel
theorem dX5_takeTurn_259 : decode cX5_takeTurn 259 = .ok (.invokevirtual 252, 3) := by decide +kernel
theorem dX5_takeTurn_262 : decode cX5_takeTurn 262 = .ok (.pop, 1) := by decide +kernel
theorem dX5_takeTurn_263 : decode cX5_takeTurn 263 = .ok (.return_, 1) := by decide +kernel
theorem dL_append_0 : decode cL_append 0 = .ok (.aload_n 2, 1) := by decide +kernel
theorem dL_append_1 : decode cL_append 1 = .ok (.iconst 0, 1) := by decide +kernel
theorem dL_append_2 : decode cL_append 2 = .ok (.aload_n 0, 1) := by decide +kernel
theorem dL_append_3 : decode cL_append 3 = .ok (.iload_n 1, 1) := by decide +kernel
theorem dL_append_4 : decode cL_append 4 = .ok (.invokevirtual 7, 3) := by decide +kernel
theorem dL_append_7 : decode cL_append 7 = .ok (.i2l, 1) := by decide +kernel
theorem dL_append_8 : decode cL_append 8 = .ok (.lastore, 1) := by decide +kernel
theorem dL_append_9 : decode cL_append 9 = .ok (.goto 9, 3) := by decide +kernel
theorem dL_append_12 : decode cL_append 12 = .ok (.astore_n 3, 1) := by decide +kernel
theorem dL_append_13 : decode cL_append 13 = .ok (.iconst 1, 1) := by decide +kernel
theorem dL_append_14 : decode cL_append 14 = .ok (.ireturn, 1) := by decide +kernel
theorem dL_append_15 : decode cL_append 15 = .ok (.astore_n 3, 1) := by decide +kernel
theorem dL_append_16 : decode cL_append 16 = .ok (.iconst 2, 1) := by decide +kernel
theorem dL_append_17 : decode cL_append 17 = .ok (.ireturn, 1) := by decide +kernel
theorem dL_append_18 : decode cL_append 18 = .ok (.iconst 0, 1) := by decide +kernel
theorem dL_append_19 : decode cL_append 19 = .ok (.ireturn, 1) := by decide +kernel
theorem dL_load_0 : decode cL_load 0 = .ok (.aload_n 1, 1) := by decide +kernel
theorem dL_load_1 : decode cL_load 1 = .ok (.iconst 0, 1) := by decide +kernel
theorem dL_load_2 : decode cL_load 2 = .ok (.aload_n 0, 1) := by decide +kernel
theorem dL_load_3 : decode cL_load 3 = .ok (.invokevirtual 17, 3) := by decide +kernel
theorem dL_load_6 : decode cL_load 6 = .ok (.i2l, 1) := by decide +kernel
theorem dL_load_7 : decode cL_load 7 = .ok (.lastore, 1) := by decide +kernel
theorem dL_load_8 : decode cL_load 8 = .ok (.goto 6, 3) := by decide +kernel
theorem dL_load_11 : decode cL_load 11 = .ok (.astore_n 2, 1) := by decide +kernel
theorem dL_load_12 : decode cL_load 12 = .ok (.iconst 1, 1) := by decide +kernel
theorem dL_load_13 : decode cL_load 13 = .ok (.ireturn, 1) := by decide +kernel
theorem dL_load_14 : decode cL_load 14 = .ok (.iconst 0, 1) := by decide +kernel
theorem dL_load_15 : decode cL_load 15 = .ok (.ireturn, 1) := by decide +kernel
theorem dL_about_0 : decode cL_about 0 = .ok (.aload_n 2, 1) := by decide +kernel
theorem dL_about_1 : decode cL_about 1 = .ok (.iconst 0, 1) := by decide +kernel
theorem dL_about_2 : decode cL_about 2 = .ok (.aload_n 0, 1) := by decide +kernel
theorem dL_about_3 : decode cL_about 3 = .ok (.iload_n 1, 1) := by decide +kernel
theorem dL_about_4 : decode cL_about 4 = .ok (.invokevirtual 21, 3) := by decide +kernel
theorem dL_about_7 : decode cL_about 7 = .ok (.i2l, 1) := by decide +kernel
theorem dL_about_8 : decode cL_about 8 = .ok (.lastore, 1) := by decide +kernel
theorem dL_about_9 : decode cL_about 9 = .ok (.goto 6, 3) := by decide +kernel
theorem dL_about_12 : decode cL_about 12 = .ok (.astore_n 3, 1) := by decide +kernel
theorem dL_about_13 : decode cL_about 13 = .ok (.iconst 1, 1) := by decide +kernel
theorem dL_about_14 : decode cL_about 14 = .ok (.ireturn, 1) := by decide +kernel
theorem dL_about_15 : decode cL_about 15 = .ok (.iconst 0, 1) := by decide +kernel
theorem dL_about_16 : decode cL_about 16 = .ok (.ireturn, 1) := by decide +kernel
theorem dL_gutterOf_0 : decode cL_gutterOf 0 = .ok (.aload_n 3, 1) := by decide +kernel
theorem dL_gutterOf_1 : decode cL_gutterOf 1 = .ok (.iconst 0, 1) := by decide +kernel
theorem dL_gutterOf_2 : decode cL_gutterOf 2 = .ok (.aload_n 0, 1) := by decide +kernel
theorem dL_gutterOf_3 : decode cL_gutterOf 3 = .ok (.iload_n 1, 1) := by decide +kernel
theorem dL_gutterOf_4 : decode cL_gutterOf 4 = .ok (.iload_n 2, 1) := by decide +kernel
theorem dL_gutterOf_5 : decode cL_gutterOf 5 = .ok (.invokevirtual 24, 3) := by decide +kernel
theorem dL_gutterOf_8 : decode cL_gutterOf 8 = .ok (.i2l, 1) := by decide +kernel
theorem dL_gutterOf_9 : decode cL_gutterOf 9 = .ok (.lastore, 1) := by decide +kernel
theorem dL_gutterOf_10 : decode cL_gutterOf 10 = .ok (.goto 11, 3) := by decide +kernel
theorem dL_gutterOf_13 : decode cL_gutterOf 13 = .ok (.astore 4, 2) := by decide +kernel
theorem dL_gutterOf_15 : decode cL_gutterOf 15 = .ok (.iconst 1, 1) := by decide +kernel
theorem dL_gutterOf_16 : decode cL_gutterOf 16 = .ok (.ireturn, 1) := by decide +kernel
theorem dL_gutterOf_17 : decode cL_gutterOf 17 = .ok (.astore 4, 2) := by decide +kernel
theorem dL_gutterOf_19 : decode cL_gutterOf 19 = .ok (.iconst 2, 1) := by decide +kernel
theorem dL_gutterOf_20 : decode cL_gutterOf 20 = .ok (.ireturn, 1) := by decide +kernel
theorem dL_gutterOf_21 : decode cL_gutterOf 21 = .ok (.iconst 0, 1) := by decide +kernel
theorem dL_gutterOf_22 : decode cL_gutterOf 22 = .ok (.ireturn, 1) := by decide +kernel
theorem dL_boatOf_0 : decode cL_boatOf 0 = .ok (.aload_n 3, 1) := by decide +kernel
theorem dL_boatOf_1 : decode cL_boatOf 1 = .ok (.iconst 0, 1) := by decide +kernel
theorem dL_boatOf_2 : decode cL_boatOf 2 = .ok (.aload_n 0, 1) := by decide +kernel
theorem dL_boatOf_3 : decode cL_boatOf 3 = .ok (.iload_n 1, 1) := by decide +kernel
theorem dL_boatOf_4 : decode cL_boatOf 4 = .ok (.iload_n 2, 1) := by decide +kernel
theorem dL_boatOf_5 : decode cL_boatOf 5 = .ok (.invokevirtual 30, 3) := by decide +kernel
theorem dL_boatOf_8 : decode cL_boatOf 8 = .ok (.i2l, 1) := by decide +kernel
theorem dL_boatOf_9 : decode cL_boatOf 9 = .ok (.lastore, 1) := by decide +kernel
theorem dL_boatOf_10 : decode cL_boatOf 10 = .ok (.goto 11, 3) := by decide +kernel
theorem dL_boatOf_13 : decode cL_boatOf 13 = .ok (.astore 4, 2) := by decide +kernel
theorem dL_boatOf_15 : decode cL_boatOf 15 = .ok (.iconst 1, 1) := by decide +kernel
theorem dL_boatOf_16 : decode cL_boatOf 16 = .ok (.ireturn, 1) := by decide +kernel
theorem dL_boatOf_17 : decode cL_boatOf 17 = .ok (.astore 4, 2) := by decide +kernel
theorem dL_boatOf_19 : decode cL_boatOf 19 = .ok (.iconst 2, 1) := by decide +kernel
theorem dL_boatOf_20 : decode cL_boatOf 20 = .ok (.ireturn, 1) := by decide +kernel
theorem dL_boatOf_21 : decode cL_boatOf 21 = .ok (.iconst 0, 1) := by decide +kernel
theorem dL_boatOf_22 : decode cL_boatOf 22 = .ok (.ireturn, 1) := by decide +kernel
theorem dL_ownerOf_0 : decode cL_ownerOf 0 = .ok (.aload_n 3, 1) := by decide +kernel
theorem dL_ownerOf_1 : decode cL_ownerOf 1 = .ok (.iconst 0, 1) := by decide +kernel
theorem dL_ownerOf_2 : decode cL_ownerOf 2 = .ok (.aload_n 0, 1) := by decide +kernel
theorem dL_ownerOf_3 : decode cL_ownerOf 3 = .ok (.iload_n 1, 1) := by decide +kernel
theorem dL_ownerOf_4 : decode cL_ownerOf 4 = .ok (.iload_n 2, 1) := by decide +kernel
theorem dL_ownerOf_5 : decode cL_ownerOf 5 = .ok (.invokevirtual 33, 3) := by decide +kernel
theorem dL_ownerOf_8 : decode cL_ownerOf 8 = .ok (.i2l, 1) := by decide +kernel
theorem dL_ownerOf_9 : decode cL_ownerOf 9 = .ok (.lastore, 1) := by decide +kernel
theorem dL_ownerOf_10 : decode cL_ownerOf 10 = .ok (.goto 11, 3) := by decide +kernel
theorem dL_ownerOf_13 : decode cL_ownerOf 13 = .ok (.astore 4, 2) := by decide +kernel
theorem dL_ownerOf_15 : decode cL_ownerOf 15 = .ok (.iconst 1, 1) := by decide +kernel
theorem dL_ownerOf_16 : decode cL_ownerOf 16 = .ok (.ireturn, 1) := by decide +kernel
theorem dL_ownerOf_17 : decode cL_ownerOf 17 = .ok (.astore 4, 2) := by decide +kernel
theorem dL_ownerOf_19 : decode cL_ownerOf 19 = .ok (.iconst 2, 1) := by decide +kernel
theorem dL_ownerOf_20 : decode cL_ownerOf 20 = .ok (.ireturn, 1) := by decide +kernel
theorem dL_ownerOf_21 : decode cL_ownerOf 21 = .ok (.iconst 0, 1) := by decide +kernel
theorem dL_ownerOf_22 : decode cL_ownerOf 22 = .ok (.ireturn, 1) := by decide +kernel
theorem dL_way_0 : decode cL_way 0 = .ok (.aload 4, 2) := by decide +kernel
theorem dL_way_2 : decode cL_way 2 = .ok (.iconst 0, 1) := by decide +kernel
theorem dL_way_3 : decode cL_way 3 = .ok (.aload_n 0, 1) := by decide +kernel
theorem dL_way_4 : decode cL_way 4 = .ok (.iload_n 1, 1) := by decide +kernel
theorem dL_way_5 : decode cL_way 5 = .ok (.iload_n 2, 1) := by decide +kernel
theorem dL_way_6 : decode cL_way 6 = .ok (.iload_n 3, 1) := by decide +kernel
theorem dL_way_7 : decode cL_way 7 = .ok (.invokevirtual 36, 3) := by decide +kernel
theorem dL_way_10 : decode cL_way 10 = .ok (.i2l, 1) := by decide +kernel
theorem dL_way_11 : decode cL_way 11 = .ok (.lastore, 1) := by decide +kernel
theorem dL_way_12 : decode cL_way 12 = .ok (.goto 11, 3) := by decide +kernel
theorem dL_way_15 : decode cL_way 15 = .ok (.astore 5, 2) := by decide +kernel
theorem dL_way_17 : decode cL_way 17 = .ok (.iconst 1, 1) := by decide +kernel
theorem dL_way_18 : decode cL_way 18 = .ok (.ireturn, 1) := by decide +kernel
theorem dL_way_19 : decode cL_way 19 = .ok (.astore 5, 2) := by decide +kernel
theorem dL_way_21 : decode cL_way 21 = .ok (.iconst 2, 1) := by decide +kernel
theorem dL_way_22 : decode cL_way 22 = .ok (.ireturn, 1) := by decide +kernel
theorem dL_way_23 : decode cL_way 23 = .ok (.iconst 0, 1) := by decide +kernel
theorem dL_way_24 : decode cL_way 24 = .ok (.ireturn, 1) := by decide +kernel
theorem dL_setting_0 : decode cL_setting 0 = .ok (.aload_n 2, 1) := by decide +kernel
theorem dL_setting_1 : decode cL_setting 1 = .ok (.iconst 0, 1) := by decide +kernel
theorem dL_setting_2 : decode cL_setting 2 = .ok (.aload_n 0, 1) := by decide +kernel
theorem dL_setting_3 : decode cL_setting 3 = .ok (.iload_n 1, 1) := by decide +kernel
theorem dL_setting_4 : decode cL_setting 4 = .ok (.invokevirtual 40, 3) := by decide +kernel
theorem dL_setting_7 : decode cL_setting 7 = .ok (.i2l, 1) := by decide +kernel
theorem dL_setting_8 : decode cL_setting 8 = .ok (.lastore, 1) := by decide +kernel
theorem dL_setting_9 : decode cL_setting 9 = .ok (.goto 6, 3) := by decide +kernel
theorem dL_setting_12 : decode cL_setting 12 = .ok (.astore_n 3, 1) := by decide +kernel
theorem dL_setting_13 : decode cL_setting 13 = .ok (.iconst 1, 1) := by decide +kernel
theorem dL_setting_14 : decode cL_setting 14 = .ok (.ireturn, 1) := by decide +kernel
theorem dL_setting_15 : decode cL_setting 15 = .ok (.iconst 0, 1) := by decide +kernel
theorem dL_setting_16 : decode cL_setting 16 = .ok (.ireturn, 1) := by decide +kernel
theorem dL_gutter_0 : decode cL_gutter 0 = .ok (.aload 5, 2) := by decide +kernel
theorem dL_gutter_2 : decode cL_gutter 2 = .ok (.iconst 0, 1) := by decide +kernel
theorem dL_gutter_3 : decode cL_gutter 3 = .ok (.aload_n 0, 1) := by decide +kernel
theorem dL_gutter_4 : decode cL_gutter 4 = .ok (.iload_n 1, 1) := by decide +kernel
theorem dL_gutter_5 : decode cL_gutter 5 = .ok (.iload_n 2, 1) := by decide +kernel
theorem dL_gutter_6 : decode cL_gutter 6 = .ok (.iload_n 3, 1) := by decide +kernel
theorem dL_gutter_7 : decode cL_gutter 7 = .ok (.iload 4, 2) := by decide +kernel
theorem dL_gutter_9 : decode cL_gutter 9 = .ok (.invokevirtual 43, 3) := by decide +kernel
theorem dL_gutter_12 : decode cL_gutter 12 = .ok (.i2l, 1) := by decide +kernel
theorem dL_gutter_13 : decode cL_gutter 13 = .ok (.lastore, 1) := by decide +kernel
theorem dL_gutter_14 : decode cL_gutter 14 = .ok (.goto 15, 3) := by decide +kernel
theorem dL_gutter_17 : decode cL_gutter 17 = .ok (.astore 6, 2) := by decide +kernel
theorem dL_gutter_19 : decode cL_gutter 19 = .ok (.iconst 1, 1) := by decide +kernel
theorem dL_gutter_20 : decode cL_gutter 20 = .ok (.ireturn, 1) := by decide +kernel
theorem dL_gutter_21 : decode cL_gutter 21 = .ok (.astore 6, 2) := by decide +kernel
theorem dL_gutter_23 : decode cL_gutter 23 = .ok (.iconst 2, 1) := by decide +kernel
theorem dL_gutter_24 : decode cL_gutter 24 = .ok (.ireturn, 1) := by decide +kernel
theorem dL_gutter_25 : decode cL_gutter 25 = .ok (.astore 6, 2) := by decide +kernel
theorem dL_gutter_27 : decode cL_gutter 27 = .ok (.iconst 3, 1) := by decide +kernel
theorem dL_gutter_28 : decode cL_gutter 28 = .ok (.ireturn, 1) := by decide +kernel
theorem dL_gutter_29 : decode cL_gutter 29 = .ok (.iconst 0, 1) := by decide +kernel
theorem dL_gutter_30 : decode cL_gutter 30 = .ok (.ireturn, 1) := by decide +kernel
theorem dL_boat_0 : decode cL_boat 0 = .ok (.aload 4, 2) := by decide +kernel
theorem dL_boat_2 : decode cL_boat 2 = .ok (.iconst 0, 1) := by decide +kernel
theorem dL_boat_3 : decode cL_boat 3 = .ok (.aload_n 0, 1) := by decide +kernel
theorem dL_boat_4 : decode cL_boat 4 = .ok (.iload_n 1, 1) := by decide +kernel
theorem dL_boat_5 : decode cL_boat 5 = .ok (.iload_n 2, 1) := by decide +kernel
theorem dL_boat_6 : decode cL_boat 6 = .ok (.iload_n 3, 1) := by decide +kernel
theorem dL_boat_7 : decode cL_boat 7 = .ok (.invokevirtual 47, 3) := by decide +kernel
theorem dL_boat_10 : decode cL_boat 10 = .ok (.i2l, 1) := by decide +kernel
theorem dL_boat_11 : decode cL_boat 11 = .ok (.lastore, 1) := by decide +kernel
theorem dL_boat_12 : decode cL_boat 12 = .ok (.goto 15, 3) := by decide +kernel
theorem dL_boat_15 : decode cL_boat 15 = .ok (.astore 5, 2) := by decide +kernel
theorem dL_boat_17 : decode cL_boat 17 = .ok (.iconst 1, 1) := by decide +kernel
theorem dL_boat_18 : decode cL_boat 18 = .ok (.ireturn, 1) := by decide +kernel
theorem dL_boat_19 : decode cL_boat 19 = .ok (.astore 5, 2) := by decide +kernel
theorem dL_boat_21 : decode cL_boat 21 = .ok (.iconst 2, 1) := by decide +kernel
theorem dL_boat_22 : decode cL_boat 22 = .ok (.ireturn, 1) := by decide +kernel
theorem dL_boat_23 : decode cL_boat 23 = .ok (.astore 5, 2) := by decide +kernel
theorem dL_boat_25 : decode cL_boat 25 = .ok (.iconst 3, 1) := by decide +kernel
theorem dL_boat_26 : decode cL_boat 26 = .ok (.ireturn, 1) := by decide +kernel
theorem dL_boat_27 : decode cL_boat 27 = .ok (.iconst 0, 1) := by decide +kernel
theorem dL_boat_28 : decode cL_boat 28 = .ok (.ireturn, 1) := by decide +kernel
theorem dL_launch_0 : decode cL_launch 0 = .ok (.aload_n 3, 1) := by decide +kernel
theorem dL_launch_1 : decode cL_launch 1 = .ok (.iconst 0, 1) := by decide +kernel
theorem dL_launch_2 : decode cL_launch 2 = .ok (.aload_n 0, 1) := by decide +kernel
theorem dL_launch_3 : decode cL_launch 3 = .ok (.iload_n 1, 1) := by decide +kernel
theorem dL_launch_4 : decode cL_launch 4 = .ok (.iload_n 2, 1) := by decide +kernel
theorem dL_launch_5 : decode cL_launch 5 = .ok (.invokevirtual 50, 3) := by decide +kernel
theorem dL_launch_8 : decode cL_launch 8 = .ok (.i2l, 1) := by decide +kernel
theorem dL_launch_9 : decode cL_launch 9 = .ok (.lastore, 1) := by decide +kernel
theorem dL_launch_10 : decode cL_launch 10 = .ok (.goto 11, 3) := by decide +kernel
theorem dL_launch_13 : decode cL_launch 13 = .ok (.astore 4, 2) := by decide +kernel
theorem dL_launch_15 : decode cL_launch 15 = .ok (.iconst 1, 1) := by decide +kernel
theorem dL_launch_16 : decode cL_launch 16 = .ok (.ireturn, 1) := by decide +kernel
theorem dL_launch_17 : decode cL_launch 17 = .ok (.astore 4, 2) := by decide +kernel
theorem dL_launch_19 : decode cL_launch 19 = .ok (.iconst 2, 1) := by decide +kernel
theorem dL_launch_20 : decode cL_launch 20 = .ok (.ireturn, 1) := by decide +kernel
theorem dL_launch_21 : decode cL_launch 21 = .ok (.iconst 0, 1) := by decide +kernel
theorem dL_launch_22 : decode cL_launch 22 = .ok (.ireturn, 1) := by decide +kernel
theorem dL_hook_0 : decode cL_hook 0 = .ok (.aload 4, 2) := by decide +kernel
theorem dL_hook_2 : decode cL_hook 2 = .ok (.iconst 0, 1) := by decide +kernel
theorem dL_hook_3 : decode cL_hook 3 = .ok (.aload_n 0, 1) := by decide +kernel
theorem dL_hook_4 : decode cL_hook 4 = .ok (.iload_n 1, 1) := by decide +kernel
theorem dL_hook_5 : decode cL_hook 5 = .ok (.iload_n 2, 1) := by decide +kernel
theorem dL_hook_6 : decode cL_hook 6 = .ok (.iload_n 3, 1) := by decide +kernel
theorem dL_hook_7 : decode cL_hook 7 = .ok (.invokevirtual 53, 3) := by decide +kernel
theorem dL_hook_10 : decode cL_hook 10 = .ok (.i2l, 1) := by decide +kernel
theorem dL_hook_11 : decode cL_hook 11 = .ok (.lastore, 1) := by decide +kernel
theorem dL_hook_12 : decode cL_hook 12 = .ok (.goto 7, 3) := by decide +kernel
theorem dL_hook_15 : decode cL_hook 15 = .ok (.astore 5, 2) := by decide +kernel
theorem dL_hook_17 : decode cL_hook 17 = .ok (.iconst 1, 1) := by decide +kernel
theorem dL_hook_18 : decode cL_hook 18 = .ok (.ireturn, 1) := by decide +kernel
theorem dL_hook_19 : decode cL_hook 19 = .ok (.iconst 0, 1) := by decide +kernel
theorem dL_hook_20 : decode cL_hook 20 = .ok (.ireturn, 1) := by decide +kernel
theorem dL_claim_0 : decode cL_claim 0 = .ok (.aload_n 3, 1) := by decide +kernel
theorem dL_claim_1 : decode cL_claim 1 = .ok (.iconst 0, 1) := by decide +kernel
theorem dL_claim_2 : decode cL_claim 2 = .ok (.aload_n 0, 1) := by decide +kernel
theorem dL_claim_3 : decode cL_claim 3 = .ok (.iload_n 1, 1) := by decide +kernel
theorem dL_claim_4 : decode cL_claim 4 = .ok (.iload_n 2, 1) := by decide +kernel
theorem dL_claim_5 : decode cL_claim 5 = .ok (.invokevirtual 56, 3) := by decide +kernel
theorem dL_claim_8 : decode cL_claim 8 = .ok (.i2l, 1) := by decide +kernel
theorem dL_claim_9 : decode cL_claim 9 = .ok (.lastore, 1) := by decide +kernel
theorem dL_claim_10 : decode cL_claim 10 = .ok (.goto 7, 3) := by decide +kernel
theorem dL_claim_13 : decode cL_claim 13 = .ok (.astore 4, 2) := by decide +kernel
theorem dL_claim_15 : decode cL_claim 15 = .ok (.iconst 1, 1) := by decide +kernel
theorem dL_claim_16 : decode cL_claim 16 = .ok (.ireturn, 1) := by decide +kernel
theorem dL_claim_17 : decode cL_claim 17 = .ok (.iconst 0, 1) := by decide +kernel
theorem dL_claim_18 : decode cL_claim 18 = .ok (.ireturn, 1) := by decide +kernel
theorem dL_minutes_0 : decode cL_minutes 0 = .ok (.aload_n 2, 1) := by decide +kernel
theorem dL_minutes_1 : decode cL_minutes 1 = .ok (.iconst 0, 1) := by decide +kernel
theorem dL_minutes_2 : decode cL_minutes 2 = .ok (.aload_n 0, 1) := by decide +kernel
theorem dL_minutes_3 : decode cL_minutes 3 = .ok (.iload_n 1, 1) := by decide +kernel
theorem dL_minutes_4 : decode cL_minutes 4 = .ok (.invokevirtual 59, 3) := by decide +kernel
theorem dL_minutes_7 : decode cL_minutes 7 = .ok (.i2l, 1) := by decide +kernel
theorem dL_minutes_8 : decode cL_minutes 8 = .ok (.lastore, 1) := by decide +kernel
theorem dL_minutes_9 : decode cL_minutes 9 = .ok (.goto 6, 3) := by decide +kernel
theorem dL_minutes_12 : decode cL_minutes 12 = .ok (.astore_n 3, 1) := by decide +kernel
theorem dL_minutes_13 : decode cL_minutes 13 = .ok (.iconst 1, 1) := by decide +kernel
theorem dL_minutes_14 : decode cL_minutes 14 = .ok (.ireturn, 1) := by decide +kernel
theorem dL_minutes_15 : decode cL_minutes 15 = .ok (.iconst 0, 1) := by decide +kernel
theorem dL_minutes_16 : decode cL_minutes 16 = .ok (.ireturn, 1) := by decide +kernel
theorem dL_set_0 : decode cL_set 0 = .ok (.aload_n 3, 1) := by decide +kernel
theorem dL_set_1 : decode cL_set 1 = .ok (.iconst 0, 1) := by decide +kernel
theorem dL_set_2 : decode cL_set 2 = .ok (.aload_n 0, 1) := by decide +kernel
theorem dL_set_3 : decode cL_set 3 = .ok (.iload_n 1, 1) := by decide +kernel
theorem dL_set_4 : decode cL_set 4 = .ok (.iload_n 2, 1) := by decide +kernel
theorem dL_set_5 : decode cL_set 5 = .ok (.invokevirtual 62, 3) := by decide +kernel
theorem dL_set_8 : decode cL_set 8 = .ok (.i2l, 1) := by decide +kernel
theorem dL_set_9 : decode cL_set 9 = .ok (.lastore, 1) := by decide +kernel
theorem dL_set_10 : decode cL_set 10 = .ok (.goto 7, 3) := by decide +kernel
theorem dL_set_13 : decode cL_set 13 = .ok (.astore 4, 2) := by decide +kernel
theorem dL_set_15 : decode cL_set 15 = .ok (.iconst 1, 1) := by decide +kernel
theorem dL_set_16 : decode cL_set 16 = .ok (.ireturn, 1) := by decide +kernel
theorem dL_set_17 : decode cL_set 17 = .ok (.iconst 0, 1) := by decide +kernel
theorem dL_set_18 : decode cL_set 18 = .ok (.ireturn, 1) := by decide +kernel
theorem dL_undo_0 : decode cL_undo 0 = .ok (.aload_n 1, 1) := by decide +kernel
theorem dL_undo_1 : decode cL_undo 1 = .ok (.iconst 0, 1) := by decide +kernel
theorem dL_undo_2 : decode cL_undo 2 = .ok (.aload_n 0, 1) := by decide +kernel
theorem dL_undo_3 : decode cL_undo 3 = .ok (.invokevirtual 65, 3) := by decide +kernel
theorem dL_undo_6 : decode cL_undo 6 = .ok (.i2l, 1) := by decide +kernel
theorem dL_undo_7 : decode cL_undo 7 = .ok (.lastore, 1) := by decide +kernel
theorem dL_undo_8 : decode cL_undo 8 = .ok (.goto 6, 3) := by decide +kernel
theorem dL_undo_11 : decode cL_undo 11 = .ok (.astore_n 2, 1) := by decide +kernel
theorem dL_undo_12 : decode cL_undo 12 = .ok (.iconst 1, 1) := by decide +kernel
theorem dL_undo_13 : decode cL_undo 13 = .ok (.ireturn, 1) := by decide +kernel
theorem dL_undo_14 : decode cL_undo 14 = .ok (.iconst 0, 1) := by decide +kernel
theorem dL_undo_15 : decode cL_undo 15 = .ok (.ireturn, 1) := by decide +kernel
theorem dL_why_0 : decode cL_why 0 = .ok (.aload_n 3, 1) := by decide +kernel
theorem dL_why_1 : decode cL_why 1 = .ok (.iconst 0, 1) := by decide +kernel
theorem dL_why_2 : decode cL_why 2 = .ok (.aload_n 0, 1) := by decide +kernel
theorem dL_why_3 : decode cL_why 3 = .ok (.iload_n 1, 1) := by decide +kernel
theorem dL_why_4 : decode cL_why 4 = .ok (.iload_n 2, 1) := by decide +kernel
theorem dL_why_5 : decode cL_why 5 = .ok (.invokevirtual 68, 3) := by decide +kernel
theorem dL_why_8 : decode cL_why 8 = .ok (.i2l, 1) := by decide +kernel
theorem dL_why_9 : decode cL_why 9 = .ok (.lastore, 1) := by decide +kernel
theorem dL_why_10 : decode cL_why 10 = .ok (.goto 7, 3) := by decide +kernel
theorem dL_why_13 : decode cL_why 13 = .ok (.astore 4, 2) := by decide +kernel
theorem dL_why_15 : decode cL_why 15 = .ok (.iconst 1, 1) := by decide +kernel
theorem dL_why_16 : decode cL_why 16 = .ok (.ireturn, 1) := by decide +kernel
theorem dL_why_17 : decode cL_why 17 = .ok (.iconst 0, 1) := by decide +kernel
theorem dL_why_18 : decode cL_why 18 = .ok (.ireturn, 1) := by decide +kernel
theorem dL_endsIn_0 : decode cL_endsIn 0 = .ok (.aload_n 3, 1) := by decide +kernel
theorem dL_endsIn_1 : decode cL_endsIn 1 = .ok (.iconst 0, 1) := by decide +kernel
theorem dL_endsIn_2 : decode cL_endsIn 2 = .ok (.aload_n 0, 1) := by decide +kernel
theorem dL_endsIn_3 : decode cL_endsIn 3 = .ok (.iload_n 1, 1) := by decide +kernel
theorem dL_endsIn_4 : decode cL_endsIn 4 = .ok (.iload_n 2, 1) := by decide +kernel
theorem dL_endsIn_5 : decode cL_endsIn 5 = .ok (.invokevirtual 71, 3) := by decide +kernel
theorem dL_endsIn_8 : decode cL_endsIn 8 = .ok (.i2l, 1) := by decide +kernel
theorem dL_endsIn_9 : decode cL_endsIn 9 = .ok (.lastore, 1) := by decide +kernel
theorem dL_endsIn_10 : decode cL_endsIn 10 = .ok (.goto 15, 3) := by decide +kernel
theorem dL_endsIn_13 : decode cL_endsIn 13 = .ok (.astore 4, 2) := by decide +kernel
theorem dL_endsIn_15 : decode cL_endsIn 15 = .ok (.iconst 1, 1) := by decide +kernel
theorem dL_endsIn_16 : decode cL_endsIn 16 = .ok (.ireturn, 1) := by decide +kernel
theorem dL_endsIn_17 : decode cL_endsIn 17 = .ok (.astore 4, 2) := by decide +kernel
theorem dL_endsIn_19 : decode cL_endsIn 19 = .ok (.iconst 2, 1) := by decide +kernel
theorem dL_endsIn_20 : decode cL_endsIn 20 = .ok (.ireturn, 1) := by decide +kernel
theorem dL_endsIn_21 : decode cL_endsIn 21 = .ok (.astore 4, 2) := by decide +kernel
theorem dL_endsIn_23 : decode cL_endsIn 23 = .ok (.iconst 3, 1) := by decide +kernel
theorem dL_endsIn_24 : decode cL_endsIn 24 = .ok (.ireturn, 1) := by decide +kernel
theorem dL_endsIn_25 : decode cL_endsIn 25 = .ok (.iconst 0, 1) := by decide +kernel
theorem dL_endsIn_26 : decode cL_endsIn 26 = .ok (.ireturn, 1) := by decide +kernel
theorem dL_leastFolds_0 : decode cL_leastFolds 0 = .ok (.aload_n 3, 1) := by decide +kernel
theorem dL_leastFolds_1 : decode cL_leastFolds 1 = .ok (.iconst 0, 1) := by decide +kernel
theorem dL_leastFolds_2 : decode cL_leastFolds 2 = .ok (.aload_n 0, 1) := by decide +kernel
theorem dL_leastFolds_3 : decode cL_leastFolds 3 = .ok (.iload_n 1, 1) := by decide +kernel
theorem dL_leastFolds_4 : decode cL_leastFolds 4 = .ok (.iload_n 2, 1) := by decide +kernel
theorem dL_leastFolds_5 : decode cL_leastFolds 5 = .ok (.invokevirtual 74, 3) := by decide +kernel
theorem dL_leastFolds_8 : decode cL_leastFolds 8 = .ok (.i2l, 1) := by decide +kernel
theorem dL_leastFolds_9 : decode cL_leastFolds 9 = .ok (.lastore, 1) := by decide +kernel
theorem dL_leastFolds_10 : decode cL_leastFolds 10 = .ok (.goto 11, 3) := by decide +kernel
theorem dL_leastFolds_13 : decode cL_leastFolds 13 = .ok (.astore 4, 2) := by decide +kernel
theorem dL_leastFolds_15 : decode cL_leastFolds 15 = .ok (.iconst 1, 1) := by decide +kernel
theorem dL_leastFolds_16 : decode cL_leastFolds 16 = .ok (.ireturn, 1) := by decide +kernel
theorem dL_leastFolds_17 : decode cL_leastFolds 17 = .ok (.astore 4, 2) := by decide +kernel
theorem dL_leastFolds_19 : decode cL_leastFolds 19 = .ok (.iconst 2, 1) := by decide +kernel
theorem dL_leastFolds_20 : decode cL_leastFolds 20 = .ok (.ireturn, 1) := by decide +kernel
theorem dL_leastFolds_21 : decode cL_leastFolds 21 = .ok (.iconst 0, 1) := by decide +kernel
theorem dL_leastFolds_22 : decode cL_leastFolds 22 = .ok (.ireturn, 1) := by decide +kernel
theorem dL_runScript_0 : decode cL_runScript 0 = .ok (.aload 4, 2) := by decide +kernel
theorem dL_runScript_2 : decode cL_runScript 2 = .ok (.iconst 0, 1) := by decide +kernel
theorem dL_runScript_3 : decode cL_runScript 3 = .ok (.aload_n 0, 1) := by decide +kernel
theorem dL_runScript_4 : decode cL_runScript 4 = .ok (.iload_n 1, 1) := by decide +kernel
theorem dL_runScript_5 : decode cL_runScript 5 = .ok (.lload_n 2, 1) := by decide +kernel
theorem dL_runScript_6 : decode cL_runScript 6 = .ok (.invokevirtual 77, 3) := by decide +kernel
theorem dL_runScript_9 : decode cL_runScript 9 = .ok (.i2l, 1) := by decide +kernel
theorem dL_runScript_10 : decode cL_runScript 10 = .ok (.lastore, 1) := by decide +kernel
theorem dL_runScript_11 : decode cL_runScript 11 = .ok (.goto 7, 3) := by decide +kernel
theorem dL_runScript_14 : decode cL_runScript 14 = .ok (.astore 5, 2) := by decide +kernel
theorem dL_runScript_16 : decode cL_runScript 16 = .ok (.iconst 1, 1) := by decide +kernel
theorem dL_runScript_17 : decode cL_runScript 17 = .ok (.ireturn, 1) := by decide +kernel
theorem dL_runScript_18 : decode cL_runScript 18 = .ok (.iconst 0, 1) := by decide +kernel
theorem dL_runScript_19 : decode cL_runScript 19 = .ok (.ireturn, 1) := by decide +kernel
theorem dL_simulate_0 : decode cL_simulate 0 = .ok (.aload 4, 2) := by decide +kernel
theorem dL_simulate_2 : decode cL_simulate 2 = .ok (.iconst 0, 1) := by decide +kernel
theorem dL_simulate_3 : decode cL_simulate 3 = .ok (.aload_n 0, 1) := by decide +kernel
theorem dL_simulate_4 : decode cL_simulate 4 = .ok (.lload_n 1, 1) := by decide +kernel
theorem dL_simulate_5 : decode cL_simulate 5 = .ok (.iload_n 3, 1) := by decide +kernel
theorem dL_simulate_6 : decode cL_simulate 6 = .ok (.invokevirtual 81, 3) := by decide +kernel
theorem dL_simulate_9 : decode cL_simulate 9 = .ok (.i2l, 1) := by decide +kernel
theorem dL_simulate_10 : decode cL_simulate 10 = .ok (.lastore, 1) := by decide +kernel
theorem dL_simulate_11 : decode cL_simulate 11 = .ok (.goto 7, 3) := by decide +kernel
theorem dL_simulate_14 : decode cL_simulate 14 = .ok (.astore 5, 2) := by decide +kernel
theorem dL_simulate_16 : decode cL_simulate 16 = .ok (.iconst 1, 1) := by decide +kernel
theorem dL_simulate_17 : decode cL_simulate 17 = .ok (.ireturn, 1) := by decide +kernel
theorem dL_simulate_18 : decode cL_simulate 18 = .ok (.iconst 0, 1) := by decide +kernel
theorem dL_simulate_19 : decode cL_simulate 19 = .ok (.ireturn, 1) := by decide +kernel
theorem dL_save_0 : decode cL_save 0 = .ok (.aload_n 2, 1) := by decide +kernel
theorem dL_save_1 : decode cL_save 1 = .ok (.iconst 0, 1) := by decide +kernel
theorem dL_save_2 : decode cL_save 2 = .ok (.aload_n 0, 1) := by decide +kernel
theorem dL_save_3 : decode cL_save 3 = .ok (.iload_n 1, 1) := by decide +kernel
theorem dL_save_4 : decode cL_save 4 = .ok (.invokevirtual 85, 3) := by decide +kernel
theorem dL_save_7 : decode cL_save 7 = .ok (.i2l, 1) := by decide +kernel
theorem dL_save_8 : decode cL_save 8 = .ok (.lastore, 1) := by decide +kernel
theorem dL_save_9 : decode cL_save 9 = .ok (.goto 6, 3) := by decide +kernel
theorem dL_save_12 : decode cL_save 12 = .ok (.astore_n 3, 1) := by decide +kernel
theorem dL_save_13 : decode cL_save 13 = .ok (.iconst 1, 1) := by decide +kernel
theorem dL_save_14 : decode cL_save 14 = .ok (.ireturn, 1) := by decide +kernel
theorem dL_save_15 : decode cL_save 15 = .ok (.iconst 0, 1) := by decide +kernel
theorem dL_save_16 : decode cL_save 16 = .ok (.ireturn, 1) := by decide +kernel
theorem dL_restore_0 : decode cL_restore 0 = .ok (.aload_n 2, 1) := by decide +kernel
theorem dL_restore_1 : decode cL_restore 1 = .ok (.iconst 0, 1) := by decide +kernel
theorem dL_restore_2 : decode cL_restore 2 = .ok (.aload_n 0, 1) := by decide +kernel
theorem dL_restore_3 : decode cL_restore 3 = .ok (.iload_n 1, 1) := by decide +kernel
theorem dL_restore_4 : decode cL_restore 4 = .ok (.invokevirtual 88, 3) := by decide +kernel
theorem dL_restore_7 : decode cL_restore 7 = .ok (.i2l, 1) := by decide +kernel
theorem dL_restore_8 : decode cL_restore 8 = .ok (.lastore, 1) := by decide +kernel
theorem dL_restore_9 : decode cL_restore 9 = .ok (.goto 9, 3) := by decide +kernel
theorem dL_restore_12 : decode cL_restore 12 = .ok (.astore_n 3, 1) := by decide +kernel
theorem dL_restore_13 : decode cL_restore 13 = .ok (.iconst 1, 1) := by decide +kernel
theorem dL_restore_14 : decode cL_restore 14 = .ok (.ireturn, 1) := by decide +kernel
theorem dL_restore_15 : decode cL_restore 15 = .ok (.astore_n 3, 1) := by decide +kernel
theorem dL_restore_16 : decode cL_restore 16 = .ok (.iconst 2, 1) := by decide +kernel
theorem dL_restore_17 : decode cL_restore 17 = .ok (.ireturn, 1) := by decide +kernel
theorem dL_restore_18 : decode cL_restore 18 = .ok (.iconst 0, 1) := by decide +kernel
theorem dL_restore_19 : decode cL_restore 19 = .ok (.ireturn, 1) := by decide +kernel
end
section
theorem dX6_init_0 : decode cX6_init 0 = .ok (.aload_n 0, 1) := by decide +kernel
theorem dX6_init_1 : decode cX6_init 1 = .ok (.invokespecial 1, 3) := by decide +kernel
theorem dX6_init_4 : decode cX6_init 4 = .ok (.aload_n 0, 1) := by decide +kernel
theorem dX6_init_5 : decode cX6_init 5 = .ok (.sipush 157, 3) := by decide +kernel
theorem dX6_init_8 : decode cX6_init 8 = .ok (.newarray .int, 2) := by decide +kernel
theorem dX6_init_10 : decode cX6_init 10 = .ok (.putfield 7, 3) := by decide +kernel
theorem dX6_init_13 : decode cX6_init 13 = .ok (.aload_n 0, 1) := by decide +kernel
theorem dX6_init_14 : decode cX6_init 14 = .ok (.sipush 157, 3) := by decide +kernel
theorem dX6_init_17 : decode cX6_init 17 = .ok (.newarray .int, 2) := by decide +kernel
theorem dX6_init_19 : decode cX6_init 19 = .ok (.putfield 13, 3) := by decide +kernel
theorem dX6_init_22 : decode cX6_init 22 = .ok (.aload_n 0, 1) := by decide +kernel
theorem dX6_init_23 : decode cX6_init 23 = .ok (.sipush 157, 3) := by decide +kernel
theorem dX6_init_26 : decode cX6_init 26 = .ok (.newarray .int, 2) := by decide +kernel
theorem dX6_init_28 : decode cX6_init 28 = .ok (.putfield 16, 3) := by decide +kernel
theorem dX6_init_31 : decode cX6_init 31 = .ok (.aload_n 0, 1) := by decide +kernel
theorem dX6_init_32 : decode cX6_init 32 = .ok (.sipush 2198, 3) := by decide +kernel
theorem dX6_init_35 : decode cX6_init 35 = .ok (.newarray .int, 2) := by decide +kernel
theorem dX6_init_37 : decode cX6_init 37 = .ok (.putfield 19, 3) := by decide +kernel
theorem dX6_init_40 : decode cX6_init 40 = .ok (.aload_n 0, 1) := by decide +kernel
theorem dX6_init_41 : decode cX6_init 41 = .ok (.sipush 314, 3) := by decide +kernel
theorem dX6_init_44 : decode cX6_init 44 = .ok (.newarray .int, 2) := by decide +kernel
theorem dX6_init_46 : decode cX6_init 46 = .ok (.putfield 22, 3) := by decide +kernel
theorem dX6_init_49 : decode cX6_init 49 = .ok (.aload_n 0, 1) := by decide +kernel
theorem dX6_init_50 : decode cX6_init 50 = .ok (.iconst 2, 1) := by decide +kernel
theorem dX6_init_51 : decode cX6_init 51 = .ok (.newarray .boolean, 2) := by decide +kernel
theorem dX6_init_53 : decode cX6_init 53 = .ok (.putfield 25, 3) := by decide +kernel
theorem dX6_init_56 : decode cX6_init 56 = .ok (.aload_n 0, 1) := by decide +kernel
theorem dX6_init_57 : decode cX6_init 57 = .ok (.bipush 120, 2) := by decide +kernel
theorem dX6_init_59 : decode cX6_init 59 = .ok (.newarray .int, 2) := by decide +kernel
theorem dX6_init_61 : decode cX6_init 61 = .ok (.putfield 29, 3) := by decide +kernel
theorem dX6_init_64 : decode cX6_init 64 = .ok (.aload_n 0, 1) := by decide +kernel
theorem dX6_init_65 : decode cX6_init 65 = .ok (.getfield 7, 3) := by decide +kernel
theorem dX6_init_68 : decode cX6_init 68 = .ok (.invokestatic 32, 3) := by decide +kernel
theorem dX6_init_71 : decode cX6_init 71 = .ok (.return_, 1) := by decide +kernel
theorem dX6_thrown_0 : decode cX6_thrown 0 = .ok (.aload_n 0, 1) := by decide +kernel
theorem dX6_thrown_1 : decode cX6_thrown 1 = .ok (.getfield 36, 3) := by decide +kernel
theorem dX6_thrown_4 : decode cX6_thrown 4 = .ok (.ireturn, 1) := by decide +kernel
theorem dX6_refused_0 : decode cX6_refused 0 = .ok (.aload_n 0, 1) := by decide +kernel
theorem dX6_refused_1 : decode cX6_refused 1 = .ok (.iload_n 1, 1) := by decide +kernel
theorem dX6_refused_2 : decode cX6_refused 2 = .ok (.putfield 36, 3) := by decide +kernel
theorem dX6_refused_5 : decode cX6_refused 5 = .ok (.iload_n 1, 1) := by decide +kernel
theorem dX6_refused_6 : decode cX6_refused 6 = .ok (.ifCond .eq 7, 3) := by decide +kernel
theorem dX6_refused_9 : decode cX6_refused 9 = .ok (.iconst 1, 1) := by decide +kernel
theorem dX6_refused_10 : decode cX6_refused 10 = .ok (.goto 4, 3) := by decide +kernel
theorem dX6_refused_13 : decode cX6_refused 13 = .ok (.iconst 0, 1) := by decide +kernel
theorem dX6_refused_14 : decode cX6_refused 14 = .ok (.ireturn, 1) := by decide +kernel
theorem dX6_in_0 : decode cX6_in 0 = .ok (.lload_n 0, 1) := by decide +kernel
theorem dX6_in_1 : decode cX6_in 1 = .ok (.lload_n 2, 1) := by decide +kernel
theorem dX6_in_2 : decode cX6_in 2 = .ok (.lcmp, 1) := by decide +kernel
theorem dX6_in_3 : decode cX6_in 3 = .ok (.ifCond .lt 14, 3) := by decide +kernel
theorem dX6_in_6 : decode cX6_in 6 = .ok (.lload_n 0, 1) := by decide +kernel
theorem dX6_in_7 : decode cX6_in 7 = .ok (.lload 4, 2) := by decide +kernel
theorem dX6_in_9 : decode cX6_in 9 = .ok (.lcmp, 1) := by decide +kernel
theorem dX6_in_10 : decode cX6_in 10 = .ok (.ifCond .gt 7, 3) := by decide +kernel
theorem dX6_in_13 : decode cX6_in 13 = .ok (.iconst 1, 1) := by decide +kernel
theorem dX6_in_14 : decode cX6_in 14 = .ok (.goto 4, 3) := by decide +kernel
theorem dX6_in_17 : decode cX6_in 17 = .ok (.iconst 0, 1) := by decide +kernel
theorem dX6_in_18 : decode cX6_in 18 = .ok (.ireturn, 1) := by decide +kernel
theorem dX6_tens_0 : decode cX6_tens 0 = .ok (.lconst 1, 1) := by decide +kernel
theorem dX6_tens_1 : decode cX6_tens 1 = .ok (.lstore_n 1, 1) := by decide +kernel
theorem dX6_tens_2 : decode cX6_tens 2 = .ok (.iconst 0, 1) := by decide +kernel
theorem dX6_tens_3 : decode cX6_tens 3 = .ok (.istore_n 3, 1) := by decide +kernel
theorem dX6_tens_4 : decode cX6_tens 4 = .ok (.iload_n 3, 1) := by decide +kernel
theorem dX6_tens_5 : decode cX6_tens 5 = .ok (.iload_n 0, 1) := by decide +kernel
theorem dX6_tens_6 : decode cX6_tens 6 = .ok (.if_icmp .ge 15, 3) := by decide +kernel
theorem dX6_tens_9 : decode cX6_tens 9 = .ok (.lload_n 1, 1) := by decide +kernel
theorem dX6_tens_10 : decode cX6_tens 10 = .ok (.ldc2_w 40, 3) := by decide +kernel
theorem dX6_tens_13 : decode cX6_tens 13 = .ok (.lmul, 1) := by decide +kernel
theorem dX6_tens_14 : decode cX6_tens 14 = .ok (.lstore_n 1, 1) := by decide +kernel
theorem dX6_tens_15 : decode cX6_tens 15 = .ok (.iinc 3 1, 3) := by decide +kernel
theorem dX6_tens_18 : decode cX6_tens 18 = .ok (.goto (-14), 3) := by decide +kernel
theorem dX6_tens_21 : decode cX6_tens 21 = .ok (.lload_n 1, 1) := by decide +kernel
theorem dX6_tens_22 : decode cX6_tens 22 = .ok (.lreturn, 1) := by decide +kernel
theorem dX6_abs_0 : decode cX6_abs 0 = .ok (.iload_n 0, 1) := by decide +kernel
theorem dX6_abs_1 : decode cX6_abs 1 = .ok (.ifCond .ge 8, 3) := by decide +kernel
theorem dX6_abs_4 : decode cX6_abs 4 = .ok (.iload_n 0, 1) := by decide +kernel
theorem dX6_abs_5 : decode cX6_abs 5 = .ok (.ineg, 1) := by decide +kernel
theorem dX6_abs_6 : decode cX6_abs 6 = .ok (.goto 4, 3) := by decide +kernel
theorem dX6_abs_9 : decode cX6_abs 9 = .ok (.iload_n 0, 1) := by decide +kernel
theorem dX6_abs_10 : decode cX6_abs 10 = .ok (.ireturn, 1) := by decide +kernel
theorem dX6_fresh_0 : decode cX6_fresh 0 = .ok (.iconst 0, 1) := by decide +kernel
theorem dX6_fresh_1 : decode cX6_fresh 1 = .ok (.istore_n 1, 1) := by decide +kernel
theorem dX6_fresh_2 : decode cX6_fresh 2 = .ok (.iload_n 1, 1) := by decide +kernel
theorem dX6_fresh_3 : decode cX6_fresh 3 = .ok (.sipush 157, 3) := by decide +kernel
theorem dX6_fresh_6 : decode cX6_fresh 6 = .ok (.if_icmp .ge 13, 3) := by decide +kernel
theorem dX6_fresh_9 : decode cX6_fresh 9 = .ok (.aload_n 0, 1) := by decide +kernel
theorem dX6_fresh_10 : decode cX6_fresh 10 = .ok (.iload_n 1, 1) := by decide +kernel
theorem dX6_fresh_11 : decode cX6_fresh 11 = .ok (.iconst 0, 1) := by decide +kernel
theorem dX6_fresh_12 : decode cX6_fresh 12 = .ok (.iastore, 1) := by decide +kernel
theorem dX6_fresh_13 : decode cX6_fresh 13 = .ok (.iinc 1 1, 3) := by decide +kernel
theorem dX6_fresh_16 : decode cX6_fresh 16 = .ok (.goto (-14), 3) := by decide +kernel
theorem dX6_fresh_19 : decode cX6_fresh 19 = .ok (.iconst 0, 1) := by decide +kernel
theorem dX6_fresh_20 : decode cX6_fresh 20 = .ok (.istore_n 1, 1) := by decide +kernel
theorem dX6_fresh_21 : decode cX6_fresh 21 = .ok (.iload_n 1, 1) := by decide +kernel
theorem dX6_fresh_22 : decode cX6_fresh 22 = .ok (.iconst 4, 1) := by decide +kernel
theorem dX6_fresh_23 : decode cX6_fresh 23 = .ok (.if_icmp .ge 33, 3) := by decide +kernel
theorem dX6_fresh_26 : decode cX6_fresh 26 = .ok (.aload_n 0, 1) := by decide +kernel
theorem dX6_fresh_27 : decode cX6_fresh 27 = .ok (.sipush 134, 3) := by decide +kernel
theorem dX6_fresh_30 : decode cX6_fresh 30 = .ok (.iconst 3, 1) := by decide +kernel
theorem dX6_fresh_31 : decode cX6_fresh 31 = .ok (.iload_n 1, 1) := by decide +kernel
theorem dX6_fresh_32 : decode cX6_fresh 32 = .ok (.imul, 1) := by decide +kernel
theorem dX6_fresh_33 : decode cX6_fresh 33 = .ok (.iadd, 1) := by decide +kernel
theorem dX6_fresh_34 : decode cX6_fresh 34 = .ok (.iconst 1, 1) := by decide +kernel
theorem dX6_fresh_35 : decode cX6_fresh 35 = .ok (.iadd, 1) := by decide +kernel
theorem dX6_fresh_36 : decode cX6_fresh 36 = .ok (.iconst (-1), 1) := by decide +kernel
theorem dX6_fresh_37 : decode cX6_fresh 37 = .ok (.iastore, 1) := by decide +kernel
theorem dX6_fresh_38 : decode cX6_fresh 38 = .ok (.aload_n 0, 1) := by decide +kernel
theorem dX6_fresh_39 : decode cX6_fresh 39 = .ok (.sipush 134, 3) := by decide +kernel
theorem dX6_fresh_42 : decode cX6_fresh 42 = .ok (.iconst 3, 1) := by decide +kernel
theorem dX6_fresh_43 : decode cX6_fresh 43 = .ok (.iload_n 1, 1) := by decide +kernel
theorem dX6_fresh_44 : decode cX6_fresh 44 = .ok (.imul, 1) := by decide +kernel
theorem dX6_fresh_45 : decode cX6_fresh 45 = .ok (.iadd, 1) := by decide +kernel
theorem dX6_fresh_46 : decode cX6_fresh 46 = .ok (.iconst 2, 1) := by decide +kernel
theorem dX6_fresh_47 : decode cX6_fresh 47 = .ok (.iadd, 1) := by decide +kernel
theorem dX6_fresh_48 : decode cX6_fresh 48 = .ok (.iconst (-1), 1) := by decide +kernel
theorem dX6_fresh_49 : decode cX6_fresh 49 = .ok (.iastore, 1) := by decide +kernel
theorem dX6_fresh_50 : decode cX6_fresh 50 = .ok (.iinc 1 1, 3) := by decide +kernel
theorem dX6_fresh_53 : decode cX6_fresh 53 = .ok (.goto (-32), 3) := by decide +kernel
theorem dX6_fresh_56 : decode cX6_fresh 56 = .ok (.aload_n 0, 1) := by decide +kernel
theorem dX6_fresh_57 : decode cX6_fresh 57 = .ok (.sipush 155, 3) := by decide +kernel
theorem dX6_fresh_60 : decode cX6_fresh 60 = .ok (.iconst 3, 1) := by decide +kernel
theorem dX6_fresh_61 : decode cX6_fresh 61 = .ok (.iastore, 1) := by decide +kernel
theorem dX6_fresh_62 : decode cX6_fresh 62 = .ok (.aload_n 0, 1) := by decide +kernel
theorem dX6_fresh_63 : decode cX6_fresh 63 = .ok (.sipush 156, 3) := by decide +kernel
theorem dX6_fresh_66 : decode cX6_fresh 66 = .ok (.iconst 2, 1) := by decide +kernel
theorem dX6_fresh_67 : decode cX6_fresh 67 = .ok (.iastore, 1) := by decide +kernel
theorem dX6_fresh_68 : decode cX6_fresh 68 = .ok (.return_, 1) := by decide +kernel
theorem dX6_copy_0 : decode cX6_copy 0 = .ok (.iconst 0, 1) := by decide +kernel
theorem dX6_copy_1 : decode cX6_copy 1 = .ok (.istore_n 2, 1) := by decide +kernel
theorem dX6_copy_2 : decode cX6_copy 2 = .ok (.iload_n 2, 1) := by decide +kernel
theorem dX6_copy_3 : decode cX6_copy 3 = .ok (.sipush 157, 3) := by decide +kernel
theorem dX6_copy_6 : decode cX6_copy 6 = .ok (.if_icmp .ge 15, 3) := by decide +kernel
theorem dX6_copy_9 : decode cX6_copy 9 = .ok (.aload_n 1, 1) := by decide +kernel
theorem dX6_copy_10 : decode cX6_copy 10 = .ok (.iload_n 2, 1) := by decide +kernel
theorem dX6_copy_11 : decode cX6_copy 11 = .ok (.aload_n 0, 1) := by decide +kernel
theorem dX6_copy_12 : decode cX6_copy 12 = .ok (.iload_n 2, 1) := by decide +kernel
theorem dX6_copy_13 : decode cX6_copy 13 = .ok (.iaload, 1) := by decide +kernel
theorem dX6_copy_14 : decode cX6_copy 14 = .ok (.iastore, 1) := by decide +kernel
theorem dX6_copy_15 : decode cX6_copy 15 = .ok (.iinc 2 1, 3) := by decide +kernel
theorem dX6_copy_18 : decode cX6_copy 18 = .ok (.goto (-16), 3) := by decide +kernel
theorem dX6_copy_21 : decode cX6_copy 21 = .ok (.return_, 1) := by decide +kernel
theorem dX6_isGutter_0 : decode cX6_isGutter 0 = .ok (.iload_n 1, 1) := by decide +kernel
theorem dX6_isGutter_1 : decode cX6_isGutter 1 = .ok (.i2l, 1) := by decide +kernel
theorem dX6_isGutter_2 : decode cX6_isGutter 2 = .ok (.lconst 0, 1) := by decide +kernel
theorem dX6_isGutter_3 : decode cX6_isGutter 3 = .ok (.aload_n 0, 1) := by decide +kernel
theorem dX6_isGutter_4 : decode cX6_isGutter 4 = .ok (.sipush 146, 3) := by decide +kernel
theorem dX6_isGutter_7 : decode cX6_isGutter 7 = .ok (.iaload, 1) := by decide +kernel
theorem dX6_isGutter_8 : decode cX6_isGutter 8 = .ok (.iconst 1, 1) := by decide +kernel
theorem dX6_isGutter_9 : decode cX6_isGutter 9 = .ok (.isub, 1) := by decide +kernel
theorem dX6_isGutter_10 : decode cX6_isGutter 10 = .ok (.i2l, 1) := by decide +kernel
theorem dX6_isGutter_11 : decode cX6_isGutter 11 = .ok (.invokestatic 42, 3) := by decide +kernel
theorem dX6_isGutter_14 : decode cX6_isGutter 14 = .ok (.ireturn, 1) := by decide +kernel
theorem dX6_isCell_0 : decode cX6_isCell 0 = .ok (.aload_n 0, 1) := by decide +kernel
theorem dX6_isCell_1 : decode cX6_isCell 1 = .ok (.iload_n 1, 1) := by decide +kernel
theorem dX6_isCell_2 : decode cX6_isCell 2 = .ok (.invokestatic 46, 3) := by decide +kernel
theorem dX6_isCell_5 : decode cX6_isCell 5 = .ok (.ifCond .eq 26, 3) := by decide +kernel
theorem dX6_isCell_8 : decode cX6_isCell 8 = .ok (.iload_n 2, 1) := by decide +kernel
theorem dX6_isCell_9 : decode cX6_isCell 9 = .ok (.i2l, 1) := by decide +kernel
theorem dX6_isCell_10 : decode cX6_isCell 10 = .ok (.lconst 0, 1) := by decide +kernel
theorem dX6_isCell_11 : decode cX6_isCell 11 = .ok (.aload_n 0, 1) := by decide +kernel
theorem dX6_isCell_12 : decode cX6_isCell 12 = .ok (.iconst 4, 1) := by decide +kernel
theorem dX6_isCell_13 : decode cX6_isCell 13 = .ok (.iload_n 1, 1) := by decide +kernel
theorem dX6_isCell_14 : decode cX6_isCell 14 = .ok (.imul, 1) := by decide +kernel
theorem dX6_isCell_15 : decode cX6_isCell 15 = .ok (.iconst 0, 1) := by decide +kernel
theorem dX6_isCell_16 : decode cX6_isCell 16 = .ok (.iadd, 1) := by decide +kernel
theorem dX6_isCell_17 : decode cX6_isCell 17 = .ok (.iaload, 1) := by decide +kernel
theorem dX6_isCell_18 : decode cX6_isCell 18 = .ok (.iconst 1, 1) := by decide +kernel
theorem dX6_isCell_19 : decode cX6_isCell 19 = .ok (.isub, 1) := by decide +kernel
theorem dX6_isCell_20 : decode cX6_isCell 20 = .ok (.i2l, 1) := by decide +kernel
theorem dX6_isCell_21 : decode cX6_isCell 21 = .ok (.invokestatic 42, 3) := by decide +kernel
theorem dX6_isCell_24 : decode cX6_isCell 24 = .ok (.ifCond .eq 7, 3) := by decide +kernel
theorem dX6_isCell_27 : decode cX6_isCell 27 = .ok (.iconst 1, 1) := by decide +kernel
theorem dX6_isCell_28 : decode cX6_isCell 28 = .ok (.goto 4, 3) := by decide +kernel
theorem dX6_isCell_31 : decode cX6_isCell 31 = .ok (.iconst 0, 1) := by decide +kernel
theorem dX6_isCell_32 : decode cX6_isCell 32 = .ok (.ireturn, 1) := by decide +kernel
theorem dX6_isBoat_0 : decode cX6_isBoat 0 = .ok (.iload_n 1, 1) := by decide +kernel
theorem dX6_isBoat_1 : decode cX6_isBoat 1 = .ok (.i2l, 1) := by decide +kernel
theorem dX6_isBoat_2 : decode cX6_isBoat 2 = .ok (.lconst 0, 1) := by decide +kernel
theorem dX6_isBoat_3 : decode cX6_isBoat 3 = .ok (.aload_n 0, 1) := by decide +kernel
theorem dX6_isBoat_4 : decode cX6_isBoat 4 = .ok (.sipush 147, 3) := by decide +kernel
theorem dX6_isBoat_7 : decode cX6_isBoat 7 = .ok (.iaload, 1) := by decide +kernel
theorem dX6_isBoat_8 : decode cX6_isBoat 8 = .ok (.iconst 1, 1) := by decide +kernel
theorem dX6_isBoat_9 : decode cX6_isBoat 9 = .ok (.isub, 1) := by decide +kernel
theorem dX6_isBoat_10 : decode cX6_isBoat 10 = .ok (.i2l, 1) := by decide +kernel
theorem dX6_isBoat_11 : decode cX6_isBoat 11 = .ok (.invokestatic 42, 3) := by decide +kernel
theorem dX6_isBoat_14 : decode cX6_isBoat 14 = .ok (.ireturn, 1) := by decide +kernel
theorem dX6_isOwner_0 : decode cX6_isOwner 0 = .ok (.iload_n 0, 1) := by decide +kernel
theorem dX6_isOwner_1 : decode cX6_isOwner 1 = .ok (.i2l, 1) := by decide +kernel
theorem dX6_isOwner_2 : decode cX6_isOwner 2 = .ok (.lconst 0, 1) := by decide +kernel
theorem dX6_isOwner_3 : decode cX6_isOwner 3 = .ok (.ldc2_w 50, 3) := by decide +kernel
theorem dX6_isOwner_6 : decode cX6_isOwner 6 = .ok (.invokestatic 42, 3) := by decide +kernel
theorem dX6_isOwner_9 : decode cX6_isOwner 9 = .ok (.ireturn, 1) := by decide +kernel
theorem dX6_isFlow_0 : decode cX6_isFlow 0 = .ok (.iload_n 0, 1) := by decide +kernel
theorem dX6_isFlow_1 : decode cX6_isFlow 1 = .ok (.i2l, 1) := by decide +kernel
theorem dX6_isFlow_2 : decode cX6_isFlow 2 = .ok (.ldc2_w 52, 3) := by decide +kernel
theorem dX6_isFlow_5 : decode cX6_isFlow 5 = .ok (.ldc2_w 54, 3) := by decide +kernel
theorem dX6_isFlow_8 : decode cX6_isFlow 8 = .ok (.invokestatic 42, 3) := by decide +kernel
theorem dX6_isFlow_11 : decode cX6_isFlow 11 = .ok (.ifCond .eq 19, 3) := by decide +kernel
theorem dX6_isFlow_14 : decode cX6_isFlow 14 = .ok (.iload_n 1, 1) := by decide +kernel
theorem dX6_isFlow_15 : decode cX6_isFlow 15 = .ok (.i2l, 1) := by decide +kernel
theorem dX6_isFlow_16 : decode cX6_isFlow 16 = .ok (.lconst 0, 1) := by decide +kernel
theorem dX6_isFlow_17 : decode cX6_isFlow 17 = .ok (.ldc2_w 56, 3) := by decide +kernel
theorem dX6_isFlow_20 : decode cX6_isFlow 20 = .ok (.invokestatic 42, 3) := by decide +kernel
theorem dX6_isFlow_23 : decode cX6_isFlow 23 = .ok (.ifCond .eq 7, 3) := by decide +kernel
theorem dX6_isFlow_26 : decode cX6_isFlow 26 = .ok (.iconst 1, 1) := by decide +kernel
theorem dX6_isFlow_27 : decode cX6_isFlow 27 = .ok (.goto 4, 3) := by decide +kernel
theorem dX6_isFlow_30 : decode cX6_isFlow 30 = .ok (.iconst 0, 1) := by decide +kernel
theorem dX6_isFlow_31 : decode cX6_isFlow 31 = .ok (.ireturn, 1) := by decide +kernel
theorem dX6_isFolded_0 : decode cX6_isFolded 0 = .ok (.iload_n 0, 1) := by decide +kernel
theorem dX6_isFolded_1 : decode cX6_isFolded 1 = .ok (.i2l, 1) := by decide +kernel
theorem dX6_isFolded_2 : decode cX6_isFolded 2 = .ok (.lconst 1, 1) := by decide +kernel
theorem dX6_isFolded_3 : decode cX6_isFolded 3 = .ok (.ldc2_w 58, 3) := by decide +kernel
theorem dX6_isFolded_6 : decode cX6_isFolded 6 = .ok (.invokestatic 42, 3) := by decide +kernel
theorem dX6_isFolded_9 : decode cX6_isFolded 9 = .ok (.ifCond .eq 19, 3) := by decide +kernel
theorem dX6_isFolded_12 : decode cX6_isFolded 12 = .ok (.iload_n 1, 1) := by decide +kernel
theorem dX6_isFolded_13 : decode cX6_isFolded 13 = .ok (.i2l, 1) := by decide +kernel
theorem dX6_isFolded_14 : decode cX6_isFolded 14 = .ok (.lconst 0, 1) := by decide +kernel
theorem dX6_isFolded_15 : decode cX6_isFolded 15 = .ok (.ldc2_w 50, 3) := by decide +kernel
theorem dX6_isFolded_18 : decode cX6_isFolded 18 = .ok (.invokestatic 42, 3) := by decide +kernel
theorem dX6_isFolded_21 : decode cX6_isFolded 21 = .ok (.ifCond .eq 7, 3) := by decide +kernel
theorem dX6_isFolded_24 : decode cX6_isFolded 24 = .ok (.iconst 1, 1) := by decide +kernel
theorem dX6_isFolded_25 : decode cX6_isFolded 25 = .ok (.goto 4, 3) := by decide +kernel
theorem dX6_isFolded_28 : decode cX6_isFolded 28 = .ok (.iconst 0, 1) := by decide +kernel
theorem dX6_isFolded_29 : decode cX6_isFolded 29 = .ok (.ireturn, 1) := by decide +kernel
theorem dX6_isSetting_0 : decode cX6_isSetting 0 = .ok (.iload_n 0, 1) := by decide +kernel
theorem dX6_isSetting_1 : decode cX6_isSetting 1 = .ok (.ifCond .ne 15, 3) := by decide +kernel
theorem dX6_isSetting_4 : decode cX6_isSetting 4 = .ok (.iload_n 1, 1) := by decide +kernel
theorem dX6_isSetting_5 : decode cX6_isSetting 5 = .ok (.i2l, 1) := by decide +kernel
theorem dX6_isSetting_6 : decode cX6_isSetting 6 = .ok (.lconst 0, 1) := by decide +kernel
theorem dX6_isSetting_7 : decode cX6_isSetting 7 = .ok (.ldc2_w 50, 3) := by decide +kernel
theorem dX6_isSetting_10 : decode cX6_isSetting 10 = .ok (.invokestatic 42, 3) := by decide +kernel
theorem dX6_isSetting_13 : decode cX6_isSetting 13 = .ok (.goto 42, 3) := by decide +kernel
theorem dX6_isSetting_16 : decode cX6_isSetting 16 = .ok (.iload_n 0, 1) := by decide +kernel
theorem dX6_isSetting_17 : decode cX6_isSetting 17 = .ok (.iconst 1, 1) := by decide +kernel
theorem dX6_isSetting_18 : decode cX6_isSetting 18 = .ok (.if_icmp .ne 15, 3) := by decide +kernel
theorem dX6_isSetting_21 : decode cX6_isSetting 21 = .ok (.iload_n 1, 1) := by decide +kernel
theorem dX6_isSetting_22 : decode cX6_isSetting 22 = .ok (.i2l, 1) := by decide +kernel
theorem dX6_isSetting_23 : decode cX6_isSetting 23 = .ok (.lconst 1, 1) := by decide +kernel
theorem dX6_isSetting_24 : decode cX6_isSetting 24 = .ok (.ldc2_w 58, 3) := by decide +kernel
theorem dX6_isSetting_27 : decode cX6_isSetting 27 = .ok (.invokestatic 42, 3) := by decide +kernel
theorem dX6_isSetting_30 : decode cX6_isSetting 30 = .ok (.goto 25, 3) := by decide +kernel
theorem dX6_isSetting_33 : decode cX6_isSetting 33 = .ok (.iload_n 0, 1) := by decide +kernel
theorem dX6_isSetting_34 : decode cX6_isSetting 34 = .ok (.iconst 2, 1) := by decide +kernel
theorem dX6_isSetting_35 : decode cX6_isSetting 35 = .ok (.if_icmp .ne 19, 3) := by decide +kernel
theorem dX6_isSetting_38 : decode cX6_isSetting 38 = .ok (.iload_n 1, 1) := by decide +kernel
theorem dX6_isSetting_39 : decode cX6_isSetting 39 = .ok (.i2l, 1) := by decide +kernel
theorem dX6_isSetting_40 : decode cX6_isSetting 40 = .ok (.lconst 0, 1) := by decide +kernel
theorem dX6_isSetting_41 : decode cX6_isSetting 41 = .ok (.ldc2_w 58, 3) := by decide +kernel
theorem dX6_isSetting_44 : decode cX6_isSetting 44 = .ok (.invokestatic 42, 3) := by decide +kernel
theorem dX6_isSetting_47 : decode cX6_isSetting 47 = .ok (.ifCond .eq 7, 3) := by decide +kernel
theorem dX6_isSetting_50 : decode cX6_isSetting 50 = .ok (.iconst 1, 1) := by decide +kernel
theorem dX6_isSetting_51 : decode cX6_isSetting 51 = .ok (.goto 4, 3) := by decide +kernel
theorem dX6_isSetting_54 : decode cX6_isSetting 54 = .ok (.iconst 0, 1) := by decide +kernel
theorem dX6_isSetting_55 : decode cX6_isSetting 55 = .ok (.ireturn, 1) := by decide +kernel
theorem dX6_spot_0 : decode cX6_spot 0 = .ok (.bipush 24, 2) := by decide +kernel
theorem dX6_spot_2 : decode cX6_spot 2 = .ok (.bipush 10, 2) := by decide +kernel
theorem dX6_spot_4 : decode cX6_spot 4 = .ok (.iload_n 0, 1) := by decide +kernel
theorem dX6_spot_5 : decode cX6_spot 5 = .ok (.imul, 1) := by decide +kernel
theorem dX6_spot_6 : decode cX6_spot 6 = .ok (.iadd, 1) := by decide +kernel
theorem dX6_spot_7 : decode cX6_spot 7 = .ok (.ireturn, 1) := by decide +kernel
theorem dX6_state_0 : decode cX6_state 0 = .ok (.aload_n 0, 1) := by decide +kernel
theorem dX6_state_1 : decode cX6_state 1 = .ok (.iload_n 1, 1) := by decide +kernel
theorem dX6_state_2 : decode cX6_state 2 = .ok (.invokestatic 60, 3) := by decide +kernel
theorem dX6_state_5 : decode cX6_state 5 = .ok (.iconst 3, 1) := by decide +kernel
theorem dX6_state_6 : decode cX6_state 6 = .ok (.iadd, 1) := by decide +kernel
theorem dX6_state_7 : decode cX6_state 7 = .ok (.iaload, 1) := by decide +kernel
theorem dX6_state_8 : decode cX6_state 8 = .ok (.ireturn, 1) := by decide +kernel
theorem dX6_inState_0 : decode cX6_inState 0 = .ok (.iconst 0, 1) := by decide +kernel
theorem dX6_inState_1 : decode cX6_inState 1 = .ok (.istore_n 2, 1) := by decide +kernel
theorem dX6_inState_2 : decode cX6_inState 2 = .ok (.iconst 0, 1) := by decide +kernel
theorem dX6_inState_3 : decode cX6_inState 3 = .ok (.istore_n 3, 1) := by decide +kernel
theorem dX6_inState_4 : decode cX6_inState 4 = .ok (.iload_n 3, 1) := by decide +kernel
theorem dX6_inState_5 : decode cX6_inState 5 = .ok (.aload_n 0, 1) := by decide +kernel
theorem dX6_inState_6 : decode cX6_inState 6 = .ok (.sipush 147, 3) := by decide +kernel
theorem dX6_inState_9 : decode cX6_inState 9 = .ok (.iaload, 1) := by decide +kernel
theorem dX6_inState_10 : decode cX6_inState 10 = .ok (.if_icmp .ge 26, 3) := by decide +kernel
theorem dX6_inState_13 : decode cX6_inState 13 = .ok (.iload_n 2, 1) := by decide +kernel
theorem dX6_inState_14 : decode cX6_inState 14 = .ok (.aload_n 0, 1) := by decide +kernel
theorem dX6_inState_15 : decode cX6_inState 15 = .ok (.iload_n 3, 1) := by decide +kernel
theorem dX6_inState_16 : decode cX6_inState 16 = .ok (.invokestatic 64, 3) := by decide +kernel
theorem dX6_inState_19 : decode cX6_inState 19 = .ok (.iload_n 1, 1) := by decide +kernel
theorem dX6_inState_20 : decode cX6_inState 20 = .ok (.if_icmp .ne 7, 3) := by decide +kernel
theorem dX6_inState_23 : decode cX6_inState 23 = .ok (.iconst 1, 1) := by decide +kernel
theorem dX6_inState_24 : decode cX6_inState 24 = .ok (.goto 4, 3) := by decide +kernel
theorem dX6_inState_27 : decode cX6_inState 27 = .ok (.iconst 0, 1) := by decide +kernel
theorem dX6_inState_28 : decode cX6_inState 28 = .ok (.iadd, 1) := by decide +kernel
theorem dX6_inState_29 : decode cX6_inState 29 = .ok (.istore_n 2, 1) := by decide +kernel
theorem dX6_inState_30 : decode cX6_inState 30 = .ok (.iinc 3 1, 3) := by decide +kernel
theorem dX6_inState_33 : decode cX6_inState 33 = .ok (.goto (-29), 3) := by decide +kernel
theorem dX6_inState_36 : decode cX6_inState 36 = .ok (.iload_n 2, 1) := by decide +kernel
theorem dX6_inState_37 : decode cX6_inState 37 = .ok (.ireturn, 1) := by decide +kernel
theorem dX6_toDrain_0 : decode cX6_toDrain 0 = .ok (.iconst 0, 1) := by decide +kernel
theorem dX6_toDrain_1 : decode cX6_toDrain 1 = .ok (.istore_n 3, 1) := by decide +kernel
theorem dX6_toDrain_2 : decode cX6_toDrain 2 = .ok (.iload_n 1, 1) := by decide +kernel
theorem dX6_toDrain_3 : decode cX6_toDrain 3 = .ok (.istore 4, 2) := by decide +kernel
theorem dX6_toDrain_5 : decode cX6_toDrain 5 = .ok (.iload_n 2, 1) := by decide +kernel
theorem dX6_toDrain_6 : decode cX6_toDrain 6 = .ok (.istore 5, 2) := by decide +kernel
theorem dX6_toDrain_8 : decode cX6_toDrain 8 = .ok (.iload 4, 2) := by decide +kernel
theorem dX6_toDrain_10 : decode cX6_toDrain 10 = .ok (.ifCond .le 40, 3) := by decide +kernel
theorem dX6_toDrain_13 : decode cX6_toDrain 13 = .ok (.iload_n 3, 1) := by decide +kernel
theorem dX6_toDrain_14 : decode cX6_toDrain 14 = .ok (.aload_n 0, 1) := by decide +kernel
theorem dX6_toDrain_15 : decode cX6_toDrain 15 = .ok (.iconst 4, 1) := by decide +kernel
theorem dX6_toDrain_16 : decode cX6_toDrain 16 = .ok (.iload 4, 2) := by decide +kernel
theorem dX6_toDrain_18 : decode cX6_toDrain 18 = .ok (.imul, 1) := by decide +kernel
theorem dX6_toDrain_19 : decode cX6_toDrain 19 = .ok (.iconst 0, 1) := by decide +kernel
theorem dX6_toDrain_20 : decode cX6_toDrain 20 = .ok (.iadd, 1) := by decide +kernel
theorem dX6_toDrain_21 : decode cX6_toDrain 21 = .ok (.iaload, 1) := by decide +kernel
theorem dX6_toDrain_22 : decode cX6_toDrain 22 = .ok (.iload 5, 2) := by decide +kernel
theorem dX6_toDrain_24 : decode cX6_toDrain 24 = .ok (.isub, 1) := by decide +kernel
theorem dX6_toDrain_25 : decode cX6_toDrain 25 = .ok (.iadd, 1) := by decide +kernel
theorem dX6_toDrain_26 : decode cX6_toDrain 26 = .ok (.istore_n 3, 1) := by decide +kernel
theorem dX6_toDrain_27 : decode cX6_toDrain 27 = .ok (.aload_n 0, 1) := by decide +kernel
theorem dX6_toDrain_28 : decode cX6_toDrain 28 = .ok (.iconst 4, 1) := by decide +kernel
theorem dX6_toDrain_29 : decode cX6_toDrain 29 = .ok (.iload 4, 2) := by decide +kernel
theorem dX6_toDrain_31 : decode cX6_toDrain 31 = .ok (.imul, 1) := by decide +kernel
theorem dX6_toDrain_32 : decode cX6_toDrain 32 = .ok (.iconst 3, 1) := by decide +kernel
theorem dX6_toDrain_33 : decode cX6_toDrain 33 = .ok (.iadd, 1) := by decide +kernel
theorem dX6_toDrain_34 : decode cX6_toDrain 34 = .ok (.iaload, 1) := by decide +kernel
theorem dX6_toDrain_35 : decode cX6_toDrain 35 = .ok (.istore 5, 2) := by decide +kernel
theorem dX6_toDrain_37 : decode cX6_toDrain 37 = .ok (.aload_n 0, 1) := by decide +kernel
theorem dX6_toDrain_38 : decode cX6_toDrain 38 = .ok (.iconst 4, 1) := by decide +kernel
theorem dX6_toDrain_39 : decode cX6_toDrain 39 = .ok (.iload 4, 2) := by decide +kernel
theorem dX6_toDrain_41 : decode cX6_toDrain 41 = .ok (.imul, 1) := by decide +kernel
theorem dX6_toDrain_42 : decode cX6_toDrain 42 = .ok (.iconst 2, 1) := by decide +kernel
theorem dX6_toDrain_43 : decode cX6_toDrain 43 = .ok (.iadd, 1) := by decide +kernel
theorem dX6_toDrain_44 : decode cX6_toDrain 44 = .ok (.iaload, 1) := by decide +kernel
theorem dX6_toDrain_45 : decode cX6_toDrain 45 = .ok (.istore 4, 2) := by decide +kernel
theorem dX6_toDrain_47 : decode cX6_toDrain 47 = .ok (.goto (-39), 3) := by decide +kernel
theorem dX6_toDrain_50 : decode cX6_toDrain 50 = .ok (.iload_n 3, 1) := by decide +kernel
theorem dX6_toDrain_51 : decode cX6_toDrain 51 = .ok (.aload_n 0, 1) := by decide +kernel
theorem dX6_toDrain_52 : decode cX6_toDrain 52 = .ok (.iconst 0, 1) := by decide +kernel
theorem dX6_toDrain_53 : decode cX6_toDrain 53 = .ok (.iaload, 1) := by decide +kernel
theorem dX6_toDrain_54 : decode cX6_toDrain 54 = .ok (.iadd, 1) := by decide +kernel
theorem dX6_toDrain_55 : decode cX6_toDrain 55 = .ok (.iload 5, 2) := by decide +kernel
theorem dX6_toDrain_57 : decode cX6_toDrain 57 = .ok (.isub, 1) := by decide +kernel
theorem dX6_toDrain_58 : decode cX6_toDrain 58 = .ok (.ireturn, 1) := by decide +kernel
theorem dX6_isWreck_0 : decode cX6_isWreck 0 = .ok (.iconst 0, 1) := by decide +kernel
theorem dX6_isWreck_1 : decode cX6_isWreck 1 = .ok (.istore_n 3, 1) := by decide +kernel
theorem dX6_isWreck_2 : decode cX6_isWreck 2 = .ok (.iconst 0, 1) := by decide +kernel
theorem dX6_isWreck_3 : decode cX6_isWreck 3 = .ok (.istore 4, 2) := by decide +kernel
theorem dX6_isWreck_5 : decode cX6_isWreck 5 = .ok (.iload 4, 2) := by decide +kernel
theorem dX6_isWreck_7 : decode cX6_isWreck 7 = .ok (.aload_n 0, 1) := by decide +kernel
theorem dX6_isWreck_8 : decode cX6_isWreck 8 = .ok (.sipush 147, 3) := by decide +kernel
theorem dX6_isWreck_11 : decode cX6_isWreck 11 = .ok (.iaload, 1) := by decide +kernel
theorem dX6_isWreck_12 : decode cX6_isWreck 12 = .ok (.if_icmp .ge 55, 3) := by decide +kernel
theorem dX6_isWreck_15 : decode cX6_isWreck 15 = .ok (.iload_n 3, 1) := by decide +kernel
theorem dX6_isWreck_16 : decode cX6_isWreck 16 = .ok (.ifCond .ne 39, 3) := by decide +kernel
theorem dX6_isWreck_19 : decode cX6_isWreck 19 = .ok (.aload_n 0, 1) := by decide +kernel
theorem dX6_isWreck_20 : decode cX6_isWreck 20 = .ok (.iload 4, 2) := by decide +kernel
theorem dX6_isWreck_22 : decode cX6_isWreck 22 = .ok (.invokestatic 64, 3) := by decide +kernel
theorem dX6_isWreck_25 : decode cX6_isWreck 25 = .ok (.iconst 3, 1) := by decide +kernel
theorem dX6_isWreck_26 : decode cX6_isWreck 26 = .ok (.if_icmp .ne 33, 3) := by decide +kernel
theorem dX6_isWreck_29 : decode cX6_isWreck 29 = .ok (.aload_n 0, 1) := by decide +kernel
theorem dX6_isWreck_30 : decode cX6_isWreck 30 = .ok (.iload 4, 2) := by decide +kernel
theorem dX6_isWreck_32 : decode cX6_isWreck 32 = .ok (.invokestatic 60, 3) := by decide +kernel
theorem dX6_isWreck_35 : decode cX6_isWreck 35 = .ok (.iconst 4, 1) := by decide +kernel
theorem dX6_isWreck_36 : decode cX6_isWreck 36 = .ok (.iadd, 1) := by decide +kernel
theorem dX6_isWreck_37 : decode cX6_isWreck 37 = .ok (.iaload, 1) := by decide +kernel
theorem dX6_isWreck_38 : decode cX6_isWreck 38 = .ok (.iload_n 1, 1) := by decide +kernel
theorem dX6_isWreck_39 : decode cX6_isWreck 39 = .ok (.if_icmp .ne 20, 3) := by decide +kernel
theorem dX6_isWreck_42 : decode cX6_isWreck 42 = .ok (.aload_n 0, 1) := by decide +kernel
theorem dX6_isWreck_43 : decode cX6_isWreck 43 = .ok (.iload 4, 2) := by decide +kernel
theorem dX6_isWreck_45 : decode cX6_isWreck 45 = .ok (.invokestatic 60, 3) := by decide +kernel
theorem dX6_isWreck_48 : decode cX6_isWreck 48 = .ok (.iconst 5, 1) := by decide +kernel
theorem dX6_isWreck_49 : decode cX6_isWreck 49 = .ok (.iadd, 1) := by decide +kernel
theorem dX6_isWreck_50 : decode cX6_isWreck 50 = .ok (.iaload, 1) := by decide +kernel
theorem dX6_isWreck_51 : decode cX6_isWreck 51 = .ok (.iload_n 2, 1) := by decide +kernel
theorem dX6_isWreck_52 : decode cX6_isWreck 52 = .ok (.if_icmp .ne 7, 3) := by decide +kernel
theorem dX6_isWreck_55 : decode cX6_isWreck 55 = .ok (.iconst 1, 1) := by decide +kernel
theorem dX6_isWreck_56 : decode cX6_isWreck 56 = .ok (.goto 4, 3) := by decide +kernel
theorem dX6_isWreck_59 : decode cX6_isWreck 59 = .ok (.iconst 0, 1) := by decide +kernel
theorem dX6_isWreck_60 : decode cX6_isWreck 60 = .ok (.istore_n 3, 1) := by decide +kernel
theorem dX6_isWreck_61 : decode cX6_isWreck 61 = .ok (.iinc 4 1, 3) := by decide +kernel
theorem dX6_isWreck_64 : decode cX6_isWreck 64 = .ok (.goto (-59), 3) := by decide +kernel
theorem dX6_isWreck_67 : decode cX6_isWreck 67 = .ok (.iload_n 3, 1) := by decide +kernel
theorem dX6_isWreck_68 : decode cX6_isWreck 68 = .ok (.ireturn, 1) := by decide +kernel
theorem dX6_moves_0 : decode cX6_moves 0 = .ok (.iload_n 1, 1) := by decide +kernel
theorem dX6_moves_1 : decode cX6_moves 1 = .ok (.invokestatic 60, 3) := by decide +kernel
theorem dX6_moves_4 : decode cX6_moves 4 = .ok (.istore_n 2, 1) := by decide +kernel
theorem dX6_moves_5 : decode cX6_moves 5 = .ok (.aload_n 0, 1) := by decide +kernel
theorem dX6_moves_6 : decode cX6_moves 6 = .ok (.iload_n 2, 1) := by decide +kernel
theorem dX6_moves_7 : decode cX6_moves 7 = .ok (.iconst 4, 1) := by decide +kernel
theorem dX6_moves_8 : decode cX6_moves 8 = .ok (.iadd, 1) := by decide +kernel
theorem dX6_moves_9 : decode cX6_moves 9 = .ok (.iaload, 1) := by decide +kernel
theorem dX6_moves_10 : decode cX6_moves 10 = .ok (.istore_n 3, 1) := by decide +kernel
theorem dX6_moves_11 : decode cX6_moves 11 = .ok (.aload_n 0, 1) := by decide +kernel
theorem dX6_moves_12 : decode cX6_moves 12 = .ok (.iload_n 2, 1) := by decide +kernel
theorem dX6_moves_13 : decode cX6_moves 13 = .ok (.iconst 5, 1) := by decide +kernel
theorem dX6_moves_14 : decode cX6_moves 14 = .ok (.iadd, 1) := by decide +kernel
theorem dX6_moves_15 : decode cX6_moves 15 = .ok (.iaload, 1) := by decide +kernel
theorem dX6_moves_16 : decode cX6_moves 16 = .ok (.iconst 1, 1) := by decide +kernel
theorem dX6_moves_17 : decode cX6_moves 17 = .ok (.iadd, 1) := by decide +kernel
theorem dX6_moves_18 : decode cX6_moves 18 = .ok (.istore 4, 2) := by decide +kernel
theorem dX6_moves_20 : decode cX6_moves 20 = .ok (.iload 4, 2) := by decide +kernel
theorem dX6_moves_22 : decode cX6_moves 22 = .ok (.aload_n 0, 1) := by decide +kernel
theorem dX6_moves_23 : decode cX6_moves 23 = .ok (.iconst 4, 1) := by decide +kernel
theorem dX6_moves_24 : decode cX6_moves 24 = .ok (.iload_n 3, 1) := by decide +kernel
theorem dX6_moves_25 : decode cX6_moves 25 = .ok (.imul, 1) := by decide +kernel
theorem dX6_moves_26 : decode cX6_moves 26 = .ok (.iconst 0, 1) := by decide +kernel
theorem dX6_moves_27 : decode cX6_moves 27 = .ok (.iadd, 1) := by decide +kernel
theorem dX6_moves_28 : decode cX6_moves 28 = .ok (.iaload, 1) := by decide +kernel
theorem dX6_moves_29 : decode cX6_moves 29 = .ok (.if_icmp .ne 62, 3) := by decide +kernel
theorem dX6_moves_32 : decode cX6_moves 32 = .ok (.iload_n 3, 1) := by decide +kernel
theorem dX6_moves_33 : decode cX6_moves 33 = .ok (.ifCond .ne 41, 3) := by decide +kernel
theorem dX6_moves_36 : decode cX6_moves 36 = .ok (.aload_n 0, 1) := by decide +kernel
theorem dX6_moves_37 : decode cX6_moves 37 = .ok (.sipush 153, 3) := by decide +kernel
theorem dX6_moves_40 : decode cX6_moves 40 = .ok (.dup2, 1) := by decide +kernel
theorem dX6_moves_41 : decode cX6_moves 41 = .ok (.iaload, 1) := by decide +kernel
theorem dX6_moves_42 : decode cX6_moves 42 = .ok (.iconst 1, 1) := by decide +kernel
theorem dX6_moves_43 : decode cX6_moves 43 = .ok (.iadd, 1) := by decide +kernel
theorem dX6_moves_44 : decode cX6_moves 44 = .ok (.iastore, 1) := by decide +kernel
theorem dX6_moves_45 : decode cX6_moves 45 = .ok (.aload_n 0, 1) := by decide +kernel
theorem dX6_moves_46 : decode cX6_moves 46 = .ok (.iload_n 2, 1) := by decide +kernel
theorem dX6_moves_47 : decode cX6_moves 47 = .ok (.iconst 3, 1) := by decide +kernel
theorem dX6_moves_48 : decode cX6_moves 48 = .ok (.iadd, 1) := by decide +kernel
theorem dX6_moves_49 : decode cX6_moves 49 = .ok (.iconst 2, 1) := by decide +kernel
theorem dX6_moves_50 : decode cX6_moves 50 = .ok (.iastore, 1) := by decide +kernel
theorem dX6_moves_51 : decode cX6_moves 51 = .ok (.aload_n 0, 1) := by decide +kernel
theorem dX6_moves_52 : decode cX6_moves 52 = .ok (.iload_n 2, 1) := by decide +kernel
theorem dX6_moves_53 : decode cX6_moves 53 = .ok (.bipush 7, 2) := by decide +kernel
theorem dX6_moves_55 : decode cX6_moves 55 = .ok (.iadd, 1) := by decide +kernel
theorem dX6_moves_56 : decode cX6_moves 56 = .ok (.aload_n 0, 1) := by decide +kernel
theorem dX6_moves_57 : decode cX6_moves 57 = .ok (.sipush 153, 3) := by decide +kernel
theorem dX6_moves_60 : decode cX6_moves 60 = .ok (.iaload, 1) := by decide +kernel
theorem dX6_moves_61 : decode cX6_moves 61 = .ok (.iastore, 1) := by decide +kernel
theorem dX6_moves_62 : decode cX6_moves 62 = .ok (.aload_n 0, 1) := by decide +kernel
theorem dX6_moves_63 : decode cX6_moves 63 = .ok (.iload_n 2, 1) := by decide +kernel
theorem dX6_moves_64 : decode cX6_moves 64 = .ok (.bipush 9, 2) := by decide +kernel
theorem dX6_moves_66 : decode cX6_moves 66 = .ok (.iadd, 1) := by decide +kernel
theorem dX6_moves_67 : decode cX6_moves 67 = .ok (.dup2, 1) := by decide +kernel
theorem dX6_moves_68 : decode cX6_moves 68 = .ok (.iaload, 1) := by decide +kernel
theorem dX6_moves_69 : decode cX6_moves 69 = .ok (.iconst 1, 1) := by decide +kernel
theorem dX6_moves_70 : decode cX6_moves 70 = .ok (.iadd, 1) := by decide +kernel
theorem dX6_moves_71 : decode cX6_moves 71 = .ok (.iastore, 1) := by decide +kernel
theorem dX6_moves_72 : decode cX6_moves 72 = .ok (.iconst 0, 1) := by decide +kernel
theorem dX6_moves_73 : decode cX6_moves 73 = .ok (.ireturn, 1) := by decide +kernel
theorem dX6_moves_74 : decode cX6_moves 74 = .ok (.aload_n 0, 1) := by decide +kernel
theorem dX6_moves_75 : decode cX6_moves 75 = .ok (.iconst 4, 1) := by decide +kernel
theorem dX6_moves_76 : decode cX6_moves 76 = .ok (.iload_n 3, 1) := by decide +kernel
theorem dX6_moves_77 : decode cX6_moves 77 = .ok (.imul, 1) := by decide +kernel
theorem dX6_moves_78 : decode cX6_moves 78 = .ok (.iconst 3, 1) := by decide +kernel
theorem dX6_moves_79 : decode cX6_moves 79 = .ok (.iadd, 1) := by decide +kernel
theorem dX6_moves_80 : decode cX6_moves 80 = .ok (.iaload, 1) := by decide +kernel
theorem dX6_moves_81 : decode cX6_moves 81 = .ok (.istore 4, 2) := by decide +kernel
theorem dX6_moves_83 : decode cX6_moves 83 = .ok (.aload_n 0, 1) := by decide +kernel
theorem dX6_moves_84 : decode cX6_moves 84 = .ok (.iconst 4, 1) := by decide +kernel
theorem dX6_moves_85 : decode cX6_moves 85 = .ok (.iload_n 3, 1) := by decide +kernel
theorem dX6_moves_86 : decode cX6_moves 86 = .ok (.imul, 1) := by decide +kernel
theorem dX6_moves_87 : decode cX6_moves 87 = .ok (.iconst 2, 1) := by decide +kernel
theorem dX6_moves_88 : decode cX6_moves 88 = .ok (.iadd, 1) := by decide +kernel
theorem dX6_moves_89 : decode cX6_moves 89 = .ok (.iaload, 1) := by decide +kernel
theorem dX6_moves_90 : decode cX6_moves 90 = .ok (.istore_n 3, 1) := by decide +kernel
theorem dX6_moves_91 : decode cX6_moves 91 = .ok (.aload_n 0, 1) := by decide +kernel
theorem dX6_moves_92 : decode cX6_moves 92 = .ok (.iload_n 3, 1) := by decide +kernel
theorem dX6_moves_93 : decode cX6_moves 93 = .ok (.iload 4, 2) := by decide +kernel
theorem dX6_moves_95 : decode cX6_moves 95 = .ok (.invokestatic 68, 3) := by decide +kernel
theorem dX6_moves_98 : decode cX6_moves 98 = .ok (.ifCond .eq 5, 3) := by decide +kernel
theorem dX6_moves_101 : decode cX6_moves 101 = .ok (.iconst 0, 1) := by decide +kernel
theorem dX6_moves_102 : decode cX6_moves 102 = .ok (.ireturn, 1) := by decide +kernel
theorem dX6_moves_103 : decode cX6_moves 103 = .ok (.aload_n 0, 1) := by decide +kernel
theorem dX6_moves_104 : decode cX6_moves 104 = .ok (.iload_n 2, 1) := by decide +kernel
theorem dX6_moves_105 : decode cX6_moves 105 = .ok (.iconst 4, 1) := by decide +kernel
theorem dX6_moves_106 : decode cX6_moves 106 = .ok (.iadd, 1) := by decide +kernel
theorem dX6_moves_107 : decode cX6_moves 107 = .ok (.iload_n 3, 1) := by decide +kernel
theorem dX6_moves_108 : decode cX6_moves 108 = .ok (.iastore, 1) := by decide +kernel
theorem dX6_moves_109 : decode cX6_moves 109 = .ok (.aload_n 0, 1) := by decide +kernel
theorem dX6_moves_110 : decode cX6_moves 110 = .ok (.iload_n 2, 1) := by decide +kernel
theorem dX6_moves_111 : decode cX6_moves 111 = .ok (.iconst 5, 1) := by decide +kernel
theorem dX6_moves_112 : decode cX6_moves 112 = .ok (.iadd, 1) := by decide +kernel
theorem dX6_moves_113 : decode cX6_moves 113 = .ok (.iload 4, 2) := by decide +kernel
theorem dX6_moves_115 : decode cX6_moves 115 = .ok (.iastore, 1) := by decide +kernel
theorem dX6_moves_116 : decode cX6_moves 116 = .ok (.aload_n 0, 1) := by decide +kernel
theorem dX6_moves_117 : decode cX6_moves 117 = .ok (.iload_n 2, 1) := by decide +kernel
theorem dX6_moves_118 : decode cX6_moves 118 = .ok (.bipush 9, 2) := by decide +kernel
theorem dX6_moves_120 : decode cX6_moves 120 = .ok (.iadd, 1) := by decide +kernel
theorem dX6_moves_121 : decode cX6_moves 121 = .ok (.dup2, 1) := by decide +kernel
theorem dX6_moves_122 : decode cX6_moves 122 = .ok (.iaload, 1) := by decide +kernel
theorem dX6_moves_123 : decode cX6_moves 123 = .ok (.iconst 1, 1) := by decide +kernel
theorem dX6_moves_124 : decode cX6_moves 124 = .ok (.iadd, 1) := by decide +kernel
theorem dX6_moves_125 : decode cX6_moves 125 = .ok (.iastore, 1) := by decide +kernel
theorem dX6_moves_126 : decode cX6_moves 126 = .ok (.iconst 1, 1) := by decide +kernel
theorem dX6_moves_127 : decode cX6_moves 127 = .ok (.ireturn, 1) := by decide +kernel
theorem dX6_bears_0 : decode cX6_bears 0 = .ok (.aload_n 0, 1) := by decide +kernel
theorem dX6_bears_1 : decode cX6_bears 1 = .ok (.iload_n 1, 1) := by decide +kernel
theorem dX6_bears_2 : decode cX6_bears 2 = .ok (.invokestatic 60, 3) := by decide +kernel
theorem dX6_bears_5 : decode cX6_bears 5 = .ok (.iconst 0, 1) := by decide +kernel
theorem dX6_bears_6 : decode cX6_bears 6 = .ok (.iadd, 1) := by decide +kernel
theorem dX6_bears_7 : decode cX6_bears 7 = .ok (.iaload, 1) := by decide +kernel
theorem dX6_bears_8 : decode cX6_bears 8 = .ok (.aload_n 0, 1) := by decide +kernel
theorem dX6_bears_9 : decode cX6_bears 9 = .ok (.sipush 155, 3) := by decide +kernel
theorem dX6_bears_12 : decode cX6_bears 12 = .ok (.iaload, 1) := by decide +kernel
theorem dX6_bears_13 : decode cX6_bears 13 = .ok (.imul, 1) := by decide +kernel
theorem dX6_bears_14 : decode cX6_bears 14 = .ok (.iconst 4, 1) := by decide +kernel
theorem dX6_bears_15 : decode cX6_bears 15 = .ok (.aload_n 0, 1) := by decide +kernel
theorem dX6_bears_16 : decode cX6_bears 16 = .ok (.iload_n 1, 1) := by decide +kernel
theorem dX6_bears_17 : decode cX6_bears 17 = .ok (.invokestatic 60, 3) := by decide +kernel
theorem dX6_bears_20 : decode cX6_bears 20 = .ok (.iconst 1, 1) := by decide +kernel
theorem dX6_bears_21 : decode cX6_bears 21 = .ok (.iadd, 1) := by decide +kernel
theorem dX6_bears_22 : decode cX6_bears 22 = .ok (.iaload, 1) := by decide +kernel
theorem dX6_bears_23 : decode cX6_bears 23 = .ok (.imul, 1) := by decide +kernel
theorem dX6_bears_24 : decode cX6_bears 24 = .ok (.iadd, 1) := by decide +kernel
theorem dX6_bears_25 : decode cX6_bears 25 = .ok (.ireturn, 1) := by decide +kernel
theorem dX6_drift_0 : decode cX6_drift 0 = .ok (.iload_n 1, 1) := by decide +kernel
theorem dX6_drift_1 : decode cX6_drift 1 = .ok (.invokestatic 60, 3) := by decide +kernel
theorem dX6_drift_4 : decode cX6_drift 4 = .ok (.istore_n 2, 1) := by decide +kernel
theorem dX6_drift_5 : decode cX6_drift 5 = .ok (.aload_n 0, 1) := by decide +kernel
theorem dX6_drift_6 : decode cX6_drift 6 = .ok (.iconst 4, 1) := by decide +kernel
theorem dX6_drift_7 : decode cX6_drift 7 = .ok (.aload_n 0, 1) := by decide +kernel
theorem dX6_drift_8 : decode cX6_drift 8 = .ok (.iload_n 2, 1) := by decide +kernel
theorem dX6_drift_9 : decode cX6_drift 9 = .ok (.iconst 4, 1) := by decide +kernel
theorem dX6_drift_10 : decode cX6_drift 10 = .ok (.iadd, 1) := by decide +kernel
theorem dX6_drift_11 : decode cX6_drift 11 = .ok (.iaload, 1) := by decide +kernel
theorem dX6_drift_12 : decode cX6_drift 12 = .ok (.imul, 1) := by decide +kernel
theorem dX6_drift_13 : decode cX6_drift 13 = .ok (.iconst 1, 1) := by decide +kernel
theorem dX6_drift_14 : decode cX6_drift 14 = .ok (.iadd, 1) := by decide +kernel
theorem dX6_drift_15 : decode cX6_drift 15 = .ok (.iaload, 1) := by decide +kernel
theorem dX6_drift_16 : decode cX6_drift 16 = .ok (.aload_n 0, 1) := by decide +kernel
theorem dX6_drift_17 : decode cX6_drift 17 = .ok (.sipush 154, 3) := by decide +kernel
theorem dX6_drift_20 : decode cX6_drift 20 = .ok (.iaload, 1) := by decide +kernel
theorem dX6_drift_21 : decode cX6_drift 21 = .ok (.iadd, 1) := by decide +kernel
theorem dX6_drift_22 : decode cX6_drift 22 = .ok (.aload_n 0, 1) := by decide +kernel
theorem dX6_drift_23 : decode cX6_drift 23 = .ok (.iload_n 2, 1) := by decide +kernel
theorem dX6_drift_24 : decode cX6_drift 24 = .ok (.iconst 0, 1) := by decide +kernel
theorem dX6_drift_25 : decode cX6_drift 25 = .ok (.iadd, 1) := by decide +kernel
theorem dX6_drift_26 : decode cX6_drift 26 = .ok (.iaload, 1) := by decide +kernel
theorem dX6_drift_27 : decode cX6_drift 27 = .ok (.iconst 4, 1) := by decide +kernel
theorem dX6_drift_28 : decode cX6_drift 28 = .ok (.idiv, 1) := by decide +kernel
theorem dX6_drift_29 : decode cX6_drift 29 = .ok (.isub, 1) := by decide +kernel
theorem dX6_drift_30 : decode cX6_drift 30 = .ok (.istore_n 3, 1) := by decide +kernel
theorem dX6_drift_31 : decode cX6_drift 31 = .ok (.iconst 1, 1) := by decide +kernel
theorem dX6_drift_32 : decode cX6_drift 32 = .ok (.istore 4, 2) := by decide +kernel
theorem dX6_drift_34 : decode cX6_drift 34 = .ok (.iconst 0, 1) := by decide +kernel
theorem dX6_drift_35 : decode cX6_drift 35 = .ok (.istore 5, 2) := by decide +kernel
theorem dX6_drift_37 : decode cX6_drift 37 = .ok (.iload 5, 2) := by decide +kernel
theorem dX6_drift_39 : decode cX6_drift 39 = .ok (.iload_n 3, 1) := by decide +kernel
theorem dX6_drift_40 : decode cX6_drift 40 = .ok (.if_icmp .ge 21, 3) := by decide +kernel
theorem dX6_drift_43 : decode cX6_drift 43 = .ok (.iload 4, 2) := by decide +kernel
theorem dX6_drift_45 : decode cX6_drift 45 = .ok (.ifCond .eq 16, 3) := by decide +kernel
theorem dX6_drift_48 : decode cX6_drift 48 = .ok (.aload_n 0, 1) := by decide +kernel
theorem dX6_drift_49 : decode cX6_drift 49 = .ok (.iload_n 1, 1) := by decide +kernel
theorem dX6_drift_50 : decode cX6_drift 50 = .ok (.invokestatic 72, 3) := by decide +kernel
theorem dX6_drift_53 : decode cX6_drift 53 = .ok (.istore 4, 2) := by decide +kernel
theorem dX6_drift_55 : decode cX6_drift 55 = .ok (.iinc 5 1, 3) := by decide +kernel
theorem dX6_drift_58 : decode cX6_drift 58 = .ok (.goto (-21), 3) := by decide +kernel
theorem dX6_drift_61 : decode cX6_drift 61 = .ok (.aload_n 0, 1) := by decide +kernel
theorem dX6_drift_62 : decode cX6_drift 62 = .ok (.iload_n 2, 1) := by decide +kernel
theorem dX6_drift_63 : decode cX6_drift 63 = .ok (.iconst 3, 1) := by decide +kernel
theorem dX6_drift_64 : decode cX6_drift 64 = .ok (.iadd, 1) := by decide +kernel
theorem dX6_drift_65 : decode cX6_drift 65 = .ok (.iaload, 1) := by decide +kernel
theorem dX6_drift_66 : decode cX6_drift 66 = .ok (.iconst 1, 1) := by decide +kernel
theorem dX6_drift_67 : decode cX6_drift 67 = .ok (.if_icmp .ne 43, 3) := by decide +kernel
theorem dX6_drift_70 : decode cX6_drift 70 = .ok (.aload_n 0, 1) := by decide +kernel
theorem dX6_drift_71 : decode cX6_drift 71 = .ok (.iload_n 2, 1) := by decide +kernel
theorem dX6_drift_72 : decode cX6_drift 72 = .ok (.bipush 6, 2) := by decide +kernel
theorem dX6_drift_74 : decode cX6_drift 74 = .ok (.iadd, 1) := by decide +kernel
theorem dX6_drift_75 : decode cX6_drift 75 = .ok (.dup2, 1) := by decide +kernel
theorem dX6_drift_76 : decode cX6_drift 76 = .ok (.iaload, 1) := by decide +kernel
theorem dX6_drift_77 : decode cX6_drift 77 = .ok (.iconst 1, 1) := by decide +kernel
theorem dX6_drift_78 : decode cX6_drift 78 = .ok (.aload_n 0, 1) := by decide +kernel
theorem dX6_drift_79 : decode cX6_drift 79 = .ok (.sipush 154, 3) := by decide +kernel
theorem dX6_drift_82 : decode cX6_drift 82 = .ok (.iaload, 1) := by decide +kernel
theorem dX6_drift_83 : decode cX6_drift 83 = .ok (.iadd, 1) := by decide +kernel
theorem dX6_drift_84 : decode cX6_drift 84 = .ok (.iadd, 1) := by decide +kernel
theorem dX6_drift_85 : decode cX6_drift 85 = .ok (.iastore, 1) := by decide +kernel
theorem dX6_drift_86 : decode cX6_drift 86 = .ok (.aload_n 0, 1) := by decide +kernel
theorem dX6_drift_87 : decode cX6_drift 87 = .ok (.iload_n 2, 1) := by decide +kernel
theorem dX6_drift_88 : decode cX6_drift 88 = .ok (.iconst 3, 1) := by decide +kernel
theorem dX6_drift_89 : decode cX6_drift 89 = .ok (.iadd, 1) := by decide +kernel
theorem dX6_drift_90 : decode cX6_drift 90 = .ok (.aload_n 0, 1) := by decide +kernel
theorem dX6_drift_91 : decode cX6_drift 91 = .ok (.iload_n 2, 1) := by decide +kernel
theorem dX6_drift_92 : decode cX6_drift 92 = .ok (.bipush 6, 2) := by decide +kernel
theorem dX6_drift_94 : decode cX6_drift 94 = .ok (.iadd, 1) := by decide +kernel
theorem dX6_drift_95 : decode cX6_drift 95 = .ok (.iaload, 1) := by decide +kernel
theorem dX6_drift_96 : decode cX6_drift 96 = .ok (.aload_n 0, 1) := by decide +kernel
theorem dX6_drift_97 : decode cX6_drift 97 = .ok (.iload_n 1, 1) := by decide +kernel
theorem dX6_drift_98 : decode cX6_drift 98 = .ok (.invokestatic 75, 3) := by decide +kernel
theorem dX6_drift_101 : decode cX6_drift 101 = .ok (.if_icmp .le 7, 3) := by decide +kernel
theorem dX6_drift_104 : decode cX6_drift 104 = .ok (.iconst 3, 1) := by decide +kernel
theorem dX6_drift_105 : decode cX6_drift 105 = .ok (.goto 4, 3) := by decide +kernel
theorem dX6_drift_108 : decode cX6_drift 108 = .ok (.iconst 1, 1) := by decide +kernel
theorem dX6_drift_109 : decode cX6_drift 109 = .ok (.iastore, 1) := by decide +kernel
theorem dX6_drift_110 : decode cX6_drift 110 = .ok (.return_, 1) := by decide +kernel
theorem dX6_endHeat_0 : decode cX6_endHeat 0 = .ok (.iconst (-1), 1) := by decide +kernel
theorem dX6_endHeat_1 : decode cX6_endHeat 1 = .ok (.istore_n 1, 1) := by decide +kernel
theorem dX6_endHeat_2 : decode cX6_endHeat 2 = .ok (.iconst 0, 1) := by decide +kernel
theorem dX6_endHeat_3 : decode cX6_endHeat 3 = .ok (.istore_n 2, 1) := by decide +kernel
theorem dX6_endHeat_4 : decode cX6_endHeat 4 = .ok (.iload_n 2, 1) := by decide +kernel
theorem dX6_endHeat_5 : decode cX6_endHeat 5 = .ok (.aload_n 0, 1) := by decide +kernel
theorem dX6_endHeat_6 : decode cX6_endHeat 6 = .ok (.sipush 147, 3) := by decide +kernel
theorem dX6_endHeat_9 : decode cX6_endHeat 9 = .ok (.iaload, 1) := by decide +kernel
theorem dX6_endHeat_10 : decode cX6_endHeat 10 = .ok (.if_icmp .ge 46, 3) := by decide +kernel
theorem dX6_endHeat_13 : decode cX6_endHeat 13 = .ok (.aload_n 0, 1) := by decide +kernel
theorem dX6_endHeat_14 : decode cX6_endHeat 14 = .ok (.iload_n 2, 1) := by decide +kernel
theorem dX6_endHeat_15 : decode cX6_endHeat 15 = .ok (.invokestatic 64, 3) := by decide +kernel
theorem dX6_endHeat_18 : decode cX6_endHeat 18 = .ok (.iconst 2, 1) := by decide +kernel
theorem dX6_endHeat_19 : decode cX6_endHeat 19 = .ok (.if_icmp .ne 31, 3) := by decide +kernel
theorem dX6_endHeat_22 : decode cX6_endHeat 22 = .ok (.aload_n 0, 1) := by decide +kernel
theorem dX6_endHeat_23 : decode cX6_endHeat 23 = .ok (.iload_n 2, 1) := by decide +kernel
theorem dX6_endHeat_24 : decode cX6_endHeat 24 = .ok (.invokestatic 60, 3) := by decide +kernel
theorem dX6_endHeat_27 : decode cX6_endHeat 27 = .ok (.bipush 7, 2) := by decide +kernel
theorem dX6_endHeat_29 : decode cX6_endHeat 29 = .ok (.iadd, 1) := by decide +kernel
theorem dX6_endHeat_30 : decode cX6_endHeat 30 = .ok (.iaload, 1) := by decide +kernel
theorem dX6_endHeat_31 : decode cX6_endHeat 31 = .ok (.iconst 1, 1) := by decide +kernel
theorem dX6_endHeat_32 : decode cX6_endHeat 32 = .ok (.if_icmp .ne 7, 3) := by decide +kernel
theorem dX6_endHeat_35 : decode cX6_endHeat 35 = .ok (.iload_n 2, 1) := by decide +kernel
theorem dX6_endHeat_36 : decode cX6_endHeat 36 = .ok (.goto 4, 3) := by decide +kernel
theorem dX6_endHeat_39 : decode cX6_endHeat 39 = .ok (.iload_n 1, 1) := by decide +kernel
theorem dX6_endHeat_40 : decode cX6_endHeat 40 = .ok (.istore_n 1, 1) := by decide +kernel
theorem dX6_endHeat_41 : decode cX6_endHeat 41 = .ok (.aload_n 0, 1) := by decide +kernel
theorem dX6_endHeat_42 : decode cX6_endHeat 42 = .ok (.iload_n 2, 1) := by decide +kernel
theorem dX6_endHeat_43 : decode cX6_endHeat 43 = .ok (.invokestatic 60, 3) := by decide +kernel
theorem dX6_endHeat_46 : decode cX6_endHeat 46 = .ok (.iconst 3, 1) := by decide +kernel
theorem dX6_endHeat_47 : decode cX6_endHeat 47 = .ok (.iadd, 1) := by decide +kernel
theorem dX6_endHeat_48 : decode cX6_endHeat 48 = .ok (.iconst 0, 1) := by decide +kernel
theorem dX6_endHeat_49 : decode cX6_endHeat 49 = .ok (.iastore, 1) := by decide +kernel
theorem dX6_endHeat_50 : decode cX6_endHeat 50 = .ok (.iinc 2 1, 3) := by decide +kernel
theorem dX6_endHeat_53 : decode cX6_endHeat 53 = .ok (.goto (-49), 3) := by decide +kernel
theorem dX6_endHeat_56 : decode cX6_endHeat 56 = .ok (.iload_n 1, 1) := by decide +kernel
theorem dX6_endHeat_57 : decode cX6_endHeat 57 = .ok (.iconst (-1), 1) := by decide +kernel
theorem dX6_endHeat_58 : decode cX6_endHeat 58 = .ok (.if_icmp .eq 45, 3) := by decide +kernel
theorem dX6_endHeat_61 : decode cX6_endHeat 61 = .ok (.aload_n 0, 1) := by decide +kernel
theorem dX6_endHeat_62 : decode cX6_endHeat 62 = .ok (.sipush 134, 3) := by decide +kernel
theorem dX6_endHeat_65 : decode cX6_endHeat 65 = .ok (.iconst 3, 1) := by decide +kernel
theorem dX6_endHeat_66 : decode cX6_endHeat 66 = .ok (.aload_n 0, 1) := by decide +kernel
theorem dX6_endHeat_67 : decode cX6_endHeat 67 = .ok (.iload_n 1, 1) := by decide +kernel
theorem dX6_endHeat_68 : decode cX6_endHeat 68 = .ok (.invokestatic 60, 3) := by decide +kernel
theorem dX6_endHeat_71 : decode cX6_endHeat 71 = .ok (.iconst 2, 1) := by decide +kernel
theorem dX6_endHeat_72 : decode cX6_endHeat 72 = .ok (.iadd, 1) := by decide +kernel
theorem dX6_endHeat_73 : decode cX6_endHeat 73 = .ok (.iaload, 1) := by decide +kernel
theorem dX6_endHeat_74 : decode cX6_endHeat 74 = .ok (.imul, 1) := by decide +kernel
theorem dX6_endHeat_75 : decode cX6_endHeat 75 = .ok (.iadd, 1) := by decide +kernel
theorem dX6_endHeat_76 : decode cX6_endHeat 76 = .ok (.dup2, 1) := by decide +kernel
theorem dX6_endHeat_77 : decode cX6_endHeat 77 = .ok (.iaload, 1) := by decide +kernel
theorem dX6_endHeat_78 : decode cX6_endHeat 78 = .ok (.iconst 3, 1) := by decide +kernel
theorem dX6_endHeat_79 : decode cX6_endHeat 79 = .ok (.iadd, 1) := by decide +kernel
theorem dX6_endHeat_80 : decode cX6_endHeat 80 = .ok (.iastore, 1) := by decide +kernel
theorem dX6_endHeat_81 : decode cX6_endHeat 81 = .ok (.aload_n 0, 1) := by decide +kernel
theorem dX6_endHeat_82 : decode cX6_endHeat 82 = .ok (.iload_n 1, 1) := by decide +kernel
theorem dX6_endHeat_83 : decode cX6_endHeat 83 = .ok (.invokestatic 60, 3) := by decide +kernel
theorem dX6_endHeat_86 : decode cX6_endHeat 86 = .ok (.bipush 8, 2) := by decide +kernel
theorem dX6_endHeat_88 : decode cX6_endHeat 88 = .ok (.iadd, 1) := by decide +kernel
theorem dX6_endHeat_89 : decode cX6_endHeat 89 = .ok (.dup2, 1) := by decide +kernel
theorem dX6_endHeat_90 : decode cX6_endHeat 90 = .ok (.iaload, 1) := by decide +kernel
theorem dX6_endHeat_91 : decode cX6_endHeat 91 = .ok (.iconst 1, 1) := by decide +kernel
theorem dX6_endHeat_92 : decode cX6_endHeat 92 = .ok (.iadd, 1) := by decide +kernel
theorem dX6_endHeat_93 : decode cX6_endHeat 93 = .ok (.iastore, 1) := by decide +kernel
theorem dX6_endHeat_94 : decode cX6_endHeat 94 = .ok (.aload_n 0, 1) := by decide +kernel
theorem dX6_endHeat_95 : decode cX6_endHeat 95 = .ok (.sipush 151, 3) := by decide +kernel
theorem dX6_endHeat_98 : decode cX6_endHeat 98 = .ok (.dup2, 1) := by decide +kernel
theorem dX6_endHeat_99 : decode cX6_endHeat 99 = .ok (.iaload, 1) := by decide +kernel
theorem dX6_endHeat_100 : decode cX6_endHeat 100 = .ok (.iconst 1, 1) := by decide +kernel
theorem dX6_endHeat_101 : decode cX6_endHeat 101 = .ok (.iadd, 1) := by decide +kernel
theorem dX6_endHeat_102 : decode cX6_endHeat 102 = .ok (.iastore, 1) := by decide +kernel
theorem dX6_endHeat_103 : decode cX6_endHeat 103 = .ok (.aload_n 0, 1) := by decide +kernel
theorem dX6_endHeat_104 : decode cX6_endHeat 104 = .ok (.sipush 150, 3) := by decide +kernel
theorem dX6_endHeat_107 : decode cX6_endHeat 107 = .ok (.iconst 0, 1) := by decide +kernel
theorem dX6_endHeat_108 : decode cX6_endHeat 108 = .ok (.iastore, 1) := by decide +kernel
theorem dX6_endHeat_109 : decode cX6_endHeat 109 = .ok (.aload_n 0, 1) := by decide +kernel
theorem dX6_endHeat_110 : decode cX6_endHeat 110 = .ok (.sipush 153, 3) := by decide +kernel
theorem dX6_endHeat_113 : decode cX6_endHeat 113 = .ok (.iconst 0, 1) := by decide +kernel
theorem dX6_endHeat_114 : decode cX6_endHeat 114 = .ok (.iastore, 1) := by decide +kernel
theorem dX6_endHeat_115 : decode cX6_endHeat 115 = .ok (.iload_n 1, 1) := by decide +kernel
theorem dX6_endHeat_116 : decode cX6_endHeat 116 = .ok (.ireturn, 1) := by decide +kernel
theorem dX6_goMinute_0 : decode cX6_goMinute 0 = .ok (.iconst 0, 1) := by decide +kernel
theorem dX6_goMinute_1 : decode cX6_goMinute 1 = .ok (.istore_n 1, 1) := by decide +kernel
theorem dX6_goMinute_2 : decode cX6_goMinute 2 = .ok (.aload_n 0, 1) := by decide +kernel
theorem dX6_goMinute_3 : decode cX6_goMinute 3 = .ok (.sipush 148, 3) := by decide +kernel
theorem dX6_goMinute_6 : decode cX6_goMinute 6 = .ok (.dup2, 1) := by decide +kernel
theorem dX6_goMinute_7 : decode cX6_goMinute 7 = .ok (.iaload, 1) := by decide +kernel
theorem dX6_goMinute_8 : decode cX6_goMinute 8 = .ok (.iconst 1, 1) := by decide +kernel
theorem dX6_goMinute_9 : decode cX6_goMinute 9 = .ok (.iadd, 1) := by decide +kernel
theorem dX6_goMinute_10 : decode cX6_goMinute 10 = .ok (.iastore, 1) := by decide +kernel
theorem dX6_goMinute_11 : decode cX6_goMinute 11 = .ok (.iconst 0, 1) := by decide +kernel
theorem dX6_goMinute_12 : decode cX6_goMinute 12 = .ok (.istore_n 2, 1) := by decide +kernel
theorem dX6_goMinute_13 : decode cX6_goMinute 13 = .ok (.iload_n 2, 1) := by decide +kernel
theorem dX6_goMinute_14 : decode cX6_goMinute 14 = .ok (.aload_n 0, 1) := by decide +kernel
theorem dX6_goMinute_15 : decode cX6_goMinute 15 = .ok (.sipush 147, 3) := by decide +kernel
theorem dX6_goMinute_18 : decode cX6_goMinute 18 = .ok (.iaload, 1) := by decide +kernel
theorem dX6_goMinute_19 : decode cX6_goMinute 19 = .ok (.if_icmp .ge 40, 3) := by decide +kernel
theorem dX6_goMinute_22 : decode cX6_goMinute 22 = .ok (.aload_n 0, 1) := by decide +kernel
theorem dX6_goMinute_23 : decode cX6_goMinute 23 = .ok (.iload_n 2, 1) := by decide +kernel
theorem dX6_goMinute_24 : decode cX6_goMinute 24 = .ok (.invokestatic 64, 3) := by decide +kernel
theorem dX6_goMinute_27 : decode cX6_goMinute 27 = .ok (.iconst 1, 1) := by decide +kernel
theorem dX6_goMinute_28 : decode cX6_goMinute 28 = .ok (.if_icmp .ne 25, 3) := by decide +kernel
theorem dX6_goMinute_31 : decode cX6_goMinute 31 = .ok (.aload_n 0, 1) := by decide +kernel
theorem dX6_goMinute_32 : decode cX6_goMinute 32 = .ok (.iload_n 2, 1) := by decide +kernel
theorem dX6_goMinute_33 : decode cX6_goMinute 33 = .ok (.invokestatic 78, 3) := by decide +kernel
theorem dX6_goMinute_36 : decode cX6_goMinute 36 = .ok (.iload_n 1, 1) := by decide +kernel
theorem dX6_goMinute_37 : decode cX6_goMinute 37 = .ok (.aload_n 0, 1) := by decide +kernel
theorem dX6_goMinute_38 : decode cX6_goMinute 38 = .ok (.iload_n 2, 1) := by decide +kernel
theorem dX6_goMinute_39 : decode cX6_goMinute 39 = .ok (.invokestatic 64, 3) := by decide +kernel
theorem dX6_goMinute_42 : decode cX6_goMinute 42 = .ok (.iconst 2, 1) := by decide +kernel
theorem dX6_goMinute_43 : decode cX6_goMinute 43 = .ok (.if_icmp .ne 7, 3) := by decide +kernel
theorem dX6_goMinute_46 : decode cX6_goMinute 46 = .ok (.iconst 1, 1) := by decide +kernel
theorem dX6_goMinute_47 : decode cX6_goMinute 47 = .ok (.goto 4, 3) := by decide +kernel
theorem dX6_goMinute_50 : decode cX6_goMinute 50 = .ok (.iconst 0, 1) := by decide +kernel
theorem dX6_goMinute_51 : decode cX6_goMinute 51 = .ok (.iadd, 1) := by decide +kernel
theorem dX6_goMinute_52 : decode cX6_goMinute 52 = .ok (.istore_n 1, 1) := by decide +kernel
theorem dX6_goMinute_53 : decode cX6_goMinute 53 = .ok (.iinc 2 1, 3) := by decide +kernel
theorem dX6_goMinute_56 : decode cX6_goMinute 56 = .ok (.goto (-43), 3) := by decide +kernel
theorem dX6_goMinute_59 : decode cX6_goMinute 59 = .ok (.aload_n 0, 1) := by decide +kernel
theorem dX6_goMinute_60 : decode cX6_goMinute 60 = .ok (.sipush 150, 3) := by decide +kernel
theorem dX6_goMinute_63 : decode cX6_goMinute 63 = .ok (.iaload, 1) := by decide +kernel
theorem dX6_goMinute_64 : decode cX6_goMinute 64 = .ok (.iconst 1, 1) := by decide +kernel
theorem dX6_goMinute_65 : decode cX6_goMinute 65 = .ok (.if_icmp .ne 16, 3) := by decide +kernel
theorem dX6_goMinute_68 : decode cX6_goMinute 68 = .ok (.aload_n 0, 1) := by decide +kernel
theorem dX6_goMinute_69 : decode cX6_goMinute 69 = .ok (.iconst 1, 1) := by decide +kernel
theorem dX6_goMinute_70 : decode cX6_goMinute 70 = .ok (.invokestatic 82, 3) := by decide +kernel
theorem dX6_goMinute_73 : decode cX6_goMinute 73 = .ok (.ifCond .ne 8, 3) := by decide +kernel
theorem dX6_goMinute_76 : decode cX6_goMinute 76 = .ok (.aload_n 0, 1) := by decide +kernel
theorem dX6_goMinute_77 : decode cX6_goMinute 77 = .ok (.invokestatic 85, 3) := by decide +kernel
theorem dX6_goMinute_80 : decode cX6_goMinute 80 = .ok (.istore_n 2, 1) := by decide +kernel
theorem dX6_goMinute_81 : decode cX6_goMinute 81 = .ok (.iload_n 1, 1) := by decide +kernel
theorem dX6_goMinute_82 : decode cX6_goMinute 82 = .ok (.ireturn, 1) := by decide +kernel
theorem dX6_goMinutes_0 : decode cX6_goMinutes 0 = .ok (.iconst 0, 1) := by decide +kernel
theorem dX6_goMinutes_1 : decode cX6_goMinutes 1 = .ok (.istore_n 2, 1) := by decide +kernel
theorem dX6_goMinutes_2 : decode cX6_goMinutes 2 = .ok (.iconst 0, 1) := by decide +kernel
theorem dX6_goMinutes_3 : decode cX6_goMinutes 3 = .ok (.istore_n 3, 1) := by decide +kernel
theorem dX6_goMinutes_4 : decode cX6_goMinutes 4 = .ok (.iload_n 3, 1) := by decide +kernel
theorem dX6_goMinutes_5 : decode cX6_goMinutes 5 = .ok (.iload_n 1, 1) := by decide +kernel
theorem dX6_goMinutes_6 : decode cX6_goMinutes 6 = .ok (.if_icmp .ge 16, 3) := by decide +kernel
theorem dX6_goMinutes_9 : decode cX6_goMinutes 9 = .ok (.iload_n 2, 1) := by decide +kernel
theorem dX6_goMinutes_10 : decode cX6_goMinutes 10 = .ok (.aload_n 0, 1) := by decide +kernel
theorem dX6_goMinutes_11 : decode cX6_goMinutes 11 = .ok (.invokestatic 89, 3) := by decide +kernel
theorem dX6_goMinutes_14 : decode cX6_goMinutes 14 = .ok (.iadd, 1) := by decide +kernel
theorem dX6_goMinutes_15 : decode cX6_goMinutes 15 = .ok (.istore_n 2, 1) := by decide +kernel
theorem dX6_goMinutes_16 : decode cX6_goMinutes 16 = .ok (.iinc 3 1, 3) := by decide +kernel
theorem dX6_goMinutes_19 : decode cX6_goMinutes 19 = .ok (.goto (-15), 3) := by decide +kernel
theorem dX6_goMinutes_22 : decode cX6_goMinutes 22 = .ok (.iload_n 2, 1) := by decide +kernel
theorem dX6_goMinutes_23 : decode cX6_goMinutes 23 = .ok (.ireturn, 1) := by decide +kernel
theorem dX6_far_0 : decode cX6_far 0 = .ok (.aload_n 0, 1) := by decide +kernel
theorem dX6_far_1 : decode cX6_far 1 = .ok (.sipush 134, 3) := by decide +kernel
theorem dX6_far_4 : decode cX6_far 4 = .ok (.iconst 3, 1) := by decide +kernel
theorem dX6_far_5 : decode cX6_far 5 = .ok (.iload_n 1, 1) := by decide +kernel
theorem dX6_far_6 : decode cX6_far 6 = .ok (.imul, 1) := by decide +kernel
theorem dX6_far_7 : decode cX6_far 7 = .ok (.iadd, 1) := by decide +kernel
theorem dX6_far_8 : decode cX6_far 8 = .ok (.iconst 2, 1) := by decide +kernel
theorem dX6_far_9 : decode cX6_far 9 = .ok (.iadd, 1) := by decide +kernel
theorem dX6_far_10 : decode cX6_far 10 = .ok (.iaload, 1) := by decide +kernel
theorem dX6_far_11 : decode cX6_far 11 = .ok (.aload_n 0, 1) := by decide +kernel
theorem dX6_far_12 : decode cX6_far 12 = .ok (.iload_n 2, 1) := by decide +kernel
theorem dX6_far_13 : decode cX6_far 13 = .ok (.invokestatic 60, 3) := by decide +kernel
theorem dX6_far_16 : decode cX6_far 16 = .ok (.iconst 5, 1) := by decide +kernel
theorem dX6_far_17 : decode cX6_far 17 = .ok (.iadd, 1) := by decide +kernel
theorem dX6_far_18 : decode cX6_far 18 = .ok (.iaload, 1) := by decide +kernel
theorem dX6_far_19 : decode cX6_far 19 = .ok (.isub, 1) := by decide +kernel
theorem dX6_far_20 : decode cX6_far 20 = .ok (.invokestatic 92, 3) := by decide +kernel
theorem dX6_far_23 : decode cX6_far 23 = .ok (.ireturn, 1) := by decide +kernel
theorem dX6_isHooked_0 : decode cX6_isHooked 0 = .ok (.aload_n 0, 1) := by decide +kernel
theorem dX6_isHooked_1 : decode cX6_isHooked 1 = .ok (.sipush 134, 3) := by decide +kernel
theorem dX6_isHooked_4 : decode cX6_isHooked 4 = .ok (.iconst 3, 1) := by decide +kernel
theorem dX6_isHooked_5 : decode cX6_isHooked 5 = .ok (.iload_n 1, 1) := by decide +kernel
theorem dX6_isHooked_6 : decode cX6_isHooked 6 = .ok (.imul, 1) := by decide +kernel
theorem dX6_isHooked_7 : decode cX6_isHooked 7 = .ok (.iadd, 1) := by decide +kernel
theorem dX6_isHooked_8 : decode cX6_isHooked 8 = .ok (.iconst 1, 1) := by decide +kernel
theorem dX6_isHooked_9 : decode cX6_isHooked 9 = .ok (.iadd, 1) := by decide +kernel
theorem dX6_isHooked_10 : decode cX6_isHooked 10 = .ok (.iaload, 1) := by decide +kernel
theorem dX6_isHooked_11 : decode cX6_isHooked 11 = .ok (.aload_n 0, 1) := by decide +kernel
theorem dX6_isHooked_12 : decode cX6_isHooked 12 = .ok (.iload_n 2, 1) := by decide +kernel
theorem dX6_isHooked_13 : decode cX6_isHooked 13 = .ok (.invokestatic 60, 3) := by decide +kernel
theorem dX6_isHooked_16 : decode cX6_isHooked 16 = .ok (.iconst 4, 1) := by decide +kernel
theorem dX6_isHooked_17 : decode cX6_isHooked 17 = .ok (.iadd, 1) := by decide +kernel
theorem dX6_isHooked_18 : decode cX6_isHooked 18 = .ok (.iaload, 1) := by decide +kernel
theorem dX6_isHooked_19 : decode cX6_isHooked 19 = .ok (.if_icmp .ne 7, 3) := by decide +kernel
theorem dX6_isHooked_22 : decode cX6_isHooked 22 = .ok (.iconst 1, 1) := by decide +kernel
theorem dX6_isHooked_23 : decode cX6_isHooked 23 = .ok (.goto 4, 3) := by decide +kernel
theorem dX6_isHooked_26 : decode cX6_isHooked 26 = .ok (.iconst 0, 1) := by decide +kernel
theorem dX6_isHooked_27 : decode cX6_isHooked 27 = .ok (.ireturn, 1) := by decide +kernel
theorem dX6_whyNot_0 : decode cX6_whyNot 0 = .ok (.aload_n 0, 1) := by decide +kernel
theorem dX6_whyNot_1 : decode cX6_whyNot 1 = .ok (.iload_n 2, 1) := by decide +kernel
theorem dX6_whyNot_2 : decode cX6_whyNot 2 = .ok (.invokestatic 64, 3) := by decide +kernel
theorem dX6_whyNot_5 : decode cX6_whyNot 5 = .ok (.iconst 3, 1) := by decide +kernel
theorem dX6_whyNot_6 : decode cX6_whyNot 6 = .ok (.if_icmp .eq 5, 3) := by decide +kernel
theorem dX6_whyNot_9 : decode cX6_whyNot 9 = .ok (.iconst 1, 1) := by decide +kernel
theorem dX6_whyNot_10 : decode cX6_whyNot 10 = .ok (.ireturn, 1) := by decide +kernel
theorem dX6_whyNot_11 : decode cX6_whyNot 11 = .ok (.aload_n 0, 1) := by decide +kernel
theorem dX6_whyNot_12 : decode cX6_whyNot 12 = .ok (.iload_n 1, 1) := by decide +kernel
theorem dX6_whyNot_13 : decode cX6_whyNot 13 = .ok (.iload_n 2, 1) := by decide +kernel
theorem dX6_whyNot_14 : decode cX6_whyNot 14 = .ok (.invokestatic 95, 3) := by decide +kernel
theorem dX6_whyNot_17 : decode cX6_whyNot 17 = .ok (.ifCond .eq 17, 3) := by decide +kernel
theorem dX6_whyNot_20 : decode cX6_whyNot 20 = .ok (.aload_n 0, 1) := by decide +kernel
theorem dX6_whyNot_21 : decode cX6_whyNot 21 = .ok (.iload_n 1, 1) := by decide +kernel
theorem dX6_whyNot_22 : decode cX6_whyNot 22 = .ok (.iload_n 2, 1) := by decide +kernel
theorem dX6_whyNot_23 : decode cX6_whyNot 23 = .ok (.invokestatic 98, 3) := by decide +kernel
theorem dX6_whyNot_26 : decode cX6_whyNot 26 = .ok (.aload_n 0, 1) := by decide +kernel
theorem dX6_whyNot_27 : decode cX6_whyNot 27 = .ok (.sipush 156, 3) := by decide +kernel
theorem dX6_whyNot_30 : decode cX6_whyNot 30 = .ok (.iaload, 1) := by decide +kernel
theorem dX6_whyNot_31 : decode cX6_whyNot 31 = .ok (.if_icmp .le 5, 3) := by decide +kernel
theorem dX6_whyNot_34 : decode cX6_whyNot 34 = .ok (.iconst 2, 1) := by decide +kernel
theorem dX6_whyNot_35 : decode cX6_whyNot 35 = .ok (.ireturn, 1) := by decide +kernel
theorem dX6_whyNot_36 : decode cX6_whyNot 36 = .ok (.iconst 0, 1) := by decide +kernel
theorem dX6_whyNot_37 : decode cX6_whyNot 37 = .ok (.istore_n 3, 1) := by decide +kernel
theorem dX6_whyNot_38 : decode cX6_whyNot 38 = .ok (.iconst 0, 1) := by decide +kernel
theorem dX6_whyNot_39 : decode cX6_whyNot 39 = .ok (.istore 4, 2) := by decide +kernel
theorem dX6_whyNot_41 : decode cX6_whyNot 41 = .ok (.iload 4, 2) := by decide +kernel
theorem dX6_whyNot_43 : decode cX6_whyNot 43 = .ok (.iconst 4, 1) := by decide +kernel
theorem dX6_whyNot_44 : decode cX6_whyNot 44 = .ok (.if_icmp .ge 51, 3) := by decide +kernel
theorem dX6_whyNot_47 : decode cX6_whyNot 47 = .ok (.iload_n 3, 1) := by decide +kernel
theorem dX6_whyNot_48 : decode cX6_whyNot 48 = .ok (.ifCond .ne 35, 3) := by decide +kernel
theorem dX6_whyNot_51 : decode cX6_whyNot 51 = .ok (.iload 4, 2) := by decide +kernel
theorem dX6_whyNot_53 : decode cX6_whyNot 53 = .ok (.iload_n 1, 1) := by decide +kernel
theorem dX6_whyNot_54 : decode cX6_whyNot 54 = .ok (.if_icmp .eq 33, 3) := by decide +kernel
theorem dX6_whyNot_57 : decode cX6_whyNot 57 = .ok (.aload_n 0, 1) := by decide +kernel
theorem dX6_whyNot_58 : decode cX6_whyNot 58 = .ok (.iload 4, 2) := by decide +kernel
theorem dX6_whyNot_60 : decode cX6_whyNot 60 = .ok (.iload_n 2, 1) := by decide +kernel
theorem dX6_whyNot_61 : decode cX6_whyNot 61 = .ok (.invokestatic 95, 3) := by decide +kernel
theorem dX6_whyNot_64 : decode cX6_whyNot 64 = .ok (.ifCond .eq 23, 3) := by decide +kernel
theorem dX6_whyNot_67 : decode cX6_whyNot 67 = .ok (.aload_n 0, 1) := by decide +kernel
theorem dX6_whyNot_68 : decode cX6_whyNot 68 = .ok (.iload 4, 2) := by decide +kernel
theorem dX6_whyNot_70 : decode cX6_whyNot 70 = .ok (.iload_n 2, 1) := by decide +kernel
theorem dX6_whyNot_71 : decode cX6_whyNot 71 = .ok (.invokestatic 98, 3) := by decide +kernel
theorem dX6_whyNot_74 : decode cX6_whyNot 74 = .ok (.aload_n 0, 1) := by decide +kernel
theorem dX6_whyNot_75 : decode cX6_whyNot 75 = .ok (.iload_n 1, 1) := by decide +kernel
theorem dX6_whyNot_76 : decode cX6_whyNot 76 = .ok (.iload_n 2, 1) := by decide +kernel
theorem dX6_whyNot_77 : decode cX6_whyNot 77 = .ok (.invokestatic 98, 3) := by decide +kernel
theorem dX6_whyNot_80 : decode cX6_whyNot 80 = .ok (.if_icmp .ge 7, 3) := by decide +kernel
theorem dX6_whyNot_83 : decode cX6_whyNot 83 = .ok (.iconst 1, 1) := by decide +kernel
theorem dX6_whyNot_84 : decode cX6_whyNot 84 = .ok (.goto 4, 3) := by decide +kernel
theorem dX6_whyNot_87 : decode cX6_whyNot 87 = .ok (.iconst 0, 1) := by decide +kernel
theorem dX6_whyNot_88 : decode cX6_whyNot 88 = .ok (.istore_n 3, 1) := by decide +kernel
theorem dX6_whyNot_89 : decode cX6_whyNot 89 = .ok (.iinc 4 1, 3) := by decide +kernel
theorem dX6_whyNot_92 : decode cX6_whyNot 92 = .ok (.goto (-51), 3) := by decide +kernel
theorem dX6_whyNot_95 : decode cX6_whyNot 95 = .ok (.iload_n 3, 1) := by decide +kernel
theorem dX6_whyNot_96 : decode cX6_whyNot 96 = .ok (.ifCond .eq 7, 3) := by decide +kernel
theorem dX6_whyNot_99 : decode cX6_whyNot 99 = .ok (.iconst 3, 1) := by decide +kernel
theorem dX6_whyNot_100 : decode cX6_whyNot 100 = .ok (.goto 4, 3) := by decide +kernel
theorem dX6_whyNot_103 : decode cX6_whyNot 103 = .ok (.iconst 0, 1) := by decide +kernel
theorem dX6_whyNot_104 : decode cX6_whyNot 104 = .ok (.ireturn, 1) := by decide +kernel
theorem dX6_goClaim_0 : decode cX6_goClaim 0 = .ok (.aload_n 0, 1) := by decide +kernel
theorem dX6_goClaim_1 : decode cX6_goClaim 1 = .ok (.iload_n 1, 1) := by decide +kernel
theorem dX6_goClaim_2 : decode cX6_goClaim 2 = .ok (.iload_n 2, 1) := by decide +kernel
theorem dX6_goClaim_3 : decode cX6_goClaim 3 = .ok (.invokestatic 102, 3) := by decide +kernel
theorem dX6_goClaim_6 : decode cX6_goClaim 6 = .ok (.istore_n 3, 1) := by decide +kernel
theorem dX6_goClaim_7 : decode cX6_goClaim 7 = .ok (.iload_n 3, 1) := by decide +kernel
theorem dX6_goClaim_8 : decode cX6_goClaim 8 = .ok (.ifCond .ne 35, 3) := by decide +kernel
theorem dX6_goClaim_11 : decode cX6_goClaim 11 = .ok (.aload_n 0, 1) := by decide +kernel
theorem dX6_goClaim_12 : decode cX6_goClaim 12 = .ok (.iload_n 2, 1) := by decide +kernel
theorem dX6_goClaim_13 : decode cX6_goClaim 13 = .ok (.invokestatic 60, 3) := by decide +kernel
theorem dX6_goClaim_16 : decode cX6_goClaim 16 = .ok (.iconst 3, 1) := by decide +kernel
theorem dX6_goClaim_17 : decode cX6_goClaim 17 = .ok (.iadd, 1) := by decide +kernel
theorem dX6_goClaim_18 : decode cX6_goClaim 18 = .ok (.iconst 4, 1) := by decide +kernel
theorem dX6_goClaim_19 : decode cX6_goClaim 19 = .ok (.iastore, 1) := by decide +kernel
theorem dX6_goClaim_20 : decode cX6_goClaim 20 = .ok (.aload_n 0, 1) := by decide +kernel
theorem dX6_goClaim_21 : decode cX6_goClaim 21 = .ok (.sipush 134, 3) := by decide +kernel
theorem dX6_goClaim_24 : decode cX6_goClaim 24 = .ok (.iconst 3, 1) := by decide +kernel
theorem dX6_goClaim_25 : decode cX6_goClaim 25 = .ok (.iload_n 1, 1) := by decide +kernel
theorem dX6_goClaim_26 : decode cX6_goClaim 26 = .ok (.imul, 1) := by decide +kernel
theorem dX6_goClaim_27 : decode cX6_goClaim 27 = .ok (.iadd, 1) := by decide +kernel
theorem dX6_goClaim_28 : decode cX6_goClaim 28 = .ok (.dup2, 1) := by decide +kernel
theorem dX6_goClaim_29 : decode cX6_goClaim 29 = .ok (.iaload, 1) := by decide +kernel
theorem dX6_goClaim_30 : decode cX6_goClaim 30 = .ok (.aload_n 0, 1) := by decide +kernel
theorem dX6_goClaim_31 : decode cX6_goClaim 31 = .ok (.iload_n 2, 1) := by decide +kernel
theorem dX6_goClaim_32 : decode cX6_goClaim 32 = .ok (.invokestatic 60, 3) := by decide +kernel
theorem dX6_goClaim_35 : decode cX6_goClaim 35 = .ok (.iconst 0, 1) := by decide +kernel
theorem dX6_goClaim_36 : decode cX6_goClaim 36 = .ok (.iadd, 1) := by decide +kernel
theorem dX6_goClaim_37 : decode cX6_goClaim 37 = .ok (.iaload, 1) := by decide +kernel
theorem dX6_goClaim_38 : decode cX6_goClaim 38 = .ok (.iadd, 1) := by decide +kernel
theorem dX6_goClaim_39 : decode cX6_goClaim 39 = .ok (.iastore, 1) := by decide +kernel
theorem dX6_goClaim_40 : decode cX6_goClaim 40 = .ok (.goto 12, 3) := by decide +kernel
theorem dX6_goClaim_43 : decode cX6_goClaim 43 = .ok (.aload_n 0, 1) := by decide +kernel
theorem dX6_goClaim_44 : decode cX6_goClaim 44 = .ok (.sipush 152, 3) := by decide +kernel
theorem dX6_goClaim_47 : decode cX6_goClaim 47 = .ok (.dup2, 1) := by decide +kernel
theorem dX6_goClaim_48 : decode cX6_goClaim 48 = .ok (.iaload, 1) := by decide +kernel
theorem dX6_goClaim_49 : decode cX6_goClaim 49 = .ok (.iconst 1, 1) := by decide +kernel
theorem dX6_goClaim_50 : decode cX6_goClaim 50 = .ok (.iadd, 1) := by decide +kernel
theorem dX6_goClaim_51 : decode cX6_goClaim 51 = .ok (.iastore, 1) := by decide +kernel
theorem dX6_goClaim_52 : decode cX6_goClaim 52 = .ok (.iload_n 3, 1) := by decide +kernel
theorem dX6_goClaim_53 : decode cX6_goClaim 53 = .ok (.ireturn, 1) := by decide +kernel
theorem dX6_claimable_0 : decode cX6_claimable 0 = .ok (.iconst 0, 1) := by decide +kernel
theorem dX6_claimable_1 : decode cX6_claimable 1 = .ok (.istore_n 2, 1) := by decide +kernel
theorem dX6_claimable_2 : decode cX6_claimable 2 = .ok (.iconst 0, 1) := by decide +kernel
theorem dX6_claimable_3 : decode cX6_claimable 3 = .ok (.istore_n 3, 1) := by decide +kernel
theorem dX6_claimable_4 : decode cX6_claimable 4 = .ok (.iload_n 3, 1) := by decide +kernel
theorem dX6_claimable_5 : decode cX6_claimable 5 = .ok (.aload_n 0, 1) := by decide +kernel
theorem dX6_claimable_6 : decode cX6_claimable 6 = .ok (.sipush 147, 3) := by decide +kernel
theorem dX6_claimable_9 : decode cX6_claimable 9 = .ok (.iaload, 1) := by decide +kernel
theorem dX6_claimable_10 : decode cX6_claimable 10 = .ok (.if_icmp .ge 26, 3) := by decide +kernel
theorem dX6_claimable_13 : decode cX6_claimable 13 = .ok (.iload_n 2, 1) := by decide +kernel
theorem dX6_claimable_14 : decode cX6_claimable 14 = .ok (.aload_n 0, 1) := by decide +kernel
theorem dX6_claimable_15 : decode cX6_claimable 15 = .ok (.iload_n 1, 1) := by decide +kernel
theorem dX6_claimable_16 : decode cX6_claimable 16 = .ok (.iload_n 3, 1) := by decide +kernel
theorem dX6_claimable_17 : decode cX6_claimable 17 = .ok (.invokestatic 102, 3) := by decide +kernel
theorem dX6_claimable_20 : decode cX6_claimable 20 = .ok (.ifCond .ne 7, 3) := by decide +kernel
theorem dX6_claimable_23 : decode cX6_claimable 23 = .ok (.iconst 1, 1) := by decide +kernel
theorem dX6_claimable_24 : decode cX6_claimable 24 = .ok (.goto 4, 3) := by decide +kernel
theorem dX6_claimable_27 : decode cX6_claimable 27 = .ok (.iconst 0, 1) := by decide +kernel
theorem dX6_claimable_28 : decode cX6_claimable 28 = .ok (.iadd, 1) := by decide +kernel
theorem dX6_claimable_29 : decode cX6_claimable 29 = .ok (.istore_n 2, 1) := by decide +kernel
theorem dX6_claimable_30 : decode cX6_claimable 30 = .ok (.iinc 3 1, 3) := by decide +kernel
theorem dX6_claimable_33 : decode cX6_claimable 33 = .ok (.goto (-29), 3) := by decide +kernel
theorem dX6_claimable_36 : decode cX6_claimable 36 = .ok (.iload_n 2, 1) := by decide +kernel
theorem dX6_claimable_37 : decode cX6_claimable 37 = .ok (.ireturn, 1) := by decide +kernel
theorem dX6_goHook_0 : decode cX6_goHook 0 = .ok (.aload_n 0, 1) := by decide +kernel
theorem dX6_goHook_1 : decode cX6_goHook 1 = .ok (.sipush 134, 3) := by decide +kernel
theorem dX6_goHook_4 : decode cX6_goHook 4 = .ok (.iconst 3, 1) := by decide +kernel
theorem dX6_goHook_5 : decode cX6_goHook 5 = .ok (.iload_n 1, 1) := by decide +kernel
theorem dX6_goHook_6 : decode cX6_goHook 6 = .ok (.imul, 1) := by decide +kernel
theorem dX6_goHook_7 : decode cX6_goHook 7 = .ok (.iadd, 1) := by decide +kernel
theorem dX6_goHook_8 : decode cX6_goHook 8 = .ok (.iconst 1, 1) := by decide +kernel
theorem dX6_goHook_9 : decode cX6_goHook 9 = .ok (.iadd, 1) := by decide +kernel
theorem dX6_goHook_10 : decode cX6_goHook 10 = .ok (.iload_n 2, 1) := by decide +kernel
theorem dX6_goHook_11 : decode cX6_goHook 11 = .ok (.iastore, 1) := by decide +kernel
theorem dX6_goHook_12 : decode cX6_goHook 12 = .ok (.aload_n 0, 1) := by decide +kernel
theorem dX6_goHook_13 : decode cX6_goHook 13 = .ok (.sipush 134, 3) := by decide +kernel
theorem dX6_goHook_16 : decode cX6_goHook 16 = .ok (.iconst 3, 1) := by decide +kernel
theorem dX6_goHook_17 : decode cX6_goHook 17 = .ok (.iload_n 1, 1) := by decide +kernel
theorem dX6_goHook_18 : decode cX6_goHook 18 = .ok (.imul, 1) := by decide +kernel
theorem dX6_goHook_19 : decode cX6_goHook 19 = .ok (.iadd, 1) := by decide +kernel
theorem dX6_goHook_20 : decode cX6_goHook 20 = .ok (.iconst 2, 1) := by decide +kernel
theorem dX6_goHook_21 : decode cX6_goHook 21 = .ok (.iadd, 1) := by decide +kernel
theorem dX6_goHook_22 : decode cX6_goHook 22 = .ok (.iload_n 3, 1) := by decide +kernel
theorem dX6_goHook_23 : decode cX6_goHook 23 = .ok (.iastore, 1) := by decide +kernel
theorem dX6_goHook_24 : decode cX6_goHook 24 = .ok (.aload_n 0, 1) := by decide +kernel
theorem dX6_goHook_25 : decode cX6_goHook 25 = .ok (.iload_n 1, 1) := by decide +kernel
theorem dX6_goHook_26 : decode cX6_goHook 26 = .ok (.invokestatic 105, 3) := by decide +kernel
theorem dX6_goHook_29 : decode cX6_goHook 29 = .ok (.ireturn, 1) := by decide +kernel
theorem dX6_addGutter_0 : decode cX6_addGutter 0 = .ok (.iconst 4, 1) := by decide +kernel
theorem dX6_addGutter_1 : decode cX6_addGutter 1 = .ok (.aload_n 0, 1) := by decide +kernel
theorem dX6_addGutter_2 : decode cX6_addGutter 2 = .ok (.sipush 146, 3) := by decide +kernel
theorem dX6_addGutter_5 : decode cX6_addGutter 5 = .ok (.iaload, 1) := by decide +kernel
theorem dX6_addGutter_6 : decode cX6_addGutter 6 = .ok (.imul, 1) := by decide +kernel
theorem dX6_addGutter_7 : decode cX6_addGutter 7 = .ok (.istore 5, 2) := by decide +kernel
theorem dX6_addGutter_9 : decode cX6_addGutter 9 = .ok (.aload_n 0, 1) := by decide +kernel
theorem dX6_addGutter_10 : decode cX6_addGutter 10 = .ok (.sipush 146, 3) := by decide +kernel
theorem dX6_addGutter_13 : decode cX6_addGutter 13 = .ok (.iaload, 1) := by decide +kernel
theorem dX6_addGutter_14 : decode cX6_addGutter 14 = .ok (.ifCond .ne 7, 3) := by decide +kernel
theorem dX6_addGutter_17 : decode cX6_addGutter 17 = .ok (.iconst 1, 1) := by decide +kernel
theorem dX6_addGutter_18 : decode cX6_addGutter 18 = .ok (.goto 4, 3) := by decide +kernel
theorem dX6_addGutter_21 : decode cX6_addGutter 21 = .ok (.iconst 0, 1) := by decide +kernel
theorem dX6_addGutter_22 : decode cX6_addGutter 22 = .ok (.istore 6, 2) := by decide +kernel
theorem dX6_addGutter_24 : decode cX6_addGutter 24 = .ok (.aload_n 0, 1) := by decide +kernel
theorem dX6_addGutter_25 : decode cX6_addGutter 25 = .ok (.iload 5, 2) := by decide +kernel
theorem dX6_addGutter_27 : decode cX6_addGutter 27 = .ok (.iconst 0, 1) := by decide +kernel
theorem dX6_addGutter_28 : decode cX6_addGutter 28 = .ok (.iadd, 1) := by decide +kernel
theorem dX6_addGutter_29 : decode cX6_addGutter 29 = .ok (.iload_n 1, 1) := by decide +kernel
theorem dX6_addGutter_30 : decode cX6_addGutter 30 = .ok (.iastore, 1) := by decide +kernel
theorem dX6_addGutter_31 : decode cX6_addGutter 31 = .ok (.aload_n 0, 1) := by decide +kernel
theorem dX6_addGutter_32 : decode cX6_addGutter 32 = .ok (.iload 5, 2) := by decide +kernel
theorem dX6_addGutter_34 : decode cX6_addGutter 34 = .ok (.iconst 1, 1) := by decide +kernel
theorem dX6_addGutter_35 : decode cX6_addGutter 35 = .ok (.iadd, 1) := by decide +kernel
theorem dX6_addGutter_36 : decode cX6_addGutter 36 = .ok (.iload_n 2, 1) := by decide +kernel
theorem dX6_addGutter_37 : decode cX6_addGutter 37 = .ok (.iastore, 1) := by decide +kernel
theorem dX6_addGutter_38 : decode cX6_addGutter 38 = .ok (.aload_n 0, 1) := by decide +kernel
theorem dX6_addGutter_39 : decode cX6_addGutter 39 = .ok (.iload 5, 2) := by decide +kernel
theorem dX6_addGutter_41 : decode cX6_addGutter 41 = .ok (.iconst 2, 1) := by decide +kernel
theorem dX6_addGutter_42 : decode cX6_addGutter 42 = .ok (.iadd, 1) := by decide +kernel
theorem dX6_addGutter_43 : decode cX6_addGutter 43 = .ok (.iload 6, 2) := by decide +kernel
theorem dX6_addGutter_45 : decode cX6_addGutter 45 = .ok (.ifCond .eq 7, 3) := by decide +kernel
theorem dX6_addGutter_48 : decode cX6_addGutter 48 = .ok (.iconst (-1), 1) := by decide +kernel
theorem dX6_addGutter_49 : decode cX6_addGutter 49 = .ok (.goto 4, 3) := by decide +kernel
theorem dX6_addGutter_52 : decode cX6_addGutter 52 = .ok (.iload_n 3, 1) := by decide +kernel
theorem dX6_addGutter_53 : decode cX6_addGutter 53 = .ok (.iastore, 1) := by decide +kernel
theorem dX6_addGutter_54 : decode cX6_addGutter 54 = .ok (.aload_n 0, 1) := by decide +kernel
theorem dX6_addGutter_55 : decode cX6_addGutter 55 = .ok (.iload 5, 2) := by decide +kernel
theorem dX6_addGutter_57 : decode cX6_addGutter 57 = .ok (.iconst 3, 1) := by decide +kernel
theorem dX6_addGutter_58 : decode cX6_addGutter 58 = .ok (.iadd, 1) := by decide +kernel
theorem dX6_addGutter_59 : decode cX6_addGutter 59 = .ok (.iload 6, 2) := by decide +kernel
theorem dX6_addGutter_61 : decode cX6_addGutter 61 = .ok (.ifCond .eq 7, 3) := by decide +kernel
theorem dX6_addGutter_64 : decode cX6_addGutter 64 = .ok (.iconst (-1), 1) := by decide +kernel
theorem dX6_addGutter_65 : decode cX6_addGutter 65 = .ok (.goto 5, 3) := by decide +kernel
theorem dX6_addGutter_68 : decode cX6_addGutter 68 = .ok (.iload 4, 2) := by decide +kernel
theorem dX6_addGutter_70 : decode cX6_addGutter 70 = .ok (.iastore, 1) := by decide +kernel
theorem dX6_addGutter_71 : decode cX6_addGutter 71 = .ok (.aload_n 0, 1) := by decide +kernel
theorem dX6_addGutter_72 : decode cX6_addGutter 72 = .ok (.sipush 146, 3) := by decide +kernel
theorem dX6_addGutter_75 : decode cX6_addGutter 75 = .ok (.dup2, 1) := by decide +kernel
theorem dX6_addGutter_76 : decode cX6_addGutter 76 = .ok (.iaload, 1) := by decide +kernel
theorem dX6_addGutter_77 : decode cX6_addGutter 77 = .ok (.iconst 1, 1) := by decide +kernel
theorem dX6_addGutter_78 : decode cX6_addGutter 78 = .ok (.iadd, 1) := by decide +kernel
theorem dX6_addGutter_79 : decode cX6_addGutter 79 = .ok (.iastore, 1) := by decide +kernel
theorem dX6_addGutter_80 : decode cX6_addGutter 80 = .ok (.aload_n 0, 1) := by decide +kernel
theorem dX6_addGutter_81 : decode cX6_addGutter 81 = .ok (.sipush 146, 3) := by decide +kernel
theorem dX6_addGutter_84 : decode cX6_addGutter 84 = .ok (.iaload, 1) := by decide +kernel
theorem dX6_addGutter_85 : decode cX6_addGutter 85 = .ok (.iconst 1, 1) := by decide +kernel
theorem dX6_addGutter_86 : decode cX6_addGutter 86 = .ok (.isub, 1) := by decide +kernel
theorem dX6_addGutter_87 : decode cX6_addGutter 87 = .ok (.ireturn, 1) := by decide +kernel
theorem dX6_addBoat_0 : decode cX6_addBoat 0 = .ok (.aload_n 0, 1) := by decide +kernel
theorem dX6_addBoat_1 : decode cX6_addBoat 1 = .ok (.sipush 147, 3) := by decide +kernel
theorem dX6_addBoat_4 : decode cX6_addBoat 4 = .ok (.iaload, 1) := by decide +kernel
theorem dX6_addBoat_5 : decode cX6_addBoat 5 = .ok (.invokestatic 60, 3) := by decide +kernel
theorem dX6_addBoat_8 : decode cX6_addBoat 8 = .ok (.istore 4, 2) := by decide +kernel
theorem dX6_addBoat_10 : decode cX6_addBoat 10 = .ok (.iconst 0, 1) := by decide +kernel
theorem dX6_addBoat_11 : decode cX6_addBoat 11 = .ok (.istore 5, 2) := by decide +kernel
theorem dX6_addBoat_13 : decode cX6_addBoat 13 = .ok (.iload 5, 2) := by decide +kernel
theorem dX6_addBoat_15 : decode cX6_addBoat 15 = .ok (.bipush 10, 2) := by decide +kernel
theorem dX6_addBoat_17 : decode cX6_addBoat 17 = .ok (.if_icmp .ge 17, 3) := by decide +kernel
theorem dX6_addBoat_20 : decode cX6_addBoat 20 = .ok (.aload_n 0, 1) := by decide +kernel
theorem dX6_addBoat_21 : decode cX6_addBoat 21 = .ok (.iload 4, 2) := by decide +kernel
theorem dX6_addBoat_23 : decode cX6_addBoat 23 = .ok (.iload 5, 2) := by decide +kernel
theorem dX6_addBoat_25 : decode cX6_addBoat 25 = .ok (.iadd, 1) := by decide +kernel
theorem dX6_addBoat_26 : decode cX6_addBoat 26 = .ok (.iconst 0, 1) := by decide +kernel
theorem dX6_addBoat_27 : decode cX6_addBoat 27 = .ok (.iastore, 1) := by decide +kernel
theorem dX6_addBoat_28 : decode cX6_addBoat 28 = .ok (.iinc 5 1, 3) := by decide +kernel
theorem dX6_addBoat_31 : decode cX6_addBoat 31 = .ok (.goto (-18), 3) := by decide +kernel
theorem dX6_addBoat_34 : decode cX6_addBoat 34 = .ok (.aload_n 0, 1) := by decide +kernel
theorem dX6_addBoat_35 : decode cX6_addBoat 35 = .ok (.iload 4, 2) := by decide +kernel
theorem dX6_addBoat_37 : decode cX6_addBoat 37 = .ok (.iconst 0, 1) := by decide +kernel
theorem dX6_addBoat_38 : decode cX6_addBoat 38 = .ok (.iadd, 1) := by decide +kernel
theorem dX6_addBoat_39 : decode cX6_addBoat 39 = .ok (.iload_n 1, 1) := by decide +kernel
theorem dX6_addBoat_40 : decode cX6_addBoat 40 = .ok (.iastore, 1) := by decide +kernel
theorem dX6_addBoat_41 : decode cX6_addBoat 41 = .ok (.aload_n 0, 1) := by decide +kernel
theorem dX6_addBoat_42 : decode cX6_addBoat 42 = .ok (.iload 4, 2) := by decide +kernel
theorem dX6_addBoat_44 : decode cX6_addBoat 44 = .ok (.iconst 1, 1) := by decide +kernel
theorem dX6_addBoat_45 : decode cX6_addBoat 45 = .ok (.iadd, 1) := by decide +kernel
theorem dX6_addBoat_46 : decode cX6_addBoat 46 = .ok (.iload_n 2, 1) := by decide +kernel
theorem dX6_addBoat_47 : decode cX6_addBoat 47 = .ok (.iastore, 1) := by decide +kernel
theorem dX6_addBoat_48 : decode cX6_addBoat 48 = .ok (.aload_n 0, 1) := by decide +kernel
theorem dX6_addBoat_49 : decode cX6_addBoat 49 = .ok (.iload 4, 2) := by decide +kernel
theorem dX6_addBoat_51 : decode cX6_addBoat 51 = .ok (.iconst 2, 1) := by decide +kernel
theorem dX6_addBoat_52 : decode cX6_addBoat 52 = .ok (.iadd, 1) := by decide +kernel
theorem dX6_addBoat_53 : decode cX6_addBoat 53 = .ok (.iload_n 3, 1) := by decide +kernel
theorem dX6_addBoat_54 : decode cX6_addBoat 54 = .ok (.iastore, 1) := by decide +kernel
theorem dX6_addBoat_55 : decode cX6_addBoat 55 = .ok (.aload_n 0, 1) := by decide +kernel
theorem dX6_addBoat_56 : decode cX6_addBoat 56 = .ok (.sipush 147, 3) := by decide +kernel
theorem dX6_addBoat_59 : decode cX6_addBoat 59 = .ok (.dup2, 1) := by decide +kernel
theorem dX6_addBoat_60 : decode cX6_addBoat 60 = .ok (.iaload, 1) := by decide +kernel
theorem dX6_addBoat_61 : decode cX6_addBoat 61 = .ok (.iconst 1, 1) := by decide +kernel
theorem dX6_addBoat_62 : decode cX6_addBoat 62 = .ok (.iadd, 1) := by decide +kernel
theorem dX6_addBoat_63 : decode cX6_addBoat 63 = .ok (.iastore, 1) := by decide +kernel
theorem dX6_addBoat_64 : decode cX6_addBoat 64 = .ok (.aload_n 0, 1) := by decide +kernel
theorem dX6_addBoat_65 : decode cX6_addBoat 65 = .ok (.sipush 147, 3) := by decide +kernel
theorem dX6_addBoat_68 : decode cX6_addBoat 68 = .ok (.iaload, 1) := by decide +kernel
theorem dX6_addBoat_69 : decode cX6_addBoat 69 = .ok (.iconst 1, 1) := by decide +kernel
theorem dX6_addBoat_70 : decode cX6_addBoat 70 = .ok (.isub, 1) := by decide +kernel
theorem dX6_addBoat_71 : decode cX6_addBoat 71 = .ok (.ireturn, 1) := by decide +kernel
theorem dX6_goLaunch_0 : decode cX6_goLaunch 0 = .ok (.aload_n 0, 1) := by decide +kernel
theorem dX6_goLaunch_1 : decode cX6_goLaunch 1 = .ok (.iconst 1, 1) := by decide +kernel
theorem dX6_goLaunch_2 : decode cX6_goLaunch 2 = .ok (.invokestatic 82, 3) := by decide +kernel
theorem dX6_goLaunch_5 : decode cX6_goLaunch 5 = .ok (.aload_n 0, 1) := by decide +kernel
theorem dX6_goLaunch_6 : decode cX6_goLaunch 6 = .ok (.iconst 2, 1) := by decide +kernel
theorem dX6_goLaunch_7 : decode cX6_goLaunch 7 = .ok (.invokestatic 82, 3) := by decide +kernel
theorem dX6_goLaunch_10 : decode cX6_goLaunch 10 = .ok (.iadd, 1) := by decide +kernel
theorem dX6_goLaunch_11 : decode cX6_goLaunch 11 = .ok (.ifCond .ne 24, 3) := by decide +kernel
theorem dX6_goLaunch_14 : decode cX6_goLaunch 14 = .ok (.aload_n 0, 1) := by decide +kernel
theorem dX6_goLaunch_15 : decode cX6_goLaunch 15 = .ok (.sipush 149, 3) := by decide +kernel
theorem dX6_goLaunch_18 : decode cX6_goLaunch 18 = .ok (.dup2, 1) := by decide +kernel
theorem dX6_goLaunch_19 : decode cX6_goLaunch 19 = .ok (.iaload, 1) := by decide +kernel
theorem dX6_goLaunch_20 : decode cX6_goLaunch 20 = .ok (.iconst 1, 1) := by decide +kernel
theorem dX6_goLaunch_21 : decode cX6_goLaunch 21 = .ok (.iadd, 1) := by decide +kernel
theorem dX6_goLaunch_22 : decode cX6_goLaunch 22 = .ok (.iastore, 1) := by decide +kernel
theorem dX6_goLaunch_23 : decode cX6_goLaunch 23 = .ok (.aload_n 0, 1) := by decide +kernel
theorem dX6_goLaunch_24 : decode cX6_goLaunch 24 = .ok (.sipush 150, 3) := by decide +kernel
theorem dX6_goLaunch_27 : decode cX6_goLaunch 27 = .ok (.iconst 1, 1) := by decide +kernel
theorem dX6_goLaunch_28 : decode cX6_goLaunch 28 = .ok (.iastore, 1) := by decide +kernel
theorem dX6_goLaunch_29 : decode cX6_goLaunch 29 = .ok (.aload_n 0, 1) := by decide +kernel
theorem dX6_goLaunch_30 : decode cX6_goLaunch 30 = .ok (.sipush 153, 3) := by decide +kernel
theorem dX6_goLaunch_33 : decode cX6_goLaunch 33 = .ok (.iconst 0, 1) := by decide +kernel
theorem dX6_goLaunch_34 : decode cX6_goLaunch 34 = .ok (.iastore, 1) := by decide +kernel
theorem dX6_goLaunch_35 : decode cX6_goLaunch 35 = .ok (.aload_n 0, 1) := by decide +kernel
theorem dX6_goLaunch_36 : decode cX6_goLaunch 36 = .ok (.iload_n 1, 1) := by decide +kernel
theorem dX6_goLaunch_37 : decode cX6_goLaunch 37 = .ok (.invokestatic 60, 3) := by decide +kernel
theorem dX6_goLaunch_40 : decode cX6_goLaunch 40 = .ok (.iconst 3, 1) := by decide +kernel
theorem dX6_goLaunch_41 : decode cX6_goLaunch 41 = .ok (.iadd, 1) := by decide +kernel
theorem dX6_goLaunch_42 : decode cX6_goLaunch 42 = .ok (.iconst 1, 1) := by decide +kernel
theorem dX6_goLaunch_43 : decode cX6_goLaunch 43 = .ok (.iastore, 1) := by decide +kernel
theorem dX6_goLaunch_44 : decode cX6_goLaunch 44 = .ok (.aload_n 0, 1) := by decide +kernel
theorem dX6_goLaunch_45 : decode cX6_goLaunch 45 = .ok (.iload_n 1, 1) := by decide +kernel
theorem dX6_goLaunch_46 : decode cX6_goLaunch 46 = .ok (.invokestatic 60, 3) := by decide +kernel
theorem dX6_goLaunch_49 : decode cX6_goLaunch 49 = .ok (.iconst 4, 1) := by decide +kernel
theorem dX6_goLaunch_50 : decode cX6_goLaunch 50 = .ok (.iadd, 1) := by decide +kernel
theorem dX6_goLaunch_51 : decode cX6_goLaunch 51 = .ok (.iload_n 2, 1) := by decide +kernel
theorem dX6_goLaunch_52 : decode cX6_goLaunch 52 = .ok (.iastore, 1) := by decide +kernel
theorem dX6_goLaunch_53 : decode cX6_goLaunch 53 = .ok (.aload_n 0, 1) := by decide +kernel
theorem dX6_goLaunch_54 : decode cX6_goLaunch 54 = .ok (.iload_n 1, 1) := by decide +kernel
theorem dX6_goLaunch_55 : decode cX6_goLaunch 55 = .ok (.invokestatic 60, 3) := by decide +kernel
theorem dX6_goLaunch_58 : decode cX6_goLaunch 58 = .ok (.iconst 5, 1) := by decide +kernel
theorem dX6_goLaunch_59 : decode cX6_goLaunch 59 = .ok (.iadd, 1) := by decide +kernel
theorem dX6_goLaunch_60 : decode cX6_goLaunch 60 = .ok (.iconst 0, 1) := by decide +kernel
theorem dX6_goLaunch_61 : decode cX6_goLaunch 61 = .ok (.iastore, 1) := by decide +kernel
theorem dX6_goLaunch_62 : decode cX6_goLaunch 62 = .ok (.aload_n 0, 1) := by decide +kernel
theorem dX6_goLaunch_63 : decode cX6_goLaunch 63 = .ok (.iload_n 1, 1) := by decide +kernel
theorem dX6_goLaunch_64 : decode cX6_goLaunch 64 = .ok (.invokestatic 60, 3) := by decide +kernel
theorem dX6_goLaunch_67 : decode cX6_goLaunch 67 = .ok (.bipush 6, 2) := by decide +kernel
theorem dX6_goLaunch_69 : decode cX6_goLaunch 69 = .ok (.iadd, 1) := by decide +kernel
theorem dX6_goLaunch_70 : decode cX6_goLaunch 70 = .ok (.iconst 0, 1) := by decide +kernel
theorem dX6_goLaunch_71 : decode cX6_goLaunch 71 = .ok (.iastore, 1) := by decide +kernel
theorem dX6_goLaunch_72 : decode cX6_goLaunch 72 = .ok (.aload_n 0, 1) := by decide +kernel
theorem dX6_goLaunch_73 : decode cX6_goLaunch 73 = .ok (.iload_n 2, 1) := by decide +kernel
theorem dX6_goLaunch_74 : decode cX6_goLaunch 74 = .ok (.iconst 0, 1) := by decide +kernel
theorem dX6_goLaunch_75 : decode cX6_goLaunch 75 = .ok (.invokestatic 108, 3) := by decide +kernel
theorem dX6_goLaunch_78 : decode cX6_goLaunch 78 = .ok (.ireturn, 1) := by decide +kernel
theorem dX6_put_0 : decode cX6_put 0 = .ok (.aload_n 0, 1) := by decide +kernel
theorem dX6_put_1 : decode cX6_put 1 = .ok (.iload_n 1, 1) := by decide +kernel
theorem dX6_put_2 : decode cX6_put 2 = .ok (.iaload, 1) := by decide +kernel
theorem dX6_put_3 : decode cX6_put 3 = .ok (.istore_n 3, 1) := by decide +kernel
theorem dX6_put_4 : decode cX6_put 4 = .ok (.aload_n 0, 1) := by decide +kernel
theorem dX6_put_5 : decode cX6_put 5 = .ok (.iload_n 1, 1) := by decide +kernel
theorem dX6_put_6 : decode cX6_put 6 = .ok (.iload_n 2, 1) := by decide +kernel
theorem dX6_put_7 : decode cX6_put 7 = .ok (.iastore, 1) := by decide +kernel
theorem dX6_put_8 : decode cX6_put 8 = .ok (.iload_n 3, 1) := by decide +kernel
theorem dX6_put_9 : decode cX6_put 9 = .ok (.ireturn, 1) := by decide +kernel
theorem dX6_flowsInto_0 : decode cX6_flowsInto 0 = .ok (.aload_n 0, 1) := by decide +kernel
theorem dX6_flowsInto_1 : decode cX6_flowsInto 1 = .ok (.sipush 146, 3) := by decide +kernel
theorem dX6_flowsInto_4 : decode cX6_flowsInto 4 = .ok (.iaload, 1) := by decide +kernel
theorem dX6_flowsInto_5 : decode cX6_flowsInto 5 = .ok (.ifCond .eq 12, 3) := by decide +kernel
theorem dX6_flowsInto_8 : decode cX6_flowsInto 8 = .ok (.aload_n 0, 1) := by decide +kernel
theorem dX6_flowsInto_9 : decode cX6_flowsInto 9 = .ok (.iload_n 1, 1) := by decide +kernel
theorem dX6_flowsInto_10 : decode cX6_flowsInto 10 = .ok (.iload_n 2, 1) := by decide +kernel
theorem dX6_flowsInto_11 : decode cX6_flowsInto 11 = .ok (.invokestatic 111, 3) := by decide +kernel
theorem dX6_flowsInto_14 : decode cX6_flowsInto 14 = .ok (.ifCond .eq 7, 3) := by decide +kernel
theorem dX6_flowsInto_17 : decode cX6_flowsInto 17 = .ok (.iconst 1, 1) := by decide +kernel
theorem dX6_flowsInto_18 : decode cX6_flowsInto 18 = .ok (.goto 4, 3) := by decide +kernel
theorem dX6_flowsInto_21 : decode cX6_flowsInto 21 = .ok (.iconst 0, 1) := by decide +kernel
theorem dX6_flowsInto_22 : decode cX6_flowsInto 22 = .ok (.ireturn, 1) := by decide +kernel
theorem dX6_remember_0 : decode cX6_remember 0 = .ok (.aload_n 0, 1) := by decide +kernel
theorem dX6_remember_1 : decode cX6_remember 1 = .ok (.getfield 114, 3) := by decide +kernel
theorem dX6_remember_4 : decode cX6_remember 4 = .ok (.bipush 14, 2) := by decide +kernel
theorem dX6_remember_6 : decode cX6_remember 6 = .ok (.if_icmp .ne 44, 3) := by decide +kernel
theorem dX6_remember_9 : decode cX6_remember 9 = .ok (.iconst 0, 1) := by decide +kernel
theorem dX6_remember_10 : decode cX6_remember 10 = .ok (.istore_n 1, 1) := by decide +kernel
theorem dX6_remember_11 : decode cX6_remember 11 = .ok (.iload_n 1, 1) := by decide +kernel
theorem dX6_remember_12 : decode cX6_remember 12 = .ok (.sipush 2041, 3) := by decide +kernel
theorem dX6_remember_15 : decode cX6_remember 15 = .ok (.if_icmp .ge 25, 3) := by decide +kernel
theorem dX6_remember_18 : decode cX6_remember 18 = .ok (.aload_n 0, 1) := by decide +kernel
theorem dX6_remember_19 : decode cX6_remember 19 = .ok (.getfield 19, 3) := by decide +kernel
theorem dX6_remember_22 : decode cX6_remember 22 = .ok (.iload_n 1, 1) := by decide +kernel
theorem dX6_remember_23 : decode cX6_remember 23 = .ok (.aload_n 0, 1) := by decide +kernel
theorem dX6_remember_24 : decode cX6_remember 24 = .ok (.getfield 19, 3) := by decide +kernel
theorem dX6_remember_27 : decode cX6_remember 27 = .ok (.sipush 157, 3) := by decide +kernel
theorem dX6_remember_30 : decode cX6_remember 30 = .ok (.iload_n 1, 1) := by decide +kernel
theorem dX6_remember_31 : decode cX6_remember 31 = .ok (.iadd, 1) := by decide +kernel
theorem dX6_remember_32 : decode cX6_remember 32 = .ok (.iaload, 1) := by decide +kernel
theorem dX6_remember_33 : decode cX6_remember 33 = .ok (.iastore, 1) := by decide +kernel
theorem dX6_remember_34 : decode cX6_remember 34 = .ok (.iinc 1 1, 3) := by decide +kernel
theorem dX6_remember_37 : decode cX6_remember 37 = .ok (.goto (-26), 3) := by decide +kernel
theorem dX6_remember_40 : decode cX6_remember 40 = .ok (.aload_n 0, 1) := by decide +kernel
theorem dX6_remember_41 : decode cX6_remember 41 = .ok (.dup, 1) := by decide +kernel
theorem dX6_remember_42 : decode cX6_remember 42 = .ok (.getfield 114, 3) := by decide +kernel
theorem dX6_remember_45 : decode cX6_remember 45 = .ok (.iconst 1, 1) := by decide +kernel
theorem dX6_remember_46 : decode cX6_remember 46 = .ok (.isub, 1) := by decide +kernel
theorem dX6_remember_47 : decode cX6_remember 47 = .ok (.putfield 114, 3) := by decide +kernel
theorem dX6_remember_50 : decode cX6_remember 50 = .ok (.iconst 0, 1) := by decide +kernel
theorem dX6_remember_51 : decode cX6_remember 51 = .ok (.istore_n 1, 1) := by decide +kernel
theorem dX6_remember_52 : decode cX6_remember 52 = .ok (.iload_n 1, 1) := by decide +kernel
theorem dX6_remember_53 : decode cX6_remember 53 = .ok (.sipush 157, 3) := by decide +kernel
theorem dX6_remember_56 : decode cX6_remember 56 = .ok (.if_icmp .ge 30, 3) := by decide +kernel
theorem dX6_remember_59 : decode cX6_remember 59 = .ok (.aload_n 0, 1) := by decide +kernel
theorem dX6_remember_60 : decode cX6_remember 60 = .ok (.getfield 19, 3) := by decide +kernel
theorem dX6_remember_63 : decode cX6_remember 63 = .ok (.sipush 157, 3) := by decide +kernel
theorem dX6_remember_66 : decode cX6_remember 66 = .ok (.aload_n 0, 1) := by decide +kernel
theorem dX6_remember_67 : decode cX6_remember 67 = .ok (.getfield 114, 3) := by decide +kernel
theorem dX6_remember_70 : decode cX6_remember 70 = .ok (.imul, 1) := by decide +kernel
theorem dX6_remember_71 : decode cX6_remember 71 = .ok (.iload_n 1, 1) := by decide +kernel
theorem dX6_remember_72 : decode cX6_remember 72 = .ok (.iadd, 1) := by decide +kernel
theorem dX6_remember_73 : decode cX6_remember 73 = .ok (.aload_n 0, 1) := by decide +kernel
theorem dX6_remember_74 : decode cX6_remember 74 = .ok (.getfield 7, 3) := by decide +kernel
theorem dX6_remember_77 : decode cX6_remember 77 = .ok (.iload_n 1, 1) := by decide +kernel
theorem dX6_remember_78 : decode cX6_remember 78 = .ok (.iaload, 1) := by decide +kernel
theorem dX6_remember_79 : decode cX6_remember 79 = .ok (.iastore, 1) := by decide +kernel
theorem dX6_remember_80 : decode cX6_remember 80 = .ok (.iinc 1 1, 3) := by decide +kernel
theorem dX6_remember_83 : decode cX6_remember 83 = .ok (.goto (-31), 3) := by decide +kernel
theorem dX6_remember_86 : decode cX6_remember 86 = .ok (.aload_n 0, 1) := by decide +kernel
theorem dX6_remember_87 : decode cX6_remember 87 = .ok (.dup, 1) := by decide +kernel
theorem dX6_remember_88 : decode cX6_remember 88 = .ok (.getfield 114, 3) := by decide +kernel
theorem dX6_remember_91 : decode cX6_remember 91 = .ok (.iconst 1, 1) := by decide +kernel
theorem dX6_remember_92 : decode cX6_remember 92 = .ok (.iadd, 1) := by decide +kernel
theorem dX6_remember_93 : decode cX6_remember 93 = .ok (.putfield 114, 3) := by decide +kernel
theorem dX6_remember_96 : decode cX6_remember 96 = .ok (.return_, 1) := by decide +kernel
theorem dX6_append_0 : decode cX6_append 0 = .ok (.aload_n 0, 1) := by decide +kernel
theorem dX6_append_1 : decode cX6_append 1 = .ok (.iload_n 1, 1) := by decide +kernel
theorem dX6_append_2 : decode cX6_append 2 = .ok (.i2l, 1) := by decide +kernel
theorem dX6_append_3 : decode cX6_append 3 = .ok (.lconst 0, 1) := by decide +kernel
theorem dX6_append_4 : decode cX6_append 4 = .ok (.ldc2_w 117, 3) := by decide +kernel
theorem dX6_append_7 : decode cX6_append 7 = .ok (.invokestatic 42, 3) := by decide +kernel
theorem dX6_append_10 : decode cX6_append 10 = .ok (.ifCond .ne 7, 3) := by decide +kernel
theorem dX6_append_13 : decode cX6_append 13 = .ok (.iconst 1, 1) := by decide +kernel
theorem dX6_append_14 : decode cX6_append 14 = .ok (.goto 17, 3) := by decide +kernel
theorem dX6_append_17 : decode cX6_append 17 = .ok (.aload_n 0, 1) := by decide +kernel
theorem dX6_append_18 : decode cX6_append 18 = .ok (.getfield 119, 3) := by decide +kernel
theorem dX6_append_21 : decode cX6_append 21 = .ok (.bipush 120, 2) := by decide +kernel
theorem dX6_append_23 : decode cX6_append 23 = .ok (.if_icmp .ne 7, 3) := by decide +kernel
theorem dX6_append_26 : decode cX6_append 26 = .ok (.iconst 2, 1) := by decide +kernel
theorem dX6_append_27 : decode cX6_append 27 = .ok (.goto 4, 3) := by decide +kernel
theorem dX6_append_30 : decode cX6_append 30 = .ok (.iconst 0, 1) := by decide +kernel
theorem dX6_append_31 : decode cX6_append 31 = .ok (.invokevirtual 122, 3) := by decide +kernel
theorem dX6_append_34 : decode cX6_append 34 = .ok (.ifCond .eq 5, 3) := by decide +kernel
theorem dX6_append_37 : decode cX6_append 37 = .ok (.iconst 0, 1) := by decide +kernel
theorem dX6_append_38 : decode cX6_append 38 = .ok (.ireturn, 1) := by decide +kernel
theorem dX6_append_39 : decode cX6_append 39 = .ok (.aload_n 0, 1) := by decide +kernel
theorem dX6_append_40 : decode cX6_append 40 = .ok (.getfield 29, 3) := by decide +kernel
theorem dX6_append_43 : decode cX6_append 43 = .ok (.aload_n 0, 1) := by decide +kernel
theorem dX6_append_44 : decode cX6_append 44 = .ok (.getfield 119, 3) := by decide +kernel
theorem dX6_append_47 : decode cX6_append 47 = .ok (.iload_n 1, 1) := by decide +kernel
theorem dX6_append_48 : decode cX6_append 48 = .ok (.iastore, 1) := by decide +kernel
theorem dX6_append_49 : decode cX6_append 49 = .ok (.aload_n 0, 1) := by decide +kernel
theorem dX6_append_50 : decode cX6_append 50 = .ok (.dup, 1) := by decide +kernel
theorem dX6_append_51 : decode cX6_append 51 = .ok (.getfield 119, 3) := by decide +kernel
theorem dX6_append_54 : decode cX6_append 54 = .ok (.iconst 1, 1) := by decide +kernel
theorem dX6_append_55 : decode cX6_append 55 = .ok (.iadd, 1) := by decide +kernel
theorem dX6_append_56 : decode cX6_append 56 = .ok (.putfield 119, 3) := by decide +kernel
theorem dX6_append_59 : decode cX6_append 59 = .ok (.aload_n 0, 1) := by decide +kernel
theorem dX6_append_60 : decode cX6_append 60 = .ok (.getfield 119, 3) := by decide +kernel
theorem dX6_append_63 : decode cX6_append 63 = .ok (.ireturn, 1) := by decide +kernel
theorem dX6_clearText_0 : decode cX6_clearText 0 = .ok (.aload_n 0, 1) := by decide +kernel
theorem dX6_clearText_1 : decode cX6_clearText 1 = .ok (.iconst 0, 1) := by decide +kernel
theorem dX6_clearText_2 : decode cX6_clearText 2 = .ok (.putfield 36, 3) := by decide +kernel
theorem dX6_clearText_5 : decode cX6_clearText 5 = .ok (.aload_n 0, 1) := by decide +kernel
theorem dX6_clearText_6 : decode cX6_clearText 6 = .ok (.getfield 119, 3) := by decide +kernel
theorem dX6_clearText_9 : decode cX6_clearText 9 = .ok (.istore_n 1, 1) := by decide +kernel
theorem dX6_clearText_10 : decode cX6_clearText 10 = .ok (.aload_n 0, 1) := by decide +kernel
theorem dX6_clearText_11 : decode cX6_clearText 11 = .ok (.iconst 0, 1) := by decide +kernel
theorem dX6_clearText_12 : decode cX6_clearText 12 = .ok (.putfield 119, 3) := by decide +kernel
theorem dX6_clearText_15 : decode cX6_clearText 15 = .ok (.iload_n 1, 1) := by decide +kernel
theorem dX6_clearText_16 : decode cX6_clearText 16 = .ok (.ireturn, 1) := by decide +kernel
theorem dX6_here_0 : decode cX6_here 0 = .ok (.aload_n 0, 1) := by decide +kernel
theorem dX6_here_1 : decode cX6_here 1 = .ok (.getfield 126, 3) := by decide +kernel
theorem dX6_here_4 : decode cX6_here 4 = .ok (.aload_n 0, 1) := by decide +kernel
theorem dX6_here_5 : decode cX6_here 5 = .ok (.getfield 119, 3) := by decide +kernel
theorem dX6_here_8 : decode cX6_here 8 = .ok (.if_icmp .ge 15, 3) := by decide +kernel
theorem dX6_here_11 : decode cX6_here 11 = .ok (.aload_n 0, 1) := by decide +kernel
theorem dX6_here_12 : decode cX6_here 12 = .ok (.getfield 29, 3) := by decide +kernel
theorem dX6_here_15 : decode cX6_here 15 = .ok (.aload_n 0, 1) := by decide +kernel
theorem dX6_here_16 : decode cX6_here 16 = .ok (.getfield 126, 3) := by decide +kernel
theorem dX6_here_19 : decode cX6_here 19 = .ok (.iaload, 1) := by decide +kernel
theorem dX6_here_20 : decode cX6_here 20 = .ok (.goto 4, 3) := by decide +kernel
theorem dX6_here_23 : decode cX6_here 23 = .ok (.iconst (-1), 1) := by decide +kernel
theorem dX6_here_24 : decode cX6_here 24 = .ok (.ireturn, 1) := by decide +kernel
theorem dX6_take_0 : decode cX6_take 0 = .ok (.aload_n 0, 1) := by decide +kernel
theorem dX6_take_1 : decode cX6_take 1 = .ok (.aload_n 0, 1) := by decide +kernel
theorem dX6_take_2 : decode cX6_take 2 = .ok (.getfield 129, 3) := by decide +kernel
theorem dX6_take_5 : decode cX6_take 5 = .ok (.ifCond .eq 11, 3) := by decide +kernel
theorem dX6_take_8 : decode cX6_take 8 = .ok (.iload_n 1, 1) := by decide +kernel
theorem dX6_take_9 : decode cX6_take 9 = .ok (.ifCond .eq 7, 3) := by decide +kernel
theorem dX6_take_12 : decode cX6_take 12 = .ok (.iconst 1, 1) := by decide +kernel
theorem dX6_take_13 : decode cX6_take 13 = .ok (.goto 4, 3) := by decide +kernel
theorem dX6_take_16 : decode cX6_take 16 = .ok (.iconst 0, 1) := by decide +kernel
theorem dX6_take_17 : decode cX6_take 17 = .ok (.putfield 129, 3) := by decide +kernel
theorem dX6_take_20 : decode cX6_take 20 = .ok (.aload_n 0, 1) := by decide +kernel
theorem dX6_take_21 : decode cX6_take 21 = .ok (.dup, 1) := by decide +kernel
theorem dX6_take_22 : decode cX6_take 22 = .ok (.getfield 126, 3) := by decide +kernel
theorem dX6_take_25 : decode cX6_take 25 = .ok (.aload_n 0, 1) := by decide +kernel
theorem dX6_take_26 : decode cX6_take 26 = .ok (.getfield 129, 3) := by decide +kernel
theorem dX6_take_29 : decode cX6_take 29 = .ok (.ifCond .eq 7, 3) := by decide +kernel
theorem dX6_take_32 : decode cX6_take 32 = .ok (.iconst 1, 1) := by decide +kernel
theorem dX6_take_33 : decode cX6_take 33 = .ok (.goto 4, 3) := by decide +kernel
theorem dX6_take_36 : decode cX6_take 36 = .ok (.iconst 0, 1) := by decide +kernel
theorem dX6_take_37 : decode cX6_take 37 = .ok (.iadd, 1) := by decide +kernel
theorem dX6_take_38 : decode cX6_take 38 = .ok (.putfield 126, 3) := by decide +kernel
theorem dX6_take_41 : decode cX6_take 41 = .ok (.return_, 1) := by decide +kernel
theorem dX6_digit_0 : decode cX6_digit 0 = .ok (.aload_n 0, 1) := by decide +kernel
theorem dX6_digit_1 : decode cX6_digit 1 = .ok (.invokevirtual 133, 3) := by decide +kernel
theorem dX6_digit_4 : decode cX6_digit 4 = .ok (.bipush 48, 2) := by decide +kernel
theorem dX6_digit_6 : decode cX6_digit 6 = .ok (.isub, 1) := by decide +kernel
theorem dX6_digit_7 : decode cX6_digit 7 = .ok (.istore_n 3, 1) := by decide +kernel
theorem dX6_digit_8 : decode cX6_digit 8 = .ok (.aload_n 0, 1) := by decide +kernel
theorem dX6_digit_9 : decode cX6_digit 9 = .ok (.iload_n 3, 1) := by decide +kernel
theorem dX6_digit_10 : decode cX6_digit 10 = .ok (.i2l, 1) := by decide +kernel
theorem dX6_digit_11 : decode cX6_digit 11 = .ok (.iload_n 1, 1) := by decide +kernel
theorem dX6_digit_12 : decode cX6_digit 12 = .ok (.i2l, 1) := by decide +kernel
theorem dX6_digit_13 : decode cX6_digit 13 = .ok (.iload_n 2, 1) := by decide +kernel
theorem dX6_digit_14 : decode cX6_digit 14 = .ok (.i2l, 1) := by decide +kernel
theorem dX6_digit_15 : decode cX6_digit 15 = .ok (.invokestatic 42, 3) := by decide +kernel
theorem dX6_digit_18 : decode cX6_digit 18 = .ok (.invokevirtual 137, 3) := by decide +kernel
theorem dX6_digit_21 : decode cX6_digit 21 = .ok (.aload_n 0, 1) := by decide +kernel
theorem dX6_digit_22 : decode cX6_digit 22 = .ok (.getfield 129, 3) := by decide +kernel
theorem dX6_digit_25 : decode cX6_digit 25 = .ok (.ifCond .eq 7, 3) := by decide +kernel
theorem dX6_digit_28 : decode cX6_digit 28 = .ok (.iload_n 3, 1) := by decide +kernel
theorem dX6_digit_29 : decode cX6_digit 29 = .ok (.goto 4, 3) := by decide +kernel
theorem dX6_digit_32 : decode cX6_digit 32 = .ok (.iload_n 1, 1) := by decide +kernel
theorem dX6_digit_33 : decode cX6_digit 33 = .ok (.ireturn, 1) := by decide +kernel
theorem dX6_two_0 : decode cX6_two 0 = .ok (.aload_n 0, 1) := by decide +kernel
theorem dX6_two_1 : decode cX6_two 1 = .ok (.iload_n 1, 1) := by decide +kernel
theorem dX6_two_2 : decode cX6_two 2 = .ok (.bipush 10, 2) := by decide +kernel
theorem dX6_two_4 : decode cX6_two 4 = .ok (.idiv, 1) := by decide +kernel
theorem dX6_two_5 : decode cX6_two 5 = .ok (.iload_n 2, 1) := by decide +kernel
theorem dX6_two_6 : decode cX6_two 6 = .ok (.bipush 10, 2) := by decide +kernel
theorem dX6_two_8 : decode cX6_two 8 = .ok (.idiv, 1) := by decide +kernel
theorem dX6_two_9 : decode cX6_two 9 = .ok (.invokevirtual 141, 3) := by decide +kernel
theorem dX6_two_12 : decode cX6_two 12 = .ok (.istore_n 3, 1) := by decide +kernel
theorem dX6_two_13 : decode cX6_two 13 = .ok (.bipush 10, 2) := by decide +kernel
theorem dX6_two_15 : decode cX6_two 15 = .ok (.iload_n 3, 1) := by decide +kernel
theorem dX6_two_16 : decode cX6_two 16 = .ok (.imul, 1) := by decide +kernel
theorem dX6_two_17 : decode cX6_two 17 = .ok (.aload_n 0, 1) := by decide +kernel
theorem dX6_two_18 : decode cX6_two 18 = .ok (.iload_n 3, 1) := by decide +kernel
theorem dX6_two_19 : decode cX6_two 19 = .ok (.iload_n 1, 1) := by decide +kernel
theorem dX6_two_20 : decode cX6_two 20 = .ok (.bipush 10, 2) := by decide +kernel
theorem dX6_two_22 : decode cX6_two 22 = .ok (.idiv, 1) := by decide +kernel
theorem dX6_two_23 : decode cX6_two 23 = .ok (.if_icmp .ne 10, 3) := by decide +kernel
theorem dX6_two_26 : decode cX6_two 26 = .ok (.iload_n 1, 1) := by decide +kernel
theorem dX6_two_27 : decode cX6_two 27 = .ok (.bipush 10, 2) := by decide +kernel
theorem dX6_two_29 : decode cX6_two 29 = .ok (.irem, 1) := by decide +kernel
theorem dX6_two_30 : decode cX6_two 30 = .ok (.goto 4, 3) := by decide +kernel
theorem dX6_two_33 : decode cX6_two 33 = .ok (.iconst 0, 1) := by decide +kernel
theorem dX6_two_34 : decode cX6_two 34 = .ok (.iload_n 3, 1) := by decide +kernel
theorem dX6_two_35 : decode cX6_two 35 = .ok (.iload_n 2, 1) := by decide +kernel
theorem dX6_two_36 : decode cX6_two 36 = .ok (.bipush 10, 2) := by decide +kernel
theorem dX6_two_38 : decode cX6_two 38 = .ok (.idiv, 1) := by decide +kernel
theorem dX6_two_39 : decode cX6_two 39 = .ok (.if_icmp .ne 10, 3) := by decide +kernel
theorem dX6_two_42 : decode cX6_two 42 = .ok (.iload_n 2, 1) := by decide +kernel
theorem dX6_two_43 : decode cX6_two 43 = .ok (.bipush 10, 2) := by decide +kernel
theorem dX6_two_45 : decode cX6_two 45 = .ok (.irem, 1) := by decide +kernel
theorem dX6_two_46 : decode cX6_two 46 = .ok (.goto 5, 3) := by decide +kernel
theorem dX6_two_49 : decode cX6_two 49 = .ok (.bipush 9, 2) := by decide +kernel
theorem dX6_two_51 : decode cX6_two 51 = .ok (.invokevirtual 141, 3) := by decide +kernel
theorem dX6_two_54 : decode cX6_two 54 = .ok (.iadd, 1) := by decide +kernel
theorem dX6_two_55 : decode cX6_two 55 = .ok (.ireturn, 1) := by decide +kernel
theorem dX6_goes_0 : decode cX6_goes 0 = .ok (.aload_n 0, 1) := by decide +kernel
theorem dX6_goes_1 : decode cX6_goes 1 = .ok (.dup, 1) := by decide +kernel
theorem dX6_goes_2 : decode cX6_goes 2 = .ok (.getfield 145, 3) := by decide +kernel
theorem dX6_goes_5 : decode cX6_goes 5 = .ok (.aload_n 0, 1) := by decide +kernel
theorem dX6_goes_6 : decode cX6_goes 6 = .ok (.getfield 129, 3) := by decide +kernel
theorem dX6_goes_9 : decode cX6_goes 9 = .ok (.ifCond .eq 11, 3) := by decide +kernel
theorem dX6_goes_12 : decode cX6_goes 12 = .ok (.iload_n 1, 1) := by decide +kernel
theorem dX6_goes_13 : decode cX6_goes 13 = .ok (.ifCond .ne 7, 3) := by decide +kernel
theorem dX6_goes_16 : decode cX6_goes 16 = .ok (.iconst 1, 1) := by decide +kernel
theorem dX6_goes_17 : decode cX6_goes 17 = .ok (.goto 4, 3) := by decide +kernel
theorem dX6_goes_20 : decode cX6_goes 20 = .ok (.iconst 0, 1) := by decide +kernel
theorem dX6_goes_21 : decode cX6_goes 21 = .ok (.iadd, 1) := by decide +kernel
theorem dX6_goes_22 : decode cX6_goes 22 = .ok (.putfield 145, 3) := by decide +kernel
theorem dX6_goes_25 : decode cX6_goes 25 = .ok (.aload_n 0, 1) := by decide +kernel
theorem dX6_goes_26 : decode cX6_goes 26 = .ok (.getfield 129, 3) := by decide +kernel
theorem dX6_goes_29 : decode cX6_goes 29 = .ok (.ifCond .eq 11, 3) := by decide +kernel
theorem dX6_goes_32 : decode cX6_goes 32 = .ok (.iload_n 1, 1) := by decide +kernel
theorem dX6_goes_33 : decode cX6_goes 33 = .ok (.ifCond .eq 7, 3) := by decide +kernel
theorem dX6_goes_36 : decode cX6_goes 36 = .ok (.iconst 1, 1) := by decide +kernel
theorem dX6_goes_37 : decode cX6_goes 37 = .ok (.goto 4, 3) := by decide +kernel
theorem dX6_goes_40 : decode cX6_goes 40 = .ok (.iconst 0, 1) := by decide +kernel
theorem dX6_goes_41 : decode cX6_goes 41 = .ok (.ireturn, 1) := by decide +kernel
theorem dX6_readGutter_0 : decode cX6_readGutter 0 = .ok (.aload_n 0, 1) := by decide +kernel
theorem dX6_readGutter_1 : decode cX6_readGutter 1 = .ok (.iconst 4, 1) := by decide +kernel
theorem dX6_readGutter_2 : decode cX6_readGutter 2 = .ok (.bipush 40, 2) := by decide +kernel
theorem dX6_readGutter_4 : decode cX6_readGutter 4 = .ok (.invokevirtual 148, 3) := by decide +kernel
theorem dX6_readGutter_7 : decode cX6_readGutter 7 = .ok (.istore_n 1, 1) := by decide +kernel
theorem dX6_readGutter_8 : decode cX6_readGutter 8 = .ok (.aload_n 0, 1) := by decide +kernel
theorem dX6_readGutter_9 : decode cX6_readGutter 9 = .ok (.iconst 0, 1) := by decide +kernel
theorem dX6_readGutter_10 : decode cX6_readGutter 10 = .ok (.iconst 5, 1) := by decide +kernel
theorem dX6_readGutter_11 : decode cX6_readGutter 11 = .ok (.invokevirtual 141, 3) := by decide +kernel
theorem dX6_readGutter_14 : decode cX6_readGutter 14 = .ok (.istore_n 2, 1) := by decide +kernel
theorem dX6_readGutter_15 : decode cX6_readGutter 15 = .ok (.aload_n 0, 1) := by decide +kernel
theorem dX6_readGutter_16 : decode cX6_readGutter 16 = .ok (.iconst 0, 1) := by decide +kernel
theorem dX6_readGutter_17 : decode cX6_readGutter 17 = .ok (.iconst 5, 1) := by decide +kernel
theorem dX6_readGutter_18 : decode cX6_readGutter 18 = .ok (.invokevirtual 141, 3) := by decide +kernel
theorem dX6_readGutter_21 : decode cX6_readGutter 21 = .ok (.istore_n 3, 1) := by decide +kernel
theorem dX6_readGutter_22 : decode cX6_readGutter 22 = .ok (.aload_n 0, 1) := by decide +kernel
theorem dX6_readGutter_23 : decode cX6_readGutter 23 = .ok (.iconst 0, 1) := by decide +kernel
theorem dX6_readGutter_24 : decode cX6_readGutter 24 = .ok (.bipush 39, 2) := by decide +kernel
theorem dX6_readGutter_26 : decode cX6_readGutter 26 = .ok (.invokevirtual 148, 3) := by decide +kernel
theorem dX6_readGutter_29 : decode cX6_readGutter 29 = .ok (.istore 4, 2) := by decide +kernel
theorem dX6_readGutter_31 : decode cX6_readGutter 31 = .ok (.aload_n 0, 1) := by decide +kernel
theorem dX6_readGutter_32 : decode cX6_readGutter 32 = .ok (.aload_n 0, 1) := by decide +kernel
theorem dX6_readGutter_33 : decode cX6_readGutter 33 = .ok (.getfield 16, 3) := by decide +kernel
theorem dX6_readGutter_36 : decode cX6_readGutter 36 = .ok (.sipush 146, 3) := by decide +kernel
theorem dX6_readGutter_39 : decode cX6_readGutter 39 = .ok (.iaload, 1) := by decide +kernel
theorem dX6_readGutter_40 : decode cX6_readGutter 40 = .ok (.bipush 6, 2) := by decide +kernel
theorem dX6_readGutter_42 : decode cX6_readGutter 42 = .ok (.if_icmp .ge 20, 3) := by decide +kernel
theorem dX6_readGutter_45 : decode cX6_readGutter 45 = .ok (.aload_n 0, 1) := by decide +kernel
theorem dX6_readGutter_46 : decode cX6_readGutter 46 = .ok (.getfield 16, 3) := by decide +kernel
theorem dX6_readGutter_49 : decode cX6_readGutter 49 = .ok (.iload_n 3, 1) := by decide +kernel
theorem dX6_readGutter_50 : decode cX6_readGutter 50 = .ok (.iload 4, 2) := by decide +kernel
theorem dX6_readGutter_52 : decode cX6_readGutter 52 = .ok (.invokestatic 151, 3) := by decide +kernel
theorem dX6_readGutter_55 : decode cX6_readGutter 55 = .ok (.ifCond .eq 7, 3) := by decide +kernel
theorem dX6_readGutter_58 : decode cX6_readGutter 58 = .ok (.iconst 1, 1) := by decide +kernel
theorem dX6_readGutter_59 : decode cX6_readGutter 59 = .ok (.goto 4, 3) := by decide +kernel
theorem dX6_readGutter_62 : decode cX6_readGutter 62 = .ok (.iconst 0, 1) := by decide +kernel
theorem dX6_readGutter_63 : decode cX6_readGutter 63 = .ok (.invokevirtual 154, 3) := by decide +kernel
theorem dX6_readGutter_66 : decode cX6_readGutter 66 = .ok (.ifCond .eq 18, 3) := by decide +kernel
theorem dX6_readGutter_69 : decode cX6_readGutter 69 = .ok (.aload_n 0, 1) := by decide +kernel
theorem dX6_readGutter_70 : decode cX6_readGutter 70 = .ok (.getfield 16, 3) := by decide +kernel
theorem dX6_readGutter_73 : decode cX6_readGutter 73 = .ok (.iload_n 1, 1) := by decide +kernel
theorem dX6_readGutter_74 : decode cX6_readGutter 74 = .ok (.iload_n 2, 1) := by decide +kernel
theorem dX6_readGutter_75 : decode cX6_readGutter 75 = .ok (.iload_n 3, 1) := by decide +kernel
theorem dX6_readGutter_76 : decode cX6_readGutter 76 = .ok (.iload 4, 2) := by decide +kernel
theorem dX6_readGutter_78 : decode cX6_readGutter 78 = .ok (.invokestatic 158, 3) := by decide +kernel
theorem dX6_readGutter_81 : decode cX6_readGutter 81 = .ok (.goto 4, 3) := by decide +kernel
theorem dX6_readGutter_84 : decode cX6_readGutter 84 = .ok (.iconst 0, 1) := by decide +kernel
theorem dX6_readGutter_85 : decode cX6_readGutter 85 = .ok (.ireturn, 1) := by decide +kernel
theorem dX6_readBoat_0 : decode cX6_readBoat 0 = .ok (.aload_n 0, 1) := by decide +kernel
theorem dX6_readBoat_1 : decode cX6_readBoat 1 = .ok (.iconst 1, 1) := by decide +kernel
theorem dX6_readBoat_2 : decode cX6_readBoat 2 = .ok (.bipush 9, 2) := by decide +kernel
theorem dX6_readBoat_4 : decode cX6_readBoat 4 = .ok (.invokevirtual 141, 3) := by decide +kernel
theorem dX6_readBoat_7 : decode cX6_readBoat 7 = .ok (.istore_n 1, 1) := by decide +kernel
theorem dX6_readBoat_8 : decode cX6_readBoat 8 = .ok (.aload_n 0, 1) := by decide +kernel
theorem dX6_readBoat_9 : decode cX6_readBoat 9 = .ok (.iconst 0, 1) := by decide +kernel
theorem dX6_readBoat_10 : decode cX6_readBoat 10 = .ok (.iconst 3, 1) := by decide +kernel
theorem dX6_readBoat_11 : decode cX6_readBoat 11 = .ok (.invokevirtual 141, 3) := by decide +kernel
theorem dX6_readBoat_14 : decode cX6_readBoat 14 = .ok (.istore_n 2, 1) := by decide +kernel
theorem dX6_readBoat_15 : decode cX6_readBoat 15 = .ok (.aload_n 0, 1) := by decide +kernel
theorem dX6_readBoat_16 : decode cX6_readBoat 16 = .ok (.iconst 0, 1) := by decide +kernel
theorem dX6_readBoat_17 : decode cX6_readBoat 17 = .ok (.iconst 3, 1) := by decide +kernel
theorem dX6_readBoat_18 : decode cX6_readBoat 18 = .ok (.invokevirtual 141, 3) := by decide +kernel
theorem dX6_readBoat_21 : decode cX6_readBoat 21 = .ok (.istore_n 3, 1) := by decide +kernel
theorem dX6_readBoat_22 : decode cX6_readBoat 22 = .ok (.aload_n 0, 1) := by decide +kernel
theorem dX6_readBoat_23 : decode cX6_readBoat 23 = .ok (.aload_n 0, 1) := by decide +kernel
theorem dX6_readBoat_24 : decode cX6_readBoat 24 = .ok (.getfield 16, 3) := by decide +kernel
theorem dX6_readBoat_27 : decode cX6_readBoat 27 = .ok (.sipush 147, 3) := by decide +kernel
theorem dX6_readBoat_30 : decode cX6_readBoat 30 = .ok (.iaload, 1) := by decide +kernel
theorem dX6_readBoat_31 : decode cX6_readBoat 31 = .ok (.bipush 10, 2) := by decide +kernel
theorem dX6_readBoat_33 : decode cX6_readBoat 33 = .ok (.if_icmp .ge 7, 3) := by decide +kernel
theorem dX6_readBoat_36 : decode cX6_readBoat 36 = .ok (.iconst 1, 1) := by decide +kernel
theorem dX6_readBoat_37 : decode cX6_readBoat 37 = .ok (.goto 4, 3) := by decide +kernel
theorem dX6_readBoat_40 : decode cX6_readBoat 40 = .ok (.iconst 0, 1) := by decide +kernel
theorem dX6_readBoat_41 : decode cX6_readBoat 41 = .ok (.invokevirtual 154, 3) := by decide +kernel
theorem dX6_readBoat_44 : decode cX6_readBoat 44 = .ok (.ifCond .eq 16, 3) := by decide +kernel
theorem dX6_readBoat_47 : decode cX6_readBoat 47 = .ok (.aload_n 0, 1) := by decide +kernel
theorem dX6_readBoat_48 : decode cX6_readBoat 48 = .ok (.getfield 16, 3) := by decide +kernel
theorem dX6_readBoat_51 : decode cX6_readBoat 51 = .ok (.iload_n 1, 1) := by decide +kernel
theorem dX6_readBoat_52 : decode cX6_readBoat 52 = .ok (.iload_n 2, 1) := by decide +kernel
theorem dX6_readBoat_53 : decode cX6_readBoat 53 = .ok (.iload_n 3, 1) := by decide +kernel
theorem dX6_readBoat_54 : decode cX6_readBoat 54 = .ok (.invokestatic 162, 3) := by decide +kernel
theorem dX6_readBoat_57 : decode cX6_readBoat 57 = .ok (.goto 4, 3) := by decide +kernel
theorem dX6_readBoat_60 : decode cX6_readBoat 60 = .ok (.iconst 0, 1) := by decide +kernel
theorem dX6_readBoat_61 : decode cX6_readBoat 61 = .ok (.ireturn, 1) := by decide +kernel
theorem dX6_readLaunch_0 : decode cX6_readLaunch 0 = .ok (.aload_n 0, 1) := by decide +kernel
theorem dX6_readLaunch_1 : decode cX6_readLaunch 1 = .ok (.iconst 0, 1) := by decide +kernel
theorem dX6_readLaunch_2 : decode cX6_readLaunch 2 = .ok (.bipush 9, 2) := by decide +kernel
theorem dX6_readLaunch_4 : decode cX6_readLaunch 4 = .ok (.invokevirtual 141, 3) := by decide +kernel
theorem dX6_readLaunch_7 : decode cX6_readLaunch 7 = .ok (.istore_n 1, 1) := by decide +kernel
theorem dX6_readLaunch_8 : decode cX6_readLaunch 8 = .ok (.aload_n 0, 1) := by decide +kernel
theorem dX6_readLaunch_9 : decode cX6_readLaunch 9 = .ok (.iconst 0, 1) := by decide +kernel
theorem dX6_readLaunch_10 : decode cX6_readLaunch 10 = .ok (.iconst 5, 1) := by decide +kernel
theorem dX6_readLaunch_11 : decode cX6_readLaunch 11 = .ok (.invokevirtual 141, 3) := by decide +kernel
theorem dX6_readLaunch_14 : decode cX6_readLaunch 14 = .ok (.istore_n 2, 1) := by decide +kernel
theorem dX6_readLaunch_15 : decode cX6_readLaunch 15 = .ok (.aload_n 0, 1) := by decide +kernel
theorem dX6_readLaunch_16 : decode cX6_readLaunch 16 = .ok (.aload_n 0, 1) := by decide +kernel
theorem dX6_readLaunch_17 : decode cX6_readLaunch 17 = .ok (.getfield 16, 3) := by decide +kernel
theorem dX6_readLaunch_20 : decode cX6_readLaunch 20 = .ok (.iload_n 1, 1) := by decide +kernel
theorem dX6_readLaunch_21 : decode cX6_readLaunch 21 = .ok (.invokestatic 166, 3) := by decide +kernel
theorem dX6_readLaunch_24 : decode cX6_readLaunch 24 = .ok (.ifCond .eq 29, 3) := by decide +kernel
theorem dX6_readLaunch_27 : decode cX6_readLaunch 27 = .ok (.aload_n 0, 1) := by decide +kernel
theorem dX6_readLaunch_28 : decode cX6_readLaunch 28 = .ok (.getfield 16, 3) := by decide +kernel
theorem dX6_readLaunch_31 : decode cX6_readLaunch 31 = .ok (.iload_n 2, 1) := by decide +kernel
theorem dX6_readLaunch_32 : decode cX6_readLaunch 32 = .ok (.invokestatic 46, 3) := by decide +kernel
theorem dX6_readLaunch_35 : decode cX6_readLaunch 35 = .ok (.ifCond .eq 18, 3) := by decide +kernel
theorem dX6_readLaunch_38 : decode cX6_readLaunch 38 = .ok (.aload_n 0, 1) := by decide +kernel
theorem dX6_readLaunch_39 : decode cX6_readLaunch 39 = .ok (.getfield 16, 3) := by decide +kernel
theorem dX6_readLaunch_42 : decode cX6_readLaunch 42 = .ok (.iload_n 1, 1) := by decide +kernel
theorem dX6_readLaunch_43 : decode cX6_readLaunch 43 = .ok (.invokestatic 64, 3) := by decide +kernel
theorem dX6_readLaunch_46 : decode cX6_readLaunch 46 = .ok (.ifCond .ne 7, 3) := by decide +kernel
theorem dX6_readLaunch_49 : decode cX6_readLaunch 49 = .ok (.iconst 1, 1) := by decide +kernel
theorem dX6_readLaunch_50 : decode cX6_readLaunch 50 = .ok (.goto 4, 3) := by decide +kernel
theorem dX6_readLaunch_53 : decode cX6_readLaunch 53 = .ok (.iconst 0, 1) := by decide +kernel
theorem dX6_readLaunch_54 : decode cX6_readLaunch 54 = .ok (.invokevirtual 154, 3) := by decide +kernel
theorem dX6_readLaunch_57 : decode cX6_readLaunch 57 = .ok (.ifCond .eq 15, 3) := by decide +kernel
theorem dX6_readLaunch_60 : decode cX6_readLaunch 60 = .ok (.aload_n 0, 1) := by decide +kernel
theorem dX6_readLaunch_61 : decode cX6_readLaunch 61 = .ok (.getfield 16, 3) := by decide +kernel
theorem dX6_readLaunch_64 : decode cX6_readLaunch 64 = .ok (.iload_n 1, 1) := by decide +kernel
theorem dX6_readLaunch_65 : decode cX6_readLaunch 65 = .ok (.iload_n 2, 1) := by decide +kernel
theorem dX6_readLaunch_66 : decode cX6_readLaunch 66 = .ok (.invokestatic 169, 3) := by decide +kernel
theorem dX6_readLaunch_69 : decode cX6_readLaunch 69 = .ok (.goto 4, 3) := by decide +kernel
theorem dX6_readLaunch_72 : decode cX6_readLaunch 72 = .ok (.iconst 0, 1) := by decide +kernel
theorem dX6_readLaunch_73 : decode cX6_readLaunch 73 = .ok (.ireturn, 1) := by decide +kernel
theorem dX6_readHook_0 : decode cX6_readHook 0 = .ok (.aload_n 0, 1) := by decide +kernel
theorem dX6_readHook_1 : decode cX6_readHook 1 = .ok (.iconst 0, 1) := by decide +kernel
theorem dX6_readHook_2 : decode cX6_readHook 2 = .ok (.iconst 3, 1) := by decide +kernel
theorem dX6_readHook_3 : decode cX6_readHook 3 = .ok (.invokevirtual 141, 3) := by decide +kernel
theorem dX6_readHook_6 : decode cX6_readHook 6 = .ok (.istore_n 1, 1) := by decide +kernel
theorem dX6_readHook_7 : decode cX6_readHook 7 = .ok (.aload_n 0, 1) := by decide +kernel
theorem dX6_readHook_8 : decode cX6_readHook 8 = .ok (.iconst 0, 1) := by decide +kernel
theorem dX6_readHook_9 : decode cX6_readHook 9 = .ok (.iconst 5, 1) := by decide +kernel
theorem dX6_readHook_10 : decode cX6_readHook 10 = .ok (.invokevirtual 141, 3) := by decide +kernel
theorem dX6_readHook_13 : decode cX6_readHook 13 = .ok (.istore_n 2, 1) := by decide +kernel
theorem dX6_readHook_14 : decode cX6_readHook 14 = .ok (.aload_n 0, 1) := by decide +kernel
theorem dX6_readHook_15 : decode cX6_readHook 15 = .ok (.iconst 0, 1) := by decide +kernel
theorem dX6_readHook_16 : decode cX6_readHook 16 = .ok (.bipush 39, 2) := by decide +kernel
theorem dX6_readHook_18 : decode cX6_readHook 18 = .ok (.invokevirtual 148, 3) := by decide +kernel
theorem dX6_readHook_21 : decode cX6_readHook 21 = .ok (.istore_n 3, 1) := by decide +kernel
theorem dX6_readHook_22 : decode cX6_readHook 22 = .ok (.aload_n 0, 1) := by decide +kernel
theorem dX6_readHook_23 : decode cX6_readHook 23 = .ok (.aload_n 0, 1) := by decide +kernel
theorem dX6_readHook_24 : decode cX6_readHook 24 = .ok (.getfield 16, 3) := by decide +kernel
theorem dX6_readHook_27 : decode cX6_readHook 27 = .ok (.iload_n 2, 1) := by decide +kernel
theorem dX6_readHook_28 : decode cX6_readHook 28 = .ok (.iload_n 3, 1) := by decide +kernel
theorem dX6_readHook_29 : decode cX6_readHook 29 = .ok (.invokestatic 111, 3) := by decide +kernel
theorem dX6_readHook_32 : decode cX6_readHook 32 = .ok (.invokevirtual 154, 3) := by decide +kernel
theorem dX6_readHook_35 : decode cX6_readHook 35 = .ok (.ifCond .eq 16, 3) := by decide +kernel
theorem dX6_readHook_38 : decode cX6_readHook 38 = .ok (.aload_n 0, 1) := by decide +kernel
theorem dX6_readHook_39 : decode cX6_readHook 39 = .ok (.getfield 16, 3) := by decide +kernel
theorem dX6_readHook_42 : decode cX6_readHook 42 = .ok (.iload_n 1, 1) := by decide +kernel
theorem dX6_readHook_43 : decode cX6_readHook 43 = .ok (.iload_n 2, 1) := by decide +kernel
theorem dX6_readHook_44 : decode cX6_readHook 44 = .ok (.iload_n 3, 1) := by decide +kernel
theorem dX6_readHook_45 : decode cX6_readHook 45 = .ok (.invokestatic 172, 3) := by decide +kernel
theorem dX6_readHook_48 : decode cX6_readHook 48 = .ok (.goto 4, 3) := by decide +kernel
theorem dX6_readHook_51 : decode cX6_readHook 51 = .ok (.iconst 0, 1) := by decide +kernel
theorem dX6_readHook_52 : decode cX6_readHook 52 = .ok (.ireturn, 1) := by decide +kernel
theorem dX6_readClaim_0 : decode cX6_readClaim 0 = .ok (.aload_n 0, 1) := by decide +kernel
theorem dX6_readClaim_1 : decode cX6_readClaim 1 = .ok (.iconst 0, 1) := by decide +kernel
theorem dX6_readClaim_2 : decode cX6_readClaim 2 = .ok (.iconst 3, 1) := by decide +kernel
theorem dX6_readClaim_3 : decode cX6_readClaim 3 = .ok (.invokevirtual 141, 3) := by decide +kernel
theorem dX6_readClaim_6 : decode cX6_readClaim 6 = .ok (.istore_n 1, 1) := by decide +kernel
theorem dX6_readClaim_7 : decode cX6_readClaim 7 = .ok (.aload_n 0, 1) := by decide +kernel
theorem dX6_readClaim_8 : decode cX6_readClaim 8 = .ok (.iconst 0, 1) := by decide +kernel
theorem dX6_readClaim_9 : decode cX6_readClaim 9 = .ok (.bipush 9, 2) := by decide +kernel
theorem dX6_readClaim_11 : decode cX6_readClaim 11 = .ok (.invokevirtual 141, 3) := by decide +kernel
theorem dX6_readClaim_14 : decode cX6_readClaim 14 = .ok (.istore_n 2, 1) := by decide +kernel
theorem dX6_readClaim_15 : decode cX6_readClaim 15 = .ok (.aload_n 0, 1) := by decide +kernel
theorem dX6_readClaim_16 : decode cX6_readClaim 16 = .ok (.aload_n 0, 1) := by decide +kernel
theorem dX6_readClaim_17 : decode cX6_readClaim 17 = .ok (.getfield 16, 3) := by decide +kernel
theorem dX6_readClaim_20 : decode cX6_readClaim 20 = .ok (.iload_n 2, 1) := by decide +kernel
theorem dX6_readClaim_21 : decode cX6_readClaim 21 = .ok (.invokestatic 166, 3) := by decide +kernel
theorem dX6_readClaim_24 : decode cX6_readClaim 24 = .ok (.ifCond .eq 19, 3) := by decide +kernel
theorem dX6_readClaim_27 : decode cX6_readClaim 27 = .ok (.aload_n 0, 1) := by decide +kernel
theorem dX6_readClaim_28 : decode cX6_readClaim 28 = .ok (.getfield 16, 3) := by decide +kernel
theorem dX6_readClaim_31 : decode cX6_readClaim 31 = .ok (.iload_n 1, 1) := by decide +kernel
theorem dX6_readClaim_32 : decode cX6_readClaim 32 = .ok (.iload_n 2, 1) := by decide +kernel
theorem dX6_readClaim_33 : decode cX6_readClaim 33 = .ok (.invokestatic 102, 3) := by decide +kernel
theorem dX6_readClaim_36 : decode cX6_readClaim 36 = .ok (.ifCond .ne 7, 3) := by decide +kernel
theorem dX6_readClaim_39 : decode cX6_readClaim 39 = .ok (.iconst 1, 1) := by decide +kernel
theorem dX6_readClaim_40 : decode cX6_readClaim 40 = .ok (.goto 4, 3) := by decide +kernel
theorem dX6_readClaim_43 : decode cX6_readClaim 43 = .ok (.iconst 0, 1) := by decide +kernel
theorem dX6_readClaim_44 : decode cX6_readClaim 44 = .ok (.invokevirtual 154, 3) := by decide +kernel
theorem dX6_readClaim_47 : decode cX6_readClaim 47 = .ok (.ifCond .eq 15, 3) := by decide +kernel
theorem dX6_readClaim_50 : decode cX6_readClaim 50 = .ok (.aload_n 0, 1) := by decide +kernel
theorem dX6_readClaim_51 : decode cX6_readClaim 51 = .ok (.getfield 16, 3) := by decide +kernel
theorem dX6_readClaim_54 : decode cX6_readClaim 54 = .ok (.iload_n 1, 1) := by decide +kernel
theorem dX6_readClaim_55 : decode cX6_readClaim 55 = .ok (.iload_n 2, 1) := by decide +kernel
theorem dX6_readClaim_56 : decode cX6_readClaim 56 = .ok (.invokestatic 175, 3) := by decide +kernel
theorem dX6_readClaim_59 : decode cX6_readClaim 59 = .ok (.goto 4, 3) := by decide +kernel
theorem dX6_readClaim_62 : decode cX6_readClaim 62 = .ok (.iconst 0, 1) := by decide +kernel
theorem dX6_readClaim_63 : decode cX6_readClaim 63 = .ok (.ireturn, 1) := by decide +kernel
theorem dX6_readRest_0 : decode cX6_readRest 0 = .ok (.iload_n 1, 1) := by decide +kernel
theorem dX6_readRest_1 : decode cX6_readRest 1 = .ok (.bipush 109, 2) := by decide +kernel
theorem dX6_readRest_3 : decode cX6_readRest 3 = .ok (.if_icmp .ne 31, 3) := by decide +kernel
theorem dX6_readRest_6 : decode cX6_readRest 6 = .ok (.aload_n 0, 1) := by decide +kernel
theorem dX6_readRest_7 : decode cX6_readRest 7 = .ok (.iconst 1, 1) := by decide +kernel
theorem dX6_readRest_8 : decode cX6_readRest 8 = .ok (.bipush 60, 2) := by decide +kernel
theorem dX6_readRest_10 : decode cX6_readRest 10 = .ok (.invokevirtual 148, 3) := by decide +kernel
theorem dX6_readRest_13 : decode cX6_readRest 13 = .ok (.istore_n 3, 1) := by decide +kernel
theorem dX6_readRest_14 : decode cX6_readRest 14 = .ok (.aload_n 0, 1) := by decide +kernel
theorem dX6_readRest_15 : decode cX6_readRest 15 = .ok (.getfield 129, 3) := by decide +kernel
theorem dX6_readRest_18 : decode cX6_readRest 18 = .ok (.ifCond .eq 14, 3) := by decide +kernel
theorem dX6_readRest_21 : decode cX6_readRest 21 = .ok (.aload_n 0, 1) := by decide +kernel
theorem dX6_readRest_22 : decode cX6_readRest 22 = .ok (.getfield 16, 3) := by decide +kernel
theorem dX6_readRest_25 : decode cX6_readRest 25 = .ok (.iload_n 3, 1) := by decide +kernel
theorem dX6_readRest_26 : decode cX6_readRest 26 = .ok (.invokestatic 178, 3) := by decide +kernel
theorem dX6_readRest_29 : decode cX6_readRest 29 = .ok (.goto 4, 3) := by decide +kernel
theorem dX6_readRest_32 : decode cX6_readRest 32 = .ok (.iconst 0, 1) := by decide +kernel
theorem dX6_readRest_33 : decode cX6_readRest 33 = .ok (.ireturn, 1) := by decide +kernel
theorem dX6_readRest_34 : decode cX6_readRest 34 = .ok (.aload_n 0, 1) := by decide +kernel
theorem dX6_readRest_35 : decode cX6_readRest 35 = .ok (.iconst 0, 1) := by decide +kernel
theorem dX6_readRest_36 : decode cX6_readRest 36 = .ok (.iconst 2, 1) := by decide +kernel
theorem dX6_readRest_37 : decode cX6_readRest 37 = .ok (.invokevirtual 141, 3) := by decide +kernel
theorem dX6_readRest_40 : decode cX6_readRest 40 = .ok (.istore_n 2, 1) := by decide +kernel
theorem dX6_readRest_41 : decode cX6_readRest 41 = .ok (.aload_n 0, 1) := by decide +kernel
theorem dX6_readRest_42 : decode cX6_readRest 42 = .ok (.iconst 0, 1) := by decide +kernel
theorem dX6_readRest_43 : decode cX6_readRest 43 = .ok (.bipush 9, 2) := by decide +kernel
theorem dX6_readRest_45 : decode cX6_readRest 45 = .ok (.invokevirtual 141, 3) := by decide +kernel
theorem dX6_readRest_48 : decode cX6_readRest 48 = .ok (.istore_n 3, 1) := by decide +kernel
theorem dX6_readRest_49 : decode cX6_readRest 49 = .ok (.aload_n 0, 1) := by decide +kernel
theorem dX6_readRest_50 : decode cX6_readRest 50 = .ok (.iload_n 2, 1) := by decide +kernel
theorem dX6_readRest_51 : decode cX6_readRest 51 = .ok (.iload_n 3, 1) := by decide +kernel
theorem dX6_readRest_52 : decode cX6_readRest 52 = .ok (.invokestatic 181, 3) := by decide +kernel
theorem dX6_readRest_55 : decode cX6_readRest 55 = .ok (.invokevirtual 154, 3) := by decide +kernel
theorem dX6_readRest_58 : decode cX6_readRest 58 = .ok (.ifCond .eq 19, 3) := by decide +kernel
theorem dX6_readRest_61 : decode cX6_readRest 61 = .ok (.aload_n 0, 1) := by decide +kernel
theorem dX6_readRest_62 : decode cX6_readRest 62 = .ok (.getfield 16, 3) := by decide +kernel
theorem dX6_readRest_65 : decode cX6_readRest 65 = .ok (.sipush 154, 3) := by decide +kernel
theorem dX6_readRest_68 : decode cX6_readRest 68 = .ok (.iload_n 2, 1) := by decide +kernel
theorem dX6_readRest_69 : decode cX6_readRest 69 = .ok (.iadd, 1) := by decide +kernel
theorem dX6_readRest_70 : decode cX6_readRest 70 = .ok (.iload_n 3, 1) := by decide +kernel
theorem dX6_readRest_71 : decode cX6_readRest 71 = .ok (.invokestatic 185, 3) := by decide +kernel
theorem dX6_readRest_74 : decode cX6_readRest 74 = .ok (.goto 4, 3) := by decide +kernel
theorem dX6_readRest_77 : decode cX6_readRest 77 = .ok (.iconst 0, 1) := by decide +kernel
theorem dX6_readRest_78 : decode cX6_readRest 78 = .ok (.ireturn, 1) := by decide +kernel
theorem dX6_readCommand_0 : decode cX6_readCommand 0 = .ok (.aload_n 0, 1) := by decide +kernel
theorem dX6_readCommand_1 : decode cX6_readCommand 1 = .ok (.invokevirtual 133, 3) := by decide +kernel
theorem dX6_readCommand_4 : decode cX6_readCommand 4 = .ok (.istore_n 1, 1) := by decide +kernel
theorem dX6_readCommand_5 : decode cX6_readCommand 5 = .ok (.aload_n 0, 1) := by decide +kernel
theorem dX6_readCommand_6 : decode cX6_readCommand 6 = .ok (.iload_n 1, 1) := by decide +kernel
theorem dX6_readCommand_7 : decode cX6_readCommand 7 = .ok (.bipush 103, 2) := by decide +kernel
theorem dX6_readCommand_9 : decode cX6_readCommand 9 = .ok (.if_icmp .eq 39, 3) := by decide +kernel
theorem dX6_readCommand_12 : decode cX6_readCommand 12 = .ok (.iload_n 1, 1) := by decide +kernel
theorem dX6_readCommand_13 : decode cX6_readCommand 13 = .ok (.bipush 98, 2) := by decide +kernel
theorem dX6_readCommand_15 : decode cX6_readCommand 15 = .ok (.if_icmp .eq 33, 3) := by decide +kernel
theorem dX6_readCommand_18 : decode cX6_readCommand 18 = .ok (.iload_n 1, 1) := by decide +kernel
theorem dX6_readCommand_19 : decode cX6_readCommand 19 = .ok (.bipush 108, 2) := by decide +kernel
theorem dX6_readCommand_21 : decode cX6_readCommand 21 = .ok (.if_icmp .eq 27, 3) := by decide +kernel
theorem dX6_readCommand_24 : decode cX6_readCommand 24 = .ok (.iload_n 1, 1) := by decide +kernel
theorem dX6_readCommand_25 : decode cX6_readCommand 25 = .ok (.bipush 109, 2) := by decide +kernel
theorem dX6_readCommand_27 : decode cX6_readCommand 27 = .ok (.if_icmp .eq 21, 3) := by decide +kernel
theorem dX6_readCommand_30 : decode cX6_readCommand 30 = .ok (.iload_n 1, 1) := by decide +kernel
theorem dX6_readCommand_31 : decode cX6_readCommand 31 = .ok (.bipush 104, 2) := by decide +kernel
theorem dX6_readCommand_33 : decode cX6_readCommand 33 = .ok (.if_icmp .eq 15, 3) := by decide +kernel
theorem dX6_readCommand_36 : decode cX6_readCommand 36 = .ok (.iload_n 1, 1) := by decide +kernel
theorem dX6_readCommand_37 : decode cX6_readCommand 37 = .ok (.bipush 99, 2) := by decide +kernel
theorem dX6_readCommand_39 : decode cX6_readCommand 39 = .ok (.if_icmp .eq 9, 3) := by decide +kernel
theorem dX6_readCommand_42 : decode cX6_readCommand 42 = .ok (.iload_n 1, 1) := by decide +kernel
theorem dX6_readCommand_43 : decode cX6_readCommand 43 = .ok (.bipush 115, 2) := by decide +kernel
theorem dX6_readCommand_45 : decode cX6_readCommand 45 = .ok (.if_icmp .ne 7, 3) := by decide +kernel
theorem dX6_readCommand_48 : decode cX6_readCommand 48 = .ok (.iconst 1, 1) := by decide +kernel
theorem dX6_readCommand_49 : decode cX6_readCommand 49 = .ok (.goto 4, 3) := by decide +kernel
theorem dX6_readCommand_52 : decode cX6_readCommand 52 = .ok (.iconst 0, 1) := by decide +kernel
theorem dX6_readCommand_53 : decode cX6_readCommand 53 = .ok (.invokevirtual 137, 3) := by decide +kernel
theorem dX6_readCommand_56 : decode cX6_readCommand 56 = .ok (.aload_n 0, 1) := by decide +kernel
theorem dX6_readCommand_57 : decode cX6_readCommand 57 = .ok (.getfield 129, 3) := by decide +kernel
theorem dX6_readCommand_60 : decode cX6_readCommand 60 = .ok (.ifCond .ne 5, 3) := by decide +kernel
theorem dX6_readCommand_63 : decode cX6_readCommand 63 = .ok (.iconst 0, 1) := by decide +kernel
theorem dX6_readCommand_64 : decode cX6_readCommand 64 = .ok (.ireturn, 1) := by decide +kernel
theorem dX6_readCommand_65 : decode cX6_readCommand 65 = .ok (.iload_n 1, 1) := by decide +kernel
theorem dX6_readCommand_66 : decode cX6_readCommand 66 = .ok (.tableswitch 83 98 108 #[63, 78, 83, 83, 83, 58, 73, 83, 83, 83, 68], 58) := by decide +kernel
theorem dX6_readCommand_124 : decode cX6_readCommand 124 = .ok (.aload_n 0, 1) := by decide +kernel
theorem dX6_readCommand_125 : decode cX6_readCommand 125 = .ok (.invokevirtual 188, 3) := by decide +kernel
theorem dX6_readCommand_128 : decode cX6_readCommand 128 = .ok (.ireturn, 1) := by decide +kernel
theorem dX6_readCommand_129 : decode cX6_readCommand 129 = .ok (.aload_n 0, 1) := by decide +kernel
theorem dX6_readCommand_130 : decode cX6_readCommand 130 = .ok (.invokevirtual 191, 3) := by decide +kernel
theorem dX6_readCommand_133 : decode cX6_readCommand 133 = .ok (.ireturn, 1) := by decide +kernel
theorem dX6_readCommand_134 : decode cX6_readCommand 134 = .ok (.aload_n 0, 1) := by decide +kernel
theorem dX6_readCommand_135 : decode cX6_readCommand 135 = .ok (.invokevirtual 194, 3) := by decide +kernel
theorem dX6_readCommand_138 : decode cX6_readCommand 138 = .ok (.ireturn, 1) := by decide +kernel
theorem dX6_readCommand_139 : decode cX6_readCommand 139 = .ok (.aload_n 0, 1) := by decide +kernel
theorem dX6_readCommand_140 : decode cX6_readCommand 140 = .ok (.invokevirtual 197, 3) := by decide +kernel
theorem dX6_readCommand_143 : decode cX6_readCommand 143 = .ok (.ireturn, 1) := by decide +kernel
theorem dX6_readCommand_144 : decode cX6_readCommand 144 = .ok (.aload_n 0, 1) := by decide +kernel
theorem dX6_readCommand_145 : decode cX6_readCommand 145 = .ok (.invokevirtual 200, 3) := by decide +kernel
theorem dX6_readCommand_148 : decode cX6_readCommand 148 = .ok (.ireturn, 1) := by decide +kernel
theorem dX6_readCommand_149 : decode cX6_readCommand 149 = .ok (.aload_n 0, 1) := by decide +kernel
theorem dX6_readCommand_150 : decode cX6_readCommand 150 = .ok (.iload_n 1, 1) := by decide +kernel
theorem dX6_readCommand_151 : decode cX6_readCommand 151 = .ok (.invokevirtual 203, 3) := by decide +kernel
theorem dX6_readCommand_154 : decode cX6_readCommand 154 = .ok (.ireturn, 1) := by decide +kernel
theorem dX6_readAll_0 : decode cX6_readAll 0 = .ok (.aload_n 0, 1) := by decide +kernel
theorem dX6_readAll_1 : decode cX6_readAll 1 = .ok (.iconst 0, 1) := by decide +kernel
theorem dX6_readAll_2 : decode cX6_readAll 2 = .ok (.putfield 126, 3) := by decide +kernel
theorem dX6_readAll_5 : decode cX6_readAll 5 = .ok (.aload_n 0, 1) := by decide +kernel
theorem dX6_readAll_6 : decode cX6_readAll 6 = .ok (.iconst 1, 1) := by decide +kernel
theorem dX6_readAll_7 : decode cX6_readAll 7 = .ok (.putfield 129, 3) := by decide +kernel
theorem dX6_readAll_10 : decode cX6_readAll 10 = .ok (.aload_n 0, 1) := by decide +kernel
theorem dX6_readAll_11 : decode cX6_readAll 11 = .ok (.iconst 0, 1) := by decide +kernel
theorem dX6_readAll_12 : decode cX6_readAll 12 = .ok (.putfield 145, 3) := by decide +kernel
theorem dX6_readAll_15 : decode cX6_readAll 15 = .ok (.aload_n 0, 1) := by decide +kernel
theorem dX6_readAll_16 : decode cX6_readAll 16 = .ok (.getfield 16, 3) := by decide +kernel
theorem dX6_readAll_19 : decode cX6_readAll 19 = .ok (.invokestatic 32, 3) := by decide +kernel
theorem dX6_readAll_22 : decode cX6_readAll 22 = .ok (.aload_n 0, 1) := by decide +kernel
theorem dX6_readAll_23 : decode cX6_readAll 23 = .ok (.aload_n 0, 1) := by decide +kernel
theorem dX6_readAll_24 : decode cX6_readAll 24 = .ok (.invokevirtual 133, 3) := by decide +kernel
theorem dX6_readAll_27 : decode cX6_readAll 27 = .ok (.bipush 84, 2) := by decide +kernel
theorem dX6_readAll_29 : decode cX6_readAll 29 = .ok (.if_icmp .ne 7, 3) := by decide +kernel
theorem dX6_readAll_32 : decode cX6_readAll 32 = .ok (.iconst 1, 1) := by decide +kernel
theorem dX6_readAll_33 : decode cX6_readAll 33 = .ok (.goto 4, 3) := by decide +kernel
theorem dX6_readAll_36 : decode cX6_readAll 36 = .ok (.iconst 0, 1) := by decide +kernel
theorem dX6_readAll_37 : decode cX6_readAll 37 = .ok (.invokevirtual 137, 3) := by decide +kernel
theorem dX6_readAll_40 : decode cX6_readAll 40 = .ok (.aload_n 0, 1) := by decide +kernel
theorem dX6_readAll_41 : decode cX6_readAll 41 = .ok (.getfield 129, 3) := by decide +kernel
theorem dX6_readAll_44 : decode cX6_readAll 44 = .ok (.ifCond .eq 22, 3) := by decide +kernel
theorem dX6_readAll_47 : decode cX6_readAll 47 = .ok (.aload_n 0, 1) := by decide +kernel
theorem dX6_readAll_48 : decode cX6_readAll 48 = .ok (.getfield 126, 3) := by decide +kernel
theorem dX6_readAll_51 : decode cX6_readAll 51 = .ok (.aload_n 0, 1) := by decide +kernel
theorem dX6_readAll_52 : decode cX6_readAll 52 = .ok (.getfield 119, 3) := by decide +kernel
theorem dX6_readAll_55 : decode cX6_readAll 55 = .ok (.if_icmp .ge 11, 3) := by decide +kernel
theorem dX6_readAll_58 : decode cX6_readAll 58 = .ok (.aload_n 0, 1) := by decide +kernel
theorem dX6_readAll_59 : decode cX6_readAll 59 = .ok (.invokevirtual 206, 3) := by decide +kernel
theorem dX6_readAll_62 : decode cX6_readAll 62 = .ok (.istore_n 1, 1) := by decide +kernel
theorem dX6_readAll_63 : decode cX6_readAll 63 = .ok (.goto (-23), 3) := by decide +kernel
theorem dX6_readAll_66 : decode cX6_readAll 66 = .ok (.aload_n 0, 1) := by decide +kernel
theorem dX6_readAll_67 : decode cX6_readAll 67 = .ok (.getfield 129, 3) := by decide +kernel
theorem dX6_readAll_70 : decode cX6_readAll 70 = .ok (.ifCond .eq 7, 3) := by decide +kernel
theorem dX6_readAll_73 : decode cX6_readAll 73 = .ok (.iconst (-1), 1) := by decide +kernel
theorem dX6_readAll_74 : decode cX6_readAll 74 = .ok (.goto 7, 3) := by decide +kernel
theorem dX6_readAll_77 : decode cX6_readAll 77 = .ok (.aload_n 0, 1) := by decide +kernel
theorem dX6_readAll_78 : decode cX6_readAll 78 = .ok (.getfield 126, 3) := by decide +kernel
theorem dX6_readAll_81 : decode cX6_readAll 81 = .ok (.ireturn, 1) := by decide +kernel
theorem dX6_errorPosition_0 : decode cX6_errorPosition 0 = .ok (.aload_n 0, 1) := by decide +kernel
theorem dX6_errorPosition_1 : decode cX6_errorPosition 1 = .ok (.iconst 0, 1) := by decide +kernel
theorem dX6_errorPosition_2 : decode cX6_errorPosition 2 = .ok (.putfield 36, 3) := by decide +kernel
theorem dX6_errorPosition_5 : decode cX6_errorPosition 5 = .ok (.aload_n 0, 1) := by decide +kernel
theorem dX6_errorPosition_6 : decode cX6_errorPosition 6 = .ok (.invokevirtual 209, 3) := by decide +kernel
theorem dX6_errorPosition_9 : decode cX6_errorPosition 9 = .ok (.ireturn, 1) := by decide +kernel
theorem dX6_load_0 : decode cX6_load 0 = .ok (.aload_n 0, 1) := by decide +kernel
theorem dX6_load_1 : decode cX6_load 1 = .ok (.aload_n 0, 1) := by decide +kernel
theorem dX6_load_2 : decode cX6_load 2 = .ok (.invokevirtual 209, 3) := by decide +kernel
theorem dX6_load_5 : decode cX6_load 5 = .ok (.iconst (-1), 1) := by decide +kernel
theorem dX6_load_6 : decode cX6_load 6 = .ok (.if_icmp .ne 7, 3) := by decide +kernel
theorem dX6_load_9 : decode cX6_load 9 = .ok (.iconst 0, 1) := by decide +kernel
theorem dX6_load_10 : decode cX6_load 10 = .ok (.goto 4, 3) := by decide +kernel
theorem dX6_load_13 : decode cX6_load 13 = .ok (.iconst 1, 1) := by decide +kernel
theorem dX6_load_14 : decode cX6_load 14 = .ok (.invokevirtual 122, 3) := by decide +kernel
theorem dX6_load_17 : decode cX6_load 17 = .ok (.ifCond .eq 5, 3) := by decide +kernel
theorem dX6_load_20 : decode cX6_load 20 = .ok (.iconst 0, 1) := by decide +kernel
theorem dX6_load_21 : decode cX6_load 21 = .ok (.ireturn, 1) := by decide +kernel
theorem dX6_load_22 : decode cX6_load 22 = .ok (.aload_n 0, 1) := by decide +kernel
theorem dX6_load_23 : decode cX6_load 23 = .ok (.getfield 16, 3) := by decide +kernel
theorem dX6_load_26 : decode cX6_load 26 = .ok (.aload_n 0, 1) := by decide +kernel
theorem dX6_load_27 : decode cX6_load 27 = .ok (.getfield 7, 3) := by decide +kernel
theorem dX6_load_30 : decode cX6_load 30 = .ok (.invokestatic 212, 3) := by decide +kernel
theorem dX6_load_33 : decode cX6_load 33 = .ok (.aload_n 0, 1) := by decide +kernel
theorem dX6_load_34 : decode cX6_load 34 = .ok (.iconst 0, 1) := by decide +kernel
theorem dX6_load_35 : decode cX6_load 35 = .ok (.putfield 114, 3) := by decide +kernel
theorem dX6_load_38 : decode cX6_load 38 = .ok (.aload_n 0, 1) := by decide +kernel
theorem dX6_load_39 : decode cX6_load 39 = .ok (.getfield 25, 3) := by decide +kernel
theorem dX6_load_42 : decode cX6_load 42 = .ok (.iconst 0, 1) := by decide +kernel
theorem dX6_load_43 : decode cX6_load 43 = .ok (.iconst 0, 1) := by decide +kernel
theorem dX6_load_44 : decode cX6_load 44 = .ok (.bastore, 1) := by decide +kernel
theorem dX6_load_45 : decode cX6_load 45 = .ok (.aload_n 0, 1) := by decide +kernel
theorem dX6_load_46 : decode cX6_load 46 = .ok (.getfield 25, 3) := by decide +kernel
theorem dX6_load_49 : decode cX6_load 49 = .ok (.iconst 1, 1) := by decide +kernel
theorem dX6_load_50 : decode cX6_load 50 = .ok (.iconst 0, 1) := by decide +kernel
theorem dX6_load_51 : decode cX6_load 51 = .ok (.bastore, 1) := by decide +kernel
theorem dX6_load_52 : decode cX6_load 52 = .ok (.aload_n 0, 1) := by decide +kernel
theorem dX6_load_53 : decode cX6_load 53 = .ok (.getfield 145, 3) := by decide +kernel
theorem dX6_load_56 : decode cX6_load 56 = .ok (.ireturn, 1) := by decide +kernel
theorem dX6_points_0 : decode cX6_points 0 = .ok (.iconst 0, 1) := by decide +kernel
theorem dX6_points_1 : decode cX6_points 1 = .ok (.istore_n 1, 1) := by decide +kernel
theorem dX6_points_2 : decode cX6_points 2 = .ok (.iconst 0, 1) := by decide +kernel
theorem dX6_points_3 : decode cX6_points 3 = .ok (.istore_n 2, 1) := by decide +kernel
theorem dX6_points_4 : decode cX6_points 4 = .ok (.iload_n 2, 1) := by decide +kernel
theorem dX6_points_5 : decode cX6_points 5 = .ok (.iconst 4, 1) := by decide +kernel
theorem dX6_points_6 : decode cX6_points 6 = .ok (.if_icmp .ge 24, 3) := by decide +kernel
theorem dX6_points_9 : decode cX6_points 9 = .ok (.iload_n 1, 1) := by decide +kernel
theorem dX6_points_10 : decode cX6_points 10 = .ok (.aload_n 0, 1) := by decide +kernel
theorem dX6_points_11 : decode cX6_points 11 = .ok (.getfield 7, 3) := by decide +kernel
theorem dX6_points_14 : decode cX6_points 14 = .ok (.sipush 134, 3) := by decide +kernel
theorem dX6_points_17 : decode cX6_points 17 = .ok (.iconst 3, 1) := by decide +kernel
theorem dX6_points_18 : decode cX6_points 18 = .ok (.iload_n 2, 1) := by decide +kernel
theorem dX6_points_19 : decode cX6_points 19 = .ok (.imul, 1) := by decide +kernel
theorem dX6_points_20 : decode cX6_points 20 = .ok (.iadd, 1) := by decide +kernel
theorem dX6_points_21 : decode cX6_points 21 = .ok (.iaload, 1) := by decide +kernel
theorem dX6_points_22 : decode cX6_points 22 = .ok (.iadd, 1) := by decide +kernel
theorem dX6_points_23 : decode cX6_points 23 = .ok (.istore_n 1, 1) := by decide +kernel
theorem dX6_points_24 : decode cX6_points 24 = .ok (.iinc 2 1, 3) := by decide +kernel
theorem dX6_points_27 : decode cX6_points 27 = .ok (.goto (-23), 3) := by decide +kernel
theorem dX6_points_30 : decode cX6_points 30 = .ok (.iload_n 1, 1) := by decide +kernel
theorem dX6_points_31 : decode cX6_points 31 = .ok (.ireturn, 1) := by decide +kernel
theorem dX6_drifted_0 : decode cX6_drifted 0 = .ok (.iconst 0, 1) := by decide +kernel
theorem dX6_drifted_1 : decode cX6_drifted 1 = .ok (.istore_n 1, 1) := by decide +kernel
theorem dX6_drifted_2 : decode cX6_drifted 2 = .ok (.iconst 0, 1) := by decide +kernel
theorem dX6_drifted_3 : decode cX6_drifted 3 = .ok (.istore_n 2, 1) := by decide +kernel
theorem dX6_drifted_4 : decode cX6_drifted 4 = .ok (.iload_n 2, 1) := by decide +kernel
theorem dX6_drifted_5 : decode cX6_drifted 5 = .ok (.aload_n 0, 1) := by decide +kernel
theorem dX6_drifted_6 : decode cX6_drifted 6 = .ok (.getfield 7, 3) := by decide +kernel
theorem dX6_drifted_9 : decode cX6_drifted 9 = .ok (.sipush 147, 3) := by decide +kernel
theorem dX6_drifted_12 : decode cX6_drifted 12 = .ok (.iaload, 1) := by decide +kernel
theorem dX6_drifted_13 : decode cX6_drifted 13 = .ok (.if_icmp .ge 24, 3) := by decide +kernel
theorem dX6_drifted_16 : decode cX6_drifted 16 = .ok (.iload_n 1, 1) := by decide +kernel
theorem dX6_drifted_17 : decode cX6_drifted 17 = .ok (.aload_n 0, 1) := by decide +kernel
theorem dX6_drifted_18 : decode cX6_drifted 18 = .ok (.getfield 7, 3) := by decide +kernel
theorem dX6_drifted_21 : decode cX6_drifted 21 = .ok (.iload_n 2, 1) := by decide +kernel
theorem dX6_drifted_22 : decode cX6_drifted 22 = .ok (.invokestatic 60, 3) := by decide +kernel
theorem dX6_drifted_25 : decode cX6_drifted 25 = .ok (.bipush 9, 2) := by decide +kernel
theorem dX6_drifted_27 : decode cX6_drifted 27 = .ok (.iadd, 1) := by decide +kernel
theorem dX6_drifted_28 : decode cX6_drifted 28 = .ok (.iaload, 1) := by decide +kernel
theorem dX6_drifted_29 : decode cX6_drifted 29 = .ok (.iadd, 1) := by decide +kernel
theorem dX6_drifted_30 : decode cX6_drifted 30 = .ok (.istore_n 1, 1) := by decide +kernel
theorem dX6_drifted_31 : decode cX6_drifted 31 = .ok (.iinc 2 1, 3) := by decide +kernel
theorem dX6_drifted_34 : decode cX6_drifted 34 = .ok (.goto (-30), 3) := by decide +kernel
theorem dX6_drifted_37 : decode cX6_drifted 37 = .ok (.iload_n 1, 1) := by decide +kernel
theorem dX6_drifted_38 : decode cX6_drifted 38 = .ok (.ireturn, 1) := by decide +kernel
theorem dX6_about_0 : decode cX6_about 0 = .ok (.aload_n 0, 1) := by decide +kernel
theorem dX6_about_1 : decode cX6_about 1 = .ok (.iload_n 1, 1) := by decide +kernel
theorem dX6_about_2 : decode cX6_about 2 = .ok (.i2l, 1) := by decide +kernel
theorem dX6_about_3 : decode cX6_about 3 = .ok (.lconst 0, 1) := by decide +kernel
theorem dX6_about_4 : decode cX6_about 4 = .ok (.ldc2_w 216, 3) := by decide +kernel
theorem dX6_about_7 : decode cX6_about 7 = .ok (.invokestatic 42, 3) := by decide +kernel
theorem dX6_about_10 : decode cX6_about 10 = .ok (.ifCond .eq 7, 3) := by decide +kernel
theorem dX6_about_13 : decode cX6_about 13 = .ok (.iconst 0, 1) := by decide +kernel
theorem dX6_about_14 : decode cX6_about 14 = .ok (.goto 4, 3) := by decide +kernel
theorem dX6_about_17 : decode cX6_about 17 = .ok (.iconst 1, 1) := by decide +kernel
theorem dX6_about_18 : decode cX6_about 18 = .ok (.invokevirtual 122, 3) := by decide +kernel
theorem dX6_about_21 : decode cX6_about 21 = .ok (.ifCond .eq 5, 3) := by decide +kernel
theorem dX6_about_24 : decode cX6_about 24 = .ok (.iconst 0, 1) := by decide +kernel
theorem dX6_about_25 : decode cX6_about 25 = .ok (.ireturn, 1) := by decide +kernel
theorem dX6_about_26 : decode cX6_about 26 = .ok (.iload_n 1, 1) := by decide +kernel
theorem dX6_about_27 : decode cX6_about 27 = .ok (.tableswitch 142 0 13 #[69, 78, 142, 142, 142, 142, 142, 87, 96, 105, 114, 123, 132, 137], 69) := by decide +kernel
theorem dX6_about_96 : decode cX6_about 96 = .ok (.aload_n 0, 1) := by decide +kernel
theorem dX6_about_97 : decode cX6_about 97 = .ok (.getfield 7, 3) := by decide +kernel
theorem dX6_about_100 : decode cX6_about 100 = .ok (.sipush 146, 3) := by decide +kernel
theorem dX6_about_103 : decode cX6_about 103 = .ok (.iaload, 1) := by decide +kernel
theorem dX6_about_104 : decode cX6_about 104 = .ok (.ireturn, 1) := by decide +kernel
theorem dX6_about_105 : decode cX6_about 105 = .ok (.aload_n 0, 1) := by decide +kernel
theorem dX6_about_106 : decode cX6_about 106 = .ok (.getfield 7, 3) := by decide +kernel
theorem dX6_about_109 : decode cX6_about 109 = .ok (.sipush 147, 3) := by decide +kernel
theorem dX6_about_112 : decode cX6_about 112 = .ok (.iaload, 1) := by decide +kernel
theorem dX6_about_113 : decode cX6_about 113 = .ok (.ireturn, 1) := by decide +kernel
theorem dX6_about_114 : decode cX6_about 114 = .ok (.aload_n 0, 1) := by decide +kernel
theorem dX6_about_115 : decode cX6_about 115 = .ok (.getfield 7, 3) := by decide +kernel
theorem dX6_about_118 : decode cX6_about 118 = .ok (.sipush 148, 3) := by decide +kernel
theorem dX6_about_121 : decode cX6_about 121 = .ok (.iaload, 1) := by decide +kernel
theorem dX6_about_122 : decode cX6_about 122 = .ok (.ireturn, 1) := by decide +kernel
theorem dX6_about_123 : decode cX6_about 123 = .ok (.aload_n 0, 1) := by decide +kernel
theorem dX6_about_124 : decode cX6_about 124 = .ok (.getfield 7, 3) := by decide +kernel
theorem dX6_about_127 : decode cX6_about 127 = .ok (.sipush 149, 3) := by decide +kernel
theorem dX6_about_130 : decode cX6_about 130 = .ok (.iaload, 1) := by decide +kernel
theorem dX6_about_131 : decode cX6_about 131 = .ok (.ireturn, 1) := by decide +kernel
theorem dX6_about_132 : decode cX6_about 132 = .ok (.aload_n 0, 1) := by decide +kernel
theorem dX6_about_133 : decode cX6_about 133 = .ok (.getfield 7, 3) := by decide +kernel
theorem dX6_about_136 : decode cX6_about 136 = .ok (.sipush 150, 3) := by decide +kernel
theorem dX6_about_139 : decode cX6_about 139 = .ok (.iaload, 1) := by decide +kernel
theorem dX6_about_140 : decode cX6_about 140 = .ok (.ireturn, 1) := by decide +kernel
theorem dX6_about_141 : decode cX6_about 141 = .ok (.aload_n 0, 1) := by decide +kernel
theorem dX6_about_142 : decode cX6_about 142 = .ok (.getfield 7, 3) := by decide +kernel
theorem dX6_about_145 : decode cX6_about 145 = .ok (.sipush 151, 3) := by decide +kernel
theorem dX6_about_148 : decode cX6_about 148 = .ok (.iaload, 1) := by decide +kernel
theorem dX6_about_149 : decode cX6_about 149 = .ok (.ireturn, 1) := by decide +kernel
theorem dX6_about_150 : decode cX6_about 150 = .ok (.aload_n 0, 1) := by decide +kernel
theorem dX6_about_151 : decode cX6_about 151 = .ok (.getfield 7, 3) := by decide +kernel
theorem dX6_about_154 : decode cX6_about 154 = .ok (.sipush 152, 3) := by decide +kernel
theorem dX6_about_157 : decode cX6_about 157 = .ok (.iaload, 1) := by decide +kernel
theorem dX6_about_158 : decode cX6_about 158 = .ok (.ireturn, 1) := by decide +kernel
theorem dX6_about_159 : decode cX6_about 159 = .ok (.aload_n 0, 1) := by decide +kernel
theorem dX6_about_160 : decode cX6_about 160 = .ok (.invokevirtual 218, 3) := by decide +kernel
theorem dX6_about_163 : decode cX6_about 163 = .ok (.ireturn, 1) := by decide +kernel
theorem dX6_about_164 : decode cX6_about 164 = .ok (.aload_n 0, 1) := by decide +kernel
theorem dX6_about_165 : decode cX6_about 165 = .ok (.invokevirtual 221, 3) := by decide +kernel
theorem dX6_about_168 : decode cX6_about 168 = .ok (.ireturn, 1) := by decide +kernel
theorem dX6_about_169 : decode cX6_about 169 = .ok (.aload_n 0, 1) := by decide +kernel
theorem dX6_about_170 : decode cX6_about 170 = .ok (.getfield 7, 3) := by decide +kernel
theorem dX6_about_173 : decode cX6_about 173 = .ok (.iload_n 1, 1) := by decide +kernel
theorem dX6_about_174 : decode cX6_about 174 = .ok (.iconst 2, 1) := by decide +kernel
theorem dX6_about_175 : decode cX6_about 175 = .ok (.isub, 1) := by decide +kernel
theorem dX6_about_176 : decode cX6_about 176 = .ok (.invokestatic 82, 3) := by decide +kernel
theorem dX6_about_179 : decode cX6_about 179 = .ok (.ireturn, 1) := by decide +kernel
theorem dX6_inGutter_0 : decode cX6_inGutter 0 = .ok (.iconst 0, 1) := by decide +kernel
theorem dX6_inGutter_1 : decode cX6_inGutter 1 = .ok (.istore_n 3, 1) := by decide +kernel
theorem dX6_inGutter_2 : decode cX6_inGutter 2 = .ok (.iconst 0, 1) := by decide +kernel
theorem dX6_inGutter_3 : decode cX6_inGutter 3 = .ok (.istore 4, 2) := by decide +kernel
theorem dX6_inGutter_5 : decode cX6_inGutter 5 = .ok (.iload 4, 2) := by decide +kernel
theorem dX6_inGutter_7 : decode cX6_inGutter 7 = .ok (.aload_n 0, 1) := by decide +kernel
theorem dX6_inGutter_8 : decode cX6_inGutter 8 = .ok (.getfield 7, 3) := by decide +kernel
theorem dX6_inGutter_11 : decode cX6_inGutter 11 = .ok (.sipush 147, 3) := by decide +kernel
theorem dX6_inGutter_14 : decode cX6_inGutter 14 = .ok (.iaload, 1) := by decide +kernel
theorem dX6_inGutter_15 : decode cX6_inGutter 15 = .ok (.if_icmp .ge 46, 3) := by decide +kernel
theorem dX6_inGutter_18 : decode cX6_inGutter 18 = .ok (.iload_n 3, 1) := by decide +kernel
theorem dX6_inGutter_19 : decode cX6_inGutter 19 = .ok (.aload_n 0, 1) := by decide +kernel
theorem dX6_inGutter_20 : decode cX6_inGutter 20 = .ok (.getfield 7, 3) := by decide +kernel
theorem dX6_inGutter_23 : decode cX6_inGutter 23 = .ok (.iload 4, 2) := by decide +kernel
theorem dX6_inGutter_25 : decode cX6_inGutter 25 = .ok (.invokestatic 64, 3) := by decide +kernel
theorem dX6_inGutter_28 : decode cX6_inGutter 28 = .ok (.iload_n 2, 1) := by decide +kernel
theorem dX6_inGutter_29 : decode cX6_inGutter 29 = .ok (.if_icmp .ne 23, 3) := by decide +kernel
theorem dX6_inGutter_32 : decode cX6_inGutter 32 = .ok (.aload_n 0, 1) := by decide +kernel
theorem dX6_inGutter_33 : decode cX6_inGutter 33 = .ok (.getfield 7, 3) := by decide +kernel
theorem dX6_inGutter_36 : decode cX6_inGutter 36 = .ok (.iload 4, 2) := by decide +kernel
theorem dX6_inGutter_38 : decode cX6_inGutter 38 = .ok (.invokestatic 60, 3) := by decide +kernel
theorem dX6_inGutter_41 : decode cX6_inGutter 41 = .ok (.iconst 4, 1) := by decide +kernel
theorem dX6_inGutter_42 : decode cX6_inGutter 42 = .ok (.iadd, 1) := by decide +kernel
theorem dX6_inGutter_43 : decode cX6_inGutter 43 = .ok (.iaload, 1) := by decide +kernel
theorem dX6_inGutter_44 : decode cX6_inGutter 44 = .ok (.iload_n 1, 1) := by decide +kernel
theorem dX6_inGutter_45 : decode cX6_inGutter 45 = .ok (.if_icmp .ne 7, 3) := by decide +kernel
theorem dX6_inGutter_48 : decode cX6_inGutter 48 = .ok (.iconst 1, 1) := by decide +kernel
theorem dX6_inGutter_49 : decode cX6_inGutter 49 = .ok (.goto 4, 3) := by decide +kernel
theorem dX6_inGutter_52 : decode cX6_inGutter 52 = .ok (.iconst 0, 1) := by decide +kernel
theorem dX6_inGutter_53 : decode cX6_inGutter 53 = .ok (.iadd, 1) := by decide +kernel
theorem dX6_inGutter_54 : decode cX6_inGutter 54 = .ok (.istore_n 3, 1) := by decide +kernel
theorem dX6_inGutter_55 : decode cX6_inGutter 55 = .ok (.iinc 4 1, 3) := by decide +kernel
theorem dX6_inGutter_58 : decode cX6_inGutter 58 = .ok (.goto (-53), 3) := by decide +kernel
theorem dX6_inGutter_61 : decode cX6_inGutter 61 = .ok (.iload_n 3, 1) := by decide +kernel
theorem dX6_inGutter_62 : decode cX6_inGutter 62 = .ok (.ireturn, 1) := by decide +kernel
theorem dX6_lowestWreck_0 : decode cX6_lowestWreck 0 = .ok (.iconst 0, 1) := by decide +kernel
theorem dX6_lowestWreck_1 : decode cX6_lowestWreck 1 = .ok (.istore_n 2, 1) := by decide +kernel
theorem dX6_lowestWreck_2 : decode cX6_lowestWreck 2 = .ok (.iload_n 2, 1) := by decide +kernel
theorem dX6_lowestWreck_3 : decode cX6_lowestWreck 3 = .ok (.aload_n 0, 1) := by decide +kernel
theorem dX6_lowestWreck_4 : decode cX6_lowestWreck 4 = .ok (.getfield 7, 3) := by decide +kernel
theorem dX6_lowestWreck_7 : decode cX6_lowestWreck 7 = .ok (.iconst 4, 1) := by decide +kernel
theorem dX6_lowestWreck_8 : decode cX6_lowestWreck 8 = .ok (.iload_n 1, 1) := by decide +kernel
theorem dX6_lowestWreck_9 : decode cX6_lowestWreck 9 = .ok (.imul, 1) := by decide +kernel
theorem dX6_lowestWreck_10 : decode cX6_lowestWreck 10 = .ok (.iconst 0, 1) := by decide +kernel
theorem dX6_lowestWreck_11 : decode cX6_lowestWreck 11 = .ok (.iadd, 1) := by decide +kernel
theorem dX6_lowestWreck_12 : decode cX6_lowestWreck 12 = .ok (.iaload, 1) := by decide +kernel
theorem dX6_lowestWreck_13 : decode cX6_lowestWreck 13 = .ok (.if_icmp .ge 23, 3) := by decide +kernel
theorem dX6_lowestWreck_16 : decode cX6_lowestWreck 16 = .ok (.aload_n 0, 1) := by decide +kernel
theorem dX6_lowestWreck_17 : decode cX6_lowestWreck 17 = .ok (.getfield 7, 3) := by decide +kernel
theorem dX6_lowestWreck_20 : decode cX6_lowestWreck 20 = .ok (.iload_n 1, 1) := by decide +kernel
theorem dX6_lowestWreck_21 : decode cX6_lowestWreck 21 = .ok (.iload_n 2, 1) := by decide +kernel
theorem dX6_lowestWreck_22 : decode cX6_lowestWreck 22 = .ok (.invokestatic 68, 3) := by decide +kernel
theorem dX6_lowestWreck_25 : decode cX6_lowestWreck 25 = .ok (.ifCond .eq 5, 3) := by decide +kernel
theorem dX6_lowestWreck_28 : decode cX6_lowestWreck 28 = .ok (.iload_n 2, 1) := by decide +kernel
theorem dX6_lowestWreck_29 : decode cX6_lowestWreck 29 = .ok (.ireturn, 1) := by decide +kernel
theorem dX6_lowestWreck_30 : decode cX6_lowestWreck 30 = .ok (.iinc 2 1, 3) := by decide +kernel
theorem dX6_lowestWreck_33 : decode cX6_lowestWreck 33 = .ok (.goto (-31), 3) := by decide +kernel
theorem dX6_lowestWreck_36 : decode cX6_lowestWreck 36 = .ok (.iconst (-1), 1) := by decide +kernel
theorem dX6_lowestWreck_37 : decode cX6_lowestWreck 37 = .ok (.ireturn, 1) := by decide +kernel
theorem dX6_gutterOf_0 : decode cX6_gutterOf 0 = .ok (.aload_n 0, 1) := by decide +kernel
theorem dX6_gutterOf_1 : decode cX6_gutterOf 1 = .ok (.aload_n 0, 1) := by decide +kernel
theorem dX6_gutterOf_2 : decode cX6_gutterOf 2 = .ok (.getfield 7, 3) := by decide +kernel
theorem dX6_gutterOf_5 : decode cX6_gutterOf 5 = .ok (.iload_n 1, 1) := by decide +kernel
theorem dX6_gutterOf_6 : decode cX6_gutterOf 6 = .ok (.invokestatic 46, 3) := by decide +kernel
theorem dX6_gutterOf_9 : decode cX6_gutterOf 9 = .ok (.ifCond .ne 7, 3) := by decide +kernel
theorem dX6_gutterOf_12 : decode cX6_gutterOf 12 = .ok (.iconst 1, 1) := by decide +kernel
theorem dX6_gutterOf_13 : decode cX6_gutterOf 13 = .ok (.goto 20, 3) := by decide +kernel
theorem dX6_gutterOf_16 : decode cX6_gutterOf 16 = .ok (.iload_n 2, 1) := by decide +kernel
theorem dX6_gutterOf_17 : decode cX6_gutterOf 17 = .ok (.i2l, 1) := by decide +kernel
theorem dX6_gutterOf_18 : decode cX6_gutterOf 18 = .ok (.lconst 0, 1) := by decide +kernel
theorem dX6_gutterOf_19 : decode cX6_gutterOf 19 = .ok (.ldc2_w 224, 3) := by decide +kernel
theorem dX6_gutterOf_22 : decode cX6_gutterOf 22 = .ok (.invokestatic 42, 3) := by decide +kernel
theorem dX6_gutterOf_25 : decode cX6_gutterOf 25 = .ok (.ifCond .ne 7, 3) := by decide +kernel
theorem dX6_gutterOf_28 : decode cX6_gutterOf 28 = .ok (.iconst 2, 1) := by decide +kernel
theorem dX6_gutterOf_29 : decode cX6_gutterOf 29 = .ok (.goto 4, 3) := by decide +kernel
theorem dX6_gutterOf_32 : decode cX6_gutterOf 32 = .ok (.iconst 0, 1) := by decide +kernel
theorem dX6_gutterOf_33 : decode cX6_gutterOf 33 = .ok (.invokevirtual 122, 3) := by decide +kernel
theorem dX6_gutterOf_36 : decode cX6_gutterOf 36 = .ok (.ifCond .eq 5, 3) := by decide +kernel
theorem dX6_gutterOf_39 : decode cX6_gutterOf 39 = .ok (.iconst 0, 1) := by decide +kernel
theorem dX6_gutterOf_40 : decode cX6_gutterOf 40 = .ok (.ireturn, 1) := by decide +kernel
theorem dX6_gutterOf_41 : decode cX6_gutterOf 41 = .ok (.iload_n 2, 1) := by decide +kernel
theorem dX6_gutterOf_42 : decode cX6_gutterOf 42 = .ok (.tableswitch 46 4 6 #[26, 33, 40], 26) := by decide +kernel
theorem dX6_gutterOf_68 : decode cX6_gutterOf 68 = .ok (.aload_n 0, 1) := by decide +kernel
theorem dX6_gutterOf_69 : decode cX6_gutterOf 69 = .ok (.iload_n 1, 1) := by decide +kernel
theorem dX6_gutterOf_70 : decode cX6_gutterOf 70 = .ok (.iconst 1, 1) := by decide +kernel
theorem dX6_gutterOf_71 : decode cX6_gutterOf 71 = .ok (.invokevirtual 226, 3) := by decide +kernel
theorem dX6_gutterOf_74 : decode cX6_gutterOf 74 = .ok (.ireturn, 1) := by decide +kernel
theorem dX6_gutterOf_75 : decode cX6_gutterOf 75 = .ok (.aload_n 0, 1) := by decide +kernel
theorem dX6_gutterOf_76 : decode cX6_gutterOf 76 = .ok (.iload_n 1, 1) := by decide +kernel
theorem dX6_gutterOf_77 : decode cX6_gutterOf 77 = .ok (.iconst 3, 1) := by decide +kernel
theorem dX6_gutterOf_78 : decode cX6_gutterOf 78 = .ok (.invokevirtual 226, 3) := by decide +kernel
theorem dX6_gutterOf_81 : decode cX6_gutterOf 81 = .ok (.ireturn, 1) := by decide +kernel
theorem dX6_gutterOf_82 : decode cX6_gutterOf 82 = .ok (.aload_n 0, 1) := by decide +kernel
theorem dX6_gutterOf_83 : decode cX6_gutterOf 83 = .ok (.iload_n 1, 1) := by decide +kernel
theorem dX6_gutterOf_84 : decode cX6_gutterOf 84 = .ok (.invokevirtual 229, 3) := by decide +kernel
theorem dX6_gutterOf_87 : decode cX6_gutterOf 87 = .ok (.ireturn, 1) := by decide +kernel
theorem dX6_gutterOf_88 : decode cX6_gutterOf 88 = .ok (.aload_n 0, 1) := by decide +kernel
theorem dX6_gutterOf_89 : decode cX6_gutterOf 89 = .ok (.getfield 7, 3) := by decide +kernel
theorem dX6_gutterOf_92 : decode cX6_gutterOf 92 = .ok (.iconst 4, 1) := by decide +kernel
theorem dX6_gutterOf_93 : decode cX6_gutterOf 93 = .ok (.iload_n 1, 1) := by decide +kernel
theorem dX6_gutterOf_94 : decode cX6_gutterOf 94 = .ok (.imul, 1) := by decide +kernel
theorem dX6_gutterOf_95 : decode cX6_gutterOf 95 = .ok (.iload_n 2, 1) := by decide +kernel
theorem dX6_gutterOf_96 : decode cX6_gutterOf 96 = .ok (.iadd, 1) := by decide +kernel
theorem dX6_gutterOf_97 : decode cX6_gutterOf 97 = .ok (.iaload, 1) := by decide +kernel
theorem dX6_gutterOf_98 : decode cX6_gutterOf 98 = .ok (.ireturn, 1) := by decide +kernel
theorem dX6_boatOf_0 : decode cX6_boatOf 0 = .ok (.aload_n 0, 1) := by decide +kernel
theorem dX6_boatOf_1 : decode cX6_boatOf 1 = .ok (.aload_n 0, 1) := by decide +kernel
theorem dX6_boatOf_2 : decode cX6_boatOf 2 = .ok (.getfield 7, 3) := by decide +kernel
theorem dX6_boatOf_5 : decode cX6_boatOf 5 = .ok (.iload_n 1, 1) := by decide +kernel
theorem dX6_boatOf_6 : decode cX6_boatOf 6 = .ok (.invokestatic 166, 3) := by decide +kernel
theorem dX6_boatOf_9 : decode cX6_boatOf 9 = .ok (.ifCond .ne 7, 3) := by decide +kernel
theorem dX6_boatOf_12 : decode cX6_boatOf 12 = .ok (.iconst 1, 1) := by decide +kernel
theorem dX6_boatOf_13 : decode cX6_boatOf 13 = .ok (.goto 20, 3) := by decide +kernel
theorem dX6_boatOf_16 : decode cX6_boatOf 16 = .ok (.iload_n 2, 1) := by decide +kernel
theorem dX6_boatOf_17 : decode cX6_boatOf 17 = .ok (.i2l, 1) := by decide +kernel
theorem dX6_boatOf_18 : decode cX6_boatOf 18 = .ok (.lconst 0, 1) := by decide +kernel
theorem dX6_boatOf_19 : decode cX6_boatOf 19 = .ok (.ldc2_w 40, 3) := by decide +kernel
theorem dX6_boatOf_22 : decode cX6_boatOf 22 = .ok (.invokestatic 42, 3) := by decide +kernel
theorem dX6_boatOf_25 : decode cX6_boatOf 25 = .ok (.ifCond .ne 7, 3) := by decide +kernel
theorem dX6_boatOf_28 : decode cX6_boatOf 28 = .ok (.iconst 2, 1) := by decide +kernel
theorem dX6_boatOf_29 : decode cX6_boatOf 29 = .ok (.goto 4, 3) := by decide +kernel
theorem dX6_boatOf_32 : decode cX6_boatOf 32 = .ok (.iconst 0, 1) := by decide +kernel
theorem dX6_boatOf_33 : decode cX6_boatOf 33 = .ok (.invokevirtual 122, 3) := by decide +kernel
theorem dX6_boatOf_36 : decode cX6_boatOf 36 = .ok (.ifCond .eq 5, 3) := by decide +kernel
theorem dX6_boatOf_39 : decode cX6_boatOf 39 = .ok (.iconst 0, 1) := by decide +kernel
theorem dX6_boatOf_40 : decode cX6_boatOf 40 = .ok (.ireturn, 1) := by decide +kernel
theorem dX6_boatOf_41 : decode cX6_boatOf 41 = .ok (.aload_n 0, 1) := by decide +kernel
theorem dX6_boatOf_42 : decode cX6_boatOf 42 = .ok (.getfield 7, 3) := by decide +kernel
theorem dX6_boatOf_45 : decode cX6_boatOf 45 = .ok (.iload_n 1, 1) := by decide +kernel
theorem dX6_boatOf_46 : decode cX6_boatOf 46 = .ok (.invokestatic 64, 3) := by decide +kernel
theorem dX6_boatOf_49 : decode cX6_boatOf 49 = .ok (.istore_n 3, 1) := by decide +kernel
theorem dX6_boatOf_50 : decode cX6_boatOf 50 = .ok (.iload_n 2, 1) := by decide +kernel
theorem dX6_boatOf_51 : decode cX6_boatOf 51 = .ok (.tableswitch 98 4 10 #[41, 41, 98, 67, 98, 98, 89], 41) := by decide +kernel
theorem dX6_boatOf_92 : decode cX6_boatOf 92 = .ok (.iload_n 3, 1) := by decide +kernel
theorem dX6_boatOf_93 : decode cX6_boatOf 93 = .ok (.iconst 1, 1) := by decide +kernel
theorem dX6_boatOf_94 : decode cX6_boatOf 94 = .ok (.if_icmp .eq 8, 3) := by decide +kernel
theorem dX6_boatOf_97 : decode cX6_boatOf 97 = .ok (.iload_n 3, 1) := by decide +kernel
theorem dX6_boatOf_98 : decode cX6_boatOf 98 = .ok (.iconst 3, 1) := by decide +kernel
theorem dX6_boatOf_99 : decode cX6_boatOf 99 = .ok (.if_icmp .ne 17, 3) := by decide +kernel
theorem dX6_boatOf_102 : decode cX6_boatOf 102 = .ok (.aload_n 0, 1) := by decide +kernel
theorem dX6_boatOf_103 : decode cX6_boatOf 103 = .ok (.getfield 7, 3) := by decide +kernel
theorem dX6_boatOf_106 : decode cX6_boatOf 106 = .ok (.iload_n 1, 1) := by decide +kernel
theorem dX6_boatOf_107 : decode cX6_boatOf 107 = .ok (.invokestatic 60, 3) := by decide +kernel
theorem dX6_boatOf_110 : decode cX6_boatOf 110 = .ok (.iload_n 2, 1) := by decide +kernel
theorem dX6_boatOf_111 : decode cX6_boatOf 111 = .ok (.iadd, 1) := by decide +kernel
theorem dX6_boatOf_112 : decode cX6_boatOf 112 = .ok (.iaload, 1) := by decide +kernel
theorem dX6_boatOf_113 : decode cX6_boatOf 113 = .ok (.goto 4, 3) := by decide +kernel
theorem dX6_boatOf_116 : decode cX6_boatOf 116 = .ok (.iconst (-1), 1) := by decide +kernel
theorem dX6_boatOf_117 : decode cX6_boatOf 117 = .ok (.ireturn, 1) := by decide +kernel
theorem dX6_boatOf_118 : decode cX6_boatOf 118 = .ok (.iload_n 3, 1) := by decide +kernel
theorem dX6_boatOf_119 : decode cX6_boatOf 119 = .ok (.iconst 2, 1) := by decide +kernel
theorem dX6_boatOf_120 : decode cX6_boatOf 120 = .ok (.if_icmp .ne 18, 3) := by decide +kernel
theorem dX6_boatOf_123 : decode cX6_boatOf 123 = .ok (.aload_n 0, 1) := by decide +kernel
theorem dX6_boatOf_124 : decode cX6_boatOf 124 = .ok (.getfield 7, 3) := by decide +kernel
theorem dX6_boatOf_127 : decode cX6_boatOf 127 = .ok (.iload_n 1, 1) := by decide +kernel
theorem dX6_boatOf_128 : decode cX6_boatOf 128 = .ok (.invokestatic 60, 3) := by decide +kernel
theorem dX6_boatOf_131 : decode cX6_boatOf 131 = .ok (.bipush 7, 2) := by decide +kernel
theorem dX6_boatOf_133 : decode cX6_boatOf 133 = .ok (.iadd, 1) := by decide +kernel
theorem dX6_boatOf_134 : decode cX6_boatOf 134 = .ok (.iaload, 1) := by decide +kernel
theorem dX6_boatOf_135 : decode cX6_boatOf 135 = .ok (.goto 4, 3) := by decide +kernel
theorem dX6_boatOf_138 : decode cX6_boatOf 138 = .ok (.iconst (-1), 1) := by decide +kernel
theorem dX6_boatOf_139 : decode cX6_boatOf 139 = .ok (.ireturn, 1) := by decide +kernel
theorem dX6_boatOf_140 : decode cX6_boatOf 140 = .ok (.aload_n 0, 1) := by decide +kernel
theorem dX6_boatOf_141 : decode cX6_boatOf 141 = .ok (.getfield 7, 3) := by decide +kernel
theorem dX6_boatOf_144 : decode cX6_boatOf 144 = .ok (.iload_n 1, 1) := by decide +kernel
theorem dX6_boatOf_145 : decode cX6_boatOf 145 = .ok (.invokestatic 75, 3) := by decide +kernel
theorem dX6_boatOf_148 : decode cX6_boatOf 148 = .ok (.ireturn, 1) := by decide +kernel
theorem dX6_boatOf_149 : decode cX6_boatOf 149 = .ok (.aload_n 0, 1) := by decide +kernel
theorem dX6_boatOf_150 : decode cX6_boatOf 150 = .ok (.getfield 7, 3) := by decide +kernel
theorem dX6_boatOf_153 : decode cX6_boatOf 153 = .ok (.iload_n 1, 1) := by decide +kernel
theorem dX6_boatOf_154 : decode cX6_boatOf 154 = .ok (.invokestatic 60, 3) := by decide +kernel
theorem dX6_boatOf_157 : decode cX6_boatOf 157 = .ok (.iload_n 2, 1) := by decide +kernel
theorem dX6_boatOf_158 : decode cX6_boatOf 158 = .ok (.iadd, 1) := by decide +kernel
theorem dX6_boatOf_159 : decode cX6_boatOf 159 = .ok (.iaload, 1) := by decide +kernel
theorem dX6_boatOf_160 : decode cX6_boatOf 160 = .ok (.ireturn, 1) := by decide +kernel
theorem dX6_boatsOf_0 : decode cX6_boatsOf 0 = .ok (.iconst 0, 1) := by decide +kernel
theorem dX6_boatsOf_1 : decode cX6_boatsOf 1 = .ok (.istore_n 2, 1) := by decide +kernel
theorem dX6_boatsOf_2 : decode cX6_boatsOf 2 = .ok (.iconst 0, 1) := by decide +kernel
theorem dX6_boatsOf_3 : decode cX6_boatsOf 3 = .ok (.istore_n 3, 1) := by decide +kernel
theorem dX6_boatsOf_4 : decode cX6_boatsOf 4 = .ok (.iload_n 3, 1) := by decide +kernel
theorem dX6_boatsOf_5 : decode cX6_boatsOf 5 = .ok (.aload_n 0, 1) := by decide +kernel
theorem dX6_boatsOf_6 : decode cX6_boatsOf 6 = .ok (.getfield 7, 3) := by decide +kernel
theorem dX6_boatsOf_9 : decode cX6_boatsOf 9 = .ok (.sipush 147, 3) := by decide +kernel
theorem dX6_boatsOf_12 : decode cX6_boatsOf 12 = .ok (.iaload, 1) := by decide +kernel
theorem dX6_boatsOf_13 : decode cX6_boatsOf 13 = .ok (.if_icmp .ge 32, 3) := by decide +kernel
theorem dX6_boatsOf_16 : decode cX6_boatsOf 16 = .ok (.iload_n 2, 1) := by decide +kernel
theorem dX6_boatsOf_17 : decode cX6_boatsOf 17 = .ok (.aload_n 0, 1) := by decide +kernel
theorem dX6_boatsOf_18 : decode cX6_boatsOf 18 = .ok (.getfield 7, 3) := by decide +kernel
theorem dX6_boatsOf_21 : decode cX6_boatsOf 21 = .ok (.iload_n 3, 1) := by decide +kernel
theorem dX6_boatsOf_22 : decode cX6_boatsOf 22 = .ok (.invokestatic 60, 3) := by decide +kernel
theorem dX6_boatsOf_25 : decode cX6_boatsOf 25 = .ok (.iconst 2, 1) := by decide +kernel
theorem dX6_boatsOf_26 : decode cX6_boatsOf 26 = .ok (.iadd, 1) := by decide +kernel
theorem dX6_boatsOf_27 : decode cX6_boatsOf 27 = .ok (.iaload, 1) := by decide +kernel
theorem dX6_boatsOf_28 : decode cX6_boatsOf 28 = .ok (.iload_n 1, 1) := by decide +kernel
theorem dX6_boatsOf_29 : decode cX6_boatsOf 29 = .ok (.if_icmp .ne 7, 3) := by decide +kernel
theorem dX6_boatsOf_32 : decode cX6_boatsOf 32 = .ok (.iconst 1, 1) := by decide +kernel
theorem dX6_boatsOf_33 : decode cX6_boatsOf 33 = .ok (.goto 4, 3) := by decide +kernel
theorem dX6_boatsOf_36 : decode cX6_boatsOf 36 = .ok (.iconst 0, 1) := by decide +kernel
theorem dX6_boatsOf_37 : decode cX6_boatsOf 37 = .ok (.iadd, 1) := by decide +kernel
theorem dX6_boatsOf_38 : decode cX6_boatsOf 38 = .ok (.istore_n 2, 1) := by decide +kernel
theorem dX6_boatsOf_39 : decode cX6_boatsOf 39 = .ok (.iinc 3 1, 3) := by decide +kernel
theorem dX6_boatsOf_42 : decode cX6_boatsOf 42 = .ok (.goto (-38), 3) := by decide +kernel
theorem dX6_boatsOf_45 : decode cX6_boatsOf 45 = .ok (.iload_n 2, 1) := by decide +kernel
theorem dX6_boatsOf_46 : decode cX6_boatsOf 46 = .ok (.ireturn, 1) := by decide +kernel
theorem dX6_ownerOf_0 : decode cX6_ownerOf 0 = .ok (.aload_n 0, 1) := by decide +kernel
theorem dX6_ownerOf_1 : decode cX6_ownerOf 1 = .ok (.iload_n 1, 1) := by decide +kernel
theorem dX6_ownerOf_2 : decode cX6_ownerOf 2 = .ok (.invokestatic 232, 3) := by decide +kernel
theorem dX6_ownerOf_5 : decode cX6_ownerOf 5 = .ok (.ifCond .ne 7, 3) := by decide +kernel
theorem dX6_ownerOf_8 : decode cX6_ownerOf 8 = .ok (.iconst 1, 1) := by decide +kernel
theorem dX6_ownerOf_9 : decode cX6_ownerOf 9 = .ok (.goto 20, 3) := by decide +kernel
theorem dX6_ownerOf_12 : decode cX6_ownerOf 12 = .ok (.iload_n 2, 1) := by decide +kernel
theorem dX6_ownerOf_13 : decode cX6_ownerOf 13 = .ok (.i2l, 1) := by decide +kernel
theorem dX6_ownerOf_14 : decode cX6_ownerOf 14 = .ok (.lconst 0, 1) := by decide +kernel
theorem dX6_ownerOf_15 : decode cX6_ownerOf 15 = .ok (.ldc2_w 52, 3) := by decide +kernel
theorem dX6_ownerOf_18 : decode cX6_ownerOf 18 = .ok (.invokestatic 42, 3) := by decide +kernel
theorem dX6_ownerOf_21 : decode cX6_ownerOf 21 = .ok (.ifCond .ne 7, 3) := by decide +kernel
theorem dX6_ownerOf_24 : decode cX6_ownerOf 24 = .ok (.iconst 2, 1) := by decide +kernel
theorem dX6_ownerOf_25 : decode cX6_ownerOf 25 = .ok (.goto 4, 3) := by decide +kernel
theorem dX6_ownerOf_28 : decode cX6_ownerOf 28 = .ok (.iconst 0, 1) := by decide +kernel
theorem dX6_ownerOf_29 : decode cX6_ownerOf 29 = .ok (.invokevirtual 122, 3) := by decide +kernel
theorem dX6_ownerOf_32 : decode cX6_ownerOf 32 = .ok (.ifCond .eq 5, 3) := by decide +kernel
theorem dX6_ownerOf_35 : decode cX6_ownerOf 35 = .ok (.iconst 0, 1) := by decide +kernel
theorem dX6_ownerOf_36 : decode cX6_ownerOf 36 = .ok (.ireturn, 1) := by decide +kernel
theorem dX6_ownerOf_37 : decode cX6_ownerOf 37 = .ok (.iload_n 2, 1) := by decide +kernel
theorem dX6_ownerOf_38 : decode cX6_ownerOf 38 = .ok (.tableswitch 62 0 4 #[34, 47, 62, 62, 53], 34) := by decide +kernel
theorem dX6_ownerOf_72 : decode cX6_ownerOf 72 = .ok (.aload_n 0, 1) := by decide +kernel
theorem dX6_ownerOf_73 : decode cX6_ownerOf 73 = .ok (.getfield 7, 3) := by decide +kernel
theorem dX6_ownerOf_76 : decode cX6_ownerOf 76 = .ok (.sipush 134, 3) := by decide +kernel
theorem dX6_ownerOf_79 : decode cX6_ownerOf 79 = .ok (.iconst 3, 1) := by decide +kernel
theorem dX6_ownerOf_80 : decode cX6_ownerOf 80 = .ok (.iload_n 1, 1) := by decide +kernel
theorem dX6_ownerOf_81 : decode cX6_ownerOf 81 = .ok (.imul, 1) := by decide +kernel
theorem dX6_ownerOf_82 : decode cX6_ownerOf 82 = .ok (.iadd, 1) := by decide +kernel
theorem dX6_ownerOf_83 : decode cX6_ownerOf 83 = .ok (.iaload, 1) := by decide +kernel
theorem dX6_ownerOf_84 : decode cX6_ownerOf 84 = .ok (.ireturn, 1) := by decide +kernel
theorem dX6_ownerOf_85 : decode cX6_ownerOf 85 = .ok (.aload_n 0, 1) := by decide +kernel
theorem dX6_ownerOf_86 : decode cX6_ownerOf 86 = .ok (.iload_n 1, 1) := by decide +kernel
theorem dX6_ownerOf_87 : decode cX6_ownerOf 87 = .ok (.invokevirtual 235, 3) := by decide +kernel
theorem dX6_ownerOf_90 : decode cX6_ownerOf 90 = .ok (.ireturn, 1) := by decide +kernel
theorem dX6_ownerOf_91 : decode cX6_ownerOf 91 = .ok (.aload_n 0, 1) := by decide +kernel
theorem dX6_ownerOf_92 : decode cX6_ownerOf 92 = .ok (.getfield 7, 3) := by decide +kernel
theorem dX6_ownerOf_95 : decode cX6_ownerOf 95 = .ok (.iload_n 1, 1) := by decide +kernel
theorem dX6_ownerOf_96 : decode cX6_ownerOf 96 = .ok (.invokestatic 105, 3) := by decide +kernel
theorem dX6_ownerOf_99 : decode cX6_ownerOf 99 = .ok (.ireturn, 1) := by decide +kernel
theorem dX6_ownerOf_100 : decode cX6_ownerOf 100 = .ok (.aload_n 0, 1) := by decide +kernel
theorem dX6_ownerOf_101 : decode cX6_ownerOf 101 = .ok (.getfield 7, 3) := by decide +kernel
theorem dX6_ownerOf_104 : decode cX6_ownerOf 104 = .ok (.sipush 134, 3) := by decide +kernel
theorem dX6_ownerOf_107 : decode cX6_ownerOf 107 = .ok (.iconst 3, 1) := by decide +kernel
theorem dX6_ownerOf_108 : decode cX6_ownerOf 108 = .ok (.iload_n 1, 1) := by decide +kernel
theorem dX6_ownerOf_109 : decode cX6_ownerOf 109 = .ok (.imul, 1) := by decide +kernel
theorem dX6_ownerOf_110 : decode cX6_ownerOf 110 = .ok (.iadd, 1) := by decide +kernel
theorem dX6_ownerOf_111 : decode cX6_ownerOf 111 = .ok (.iload_n 2, 1) := by decide +kernel
theorem dX6_ownerOf_112 : decode cX6_ownerOf 112 = .ok (.iadd, 1) := by decide +kernel
theorem dX6_ownerOf_113 : decode cX6_ownerOf 113 = .ok (.iconst 1, 1) := by decide +kernel
theorem dX6_ownerOf_114 : decode cX6_ownerOf 114 = .ok (.isub, 1) := by decide +kernel
theorem dX6_ownerOf_115 : decode cX6_ownerOf 115 = .ok (.iaload, 1) := by decide +kernel
theorem dX6_ownerOf_116 : decode cX6_ownerOf 116 = .ok (.ireturn, 1) := by decide +kernel
theorem dX6_way_0 : decode cX6_way 0 = .ok (.aload_n 0, 1) := by decide +kernel
theorem dX6_way_1 : decode cX6_way 1 = .ok (.aload_n 0, 1) := by decide +kernel
theorem dX6_way_2 : decode cX6_way 2 = .ok (.getfield 7, 3) := by decide +kernel
theorem dX6_way_5 : decode cX6_way 5 = .ok (.iload_n 1, 1) := by decide +kernel
theorem dX6_way_6 : decode cX6_way 6 = .ok (.iload_n 2, 1) := by decide +kernel
theorem dX6_way_7 : decode cX6_way 7 = .ok (.invokestatic 111, 3) := by decide +kernel
theorem dX6_way_10 : decode cX6_way 10 = .ok (.ifCond .ne 7, 3) := by decide +kernel
theorem dX6_way_13 : decode cX6_way 13 = .ok (.iconst 1, 1) := by decide +kernel
theorem dX6_way_14 : decode cX6_way 14 = .ok (.goto 18, 3) := by decide +kernel
theorem dX6_way_17 : decode cX6_way 17 = .ok (.iload_n 3, 1) := by decide +kernel
theorem dX6_way_18 : decode cX6_way 18 = .ok (.i2l, 1) := by decide +kernel
theorem dX6_way_19 : decode cX6_way 19 = .ok (.lconst 0, 1) := by decide +kernel
theorem dX6_way_20 : decode cX6_way 20 = .ok (.lconst 1, 1) := by decide +kernel
theorem dX6_way_21 : decode cX6_way 21 = .ok (.invokestatic 42, 3) := by decide +kernel
theorem dX6_way_24 : decode cX6_way 24 = .ok (.ifCond .ne 7, 3) := by decide +kernel
theorem dX6_way_27 : decode cX6_way 27 = .ok (.iconst 2, 1) := by decide +kernel
theorem dX6_way_28 : decode cX6_way 28 = .ok (.goto 4, 3) := by decide +kernel
theorem dX6_way_31 : decode cX6_way 31 = .ok (.iconst 0, 1) := by decide +kernel
theorem dX6_way_32 : decode cX6_way 32 = .ok (.invokevirtual 122, 3) := by decide +kernel
theorem dX6_way_35 : decode cX6_way 35 = .ok (.ifCond .eq 5, 3) := by decide +kernel
theorem dX6_way_38 : decode cX6_way 38 = .ok (.iconst 0, 1) := by decide +kernel
theorem dX6_way_39 : decode cX6_way 39 = .ok (.ireturn, 1) := by decide +kernel
theorem dX6_way_40 : decode cX6_way 40 = .ok (.aload_n 0, 1) := by decide +kernel
theorem dX6_way_41 : decode cX6_way 41 = .ok (.getfield 7, 3) := by decide +kernel
theorem dX6_way_44 : decode cX6_way 44 = .ok (.iload_n 1, 1) := by decide +kernel
theorem dX6_way_45 : decode cX6_way 45 = .ok (.iload_n 2, 1) := by decide +kernel
theorem dX6_way_46 : decode cX6_way 46 = .ok (.invokestatic 108, 3) := by decide +kernel
theorem dX6_way_49 : decode cX6_way 49 = .ok (.ireturn, 1) := by decide +kernel
theorem dX6_setting_0 : decode cX6_setting 0 = .ok (.aload_n 0, 1) := by decide +kernel
theorem dX6_setting_1 : decode cX6_setting 1 = .ok (.iload_n 1, 1) := by decide +kernel
theorem dX6_setting_2 : decode cX6_setting 2 = .ok (.i2l, 1) := by decide +kernel
theorem dX6_setting_3 : decode cX6_setting 3 = .ok (.lconst 0, 1) := by decide +kernel
theorem dX6_setting_4 : decode cX6_setting 4 = .ok (.ldc2_w 238, 3) := by decide +kernel
theorem dX6_setting_7 : decode cX6_setting 7 = .ok (.invokestatic 42, 3) := by decide +kernel
theorem dX6_setting_10 : decode cX6_setting 10 = .ok (.ifCond .eq 7, 3) := by decide +kernel
theorem dX6_setting_13 : decode cX6_setting 13 = .ok (.iconst 0, 1) := by decide +kernel
theorem dX6_setting_14 : decode cX6_setting 14 = .ok (.goto 4, 3) := by decide +kernel
theorem dX6_setting_17 : decode cX6_setting 17 = .ok (.iconst 1, 1) := by decide +kernel
theorem dX6_setting_18 : decode cX6_setting 18 = .ok (.invokevirtual 122, 3) := by decide +kernel
theorem dX6_setting_21 : decode cX6_setting 21 = .ok (.ifCond .eq 5, 3) := by decide +kernel
theorem dX6_setting_24 : decode cX6_setting 24 = .ok (.iconst 0, 1) := by decide +kernel
theorem dX6_setting_25 : decode cX6_setting 25 = .ok (.ireturn, 1) := by decide +kernel
theorem dX6_setting_26 : decode cX6_setting 26 = .ok (.aload_n 0, 1) := by decide +kernel
theorem dX6_setting_27 : decode cX6_setting 27 = .ok (.getfield 7, 3) := by decide +kernel
theorem dX6_setting_30 : decode cX6_setting 30 = .ok (.sipush 154, 3) := by decide +kernel
theorem dX6_setting_33 : decode cX6_setting 33 = .ok (.iload_n 1, 1) := by decide +kernel
theorem dX6_setting_34 : decode cX6_setting 34 = .ok (.iadd, 1) := by decide +kernel
theorem dX6_setting_35 : decode cX6_setting 35 = .ok (.iaload, 1) := by decide +kernel
theorem dX6_setting_36 : decode cX6_setting 36 = .ok (.ireturn, 1) := by decide +kernel
theorem dX6_gutter_0 : decode cX6_gutter 0 = .ok (.aload_n 0, 1) := by decide +kernel
theorem dX6_gutter_1 : decode cX6_gutter 1 = .ok (.aload_n 0, 1) := by decide +kernel
theorem dX6_gutter_2 : decode cX6_gutter 2 = .ok (.getfield 7, 3) := by decide +kernel
theorem dX6_gutter_5 : decode cX6_gutter 5 = .ok (.iload_n 3, 1) := by decide +kernel
theorem dX6_gutter_6 : decode cX6_gutter 6 = .ok (.iload 4, 2) := by decide +kernel
theorem dX6_gutter_8 : decode cX6_gutter 8 = .ok (.invokestatic 151, 3) := by decide +kernel
theorem dX6_gutter_11 : decode cX6_gutter 11 = .ok (.ifCond .ne 7, 3) := by decide +kernel
theorem dX6_gutter_14 : decode cX6_gutter 14 = .ok (.iconst 1, 1) := by decide +kernel
theorem dX6_gutter_15 : decode cX6_gutter 15 = .ok (.goto 33, 3) := by decide +kernel
theorem dX6_gutter_18 : decode cX6_gutter 18 = .ok (.iload_n 1, 1) := by decide +kernel
theorem dX6_gutter_19 : decode cX6_gutter 19 = .ok (.iload_n 2, 1) := by decide +kernel
theorem dX6_gutter_20 : decode cX6_gutter 20 = .ok (.invokestatic 240, 3) := by decide +kernel
theorem dX6_gutter_23 : decode cX6_gutter 23 = .ok (.ifCond .ne 7, 3) := by decide +kernel
theorem dX6_gutter_26 : decode cX6_gutter 26 = .ok (.iconst 2, 1) := by decide +kernel
theorem dX6_gutter_27 : decode cX6_gutter 27 = .ok (.goto 21, 3) := by decide +kernel
theorem dX6_gutter_30 : decode cX6_gutter 30 = .ok (.aload_n 0, 1) := by decide +kernel
theorem dX6_gutter_31 : decode cX6_gutter 31 = .ok (.getfield 7, 3) := by decide +kernel
theorem dX6_gutter_34 : decode cX6_gutter 34 = .ok (.sipush 146, 3) := by decide +kernel
theorem dX6_gutter_37 : decode cX6_gutter 37 = .ok (.iaload, 1) := by decide +kernel
theorem dX6_gutter_38 : decode cX6_gutter 38 = .ok (.bipush 6, 2) := by decide +kernel
theorem dX6_gutter_40 : decode cX6_gutter 40 = .ok (.if_icmp .ne 7, 3) := by decide +kernel
theorem dX6_gutter_43 : decode cX6_gutter 43 = .ok (.iconst 3, 1) := by decide +kernel
theorem dX6_gutter_44 : decode cX6_gutter 44 = .ok (.goto 4, 3) := by decide +kernel
theorem dX6_gutter_47 : decode cX6_gutter 47 = .ok (.iconst 0, 1) := by decide +kernel
theorem dX6_gutter_48 : decode cX6_gutter 48 = .ok (.invokevirtual 122, 3) := by decide +kernel
theorem dX6_gutter_51 : decode cX6_gutter 51 = .ok (.ifCond .eq 5, 3) := by decide +kernel
theorem dX6_gutter_54 : decode cX6_gutter 54 = .ok (.iconst 0, 1) := by decide +kernel
theorem dX6_gutter_55 : decode cX6_gutter 55 = .ok (.ireturn, 1) := by decide +kernel
theorem dX6_gutter_56 : decode cX6_gutter 56 = .ok (.aload_n 0, 1) := by decide +kernel
theorem dX6_gutter_57 : decode cX6_gutter 57 = .ok (.invokevirtual 243, 3) := by decide +kernel
theorem dX6_gutter_60 : decode cX6_gutter 60 = .ok (.aload_n 0, 1) := by decide +kernel
theorem dX6_gutter_61 : decode cX6_gutter 61 = .ok (.getfield 7, 3) := by decide +kernel
theorem dX6_gutter_64 : decode cX6_gutter 64 = .ok (.iload_n 1, 1) := by decide +kernel
theorem dX6_gutter_65 : decode cX6_gutter 65 = .ok (.iload_n 2, 1) := by decide +kernel
theorem dX6_gutter_66 : decode cX6_gutter 66 = .ok (.iload_n 3, 1) := by decide +kernel
theorem dX6_gutter_67 : decode cX6_gutter 67 = .ok (.iload 4, 2) := by decide +kernel
theorem dX6_gutter_69 : decode cX6_gutter 69 = .ok (.invokestatic 158, 3) := by decide +kernel
theorem dX6_gutter_72 : decode cX6_gutter 72 = .ok (.ireturn, 1) := by decide +kernel
theorem dX6_boat_0 : decode cX6_boat 0 = .ok (.aload_n 0, 1) := by decide +kernel
theorem dX6_boat_1 : decode cX6_boat 1 = .ok (.iload_n 3, 1) := by decide +kernel
theorem dX6_boat_2 : decode cX6_boat 2 = .ok (.invokestatic 232, 3) := by decide +kernel
theorem dX6_boat_5 : decode cX6_boat 5 = .ok (.ifCond .ne 7, 3) := by decide +kernel
theorem dX6_boat_8 : decode cX6_boat 8 = .ok (.iconst 1, 1) := by decide +kernel
theorem dX6_boat_9 : decode cX6_boat 9 = .ok (.goto 33, 3) := by decide +kernel
theorem dX6_boat_12 : decode cX6_boat 12 = .ok (.iload_n 1, 1) := by decide +kernel
theorem dX6_boat_13 : decode cX6_boat 13 = .ok (.iload_n 2, 1) := by decide +kernel
theorem dX6_boat_14 : decode cX6_boat 14 = .ok (.invokestatic 246, 3) := by decide +kernel
theorem dX6_boat_17 : decode cX6_boat 17 = .ok (.ifCond .ne 7, 3) := by decide +kernel
theorem dX6_boat_20 : decode cX6_boat 20 = .ok (.iconst 2, 1) := by decide +kernel
theorem dX6_boat_21 : decode cX6_boat 21 = .ok (.goto 21, 3) := by decide +kernel
theorem dX6_boat_24 : decode cX6_boat 24 = .ok (.aload_n 0, 1) := by decide +kernel
theorem dX6_boat_25 : decode cX6_boat 25 = .ok (.getfield 7, 3) := by decide +kernel
theorem dX6_boat_28 : decode cX6_boat 28 = .ok (.sipush 147, 3) := by decide +kernel
theorem dX6_boat_31 : decode cX6_boat 31 = .ok (.iaload, 1) := by decide +kernel
theorem dX6_boat_32 : decode cX6_boat 32 = .ok (.bipush 10, 2) := by decide +kernel
theorem dX6_boat_34 : decode cX6_boat 34 = .ok (.if_icmp .ne 7, 3) := by decide +kernel
theorem dX6_boat_37 : decode cX6_boat 37 = .ok (.iconst 3, 1) := by decide +kernel
theorem dX6_boat_38 : decode cX6_boat 38 = .ok (.goto 4, 3) := by decide +kernel
theorem dX6_boat_41 : decode cX6_boat 41 = .ok (.iconst 0, 1) := by decide +kernel
theorem dX6_boat_42 : decode cX6_boat 42 = .ok (.invokevirtual 122, 3) := by decide +kernel
theorem dX6_boat_45 : decode cX6_boat 45 = .ok (.ifCond .eq 5, 3) := by decide +kernel
theorem dX6_boat_48 : decode cX6_boat 48 = .ok (.iconst 0, 1) := by decide +kernel
theorem dX6_boat_49 : decode cX6_boat 49 = .ok (.ireturn, 1) := by decide +kernel
theorem dX6_boat_50 : decode cX6_boat 50 = .ok (.aload_n 0, 1) := by decide +kernel
theorem dX6_boat_51 : decode cX6_boat 51 = .ok (.invokevirtual 243, 3) := by decide +kernel
theorem dX6_boat_54 : decode cX6_boat 54 = .ok (.aload_n 0, 1) := by decide +kernel
theorem dX6_boat_55 : decode cX6_boat 55 = .ok (.getfield 7, 3) := by decide +kernel
theorem dX6_boat_58 : decode cX6_boat 58 = .ok (.iload_n 1, 1) := by decide +kernel
theorem dX6_boat_59 : decode cX6_boat 59 = .ok (.iload_n 2, 1) := by decide +kernel
theorem dX6_boat_60 : decode cX6_boat 60 = .ok (.iload_n 3, 1) := by decide +kernel
theorem dX6_boat_61 : decode cX6_boat 61 = .ok (.invokestatic 162, 3) := by decide +kernel
theorem dX6_boat_64 : decode cX6_boat 64 = .ok (.ireturn, 1) := by decide +kernel
theorem dX6_launch_0 : decode cX6_launch 0 = .ok (.aload_n 0, 1) := by decide +kernel
theorem dX6_launch_1 : decode cX6_launch 1 = .ok (.getfield 7, 3) := by decide +kernel
theorem dX6_launch_4 : decode cX6_launch 4 = .ok (.iload_n 1, 1) := by decide +kernel
theorem dX6_launch_5 : decode cX6_launch 5 = .ok (.invokestatic 166, 3) := by decide +kernel
theorem dX6_launch_8 : decode cX6_launch 8 = .ok (.ifCond .eq 18, 3) := by decide +kernel
theorem dX6_launch_11 : decode cX6_launch 11 = .ok (.aload_n 0, 1) := by decide +kernel
theorem dX6_launch_12 : decode cX6_launch 12 = .ok (.getfield 7, 3) := by decide +kernel
theorem dX6_launch_15 : decode cX6_launch 15 = .ok (.iload_n 2, 1) := by decide +kernel
theorem dX6_launch_16 : decode cX6_launch 16 = .ok (.invokestatic 46, 3) := by decide +kernel
theorem dX6_launch_19 : decode cX6_launch 19 = .ok (.ifCond .eq 7, 3) := by decide +kernel
theorem dX6_launch_22 : decode cX6_launch 22 = .ok (.iconst 1, 1) := by decide +kernel
theorem dX6_launch_23 : decode cX6_launch 23 = .ok (.goto 4, 3) := by decide +kernel
theorem dX6_launch_26 : decode cX6_launch 26 = .ok (.iconst 0, 1) := by decide +kernel
theorem dX6_launch_27 : decode cX6_launch 27 = .ok (.istore_n 3, 1) := by decide +kernel
theorem dX6_launch_28 : decode cX6_launch 28 = .ok (.aload_n 0, 1) := by decide +kernel
theorem dX6_launch_29 : decode cX6_launch 29 = .ok (.iload_n 3, 1) := by decide +kernel
theorem dX6_launch_30 : decode cX6_launch 30 = .ok (.ifCond .ne 7, 3) := by decide +kernel
theorem dX6_launch_33 : decode cX6_launch 33 = .ok (.iconst 1, 1) := by decide +kernel
theorem dX6_launch_34 : decode cX6_launch 34 = .ok (.goto 19, 3) := by decide +kernel
theorem dX6_launch_37 : decode cX6_launch 37 = .ok (.aload_n 0, 1) := by decide +kernel
theorem dX6_launch_38 : decode cX6_launch 38 = .ok (.getfield 7, 3) := by decide +kernel
theorem dX6_launch_41 : decode cX6_launch 41 = .ok (.iload_n 1, 1) := by decide +kernel
theorem dX6_launch_42 : decode cX6_launch 42 = .ok (.invokestatic 64, 3) := by decide +kernel
theorem dX6_launch_45 : decode cX6_launch 45 = .ok (.ifCond .eq 7, 3) := by decide +kernel
theorem dX6_launch_48 : decode cX6_launch 48 = .ok (.iconst 2, 1) := by decide +kernel
theorem dX6_launch_49 : decode cX6_launch 49 = .ok (.goto 4, 3) := by decide +kernel
theorem dX6_launch_52 : decode cX6_launch 52 = .ok (.iconst 0, 1) := by decide +kernel
theorem dX6_launch_53 : decode cX6_launch 53 = .ok (.invokevirtual 122, 3) := by decide +kernel
theorem dX6_launch_56 : decode cX6_launch 56 = .ok (.ifCond .eq 5, 3) := by decide +kernel
theorem dX6_launch_59 : decode cX6_launch 59 = .ok (.iconst 0, 1) := by decide +kernel
theorem dX6_launch_60 : decode cX6_launch 60 = .ok (.ireturn, 1) := by decide +kernel
theorem dX6_launch_61 : decode cX6_launch 61 = .ok (.aload_n 0, 1) := by decide +kernel
theorem dX6_launch_62 : decode cX6_launch 62 = .ok (.invokevirtual 243, 3) := by decide +kernel
theorem dX6_launch_65 : decode cX6_launch 65 = .ok (.aload_n 0, 1) := by decide +kernel
theorem dX6_launch_66 : decode cX6_launch 66 = .ok (.getfield 7, 3) := by decide +kernel
theorem dX6_launch_69 : decode cX6_launch 69 = .ok (.iload_n 1, 1) := by decide +kernel
theorem dX6_launch_70 : decode cX6_launch 70 = .ok (.iload_n 2, 1) := by decide +kernel
theorem dX6_launch_71 : decode cX6_launch 71 = .ok (.invokestatic 169, 3) := by decide +kernel
theorem dX6_launch_74 : decode cX6_launch 74 = .ok (.ireturn, 1) := by decide +kernel
theorem dX6_hook_0 : decode cX6_hook 0 = .ok (.aload_n 0, 1) := by decide +kernel
theorem dX6_hook_1 : decode cX6_hook 1 = .ok (.iload_n 1, 1) := by decide +kernel
theorem dX6_hook_2 : decode cX6_hook 2 = .ok (.invokestatic 232, 3) := by decide +kernel
theorem dX6_hook_5 : decode cX6_hook 5 = .ok (.ifCond .eq 19, 3) := by decide +kernel
theorem dX6_hook_8 : decode cX6_hook 8 = .ok (.aload_n 0, 1) := by decide +kernel
theorem dX6_hook_9 : decode cX6_hook 9 = .ok (.getfield 7, 3) := by decide +kernel
theorem dX6_hook_12 : decode cX6_hook 12 = .ok (.iload_n 2, 1) := by decide +kernel
theorem dX6_hook_13 : decode cX6_hook 13 = .ok (.iload_n 3, 1) := by decide +kernel
theorem dX6_hook_14 : decode cX6_hook 14 = .ok (.invokestatic 111, 3) := by decide +kernel
theorem dX6_hook_17 : decode cX6_hook 17 = .ok (.ifCond .eq 7, 3) := by decide +kernel
theorem dX6_hook_20 : decode cX6_hook 20 = .ok (.iconst 0, 1) := by decide +kernel
theorem dX6_hook_21 : decode cX6_hook 21 = .ok (.goto 4, 3) := by decide +kernel
theorem dX6_hook_24 : decode cX6_hook 24 = .ok (.iconst 1, 1) := by decide +kernel
theorem dX6_hook_25 : decode cX6_hook 25 = .ok (.invokevirtual 122, 3) := by decide +kernel
theorem dX6_hook_28 : decode cX6_hook 28 = .ok (.ifCond .eq 5, 3) := by decide +kernel
theorem dX6_hook_31 : decode cX6_hook 31 = .ok (.iconst 0, 1) := by decide +kernel
theorem dX6_hook_32 : decode cX6_hook 32 = .ok (.ireturn, 1) := by decide +kernel
theorem dX6_hook_33 : decode cX6_hook 33 = .ok (.aload_n 0, 1) := by decide +kernel
theorem dX6_hook_34 : decode cX6_hook 34 = .ok (.invokevirtual 243, 3) := by decide +kernel
theorem dX6_hook_37 : decode cX6_hook 37 = .ok (.aload_n 0, 1) := by decide +kernel
theorem dX6_hook_38 : decode cX6_hook 38 = .ok (.getfield 7, 3) := by decide +kernel
theorem dX6_hook_41 : decode cX6_hook 41 = .ok (.iload_n 1, 1) := by decide +kernel
theorem dX6_hook_42 : decode cX6_hook 42 = .ok (.iload_n 2, 1) := by decide +kernel
theorem dX6_hook_43 : decode cX6_hook 43 = .ok (.iload_n 3, 1) := by decide +kernel
theorem dX6_hook_44 : decode cX6_hook 44 = .ok (.invokestatic 172, 3) := by decide +kernel
theorem dX6_hook_47 : decode cX6_hook 47 = .ok (.ireturn, 1) := by decide +kernel
theorem dX6_claim_0 : decode cX6_claim 0 = .ok (.aload_n 0, 1) := by decide +kernel
theorem dX6_claim_1 : decode cX6_claim 1 = .ok (.iload_n 1, 1) := by decide +kernel
theorem dX6_claim_2 : decode cX6_claim 2 = .ok (.invokestatic 232, 3) := by decide +kernel
theorem dX6_claim_5 : decode cX6_claim 5 = .ok (.ifCond .eq 18, 3) := by decide +kernel
theorem dX6_claim_8 : decode cX6_claim 8 = .ok (.aload_n 0, 1) := by decide +kernel
theorem dX6_claim_9 : decode cX6_claim 9 = .ok (.getfield 7, 3) := by decide +kernel
theorem dX6_claim_12 : decode cX6_claim 12 = .ok (.iload_n 2, 1) := by decide +kernel
theorem dX6_claim_13 : decode cX6_claim 13 = .ok (.invokestatic 166, 3) := by decide +kernel
theorem dX6_claim_16 : decode cX6_claim 16 = .ok (.ifCond .eq 7, 3) := by decide +kernel
theorem dX6_claim_19 : decode cX6_claim 19 = .ok (.iconst 0, 1) := by decide +kernel
theorem dX6_claim_20 : decode cX6_claim 20 = .ok (.goto 4, 3) := by decide +kernel
theorem dX6_claim_23 : decode cX6_claim 23 = .ok (.iconst 1, 1) := by decide +kernel
theorem dX6_claim_24 : decode cX6_claim 24 = .ok (.invokevirtual 122, 3) := by decide +kernel
theorem dX6_claim_27 : decode cX6_claim 27 = .ok (.ifCond .eq 5, 3) := by decide +kernel
theorem dX6_claim_30 : decode cX6_claim 30 = .ok (.iconst 0, 1) := by decide +kernel
theorem dX6_claim_31 : decode cX6_claim 31 = .ok (.ireturn, 1) := by decide +kernel
theorem dX6_claim_32 : decode cX6_claim 32 = .ok (.aload_n 0, 1) := by decide +kernel
theorem dX6_claim_33 : decode cX6_claim 33 = .ok (.invokevirtual 243, 3) := by decide +kernel
theorem dX6_claim_36 : decode cX6_claim 36 = .ok (.aload_n 0, 1) := by decide +kernel
theorem dX6_claim_37 : decode cX6_claim 37 = .ok (.getfield 7, 3) := by decide +kernel
theorem dX6_claim_40 : decode cX6_claim 40 = .ok (.iload_n 1, 1) := by decide +kernel
theorem dX6_claim_41 : decode cX6_claim 41 = .ok (.iload_n 2, 1) := by decide +kernel
theorem dX6_claim_42 : decode cX6_claim 42 = .ok (.invokestatic 175, 3) := by decide +kernel
theorem dX6_claim_45 : decode cX6_claim 45 = .ok (.ireturn, 1) := by decide +kernel
theorem dX6_minutes_0 : decode cX6_minutes 0 = .ok (.aload_n 0, 1) := by decide +kernel
theorem dX6_minutes_1 : decode cX6_minutes 1 = .ok (.iload_n 1, 1) := by decide +kernel
theorem dX6_minutes_2 : decode cX6_minutes 2 = .ok (.i2l, 1) := by decide +kernel
theorem dX6_minutes_3 : decode cX6_minutes 3 = .ok (.lconst 1, 1) := by decide +kernel
theorem dX6_minutes_4 : decode cX6_minutes 4 = .ok (.ldc2_w 249, 3) := by decide +kernel
theorem dX6_minutes_7 : decode cX6_minutes 7 = .ok (.invokestatic 42, 3) := by decide +kernel
theorem dX6_minutes_10 : decode cX6_minutes 10 = .ok (.ifCond .eq 7, 3) := by decide +kernel
theorem dX6_minutes_13 : decode cX6_minutes 13 = .ok (.iconst 0, 1) := by decide +kernel
theorem dX6_minutes_14 : decode cX6_minutes 14 = .ok (.goto 4, 3) := by decide +kernel
theorem dX6_minutes_17 : decode cX6_minutes 17 = .ok (.iconst 1, 1) := by decide +kernel
theorem dX6_minutes_18 : decode cX6_minutes 18 = .ok (.invokevirtual 122, 3) := by decide +kernel
theorem dX6_minutes_21 : decode cX6_minutes 21 = .ok (.ifCond .eq 5, 3) := by decide +kernel
theorem dX6_minutes_24 : decode cX6_minutes 24 = .ok (.iconst 0, 1) := by decide +kernel
theorem dX6_minutes_25 : decode cX6_minutes 25 = .ok (.ireturn, 1) := by decide +kernel
theorem dX6_minutes_26 : decode cX6_minutes 26 = .ok (.aload_n 0, 1) := by decide +kernel
theorem dX6_minutes_27 : decode cX6_minutes 27 = .ok (.invokevirtual 243, 3) := by decide +kernel
theorem dX6_minutes_30 : decode cX6_minutes 30 = .ok (.aload_n 0, 1) := by decide +kernel
theorem dX6_minutes_31 : decode cX6_minutes 31 = .ok (.getfield 7, 3) := by decide +kernel
theorem dX6_minutes_34 : decode cX6_minutes 34 = .ok (.iload_n 1, 1) := by decide +kernel
theorem dX6_minutes_35 : decode cX6_minutes 35 = .ok (.invokestatic 178, 3) := by decide +kernel
theorem dX6_minutes_38 : decode cX6_minutes 38 = .ok (.ireturn, 1) := by decide +kernel
theorem dX6_set_0 : decode cX6_set 0 = .ok (.aload_n 0, 1) := by decide +kernel
theorem dX6_set_1 : decode cX6_set 1 = .ok (.iload_n 1, 1) := by decide +kernel
theorem dX6_set_2 : decode cX6_set 2 = .ok (.iload_n 2, 1) := by decide +kernel
theorem dX6_set_3 : decode cX6_set 3 = .ok (.invokestatic 181, 3) := by decide +kernel
theorem dX6_set_6 : decode cX6_set 6 = .ok (.ifCond .eq 7, 3) := by decide +kernel
theorem dX6_set_9 : decode cX6_set 9 = .ok (.iconst 0, 1) := by decide +kernel
theorem dX6_set_10 : decode cX6_set 10 = .ok (.goto 4, 3) := by decide +kernel
theorem dX6_set_13 : decode cX6_set 13 = .ok (.iconst 1, 1) := by decide +kernel
theorem dX6_set_14 : decode cX6_set 14 = .ok (.invokevirtual 122, 3) := by decide +kernel
theorem dX6_set_17 : decode cX6_set 17 = .ok (.ifCond .eq 5, 3) := by decide +kernel
theorem dX6_set_20 : decode cX6_set 20 = .ok (.iconst 0, 1) := by decide +kernel
theorem dX6_set_21 : decode cX6_set 21 = .ok (.ireturn, 1) := by decide +kernel
theorem dX6_set_22 : decode cX6_set 22 = .ok (.aload_n 0, 1) := by decide +kernel
theorem dX6_set_23 : decode cX6_set 23 = .ok (.invokevirtual 243, 3) := by decide +kernel
theorem dX6_set_26 : decode cX6_set 26 = .ok (.aload_n 0, 1) := by decide +kernel
theorem dX6_set_27 : decode cX6_set 27 = .ok (.getfield 7, 3) := by decide +kernel
theorem dX6_set_30 : decode cX6_set 30 = .ok (.sipush 154, 3) := by decide +kernel
theorem dX6_set_33 : decode cX6_set 33 = .ok (.iload_n 1, 1) := by decide +kernel
theorem dX6_set_34 : decode cX6_set 34 = .ok (.iadd, 1) := by decide +kernel
theorem dX6_set_35 : decode cX6_set 35 = .ok (.iload_n 2, 1) := by decide +kernel
theorem dX6_set_36 : decode cX6_set 36 = .ok (.invokestatic 185, 3) := by decide +kernel
theorem dX6_set_39 : decode cX6_set 39 = .ok (.ireturn, 1) := by decide +kernel
theorem dX6_undo_0 : decode cX6_undo 0 = .ok (.aload_n 0, 1) := by decide +kernel
theorem dX6_undo_1 : decode cX6_undo 1 = .ok (.aload_n 0, 1) := by decide +kernel
theorem dX6_undo_2 : decode cX6_undo 2 = .ok (.getfield 114, 3) := by decide +kernel
theorem dX6_undo_5 : decode cX6_undo 5 = .ok (.ifCond .ne 7, 3) := by decide +kernel
theorem dX6_undo_8 : decode cX6_undo 8 = .ok (.iconst 1, 1) := by decide +kernel
theorem dX6_undo_9 : decode cX6_undo 9 = .ok (.goto 4, 3) := by decide +kernel
theorem dX6_undo_12 : decode cX6_undo 12 = .ok (.iconst 0, 1) := by decide +kernel
theorem dX6_undo_13 : decode cX6_undo 13 = .ok (.invokevirtual 122, 3) := by decide +kernel
theorem dX6_undo_16 : decode cX6_undo 16 = .ok (.ifCond .eq 5, 3) := by decide +kernel
theorem dX6_undo_19 : decode cX6_undo 19 = .ok (.iconst 0, 1) := by decide +kernel
theorem dX6_undo_20 : decode cX6_undo 20 = .ok (.ireturn, 1) := by decide +kernel
theorem dX6_undo_21 : decode cX6_undo 21 = .ok (.aload_n 0, 1) := by decide +kernel
theorem dX6_undo_22 : decode cX6_undo 22 = .ok (.dup, 1) := by decide +kernel
theorem dX6_undo_23 : decode cX6_undo 23 = .ok (.getfield 114, 3) := by decide +kernel
theorem dX6_undo_26 : decode cX6_undo 26 = .ok (.iconst 1, 1) := by decide +kernel
theorem dX6_undo_27 : decode cX6_undo 27 = .ok (.isub, 1) := by decide +kernel
theorem dX6_undo_28 : decode cX6_undo 28 = .ok (.putfield 114, 3) := by decide +kernel
theorem dX6_undo_31 : decode cX6_undo 31 = .ok (.iconst 0, 1) := by decide +kernel
theorem dX6_undo_32 : decode cX6_undo 32 = .ok (.istore_n 1, 1) := by decide +kernel
theorem dX6_undo_33 : decode cX6_undo 33 = .ok (.iload_n 1, 1) := by decide +kernel
theorem dX6_undo_34 : decode cX6_undo 34 = .ok (.sipush 157, 3) := by decide +kernel
theorem dX6_undo_37 : decode cX6_undo 37 = .ok (.if_icmp .ge 30, 3) := by decide +kernel
theorem dX6_undo_40 : decode cX6_undo 40 = .ok (.aload_n 0, 1) := by decide +kernel
theorem dX6_undo_41 : decode cX6_undo 41 = .ok (.getfield 7, 3) := by decide +kernel
theorem dX6_undo_44 : decode cX6_undo 44 = .ok (.iload_n 1, 1) := by decide +kernel
theorem dX6_undo_45 : decode cX6_undo 45 = .ok (.aload_n 0, 1) := by decide +kernel
theorem dX6_undo_46 : decode cX6_undo 46 = .ok (.getfield 19, 3) := by decide +kernel
theorem dX6_undo_49 : decode cX6_undo 49 = .ok (.sipush 157, 3) := by decide +kernel
theorem dX6_undo_52 : decode cX6_undo 52 = .ok (.aload_n 0, 1) := by decide +kernel
theorem dX6_undo_53 : decode cX6_undo 53 = .ok (.getfield 114, 3) := by decide +kernel
theorem dX6_undo_56 : decode cX6_undo 56 = .ok (.imul, 1) := by decide +kernel
theorem dX6_undo_57 : decode cX6_undo 57 = .ok (.iload_n 1, 1) := by decide +kernel
theorem dX6_undo_58 : decode cX6_undo 58 = .ok (.iadd, 1) := by decide +kernel
theorem dX6_undo_59 : decode cX6_undo 59 = .ok (.iaload, 1) := by decide +kernel
theorem dX6_undo_60 : decode cX6_undo 60 = .ok (.iastore, 1) := by decide +kernel
theorem dX6_undo_61 : decode cX6_undo 61 = .ok (.iinc 1 1, 3) := by decide +kernel
theorem dX6_undo_64 : decode cX6_undo 64 = .ok (.goto (-31), 3) := by decide +kernel
theorem dX6_undo_67 : decode cX6_undo 67 = .ok (.aload_n 0, 1) := by decide +kernel
theorem dX6_undo_68 : decode cX6_undo 68 = .ok (.getfield 114, 3) := by decide +kernel
theorem dX6_undo_71 : decode cX6_undo 71 = .ok (.ireturn, 1) := by decide +kernel
theorem dX6_why_0 : decode cX6_why 0 = .ok (.aload_n 0, 1) := by decide +kernel
theorem dX6_why_1 : decode cX6_why 1 = .ok (.iload_n 1, 1) := by decide +kernel
theorem dX6_why_2 : decode cX6_why 2 = .ok (.invokestatic 232, 3) := by decide +kernel
theorem dX6_why_5 : decode cX6_why 5 = .ok (.ifCond .eq 18, 3) := by decide +kernel
theorem dX6_why_8 : decode cX6_why 8 = .ok (.aload_n 0, 1) := by decide +kernel
theorem dX6_why_9 : decode cX6_why 9 = .ok (.getfield 7, 3) := by decide +kernel
theorem dX6_why_12 : decode cX6_why 12 = .ok (.iload_n 2, 1) := by decide +kernel
theorem dX6_why_13 : decode cX6_why 13 = .ok (.invokestatic 166, 3) := by decide +kernel
theorem dX6_why_16 : decode cX6_why 16 = .ok (.ifCond .eq 7, 3) := by decide +kernel
theorem dX6_why_19 : decode cX6_why 19 = .ok (.iconst 0, 1) := by decide +kernel
theorem dX6_why_20 : decode cX6_why 20 = .ok (.goto 4, 3) := by decide +kernel
theorem dX6_why_23 : decode cX6_why 23 = .ok (.iconst 1, 1) := by decide +kernel
theorem dX6_why_24 : decode cX6_why 24 = .ok (.invokevirtual 122, 3) := by decide +kernel
theorem dX6_why_27 : decode cX6_why 27 = .ok (.ifCond .eq 5, 3) := by decide +kernel
theorem dX6_why_30 : decode cX6_why 30 = .ok (.iconst 0, 1) := by decide +kernel
theorem dX6_why_31 : decode cX6_why 31 = .ok (.ireturn, 1) := by decide +kernel
theorem dX6_why_32 : decode cX6_why 32 = .ok (.aload_n 0, 1) := by decide +kernel
theorem dX6_why_33 : decode cX6_why 33 = .ok (.getfield 7, 3) := by decide +kernel
theorem dX6_why_36 : decode cX6_why 36 = .ok (.iload_n 1, 1) := by decide +kernel
theorem dX6_why_37 : decode cX6_why 37 = .ok (.iload_n 2, 1) := by decide +kernel
theorem dX6_why_38 : decode cX6_why 38 = .ok (.invokestatic 102, 3) := by decide +kernel
theorem dX6_why_41 : decode cX6_why 41 = .ok (.ireturn, 1) := by decide +kernel
theorem dX6_goesTill_0 : decode cX6_goesTill 0 = .ok (.iconst 0, 1) := by decide +kernel
theorem dX6_goesTill_1 : decode cX6_goesTill 1 = .ok (.istore_n 2, 1) := by decide +kernel
theorem dX6_goesTill_2 : decode cX6_goesTill 2 = .ok (.aload_n 0, 1) := by decide +kernel
theorem dX6_goesTill_3 : decode cX6_goesTill 3 = .ok (.getfield 13, 3) := by decide +kernel
theorem dX6_goesTill_6 : decode cX6_goesTill 6 = .ok (.iload_n 1, 1) := by decide +kernel
theorem dX6_goesTill_7 : decode cX6_goesTill 7 = .ok (.invokestatic 64, 3) := by decide +kernel
theorem dX6_goesTill_10 : decode cX6_goesTill 10 = .ok (.iconst 1, 1) := by decide +kernel
theorem dX6_goesTill_11 : decode cX6_goesTill 11 = .ok (.if_icmp .ne 17, 3) := by decide +kernel
theorem dX6_goesTill_14 : decode cX6_goesTill 14 = .ok (.aload_n 0, 1) := by decide +kernel
theorem dX6_goesTill_15 : decode cX6_goesTill 15 = .ok (.getfield 13, 3) := by decide +kernel
theorem dX6_goesTill_18 : decode cX6_goesTill 18 = .ok (.invokestatic 89, 3) := by decide +kernel
theorem dX6_goesTill_21 : decode cX6_goesTill 21 = .ok (.istore_n 3, 1) := by decide +kernel
theorem dX6_goesTill_22 : decode cX6_goesTill 22 = .ok (.iinc 2 1, 3) := by decide +kernel
theorem dX6_goesTill_25 : decode cX6_goesTill 25 = .ok (.goto (-23), 3) := by decide +kernel
theorem dX6_goesTill_28 : decode cX6_goesTill 28 = .ok (.iload_n 2, 1) := by decide +kernel
theorem dX6_goesTill_29 : decode cX6_goesTill 29 = .ok (.ireturn, 1) := by decide +kernel
theorem dX6_endsIn_0 : decode cX6_endsIn 0 = .ok (.aload_n 0, 1) := by decide +kernel
theorem dX6_endsIn_1 : decode cX6_endsIn 1 = .ok (.aload_n 0, 1) := by decide +kernel
theorem dX6_endsIn_2 : decode cX6_endsIn 2 = .ok (.getfield 7, 3) := by decide +kernel
theorem dX6_endsIn_5 : decode cX6_endsIn 5 = .ok (.iload_n 1, 1) := by decide +kernel
theorem dX6_endsIn_6 : decode cX6_endsIn 6 = .ok (.invokestatic 166, 3) := by decide +kernel
theorem dX6_endsIn_9 : decode cX6_endsIn 9 = .ok (.ifCond .ne 7, 3) := by decide +kernel
theorem dX6_endsIn_12 : decode cX6_endsIn 12 = .ok (.iconst 1, 1) := by decide +kernel
theorem dX6_endsIn_13 : decode cX6_endsIn 13 = .ok (.goto 34, 3) := by decide +kernel
theorem dX6_endsIn_16 : decode cX6_endsIn 16 = .ok (.iload_n 2, 1) := by decide +kernel
theorem dX6_endsIn_17 : decode cX6_endsIn 17 = .ok (.i2l, 1) := by decide +kernel
theorem dX6_endsIn_18 : decode cX6_endsIn 18 = .ok (.lconst 0, 1) := by decide +kernel
theorem dX6_endsIn_19 : decode cX6_endsIn 19 = .ok (.lconst 1, 1) := by decide +kernel
theorem dX6_endsIn_20 : decode cX6_endsIn 20 = .ok (.invokestatic 42, 3) := by decide +kernel
theorem dX6_endsIn_23 : decode cX6_endsIn 23 = .ok (.ifCond .ne 7, 3) := by decide +kernel
theorem dX6_endsIn_26 : decode cX6_endsIn 26 = .ok (.iconst 2, 1) := by decide +kernel
theorem dX6_endsIn_27 : decode cX6_endsIn 27 = .ok (.goto 20, 3) := by decide +kernel
theorem dX6_endsIn_30 : decode cX6_endsIn 30 = .ok (.aload_n 0, 1) := by decide +kernel
theorem dX6_endsIn_31 : decode cX6_endsIn 31 = .ok (.getfield 7, 3) := by decide +kernel
theorem dX6_endsIn_34 : decode cX6_endsIn 34 = .ok (.iload_n 1, 1) := by decide +kernel
theorem dX6_endsIn_35 : decode cX6_endsIn 35 = .ok (.invokestatic 64, 3) := by decide +kernel
theorem dX6_endsIn_38 : decode cX6_endsIn 38 = .ok (.iconst 1, 1) := by decide +kernel
theorem dX6_endsIn_39 : decode cX6_endsIn 39 = .ok (.if_icmp .eq 7, 3) := by decide +kernel
theorem dX6_endsIn_42 : decode cX6_endsIn 42 = .ok (.iconst 3, 1) := by decide +kernel
theorem dX6_endsIn_43 : decode cX6_endsIn 43 = .ok (.goto 4, 3) := by decide +kernel
theorem dX6_endsIn_46 : decode cX6_endsIn 46 = .ok (.iconst 0, 1) := by decide +kernel
theorem dX6_endsIn_47 : decode cX6_endsIn 47 = .ok (.invokevirtual 122, 3) := by decide +kernel
theorem dX6_endsIn_50 : decode cX6_endsIn 50 = .ok (.ifCond .eq 5, 3) := by decide +kernel
theorem dX6_endsIn_53 : decode cX6_endsIn 53 = .ok (.iconst 0, 1) := by decide +kernel
theorem dX6_endsIn_54 : decode cX6_endsIn 54 = .ok (.ireturn, 1) := by decide +kernel
theorem dX6_endsIn_55 : decode cX6_endsIn 55 = .ok (.aload_n 0, 1) := by decide +kernel
theorem dX6_endsIn_56 : decode cX6_endsIn 56 = .ok (.getfield 7, 3) := by decide +kernel
theorem dX6_endsIn_59 : decode cX6_endsIn 59 = .ok (.aload_n 0, 1) := by decide +kernel
theorem dX6_endsIn_60 : decode cX6_endsIn 60 = .ok (.getfield 13, 3) := by decide +kernel
theorem dX6_endsIn_63 : decode cX6_endsIn 63 = .ok (.invokestatic 212, 3) := by decide +kernel
theorem dX6_endsIn_66 : decode cX6_endsIn 66 = .ok (.aload_n 0, 1) := by decide +kernel
theorem dX6_endsIn_67 : decode cX6_endsIn 67 = .ok (.iload_n 1, 1) := by decide +kernel
theorem dX6_endsIn_68 : decode cX6_endsIn 68 = .ok (.invokevirtual 251, 3) := by decide +kernel
theorem dX6_endsIn_71 : decode cX6_endsIn 71 = .ok (.istore_n 3, 1) := by decide +kernel
theorem dX6_endsIn_72 : decode cX6_endsIn 72 = .ok (.aload_n 0, 1) := by decide +kernel
theorem dX6_endsIn_73 : decode cX6_endsIn 73 = .ok (.getfield 13, 3) := by decide +kernel
theorem dX6_endsIn_76 : decode cX6_endsIn 76 = .ok (.iload_n 1, 1) := by decide +kernel
theorem dX6_endsIn_77 : decode cX6_endsIn 77 = .ok (.invokestatic 64, 3) := by decide +kernel
theorem dX6_endsIn_80 : decode cX6_endsIn 80 = .ok (.iconst 3, 1) := by decide +kernel
theorem dX6_endsIn_81 : decode cX6_endsIn 81 = .ok (.if_icmp .ne 7, 3) := by decide +kernel
theorem dX6_endsIn_84 : decode cX6_endsIn 84 = .ok (.iconst 1, 1) := by decide +kernel
theorem dX6_endsIn_85 : decode cX6_endsIn 85 = .ok (.goto 4, 3) := by decide +kernel
theorem dX6_endsIn_88 : decode cX6_endsIn 88 = .ok (.iconst 0, 1) := by decide +kernel
theorem dX6_endsIn_89 : decode cX6_endsIn 89 = .ok (.iload_n 2, 1) := by decide +kernel
theorem dX6_endsIn_90 : decode cX6_endsIn 90 = .ok (.iconst 1, 1) := by decide +kernel
theorem dX6_endsIn_91 : decode cX6_endsIn 91 = .ok (.if_icmp .ne 7, 3) := by decide +kernel
theorem dX6_endsIn_94 : decode cX6_endsIn 94 = .ok (.iconst 1, 1) := by decide +kernel
theorem dX6_endsIn_95 : decode cX6_endsIn 95 = .ok (.goto 4, 3) := by decide +kernel
theorem dX6_endsIn_98 : decode cX6_endsIn 98 = .ok (.iconst 0, 1) := by decide +kernel
theorem dX6_endsIn_99 : decode cX6_endsIn 99 = .ok (.if_icmp .ne 7, 3) := by decide +kernel
theorem dX6_endsIn_102 : decode cX6_endsIn 102 = .ok (.iload_n 3, 1) := by decide +kernel
theorem dX6_endsIn_103 : decode cX6_endsIn 103 = .ok (.goto 4, 3) := by decide +kernel
theorem dX6_endsIn_106 : decode cX6_endsIn 106 = .ok (.iconst (-1), 1) := by decide +kernel
theorem dX6_endsIn_107 : decode cX6_endsIn 107 = .ok (.ireturn, 1) := by decide +kernel
theorem dX6_winner_0 : decode cX6_winner 0 = .ok (.aload_n 0, 1) := by decide +kernel
theorem dX6_winner_1 : decode cX6_winner 1 = .ok (.iconst 0, 1) := by decide +kernel
theorem dX6_winner_2 : decode cX6_winner 2 = .ok (.putfield 36, 3) := by decide +kernel
theorem dX6_winner_5 : decode cX6_winner 5 = .ok (.aload_n 0, 1) := by decide +kernel
theorem dX6_winner_6 : decode cX6_winner 6 = .ok (.getfield 7, 3) := by decide +kernel
theorem dX6_winner_9 : decode cX6_winner 9 = .ok (.aload_n 0, 1) := by decide +kernel
theorem dX6_winner_10 : decode cX6_winner 10 = .ok (.getfield 13, 3) := by decide +kernel
theorem dX6_winner_13 : decode cX6_winner 13 = .ok (.invokestatic 212, 3) := by decide +kernel
theorem dX6_winner_16 : decode cX6_winner 16 = .ok (.aload_n 0, 1) := by decide +kernel
theorem dX6_winner_17 : decode cX6_winner 17 = .ok (.getfield 13, 3) := by decide +kernel
theorem dX6_winner_20 : decode cX6_winner 20 = .ok (.sipush 150, 3) := by decide +kernel
theorem dX6_winner_23 : decode cX6_winner 23 = .ok (.iaload, 1) := by decide +kernel
theorem dX6_winner_24 : decode cX6_winner 24 = .ok (.iconst 1, 1) := by decide +kernel
theorem dX6_winner_25 : decode cX6_winner 25 = .ok (.if_icmp .ne 14, 3) := by decide +kernel
theorem dX6_winner_28 : decode cX6_winner 28 = .ok (.aload_n 0, 1) := by decide +kernel
theorem dX6_winner_29 : decode cX6_winner 29 = .ok (.getfield 13, 3) := by decide +kernel
theorem dX6_winner_32 : decode cX6_winner 32 = .ok (.invokestatic 89, 3) := by decide +kernel
theorem dX6_winner_35 : decode cX6_winner 35 = .ok (.istore_n 1, 1) := by decide +kernel
theorem dX6_winner_36 : decode cX6_winner 36 = .ok (.goto (-20), 3) := by decide +kernel
theorem dX6_winner_39 : decode cX6_winner 39 = .ok (.iconst 0, 1) := by decide +kernel
theorem dX6_winner_40 : decode cX6_winner 40 = .ok (.istore_n 1, 1) := by decide +kernel
theorem dX6_winner_41 : decode cX6_winner 41 = .ok (.iload_n 1, 1) := by decide +kernel
theorem dX6_winner_42 : decode cX6_winner 42 = .ok (.aload_n 0, 1) := by decide +kernel
theorem dX6_winner_43 : decode cX6_winner 43 = .ok (.getfield 7, 3) := by decide +kernel
theorem dX6_winner_46 : decode cX6_winner 46 = .ok (.sipush 147, 3) := by decide +kernel
theorem dX6_winner_49 : decode cX6_winner 49 = .ok (.iaload, 1) := by decide +kernel
theorem dX6_winner_50 : decode cX6_winner 50 = .ok (.if_icmp .ge 38, 3) := by decide +kernel
theorem dX6_winner_53 : decode cX6_winner 53 = .ok (.aload_n 0, 1) := by decide +kernel
theorem dX6_winner_54 : decode cX6_winner 54 = .ok (.getfield 13, 3) := by decide +kernel
theorem dX6_winner_57 : decode cX6_winner 57 = .ok (.iload_n 1, 1) := by decide +kernel
theorem dX6_winner_58 : decode cX6_winner 58 = .ok (.invokestatic 60, 3) := by decide +kernel
theorem dX6_winner_61 : decode cX6_winner 61 = .ok (.bipush 8, 2) := by decide +kernel
theorem dX6_winner_63 : decode cX6_winner 63 = .ok (.iadd, 1) := by decide +kernel
theorem dX6_winner_64 : decode cX6_winner 64 = .ok (.iaload, 1) := by decide +kernel
theorem dX6_winner_65 : decode cX6_winner 65 = .ok (.aload_n 0, 1) := by decide +kernel
theorem dX6_winner_66 : decode cX6_winner 66 = .ok (.getfield 7, 3) := by decide +kernel
theorem dX6_winner_69 : decode cX6_winner 69 = .ok (.iload_n 1, 1) := by decide +kernel
theorem dX6_winner_70 : decode cX6_winner 70 = .ok (.invokestatic 60, 3) := by decide +kernel
theorem dX6_winner_73 : decode cX6_winner 73 = .ok (.bipush 8, 2) := by decide +kernel
theorem dX6_winner_75 : decode cX6_winner 75 = .ok (.iadd, 1) := by decide +kernel
theorem dX6_winner_76 : decode cX6_winner 76 = .ok (.iaload, 1) := by decide +kernel
theorem dX6_winner_77 : decode cX6_winner 77 = .ok (.if_icmp .le 5, 3) := by decide +kernel
theorem dX6_winner_80 : decode cX6_winner 80 = .ok (.iload_n 1, 1) := by decide +kernel
theorem dX6_winner_81 : decode cX6_winner 81 = .ok (.ireturn, 1) := by decide +kernel
theorem dX6_winner_82 : decode cX6_winner 82 = .ok (.iinc 1 1, 3) := by decide +kernel
theorem dX6_winner_85 : decode cX6_winner 85 = .ok (.goto (-44), 3) := by decide +kernel
theorem dX6_winner_88 : decode cX6_winner 88 = .ok (.iconst (-1), 1) := by decide +kernel
theorem dX6_winner_89 : decode cX6_winner 89 = .ok (.ireturn, 1) := by decide +kernel
theorem dX6_leastFolds_0 : decode cX6_leastFolds 0 = .ok (.aload_n 0, 1) := by decide +kernel
theorem dX6_leastFolds_1 : decode cX6_leastFolds 1 = .ok (.aload_n 0, 1) := by decide +kernel
theorem dX6_leastFolds_2 : decode cX6_leastFolds 2 = .ok (.getfield 7, 3) := by decide +kernel
theorem dX6_leastFolds_5 : decode cX6_leastFolds 5 = .ok (.iload_n 1, 1) := by decide +kernel
theorem dX6_leastFolds_6 : decode cX6_leastFolds 6 = .ok (.invokestatic 46, 3) := by decide +kernel
theorem dX6_leastFolds_9 : decode cX6_leastFolds 9 = .ok (.ifCond .ne 7, 3) := by decide +kernel
theorem dX6_leastFolds_12 : decode cX6_leastFolds 12 = .ok (.iconst 1, 1) := by decide +kernel
theorem dX6_leastFolds_13 : decode cX6_leastFolds 13 = .ok (.goto 20, 3) := by decide +kernel
theorem dX6_leastFolds_16 : decode cX6_leastFolds 16 = .ok (.iload_n 2, 1) := by decide +kernel
theorem dX6_leastFolds_17 : decode cX6_leastFolds 17 = .ok (.i2l, 1) := by decide +kernel
theorem dX6_leastFolds_18 : decode cX6_leastFolds 18 = .ok (.lconst 0, 1) := by decide +kernel
theorem dX6_leastFolds_19 : decode cX6_leastFolds 19 = .ok (.ldc2_w 50, 3) := by decide +kernel
theorem dX6_leastFolds_22 : decode cX6_leastFolds 22 = .ok (.invokestatic 42, 3) := by decide +kernel
theorem dX6_leastFolds_25 : decode cX6_leastFolds 25 = .ok (.ifCond .ne 7, 3) := by decide +kernel
theorem dX6_leastFolds_28 : decode cX6_leastFolds 28 = .ok (.iconst 2, 1) := by decide +kernel
theorem dX6_leastFolds_29 : decode cX6_leastFolds 29 = .ok (.goto 4, 3) := by decide +kernel
theorem dX6_leastFolds_32 : decode cX6_leastFolds 32 = .ok (.iconst 0, 1) := by decide +kernel
theorem dX6_leastFolds_33 : decode cX6_leastFolds 33 = .ok (.invokevirtual 122, 3) := by decide +kernel
theorem dX6_leastFolds_36 : decode cX6_leastFolds 36 = .ok (.ifCond .eq 5, 3) := by decide +kernel
theorem dX6_leastFolds_39 : decode cX6_leastFolds 39 = .ok (.iconst 0, 1) := by decide +kernel
theorem dX6_leastFolds_40 : decode cX6_leastFolds 40 = .ok (.ireturn, 1) := by decide +kernel
theorem dX6_leastFolds_41 : decode cX6_leastFolds 41 = .ok (.iconst 1, 1) := by decide +kernel
theorem dX6_leastFolds_42 : decode cX6_leastFolds 42 = .ok (.istore_n 3, 1) := by decide +kernel
theorem dX6_leastFolds_43 : decode cX6_leastFolds 43 = .ok (.iload_n 3, 1) := by decide +kernel
theorem dX6_leastFolds_44 : decode cX6_leastFolds 44 = .ok (.bipush 9, 2) := by decide +kernel
theorem dX6_leastFolds_46 : decode cX6_leastFolds 46 = .ok (.if_icmp .gt 67, 3) := by decide +kernel
theorem dX6_leastFolds_49 : decode cX6_leastFolds 49 = .ok (.aload_n 0, 1) := by decide +kernel
theorem dX6_leastFolds_50 : decode cX6_leastFolds 50 = .ok (.getfield 7, 3) := by decide +kernel
theorem dX6_leastFolds_53 : decode cX6_leastFolds 53 = .ok (.aload_n 0, 1) := by decide +kernel
theorem dX6_leastFolds_54 : decode cX6_leastFolds 54 = .ok (.getfield 13, 3) := by decide +kernel
theorem dX6_leastFolds_57 : decode cX6_leastFolds 57 = .ok (.invokestatic 212, 3) := by decide +kernel
theorem dX6_leastFolds_60 : decode cX6_leastFolds 60 = .ok (.aload_n 0, 1) := by decide +kernel
theorem dX6_leastFolds_61 : decode cX6_leastFolds 61 = .ok (.getfield 13, 3) := by decide +kernel
theorem dX6_leastFolds_64 : decode cX6_leastFolds 64 = .ok (.iload_n 3, 1) := by decide +kernel
theorem dX6_leastFolds_65 : decode cX6_leastFolds 65 = .ok (.iload_n 2, 1) := by decide +kernel
theorem dX6_leastFolds_66 : decode cX6_leastFolds 66 = .ok (.iconst 0, 1) := by decide +kernel
theorem dX6_leastFolds_67 : decode cX6_leastFolds 67 = .ok (.invokestatic 162, 3) := by decide +kernel
theorem dX6_leastFolds_70 : decode cX6_leastFolds 70 = .ok (.istore 4, 2) := by decide +kernel
theorem dX6_leastFolds_72 : decode cX6_leastFolds 72 = .ok (.aload_n 0, 1) := by decide +kernel
theorem dX6_leastFolds_73 : decode cX6_leastFolds 73 = .ok (.getfield 13, 3) := by decide +kernel
theorem dX6_leastFolds_76 : decode cX6_leastFolds 76 = .ok (.iload 4, 2) := by decide +kernel
theorem dX6_leastFolds_78 : decode cX6_leastFolds 78 = .ok (.iload_n 1, 1) := by decide +kernel
theorem dX6_leastFolds_79 : decode cX6_leastFolds 79 = .ok (.invokestatic 169, 3) := by decide +kernel
theorem dX6_leastFolds_82 : decode cX6_leastFolds 82 = .ok (.istore 5, 2) := by decide +kernel
theorem dX6_leastFolds_84 : decode cX6_leastFolds 84 = .ok (.aload_n 0, 1) := by decide +kernel
theorem dX6_leastFolds_85 : decode cX6_leastFolds 85 = .ok (.iload 4, 2) := by decide +kernel
theorem dX6_leastFolds_87 : decode cX6_leastFolds 87 = .ok (.invokevirtual 251, 3) := by decide +kernel
theorem dX6_leastFolds_90 : decode cX6_leastFolds 90 = .ok (.istore 6, 2) := by decide +kernel
theorem dX6_leastFolds_92 : decode cX6_leastFolds 92 = .ok (.aload_n 0, 1) := by decide +kernel
theorem dX6_leastFolds_93 : decode cX6_leastFolds 93 = .ok (.getfield 13, 3) := by decide +kernel
theorem dX6_leastFolds_96 : decode cX6_leastFolds 96 = .ok (.iload 4, 2) := by decide +kernel
theorem dX6_leastFolds_98 : decode cX6_leastFolds 98 = .ok (.invokestatic 64, 3) := by decide +kernel
theorem dX6_leastFolds_101 : decode cX6_leastFolds 101 = .ok (.iconst 3, 1) := by decide +kernel
theorem dX6_leastFolds_102 : decode cX6_leastFolds 102 = .ok (.if_icmp .eq 5, 3) := by decide +kernel
theorem dX6_leastFolds_105 : decode cX6_leastFolds 105 = .ok (.iload_n 3, 1) := by decide +kernel
theorem dX6_leastFolds_106 : decode cX6_leastFolds 106 = .ok (.ireturn, 1) := by decide +kernel
theorem dX6_leastFolds_107 : decode cX6_leastFolds 107 = .ok (.iinc 3 1, 3) := by decide +kernel
theorem dX6_leastFolds_110 : decode cX6_leastFolds 110 = .ok (.goto (-67), 3) := by decide +kernel
theorem dX6_leastFolds_113 : decode cX6_leastFolds 113 = .ok (.iconst (-1), 1) := by decide +kernel
theorem dX6_leastFolds_114 : decode cX6_leastFolds 114 = .ok (.ireturn, 1) := by decide +kernel
theorem dX6_runLaunch_0 : decode cX6_runLaunch 0 = .ok (.aload_n 0, 1) := by decide +kernel
theorem dX6_runLaunch_1 : decode cX6_runLaunch 1 = .ok (.getfield 13, 3) := by decide +kernel
theorem dX6_runLaunch_4 : decode cX6_runLaunch 4 = .ok (.iload_n 1, 1) := by decide +kernel
theorem dX6_runLaunch_5 : decode cX6_runLaunch 5 = .ok (.invokestatic 166, 3) := by decide +kernel
theorem dX6_runLaunch_8 : decode cX6_runLaunch 8 = .ok (.ifCond .eq 41, 3) := by decide +kernel
theorem dX6_runLaunch_11 : decode cX6_runLaunch 11 = .ok (.aload_n 0, 1) := by decide +kernel
theorem dX6_runLaunch_12 : decode cX6_runLaunch 12 = .ok (.getfield 13, 3) := by decide +kernel
theorem dX6_runLaunch_15 : decode cX6_runLaunch 15 = .ok (.iload_n 2, 1) := by decide +kernel
theorem dX6_runLaunch_16 : decode cX6_runLaunch 16 = .ok (.invokestatic 46, 3) := by decide +kernel
theorem dX6_runLaunch_19 : decode cX6_runLaunch 19 = .ok (.ifCond .eq 30, 3) := by decide +kernel
theorem dX6_runLaunch_22 : decode cX6_runLaunch 22 = .ok (.aload_n 0, 1) := by decide +kernel
theorem dX6_runLaunch_23 : decode cX6_runLaunch 23 = .ok (.getfield 13, 3) := by decide +kernel
theorem dX6_runLaunch_26 : decode cX6_runLaunch 26 = .ok (.iload_n 1, 1) := by decide +kernel
theorem dX6_runLaunch_27 : decode cX6_runLaunch 27 = .ok (.invokestatic 64, 3) := by decide +kernel
theorem dX6_runLaunch_30 : decode cX6_runLaunch 30 = .ok (.ifCond .ne 19, 3) := by decide +kernel
theorem dX6_runLaunch_33 : decode cX6_runLaunch 33 = .ok (.aload_n 0, 1) := by decide +kernel
theorem dX6_runLaunch_34 : decode cX6_runLaunch 34 = .ok (.getfield 13, 3) := by decide +kernel
theorem dX6_runLaunch_37 : decode cX6_runLaunch 37 = .ok (.iload_n 1, 1) := by decide +kernel
theorem dX6_runLaunch_38 : decode cX6_runLaunch 38 = .ok (.iload_n 2, 1) := by decide +kernel
theorem dX6_runLaunch_39 : decode cX6_runLaunch 39 = .ok (.invokestatic 169, 3) := by decide +kernel
theorem dX6_runLaunch_42 : decode cX6_runLaunch 42 = .ok (.ifCond .lt 7, 3) := by decide +kernel
theorem dX6_runLaunch_45 : decode cX6_runLaunch 45 = .ok (.iconst 1, 1) := by decide +kernel
theorem dX6_runLaunch_46 : decode cX6_runLaunch 46 = .ok (.goto 4, 3) := by decide +kernel
theorem dX6_runLaunch_49 : decode cX6_runLaunch 49 = .ok (.iconst 0, 1) := by decide +kernel
theorem dX6_runLaunch_50 : decode cX6_runLaunch 50 = .ok (.ireturn, 1) := by decide +kernel
theorem dX6_runMinutes_0 : decode cX6_runMinutes 0 = .ok (.iload_n 1, 1) := by decide +kernel
theorem dX6_runMinutes_1 : decode cX6_runMinutes 1 = .ok (.i2l, 1) := by decide +kernel
theorem dX6_runMinutes_2 : decode cX6_runMinutes 2 = .ok (.lconst 1, 1) := by decide +kernel
theorem dX6_runMinutes_3 : decode cX6_runMinutes 3 = .ok (.ldc2_w 249, 3) := by decide +kernel
theorem dX6_runMinutes_6 : decode cX6_runMinutes 6 = .ok (.invokestatic 42, 3) := by decide +kernel
theorem dX6_runMinutes_9 : decode cX6_runMinutes 9 = .ok (.ifCond .eq 18, 3) := by decide +kernel
theorem dX6_runMinutes_12 : decode cX6_runMinutes 12 = .ok (.aload_n 0, 1) := by decide +kernel
theorem dX6_runMinutes_13 : decode cX6_runMinutes 13 = .ok (.getfield 13, 3) := by decide +kernel
theorem dX6_runMinutes_16 : decode cX6_runMinutes 16 = .ok (.iload_n 1, 1) := by decide +kernel
theorem dX6_runMinutes_17 : decode cX6_runMinutes 17 = .ok (.invokestatic 178, 3) := by decide +kernel
theorem dX6_runMinutes_20 : decode cX6_runMinutes 20 = .ok (.ifCond .lt 7, 3) := by decide +kernel
theorem dX6_runMinutes_23 : decode cX6_runMinutes 23 = .ok (.iconst 1, 1) := by decide +kernel
theorem dX6_runMinutes_24 : decode cX6_runMinutes 24 = .ok (.goto 4, 3) := by decide +kernel
theorem dX6_runMinutes_27 : decode cX6_runMinutes 27 = .ok (.iconst 0, 1) := by decide +kernel
theorem dX6_runMinutes_28 : decode cX6_runMinutes 28 = .ok (.ireturn, 1) := by decide +kernel
theorem dX6_runHook_0 : decode cX6_runHook 0 = .ok (.iload_n 1, 1) := by decide +kernel
theorem dX6_runHook_1 : decode cX6_runHook 1 = .ok (.invokestatic 232, 3) := by decide +kernel
theorem dX6_runHook_4 : decode cX6_runHook 4 = .ok (.ifCond .eq 32, 3) := by decide +kernel
theorem dX6_runHook_7 : decode cX6_runHook 7 = .ok (.aload_n 0, 1) := by decide +kernel
theorem dX6_runHook_8 : decode cX6_runHook 8 = .ok (.getfield 13, 3) := by decide +kernel
theorem dX6_runHook_11 : decode cX6_runHook 11 = .ok (.iload_n 2, 1) := by decide +kernel
theorem dX6_runHook_12 : decode cX6_runHook 12 = .ok (.iload_n 3, 1) := by decide +kernel
theorem dX6_runHook_13 : decode cX6_runHook 13 = .ok (.invokestatic 111, 3) := by decide +kernel
theorem dX6_runHook_16 : decode cX6_runHook 16 = .ok (.ifCond .eq 20, 3) := by decide +kernel
theorem dX6_runHook_19 : decode cX6_runHook 19 = .ok (.aload_n 0, 1) := by decide +kernel
theorem dX6_runHook_20 : decode cX6_runHook 20 = .ok (.getfield 13, 3) := by decide +kernel
theorem dX6_runHook_23 : decode cX6_runHook 23 = .ok (.iload_n 1, 1) := by decide +kernel
theorem dX6_runHook_24 : decode cX6_runHook 24 = .ok (.iload_n 2, 1) := by decide +kernel
theorem dX6_runHook_25 : decode cX6_runHook 25 = .ok (.iload_n 3, 1) := by decide +kernel
theorem dX6_runHook_26 : decode cX6_runHook 26 = .ok (.invokestatic 172, 3) := by decide +kernel
theorem dX6_runHook_29 : decode cX6_runHook 29 = .ok (.ifCond .lt 7, 3) := by decide +kernel
theorem dX6_runHook_32 : decode cX6_runHook 32 = .ok (.iconst 1, 1) := by decide +kernel
theorem dX6_runHook_33 : decode cX6_runHook 33 = .ok (.goto 4, 3) := by decide +kernel
theorem dX6_runHook_36 : decode cX6_runHook 36 = .ok (.iconst 0, 1) := by decide +kernel
theorem dX6_runHook_37 : decode cX6_runHook 37 = .ok (.ireturn, 1) := by decide +kernel
theorem dX6_runClaim_0 : decode cX6_runClaim 0 = .ok (.iload_n 1, 1) := by decide +kernel
theorem dX6_runClaim_1 : decode cX6_runClaim 1 = .ok (.invokestatic 232, 3) := by decide +kernel
theorem dX6_runClaim_4 : decode cX6_runClaim 4 = .ok (.ifCond .eq 30, 3) := by decide +kernel
theorem dX6_runClaim_7 : decode cX6_runClaim 7 = .ok (.aload_n 0, 1) := by decide +kernel
theorem dX6_runClaim_8 : decode cX6_runClaim 8 = .ok (.getfield 13, 3) := by decide +kernel
theorem dX6_runClaim_11 : decode cX6_runClaim 11 = .ok (.iload_n 2, 1) := by decide +kernel
theorem dX6_runClaim_12 : decode cX6_runClaim 12 = .ok (.invokestatic 166, 3) := by decide +kernel
theorem dX6_runClaim_15 : decode cX6_runClaim 15 = .ok (.ifCond .eq 19, 3) := by decide +kernel
theorem dX6_runClaim_18 : decode cX6_runClaim 18 = .ok (.aload_n 0, 1) := by decide +kernel
theorem dX6_runClaim_19 : decode cX6_runClaim 19 = .ok (.getfield 13, 3) := by decide +kernel
theorem dX6_runClaim_22 : decode cX6_runClaim 22 = .ok (.iload_n 1, 1) := by decide +kernel
theorem dX6_runClaim_23 : decode cX6_runClaim 23 = .ok (.iload_n 2, 1) := by decide +kernel
theorem dX6_runClaim_24 : decode cX6_runClaim 24 = .ok (.invokestatic 175, 3) := by decide +kernel
theorem dX6_runClaim_27 : decode cX6_runClaim 27 = .ok (.ifCond .ne 7, 3) := by decide +kernel
theorem dX6_runClaim_30 : decode cX6_runClaim 30 = .ok (.iconst 1, 1) := by decide +kernel
theorem dX6_runClaim_31 : decode cX6_runClaim 31 = .ok (.goto 4, 3) := by decide +kernel
theorem dX6_runClaim_34 : decode cX6_runClaim 34 = .ok (.iconst 0, 1) := by decide +kernel
theorem dX6_runClaim_35 : decode cX6_runClaim 35 = .ok (.ireturn, 1) := by decide +kernel
theorem dX6_runSet_0 : decode cX6_runSet 0 = .ok (.iload_n 1, 1) := by decide +kernel
theorem dX6_runSet_1 : decode cX6_runSet 1 = .ok (.iload_n 2, 1) := by decide +kernel
theorem dX6_runSet_2 : decode cX6_runSet 2 = .ok (.invokestatic 181, 3) := by decide +kernel
theorem dX6_runSet_5 : decode cX6_runSet 5 = .ok (.ifCond .eq 23, 3) := by decide +kernel
theorem dX6_runSet_8 : decode cX6_runSet 8 = .ok (.aload_n 0, 1) := by decide +kernel
theorem dX6_runSet_9 : decode cX6_runSet 9 = .ok (.getfield 13, 3) := by decide +kernel
theorem dX6_runSet_12 : decode cX6_runSet 12 = .ok (.sipush 154, 3) := by decide +kernel
theorem dX6_runSet_15 : decode cX6_runSet 15 = .ok (.iload_n 1, 1) := by decide +kernel
theorem dX6_runSet_16 : decode cX6_runSet 16 = .ok (.iadd, 1) := by decide +kernel
theorem dX6_runSet_17 : decode cX6_runSet 17 = .ok (.iload_n 2, 1) := by decide +kernel
theorem dX6_runSet_18 : decode cX6_runSet 18 = .ok (.invokestatic 185, 3) := by decide +kernel
theorem dX6_runSet_21 : decode cX6_runSet 21 = .ok (.ifCond .lt 7, 3) := by decide +kernel
theorem dX6_runSet_24 : decode cX6_runSet 24 = .ok (.iconst 1, 1) := by decide +kernel
theorem dX6_runSet_25 : decode cX6_runSet 25 = .ok (.goto 4, 3) := by decide +kernel
theorem dX6_runSet_28 : decode cX6_runSet 28 = .ok (.iconst 0, 1) := by decide +kernel
theorem dX6_runSet_29 : decode cX6_runSet 29 = .ok (.ireturn, 1) := by decide +kernel
theorem dX6_runBoat_0 : decode cX6_runBoat 0 = .ok (.iload_n 3, 1) := by decide +kernel
theorem dX6_runBoat_1 : decode cX6_runBoat 1 = .ok (.invokestatic 232, 3) := by decide +kernel
theorem dX6_runBoat_4 : decode cX6_runBoat 4 = .ok (.ifCond .eq 28, 3) := by decide +kernel
theorem dX6_runBoat_7 : decode cX6_runBoat 7 = .ok (.iload_n 1, 1) := by decide +kernel
theorem dX6_runBoat_8 : decode cX6_runBoat 8 = .ok (.iload_n 2, 1) := by decide +kernel
theorem dX6_runBoat_9 : decode cX6_runBoat 9 = .ok (.invokestatic 246, 3) := by decide +kernel
theorem dX6_runBoat_12 : decode cX6_runBoat 12 = .ok (.ifCond .eq 20, 3) := by decide +kernel
theorem dX6_runBoat_15 : decode cX6_runBoat 15 = .ok (.aload_n 0, 1) := by decide +kernel
theorem dX6_runBoat_16 : decode cX6_runBoat 16 = .ok (.getfield 13, 3) := by decide +kernel
theorem dX6_runBoat_19 : decode cX6_runBoat 19 = .ok (.sipush 147, 3) := by decide +kernel
theorem dX6_runBoat_22 : decode cX6_runBoat 22 = .ok (.iaload, 1) := by decide +kernel
theorem dX6_runBoat_23 : decode cX6_runBoat 23 = .ok (.bipush 10, 2) := by decide +kernel
theorem dX6_runBoat_25 : decode cX6_runBoat 25 = .ok (.if_icmp .ge 7, 3) := by decide +kernel
theorem dX6_runBoat_28 : decode cX6_runBoat 28 = .ok (.iconst 1, 1) := by decide +kernel
theorem dX6_runBoat_29 : decode cX6_runBoat 29 = .ok (.goto 4, 3) := by decide +kernel
theorem dX6_runBoat_32 : decode cX6_runBoat 32 = .ok (.iconst 0, 1) := by decide +kernel
theorem dX6_runBoat_33 : decode cX6_runBoat 33 = .ok (.istore 4, 2) := by decide +kernel
theorem dX6_runBoat_35 : decode cX6_runBoat 35 = .ok (.iload 4, 2) := by decide +kernel
theorem dX6_runBoat_37 : decode cX6_runBoat 37 = .ok (.ifCond .eq 20, 3) := by decide +kernel
theorem dX6_runBoat_40 : decode cX6_runBoat 40 = .ok (.aload_n 0, 1) := by decide +kernel
theorem dX6_runBoat_41 : decode cX6_runBoat 41 = .ok (.getfield 13, 3) := by decide +kernel
theorem dX6_runBoat_44 : decode cX6_runBoat 44 = .ok (.iload_n 1, 1) := by decide +kernel
theorem dX6_runBoat_45 : decode cX6_runBoat 45 = .ok (.iload_n 2, 1) := by decide +kernel
theorem dX6_runBoat_46 : decode cX6_runBoat 46 = .ok (.iload_n 3, 1) := by decide +kernel
theorem dX6_runBoat_47 : decode cX6_runBoat 47 = .ok (.invokestatic 162, 3) := by decide +kernel
theorem dX6_runBoat_50 : decode cX6_runBoat 50 = .ok (.ifCond .lt 7, 3) := by decide +kernel
theorem dX6_runBoat_53 : decode cX6_runBoat 53 = .ok (.iconst 1, 1) := by decide +kernel
theorem dX6_runBoat_54 : decode cX6_runBoat 54 = .ok (.goto 4, 3) := by decide +kernel
theorem dX6_runBoat_57 : decode cX6_runBoat 57 = .ok (.iconst 0, 1) := by decide +kernel
theorem dX6_runBoat_58 : decode cX6_runBoat 58 = .ok (.ireturn, 1) := by decide +kernel
theorem dX6_command_0 : decode cX6_command 0 = .ok (.iload_n 1, 1) := by decide +kernel
theorem dX6_command_1 : decode cX6_command 1 = .ok (.sipush 1000, 3) := by decide +kernel
theorem dX6_command_4 : decode cX6_command 4 = .ok (.idiv, 1) := by decide +kernel
theorem dX6_command_5 : decode cX6_command 5 = .ok (.bipush 10, 2) := by decide +kernel
theorem dX6_command_7 : decode cX6_command 7 = .ok (.irem, 1) := by decide +kernel
theorem dX6_command_8 : decode cX6_command 8 = .ok (.istore_n 2, 1) := by decide +kernel
theorem dX6_command_9 : decode cX6_command 9 = .ok (.iload_n 1, 1) := by decide +kernel
theorem dX6_command_10 : decode cX6_command 10 = .ok (.bipush 100, 2) := by decide +kernel
theorem dX6_command_12 : decode cX6_command 12 = .ok (.idiv, 1) := by decide +kernel
theorem dX6_command_13 : decode cX6_command 13 = .ok (.bipush 10, 2) := by decide +kernel
theorem dX6_command_15 : decode cX6_command 15 = .ok (.irem, 1) := by decide +kernel
theorem dX6_command_16 : decode cX6_command 16 = .ok (.istore_n 3, 1) := by decide +kernel
theorem dX6_command_17 : decode cX6_command 17 = .ok (.iload_n 1, 1) := by decide +kernel
theorem dX6_command_18 : decode cX6_command 18 = .ok (.bipush 10, 2) := by decide +kernel
theorem dX6_command_20 : decode cX6_command 20 = .ok (.idiv, 1) := by decide +kernel
theorem dX6_command_21 : decode cX6_command 21 = .ok (.bipush 10, 2) := by decide +kernel
theorem dX6_command_23 : decode cX6_command 23 = .ok (.irem, 1) := by decide +kernel
theorem dX6_command_24 : decode cX6_command 24 = .ok (.istore 4, 2) := by decide +kernel
theorem dX6_command_26 : decode cX6_command 26 = .ok (.iload_n 1, 1) := by decide +kernel
theorem dX6_command_27 : decode cX6_command 27 = .ok (.bipush 100, 2) := by decide +kernel
theorem dX6_command_29 : decode cX6_command 29 = .ok (.irem, 1) := by decide +kernel
theorem dX6_command_30 : decode cX6_command 30 = .ok (.istore 5, 2) := by decide +kernel
theorem dX6_command_32 : decode cX6_command 32 = .ok (.iload_n 1, 1) := by decide +kernel
theorem dX6_command_33 : decode cX6_command 33 = .ok (.bipush 10, 2) := by decide +kernel
theorem dX6_command_35 : decode cX6_command 35 = .ok (.irem, 1) := by decide +kernel
theorem dX6_command_36 : decode cX6_command 36 = .ok (.istore 6, 2) := by decide +kernel
theorem dX6_command_38 : decode cX6_command 38 = .ok (.iload_n 1, 1) := by decide +kernel
theorem dX6_command_39 : decode cX6_command 39 = .ok (.sipush 1000, 3) := by decide +kernel
theorem dX6_command_42 : decode cX6_command 42 = .ok (.irem, 1) := by decide +kernel
theorem dX6_command_43 : decode cX6_command 43 = .ok (.istore 7, 2) := by decide +kernel
theorem dX6_command_45 : decode cX6_command 45 = .ok (.iload_n 1, 1) := by decide +kernel
theorem dX6_command_46 : decode cX6_command 46 = .ok (.sipush 10000, 3) := by decide +kernel
theorem dX6_command_49 : decode cX6_command 49 = .ok (.idiv, 1) := by decide +kernel
theorem dX6_command_50 : decode cX6_command 50 = .ok (.tableswitch 278 1 9 #[50, 70, 95, 104, 124, 147, 169, 206, 240], 50) := by decide +kernel
theorem dX6_command_100 : decode cX6_command 100 = .ok (.iload 5, 2) := by decide +kernel
theorem dX6_command_102 : decode cX6_command 102 = .ok (.ifCond .ne 16, 3) := by decide +kernel
theorem dX6_command_105 : decode cX6_command 105 = .ok (.aload_n 0, 1) := by decide +kernel
theorem dX6_command_106 : decode cX6_command 106 = .ok (.iload_n 2, 1) := by decide +kernel
theorem dX6_command_107 : decode cX6_command 107 = .ok (.iload_n 3, 1) := by decide +kernel
theorem dX6_command_108 : decode cX6_command 108 = .ok (.invokevirtual 254, 3) := by decide +kernel
theorem dX6_command_111 : decode cX6_command 111 = .ok (.ifCond .eq 7, 3) := by decide +kernel
theorem dX6_command_114 : decode cX6_command 114 = .ok (.iconst 1, 1) := by decide +kernel
theorem dX6_command_115 : decode cX6_command 115 = .ok (.goto 4, 3) := by decide +kernel
theorem dX6_command_118 : decode cX6_command 118 = .ok (.iconst 0, 1) := by decide +kernel
theorem dX6_command_119 : decode cX6_command 119 = .ok (.ireturn, 1) := by decide +kernel
theorem dX6_command_120 : decode cX6_command 120 = .ok (.iload_n 1, 1) := by decide +kernel
theorem dX6_command_121 : decode cX6_command 121 = .ok (.sipush 10000, 3) := by decide +kernel
theorem dX6_command_124 : decode cX6_command 124 = .ok (.irem, 1) := by decide +kernel
theorem dX6_command_125 : decode cX6_command 125 = .ok (.bipush 100, 2) := by decide +kernel
theorem dX6_command_127 : decode cX6_command 127 = .ok (.if_icmp .ge 16, 3) := by decide +kernel
theorem dX6_command_130 : decode cX6_command 130 = .ok (.aload_n 0, 1) := by decide +kernel
theorem dX6_command_131 : decode cX6_command 131 = .ok (.iload 5, 2) := by decide +kernel
theorem dX6_command_133 : decode cX6_command 133 = .ok (.invokevirtual 257, 3) := by decide +kernel
theorem dX6_command_136 : decode cX6_command 136 = .ok (.ifCond .eq 7, 3) := by decide +kernel
theorem dX6_command_139 : decode cX6_command 139 = .ok (.iconst 1, 1) := by decide +kernel
theorem dX6_command_140 : decode cX6_command 140 = .ok (.goto 4, 3) := by decide +kernel
theorem dX6_command_143 : decode cX6_command 143 = .ok (.iconst 0, 1) := by decide +kernel
theorem dX6_command_144 : decode cX6_command 144 = .ok (.ireturn, 1) := by decide +kernel
theorem dX6_command_145 : decode cX6_command 145 = .ok (.aload_n 0, 1) := by decide +kernel
theorem dX6_command_146 : decode cX6_command 146 = .ok (.iload_n 2, 1) := by decide +kernel
theorem dX6_command_147 : decode cX6_command 147 = .ok (.iload_n 3, 1) := by decide +kernel
theorem dX6_command_148 : decode cX6_command 148 = .ok (.iload 5, 2) := by decide +kernel
theorem dX6_command_150 : decode cX6_command 150 = .ok (.invokevirtual 260, 3) := by decide +kernel
theorem dX6_command_153 : decode cX6_command 153 = .ok (.ireturn, 1) := by decide +kernel
theorem dX6_command_154 : decode cX6_command 154 = .ok (.iload 5, 2) := by decide +kernel
theorem dX6_command_156 : decode cX6_command 156 = .ok (.ifCond .ne 16, 3) := by decide +kernel
theorem dX6_command_159 : decode cX6_command 159 = .ok (.aload_n 0, 1) := by decide +kernel
theorem dX6_command_160 : decode cX6_command 160 = .ok (.iload_n 2, 1) := by decide +kernel
theorem dX6_command_161 : decode cX6_command 161 = .ok (.iload_n 3, 1) := by decide +kernel
theorem dX6_command_162 : decode cX6_command 162 = .ok (.invokevirtual 264, 3) := by decide +kernel
theorem dX6_command_165 : decode cX6_command 165 = .ok (.ifCond .eq 7, 3) := by decide +kernel
theorem dX6_command_168 : decode cX6_command 168 = .ok (.iconst 1, 1) := by decide +kernel
theorem dX6_command_169 : decode cX6_command 169 = .ok (.goto 4, 3) := by decide +kernel
theorem dX6_command_172 : decode cX6_command 172 = .ok (.iconst 0, 1) := by decide +kernel
theorem dX6_command_173 : decode cX6_command 173 = .ok (.ireturn, 1) := by decide +kernel
theorem dX6_command_174 : decode cX6_command 174 = .ok (.iload 7, 2) := by decide +kernel
theorem dX6_command_176 : decode cX6_command 176 = .ok (.bipush 10, 2) := by decide +kernel
theorem dX6_command_178 : decode cX6_command 178 = .ok (.if_icmp .ge 17, 3) := by decide +kernel
theorem dX6_command_181 : decode cX6_command 181 = .ok (.aload_n 0, 1) := by decide +kernel
theorem dX6_command_182 : decode cX6_command 182 = .ok (.iload_n 2, 1) := by decide +kernel
theorem dX6_command_183 : decode cX6_command 183 = .ok (.iload 6, 2) := by decide +kernel
theorem dX6_command_185 : decode cX6_command 185 = .ok (.invokevirtual 267, 3) := by decide +kernel
theorem dX6_command_188 : decode cX6_command 188 = .ok (.ifCond .eq 7, 3) := by decide +kernel
theorem dX6_command_191 : decode cX6_command 191 = .ok (.iconst 1, 1) := by decide +kernel
theorem dX6_command_192 : decode cX6_command 192 = .ok (.goto 4, 3) := by decide +kernel
theorem dX6_command_195 : decode cX6_command 195 = .ok (.iconst 0, 1) := by decide +kernel
theorem dX6_command_196 : decode cX6_command 196 = .ok (.ireturn, 1) := by decide +kernel
theorem dX6_command_197 : decode cX6_command 197 = .ok (.iload 6, 2) := by decide +kernel
theorem dX6_command_199 : decode cX6_command 199 = .ok (.ifCond .ne 18, 3) := by decide +kernel
theorem dX6_command_202 : decode cX6_command 202 = .ok (.aload_n 0, 1) := by decide +kernel
theorem dX6_command_203 : decode cX6_command 203 = .ok (.iload_n 2, 1) := by decide +kernel
theorem dX6_command_204 : decode cX6_command 204 = .ok (.iload_n 3, 1) := by decide +kernel
theorem dX6_command_205 : decode cX6_command 205 = .ok (.iload 4, 2) := by decide +kernel
theorem dX6_command_207 : decode cX6_command 207 = .ok (.invokevirtual 270, 3) := by decide +kernel
theorem dX6_command_210 : decode cX6_command 210 = .ok (.ifCond .eq 7, 3) := by decide +kernel
theorem dX6_command_213 : decode cX6_command 213 = .ok (.iconst 1, 1) := by decide +kernel
theorem dX6_command_214 : decode cX6_command 214 = .ok (.goto 4, 3) := by decide +kernel
theorem dX6_command_217 : decode cX6_command 217 = .ok (.iconst 0, 1) := by decide +kernel
theorem dX6_command_218 : decode cX6_command 218 = .ok (.ireturn, 1) := by decide +kernel
theorem dX6_command_219 : decode cX6_command 219 = .ok (.iload 7, 2) := by decide +kernel
theorem dX6_command_221 : decode cX6_command 221 = .ok (.bipush 10, 2) := by decide +kernel
theorem dX6_command_223 : decode cX6_command 223 = .ok (.if_icmp .ge 31, 3) := by decide +kernel
theorem dX6_command_226 : decode cX6_command 226 = .ok (.aload_n 0, 1) := by decide +kernel
theorem dX6_command_227 : decode cX6_command 227 = .ok (.getfield 13, 3) := by decide +kernel
theorem dX6_command_230 : decode cX6_command 230 = .ok (.iload_n 2, 1) := by decide +kernel
theorem dX6_command_231 : decode cX6_command 231 = .ok (.invokestatic 166, 3) := by decide +kernel
theorem dX6_command_234 : decode cX6_command 234 = .ok (.ifCond .eq 20, 3) := by decide +kernel
theorem dX6_command_237 : decode cX6_command 237 = .ok (.aload_n 0, 1) := by decide +kernel
theorem dX6_command_238 : decode cX6_command 238 = .ok (.getfield 13, 3) := by decide +kernel
theorem dX6_command_241 : decode cX6_command 241 = .ok (.iload_n 2, 1) := by decide +kernel
theorem dX6_command_242 : decode cX6_command 242 = .ok (.invokestatic 64, 3) := by decide +kernel
theorem dX6_command_245 : decode cX6_command 245 = .ok (.iload 6, 2) := by decide +kernel
theorem dX6_command_247 : decode cX6_command 247 = .ok (.if_icmp .ne 7, 3) := by decide +kernel
theorem dX6_command_250 : decode cX6_command 250 = .ok (.iconst 1, 1) := by decide +kernel
theorem dX6_command_251 : decode cX6_command 251 = .ok (.goto 4, 3) := by decide +kernel
theorem dX6_command_254 : decode cX6_command 254 = .ok (.iconst 0, 1) := by decide +kernel
theorem dX6_command_255 : decode cX6_command 255 = .ok (.ireturn, 1) := by decide +kernel
theorem dX6_command_256 : decode cX6_command 256 = .ok (.iload_n 3, 1) := by decide +kernel
theorem dX6_command_257 : decode cX6_command 257 = .ok (.ifCond .ne 31, 3) := by decide +kernel
theorem dX6_command_260 : decode cX6_command 260 = .ok (.iload_n 2, 1) := by decide +kernel
theorem dX6_command_261 : decode cX6_command 261 = .ok (.invokestatic 232, 3) := by decide +kernel
theorem dX6_command_264 : decode cX6_command 264 = .ok (.ifCond .eq 24, 3) := by decide +kernel
theorem dX6_command_267 : decode cX6_command 267 = .ok (.aload_n 0, 1) := by decide +kernel
theorem dX6_command_268 : decode cX6_command 268 = .ok (.getfield 13, 3) := by decide +kernel
theorem dX6_command_271 : decode cX6_command 271 = .ok (.sipush 134, 3) := by decide +kernel
theorem dX6_command_274 : decode cX6_command 274 = .ok (.iconst 3, 1) := by decide +kernel
theorem dX6_command_275 : decode cX6_command 275 = .ok (.iload_n 2, 1) := by decide +kernel
theorem dX6_command_276 : decode cX6_command 276 = .ok (.imul, 1) := by decide +kernel
theorem dX6_command_277 : decode cX6_command 277 = .ok (.iadd, 1) := by decide +kernel
theorem dX6_command_278 : decode cX6_command 278 = .ok (.iaload, 1) := by decide +kernel
theorem dX6_command_279 : decode cX6_command 279 = .ok (.iload 5, 2) := by decide +kernel
theorem dX6_command_281 : decode cX6_command 281 = .ok (.if_icmp .lt 7, 3) := by decide +kernel
theorem dX6_command_284 : decode cX6_command 284 = .ok (.iconst 1, 1) := by decide +kernel
theorem dX6_command_285 : decode cX6_command 285 = .ok (.goto 4, 3) := by decide +kernel
theorem dX6_command_288 : decode cX6_command 288 = .ok (.iconst 0, 1) := by decide +kernel
theorem dX6_command_289 : decode cX6_command 289 = .ok (.ireturn, 1) := by decide +kernel
theorem dX6_command_290 : decode cX6_command 290 = .ok (.iload_n 3, 1) := by decide +kernel
theorem dX6_command_291 : decode cX6_command 291 = .ok (.ifCond .ne 35, 3) := by decide +kernel
theorem dX6_command_294 : decode cX6_command 294 = .ok (.aload_n 0, 1) := by decide +kernel
theorem dX6_command_295 : decode cX6_command 295 = .ok (.getfield 13, 3) := by decide +kernel
theorem dX6_command_298 : decode cX6_command 298 = .ok (.iload_n 2, 1) := by decide +kernel
theorem dX6_command_299 : decode cX6_command 299 = .ok (.invokestatic 166, 3) := by decide +kernel
theorem dX6_command_302 : decode cX6_command 302 = .ok (.ifCond .eq 24, 3) := by decide +kernel
theorem dX6_command_305 : decode cX6_command 305 = .ok (.aload_n 0, 1) := by decide +kernel
theorem dX6_command_306 : decode cX6_command 306 = .ok (.getfield 13, 3) := by decide +kernel
theorem dX6_command_309 : decode cX6_command 309 = .ok (.iload_n 2, 1) := by decide +kernel
theorem dX6_command_310 : decode cX6_command 310 = .ok (.invokestatic 60, 3) := by decide +kernel
theorem dX6_command_313 : decode cX6_command 313 = .ok (.bipush 6, 2) := by decide +kernel
theorem dX6_command_315 : decode cX6_command 315 = .ok (.iadd, 1) := by decide +kernel
theorem dX6_command_316 : decode cX6_command 316 = .ok (.iaload, 1) := by decide +kernel
theorem dX6_command_317 : decode cX6_command 317 = .ok (.iload 5, 2) := by decide +kernel
theorem dX6_command_319 : decode cX6_command 319 = .ok (.if_icmp .gt 7, 3) := by decide +kernel
theorem dX6_command_322 : decode cX6_command 322 = .ok (.iconst 1, 1) := by decide +kernel
theorem dX6_command_323 : decode cX6_command 323 = .ok (.goto 4, 3) := by decide +kernel
theorem dX6_command_326 : decode cX6_command 326 = .ok (.iconst 0, 1) := by decide +kernel
theorem dX6_command_327 : decode cX6_command 327 = .ok (.ireturn, 1) := by decide +kernel
theorem dX6_command_328 : decode cX6_command 328 = .ok (.iconst 0, 1) := by decide +kernel
theorem dX6_command_329 : decode cX6_command 329 = .ok (.ireturn, 1) := by decide +kernel
theorem dX6_runScript_0 : decode cX6_runScript 0 = .ok (.aload_n 0, 1) := by decide +kernel
theorem dX6_runScript_1 : decode cX6_runScript 1 = .ok (.iload_n 1, 1) := by decide +kernel
theorem dX6_runScript_2 : decode cX6_runScript 2 = .ok (.i2l, 1) := by decide +kernel
theorem dX6_runScript_3 : decode cX6_runScript 3 = .ok (.lconst 1, 1) := by decide +kernel
theorem dX6_runScript_4 : decode cX6_runScript 4 = .ok (.ldc2_w 50, 3) := by decide +kernel
theorem dX6_runScript_7 : decode cX6_runScript 7 = .ok (.invokestatic 42, 3) := by decide +kernel
theorem dX6_runScript_10 : decode cX6_runScript 10 = .ok (.ifCond .eq 23, 3) := by decide +kernel
theorem dX6_runScript_13 : decode cX6_runScript 13 = .ok (.lload_n 2, 1) := by decide +kernel
theorem dX6_runScript_14 : decode cX6_runScript 14 = .ok (.lconst 0, 1) := by decide +kernel
theorem dX6_runScript_15 : decode cX6_runScript 15 = .ok (.iconst 5, 1) := by decide +kernel
theorem dX6_runScript_16 : decode cX6_runScript 16 = .ok (.iload_n 1, 1) := by decide +kernel
theorem dX6_runScript_17 : decode cX6_runScript 17 = .ok (.imul, 1) := by decide +kernel
theorem dX6_runScript_18 : decode cX6_runScript 18 = .ok (.invokestatic 273, 3) := by decide +kernel
theorem dX6_runScript_21 : decode cX6_runScript 21 = .ok (.lconst 1, 1) := by decide +kernel
theorem dX6_runScript_22 : decode cX6_runScript 22 = .ok (.lsub, 1) := by decide +kernel
theorem dX6_runScript_23 : decode cX6_runScript 23 = .ok (.invokestatic 42, 3) := by decide +kernel
theorem dX6_runScript_26 : decode cX6_runScript 26 = .ok (.ifCond .eq 7, 3) := by decide +kernel
theorem dX6_runScript_29 : decode cX6_runScript 29 = .ok (.iconst 0, 1) := by decide +kernel
theorem dX6_runScript_30 : decode cX6_runScript 30 = .ok (.goto 4, 3) := by decide +kernel
theorem dX6_runScript_33 : decode cX6_runScript 33 = .ok (.iconst 1, 1) := by decide +kernel
theorem dX6_runScript_34 : decode cX6_runScript 34 = .ok (.invokevirtual 122, 3) := by decide +kernel
theorem dX6_runScript_37 : decode cX6_runScript 37 = .ok (.ifCond .eq 5, 3) := by decide +kernel
theorem dX6_runScript_40 : decode cX6_runScript 40 = .ok (.iconst 0, 1) := by decide +kernel
theorem dX6_runScript_41 : decode cX6_runScript 41 = .ok (.ireturn, 1) := by decide +kernel
theorem dX6_runScript_42 : decode cX6_runScript 42 = .ok (.aload_n 0, 1) := by decide +kernel
theorem dX6_runScript_43 : decode cX6_runScript 43 = .ok (.getfield 7, 3) := by decide +kernel
theorem dX6_runScript_46 : decode cX6_runScript 46 = .ok (.aload_n 0, 1) := by decide +kernel
theorem dX6_runScript_47 : decode cX6_runScript 47 = .ok (.getfield 13, 3) := by decide +kernel
theorem dX6_runScript_50 : decode cX6_runScript 50 = .ok (.invokestatic 212, 3) := by decide +kernel
theorem dX6_runScript_53 : decode cX6_runScript 53 = .ok (.iconst 0, 1) := by decide +kernel
theorem dX6_runScript_54 : decode cX6_runScript 54 = .ok (.istore 4, 2) := by decide +kernel
theorem dX6_runScript_56 : decode cX6_runScript 56 = .ok (.iload 4, 2) := by decide +kernel
theorem dX6_runScript_58 : decode cX6_runScript 58 = .ok (.iload_n 1, 1) := by decide +kernel
theorem dX6_runScript_59 : decode cX6_runScript 59 = .ok (.if_icmp .ge 37, 3) := by decide +kernel
theorem dX6_runScript_62 : decode cX6_runScript 62 = .ok (.aload_n 0, 1) := by decide +kernel
theorem dX6_runScript_63 : decode cX6_runScript 63 = .ok (.lload_n 2, 1) := by decide +kernel
theorem dX6_runScript_64 : decode cX6_runScript 64 = .ok (.iconst 5, 1) := by decide +kernel
theorem dX6_runScript_65 : decode cX6_runScript 65 = .ok (.iload_n 1, 1) := by decide +kernel
theorem dX6_runScript_66 : decode cX6_runScript 66 = .ok (.iconst 1, 1) := by decide +kernel
theorem dX6_runScript_67 : decode cX6_runScript 67 = .ok (.isub, 1) := by decide +kernel
theorem dX6_runScript_68 : decode cX6_runScript 68 = .ok (.iload 4, 2) := by decide +kernel
theorem dX6_runScript_70 : decode cX6_runScript 70 = .ok (.isub, 1) := by decide +kernel
theorem dX6_runScript_71 : decode cX6_runScript 71 = .ok (.imul, 1) := by decide +kernel
theorem dX6_runScript_72 : decode cX6_runScript 72 = .ok (.invokestatic 273, 3) := by decide +kernel
theorem dX6_runScript_75 : decode cX6_runScript 75 = .ok (.ldiv, 1) := by decide +kernel
theorem dX6_runScript_76 : decode cX6_runScript 76 = .ok (.ldc2_w 277, 3) := by decide +kernel
theorem dX6_runScript_79 : decode cX6_runScript 79 = .ok (.lrem, 1) := by decide +kernel
theorem dX6_runScript_80 : decode cX6_runScript 80 = .ok (.l2i, 1) := by decide +kernel
theorem dX6_runScript_81 : decode cX6_runScript 81 = .ok (.invokevirtual 279, 3) := by decide +kernel
theorem dX6_runScript_84 : decode cX6_runScript 84 = .ok (.ifCond .ne 6, 3) := by decide +kernel
theorem dX6_runScript_87 : decode cX6_runScript 87 = .ok (.iload 4, 2) := by decide +kernel
theorem dX6_runScript_89 : decode cX6_runScript 89 = .ok (.ireturn, 1) := by decide +kernel
theorem dX6_runScript_90 : decode cX6_runScript 90 = .ok (.iinc 4 1, 3) := by decide +kernel
theorem dX6_runScript_93 : decode cX6_runScript 93 = .ok (.goto (-37), 3) := by decide +kernel
theorem dX6_runScript_96 : decode cX6_runScript 96 = .ok (.iconst (-1), 1) := by decide +kernel
theorem dX6_runScript_97 : decode cX6_runScript 97 = .ok (.ireturn, 1) := by decide +kernel
theorem dX6_runGutter_0 : decode cX6_runGutter 0 = .ok (.iload_n 1, 1) := by decide +kernel
theorem dX6_runGutter_1 : decode cX6_runGutter 1 = .ok (.iload_n 2, 1) := by decide +kernel
theorem dX6_runGutter_2 : decode cX6_runGutter 2 = .ok (.invokestatic 240, 3) := by decide +kernel
theorem dX6_runGutter_5 : decode cX6_runGutter 5 = .ok (.ifCond .eq 33, 3) := by decide +kernel
theorem dX6_runGutter_8 : decode cX6_runGutter 8 = .ok (.aload_n 0, 1) := by decide +kernel
theorem dX6_runGutter_9 : decode cX6_runGutter 9 = .ok (.getfield 13, 3) := by decide +kernel
theorem dX6_runGutter_12 : decode cX6_runGutter 12 = .ok (.sipush 146, 3) := by decide +kernel
theorem dX6_runGutter_15 : decode cX6_runGutter 15 = .ok (.iaload, 1) := by decide +kernel
theorem dX6_runGutter_16 : decode cX6_runGutter 16 = .ok (.bipush 6, 2) := by decide +kernel
theorem dX6_runGutter_18 : decode cX6_runGutter 18 = .ok (.if_icmp .ge 20, 3) := by decide +kernel
theorem dX6_runGutter_21 : decode cX6_runGutter 21 = .ok (.aload_n 0, 1) := by decide +kernel
theorem dX6_runGutter_22 : decode cX6_runGutter 22 = .ok (.getfield 13, 3) := by decide +kernel
theorem dX6_runGutter_25 : decode cX6_runGutter 25 = .ok (.iload_n 3, 1) := by decide +kernel
theorem dX6_runGutter_26 : decode cX6_runGutter 26 = .ok (.iload 4, 2) := by decide +kernel
theorem dX6_runGutter_28 : decode cX6_runGutter 28 = .ok (.invokestatic 151, 3) := by decide +kernel
theorem dX6_runGutter_31 : decode cX6_runGutter 31 = .ok (.ifCond .eq 7, 3) := by decide +kernel
theorem dX6_runGutter_34 : decode cX6_runGutter 34 = .ok (.iconst 1, 1) := by decide +kernel
theorem dX6_runGutter_35 : decode cX6_runGutter 35 = .ok (.goto 4, 3) := by decide +kernel
theorem dX6_runGutter_38 : decode cX6_runGutter 38 = .ok (.iconst 0, 1) := by decide +kernel
theorem dX6_runGutter_39 : decode cX6_runGutter 39 = .ok (.istore 5, 2) := by decide +kernel
theorem dX6_runGutter_41 : decode cX6_runGutter 41 = .ok (.iload 5, 2) := by decide +kernel
theorem dX6_runGutter_43 : decode cX6_runGutter 43 = .ok (.ifCond .eq 22, 3) := by decide +kernel
theorem dX6_runGutter_46 : decode cX6_runGutter 46 = .ok (.aload_n 0, 1) := by decide +kernel
theorem dX6_runGutter_47 : decode cX6_runGutter 47 = .ok (.getfield 13, 3) := by decide +kernel
theorem dX6_runGutter_50 : decode cX6_runGutter 50 = .ok (.iload_n 1, 1) := by decide +kernel
theorem dX6_runGutter_51 : decode cX6_runGutter 51 = .ok (.iload_n 2, 1) := by decide +kernel
theorem dX6_runGutter_52 : decode cX6_runGutter 52 = .ok (.iload_n 3, 1) := by decide +kernel
theorem dX6_runGutter_53 : decode cX6_runGutter 53 = .ok (.iload 4, 2) := by decide +kernel
theorem dX6_runGutter_55 : decode cX6_runGutter 55 = .ok (.invokestatic 158, 3) := by decide +kernel
theorem dX6_runGutter_58 : decode cX6_runGutter 58 = .ok (.ifCond .lt 7, 3) := by decide +kernel
theorem dX6_runGutter_61 : decode cX6_runGutter 61 = .ok (.iconst 1, 1) := by decide +kernel
theorem dX6_runGutter_62 : decode cX6_runGutter 62 = .ok (.goto 4, 3) := by decide +kernel
theorem dX6_runGutter_65 : decode cX6_runGutter 65 = .ok (.iconst 0, 1) := by decide +kernel
theorem dX6_runGutter_66 : decode cX6_runGutter 66 = .ok (.ireturn, 1) := by decide +kernel
theorem dX6_stir_0 : decode cX6_stir 0 = .ok (.iload_n 1, 1) := by decide +kernel
theorem dX6_stir_1 : decode cX6_stir 1 = .ok (.bipush 16, 2) := by decide +kernel
theorem dX6_stir_3 : decode cX6_stir 3 = .ok (.idiv, 1) := by decide +kernel
theorem dX6_stir_4 : decode cX6_stir 4 = .ok (.istore_n 2, 1) := by decide +kernel
theorem dX6_stir_5 : decode cX6_stir 5 = .ok (.iload_n 1, 1) := by decide +kernel
theorem dX6_stir_6 : decode cX6_stir 6 = .ok (.bipush 16, 2) := by decide +kernel
theorem dX6_stir_8 : decode cX6_stir 8 = .ok (.irem, 1) := by decide +kernel
theorem dX6_stir_9 : decode cX6_stir 9 = .ok (.tableswitch 198 0 10 #[59, 96, 96, 122, 122, 122, 122, 141, 165, 165, 182], 59) := by decide +kernel
theorem dX6_stir_68 : decode cX6_stir 68 = .ok (.aload_n 0, 1) := by decide +kernel
theorem dX6_stir_69 : decode cX6_stir 69 = .ok (.iconst 4, 1) := by decide +kernel
theorem dX6_stir_70 : decode cX6_stir 70 = .ok (.iload_n 2, 1) := by decide +kernel
theorem dX6_stir_71 : decode cX6_stir 71 = .ok (.bipush 20, 2) := by decide +kernel
theorem dX6_stir_73 : decode cX6_stir 73 = .ok (.irem, 1) := by decide +kernel
theorem dX6_stir_74 : decode cX6_stir 74 = .ok (.iadd, 1) := by decide +kernel
theorem dX6_stir_75 : decode cX6_stir 75 = .ok (.iload_n 2, 1) := by decide +kernel
theorem dX6_stir_76 : decode cX6_stir 76 = .ok (.bipush 32, 2) := by decide +kernel
theorem dX6_stir_78 : decode cX6_stir 78 = .ok (.idiv, 1) := by decide +kernel
theorem dX6_stir_79 : decode cX6_stir 79 = .ok (.bipush 6, 2) := by decide +kernel
theorem dX6_stir_81 : decode cX6_stir 81 = .ok (.irem, 1) := by decide +kernel
theorem dX6_stir_82 : decode cX6_stir 82 = .ok (.iload_n 2, 1) := by decide +kernel
theorem dX6_stir_83 : decode cX6_stir 83 = .ok (.sipush 256, 3) := by decide +kernel
theorem dX6_stir_86 : decode cX6_stir 86 = .ok (.idiv, 1) := by decide +kernel
theorem dX6_stir_87 : decode cX6_stir 87 = .ok (.bipush 6, 2) := by decide +kernel
theorem dX6_stir_89 : decode cX6_stir 89 = .ok (.irem, 1) := by decide +kernel
theorem dX6_stir_90 : decode cX6_stir 90 = .ok (.iload_n 2, 1) := by decide +kernel
theorem dX6_stir_91 : decode cX6_stir 91 = .ok (.sipush 2048, 3) := by decide +kernel
theorem dX6_stir_94 : decode cX6_stir 94 = .ok (.idiv, 1) := by decide +kernel
theorem dX6_stir_95 : decode cX6_stir 95 = .ok (.bipush 20, 2) := by decide +kernel
theorem dX6_stir_97 : decode cX6_stir 97 = .ok (.irem, 1) := by decide +kernel
theorem dX6_stir_98 : decode cX6_stir 98 = .ok (.invokevirtual 282, 3) := by decide +kernel
theorem dX6_stir_101 : decode cX6_stir 101 = .ok (.istore_n 3, 1) := by decide +kernel
theorem dX6_stir_102 : decode cX6_stir 102 = .ok (.goto 115, 3) := by decide +kernel
theorem dX6_stir_105 : decode cX6_stir 105 = .ok (.aload_n 0, 1) := by decide +kernel
theorem dX6_stir_106 : decode cX6_stir 106 = .ok (.iconst 1, 1) := by decide +kernel
theorem dX6_stir_107 : decode cX6_stir 107 = .ok (.iload_n 2, 1) := by decide +kernel
theorem dX6_stir_108 : decode cX6_stir 108 = .ok (.bipush 9, 2) := by decide +kernel
theorem dX6_stir_110 : decode cX6_stir 110 = .ok (.irem, 1) := by decide +kernel
theorem dX6_stir_111 : decode cX6_stir 111 = .ok (.iadd, 1) := by decide +kernel
theorem dX6_stir_112 : decode cX6_stir 112 = .ok (.iload_n 2, 1) := by decide +kernel
theorem dX6_stir_113 : decode cX6_stir 113 = .ok (.bipush 16, 2) := by decide +kernel
theorem dX6_stir_115 : decode cX6_stir 115 = .ok (.idiv, 1) := by decide +kernel
theorem dX6_stir_116 : decode cX6_stir 116 = .ok (.iconst 4, 1) := by decide +kernel
theorem dX6_stir_117 : decode cX6_stir 117 = .ok (.irem, 1) := by decide +kernel
theorem dX6_stir_118 : decode cX6_stir 118 = .ok (.iload_n 2, 1) := by decide +kernel
theorem dX6_stir_119 : decode cX6_stir 119 = .ok (.bipush 64, 2) := by decide +kernel
theorem dX6_stir_121 : decode cX6_stir 121 = .ok (.idiv, 1) := by decide +kernel
theorem dX6_stir_122 : decode cX6_stir 122 = .ok (.iconst 4, 1) := by decide +kernel
theorem dX6_stir_123 : decode cX6_stir 123 = .ok (.irem, 1) := by decide +kernel
theorem dX6_stir_124 : decode cX6_stir 124 = .ok (.invokevirtual 270, 3) := by decide +kernel
theorem dX6_stir_127 : decode cX6_stir 127 = .ok (.istore_n 3, 1) := by decide +kernel
theorem dX6_stir_128 : decode cX6_stir 128 = .ok (.goto 89, 3) := by decide +kernel
theorem dX6_stir_131 : decode cX6_stir 131 = .ok (.aload_n 0, 1) := by decide +kernel
theorem dX6_stir_132 : decode cX6_stir 132 = .ok (.iload_n 2, 1) := by decide +kernel
theorem dX6_stir_133 : decode cX6_stir 133 = .ok (.bipush 10, 2) := by decide +kernel
theorem dX6_stir_135 : decode cX6_stir 135 = .ok (.irem, 1) := by decide +kernel
theorem dX6_stir_136 : decode cX6_stir 136 = .ok (.iload_n 2, 1) := by decide +kernel
theorem dX6_stir_137 : decode cX6_stir 137 = .ok (.bipush 16, 2) := by decide +kernel
theorem dX6_stir_139 : decode cX6_stir 139 = .ok (.idiv, 1) := by decide +kernel
theorem dX6_stir_140 : decode cX6_stir 140 = .ok (.bipush 6, 2) := by decide +kernel
theorem dX6_stir_142 : decode cX6_stir 142 = .ok (.irem, 1) := by decide +kernel
theorem dX6_stir_143 : decode cX6_stir 143 = .ok (.invokevirtual 254, 3) := by decide +kernel
theorem dX6_stir_146 : decode cX6_stir 146 = .ok (.istore_n 3, 1) := by decide +kernel
theorem dX6_stir_147 : decode cX6_stir 147 = .ok (.goto 70, 3) := by decide +kernel
theorem dX6_stir_150 : decode cX6_stir 150 = .ok (.aload_n 0, 1) := by decide +kernel
theorem dX6_stir_151 : decode cX6_stir 151 = .ok (.iload_n 2, 1) := by decide +kernel
theorem dX6_stir_152 : decode cX6_stir 152 = .ok (.iconst 4, 1) := by decide +kernel
theorem dX6_stir_153 : decode cX6_stir 153 = .ok (.irem, 1) := by decide +kernel
theorem dX6_stir_154 : decode cX6_stir 154 = .ok (.iload_n 2, 1) := by decide +kernel
theorem dX6_stir_155 : decode cX6_stir 155 = .ok (.iconst 4, 1) := by decide +kernel
theorem dX6_stir_156 : decode cX6_stir 156 = .ok (.idiv, 1) := by decide +kernel
theorem dX6_stir_157 : decode cX6_stir 157 = .ok (.bipush 6, 2) := by decide +kernel
theorem dX6_stir_159 : decode cX6_stir 159 = .ok (.irem, 1) := by decide +kernel
theorem dX6_stir_160 : decode cX6_stir 160 = .ok (.iload_n 2, 1) := by decide +kernel
theorem dX6_stir_161 : decode cX6_stir 161 = .ok (.bipush 32, 2) := by decide +kernel
theorem dX6_stir_163 : decode cX6_stir 163 = .ok (.idiv, 1) := by decide +kernel
theorem dX6_stir_164 : decode cX6_stir 164 = .ok (.bipush 20, 2) := by decide +kernel
theorem dX6_stir_166 : decode cX6_stir 166 = .ok (.irem, 1) := by decide +kernel
theorem dX6_stir_167 : decode cX6_stir 167 = .ok (.invokevirtual 260, 3) := by decide +kernel
theorem dX6_stir_170 : decode cX6_stir 170 = .ok (.istore_n 3, 1) := by decide +kernel
theorem dX6_stir_171 : decode cX6_stir 171 = .ok (.goto 46, 3) := by decide +kernel
theorem dX6_stir_174 : decode cX6_stir 174 = .ok (.aload_n 0, 1) := by decide +kernel
theorem dX6_stir_175 : decode cX6_stir 175 = .ok (.iload_n 2, 1) := by decide +kernel
theorem dX6_stir_176 : decode cX6_stir 176 = .ok (.iconst 4, 1) := by decide +kernel
theorem dX6_stir_177 : decode cX6_stir 177 = .ok (.irem, 1) := by decide +kernel
theorem dX6_stir_178 : decode cX6_stir 178 = .ok (.iload_n 2, 1) := by decide +kernel
theorem dX6_stir_179 : decode cX6_stir 179 = .ok (.iconst 4, 1) := by decide +kernel
theorem dX6_stir_180 : decode cX6_stir 180 = .ok (.idiv, 1) := by decide +kernel
theorem dX6_stir_181 : decode cX6_stir 181 = .ok (.bipush 10, 2) := by decide +kernel
theorem dX6_stir_183 : decode cX6_stir 183 = .ok (.irem, 1) := by decide +kernel
theorem dX6_stir_184 : decode cX6_stir 184 = .ok (.invokevirtual 264, 3) := by decide +kernel
theorem dX6_stir_187 : decode cX6_stir 187 = .ok (.istore_n 3, 1) := by decide +kernel
theorem dX6_stir_188 : decode cX6_stir 188 = .ok (.goto 29, 3) := by decide +kernel
theorem dX6_stir_191 : decode cX6_stir 191 = .ok (.aload_n 0, 1) := by decide +kernel
theorem dX6_stir_192 : decode cX6_stir 192 = .ok (.iload_n 2, 1) := by decide +kernel
theorem dX6_stir_193 : decode cX6_stir 193 = .ok (.iconst 3, 1) := by decide +kernel
theorem dX6_stir_194 : decode cX6_stir 194 = .ok (.irem, 1) := by decide +kernel
theorem dX6_stir_195 : decode cX6_stir 195 = .ok (.iload_n 2, 1) := by decide +kernel
theorem dX6_stir_196 : decode cX6_stir 196 = .ok (.iconst 4, 1) := by decide +kernel
theorem dX6_stir_197 : decode cX6_stir 197 = .ok (.idiv, 1) := by decide +kernel
theorem dX6_stir_198 : decode cX6_stir 198 = .ok (.iconst 5, 1) := by decide +kernel
theorem dX6_stir_199 : decode cX6_stir 199 = .ok (.irem, 1) := by decide +kernel
theorem dX6_stir_200 : decode cX6_stir 200 = .ok (.invokevirtual 267, 3) := by decide +kernel
theorem dX6_stir_203 : decode cX6_stir 203 = .ok (.istore_n 3, 1) := by decide +kernel
theorem dX6_stir_204 : decode cX6_stir 204 = .ok (.goto 13, 3) := by decide +kernel
theorem dX6_stir_207 : decode cX6_stir 207 = .ok (.aload_n 0, 1) := by decide +kernel
theorem dX6_stir_208 : decode cX6_stir 208 = .ok (.iconst 1, 1) := by decide +kernel
theorem dX6_stir_209 : decode cX6_stir 209 = .ok (.iload_n 2, 1) := by decide +kernel
theorem dX6_stir_210 : decode cX6_stir 210 = .ok (.iconst 4, 1) := by decide +kernel
theorem dX6_stir_211 : decode cX6_stir 211 = .ok (.irem, 1) := by decide +kernel
theorem dX6_stir_212 : decode cX6_stir 212 = .ok (.iadd, 1) := by decide +kernel
theorem dX6_stir_213 : decode cX6_stir 213 = .ok (.invokevirtual 257, 3) := by decide +kernel
theorem dX6_stir_216 : decode cX6_stir 216 = .ok (.istore_n 3, 1) := by decide +kernel
theorem dX6_stir_217 : decode cX6_stir 217 = .ok (.return_, 1) := by decide +kernel
theorem dX6_simulate_0 : decode cX6_simulate 0 = .ok (.aload_n 0, 1) := by decide +kernel
theorem dX6_simulate_1 : decode cX6_simulate 1 = .ok (.iload_n 3, 1) := by decide +kernel
theorem dX6_simulate_2 : decode cX6_simulate 2 = .ok (.i2l, 1) := by decide +kernel
theorem dX6_simulate_3 : decode cX6_simulate 3 = .ok (.lconst 1, 1) := by decide +kernel
theorem dX6_simulate_4 : decode cX6_simulate 4 = .ok (.ldc2_w 249, 3) := by decide +kernel
theorem dX6_simulate_7 : decode cX6_simulate 7 = .ok (.invokestatic 42, 3) := by decide +kernel
theorem dX6_simulate_10 : decode cX6_simulate 10 = .ok (.ifCond .eq 7, 3) := by decide +kernel
theorem dX6_simulate_13 : decode cX6_simulate 13 = .ok (.iconst 0, 1) := by decide +kernel
theorem dX6_simulate_14 : decode cX6_simulate 14 = .ok (.goto 4, 3) := by decide +kernel
theorem dX6_simulate_17 : decode cX6_simulate 17 = .ok (.iconst 1, 1) := by decide +kernel
theorem dX6_simulate_18 : decode cX6_simulate 18 = .ok (.invokevirtual 122, 3) := by decide +kernel
theorem dX6_simulate_21 : decode cX6_simulate 21 = .ok (.ifCond .eq 5, 3) := by decide +kernel
theorem dX6_simulate_24 : decode cX6_simulate 24 = .ok (.iconst 0, 1) := by decide +kernel
theorem dX6_simulate_25 : decode cX6_simulate 25 = .ok (.ireturn, 1) := by decide +kernel
theorem dX6_simulate_26 : decode cX6_simulate 26 = .ok (.aload_n 0, 1) := by decide +kernel
theorem dX6_simulate_27 : decode cX6_simulate 27 = .ok (.getfield 7, 3) := by decide +kernel
theorem dX6_simulate_30 : decode cX6_simulate 30 = .ok (.aload_n 0, 1) := by decide +kernel
theorem dX6_simulate_31 : decode cX6_simulate 31 = .ok (.getfield 13, 3) := by decide +kernel
theorem dX6_simulate_34 : decode cX6_simulate 34 = .ok (.invokestatic 212, 3) := by decide +kernel
theorem dX6_simulate_37 : decode cX6_simulate 37 = .ok (.lload_n 1, 1) := by decide +kernel
theorem dX6_simulate_38 : decode cX6_simulate 38 = .ok (.lstore 4, 2) := by decide +kernel
theorem dX6_simulate_40 : decode cX6_simulate 40 = .ok (.iconst 0, 1) := by decide +kernel
theorem dX6_simulate_41 : decode cX6_simulate 41 = .ok (.istore 6, 2) := by decide +kernel
theorem dX6_simulate_43 : decode cX6_simulate 43 = .ok (.iload 6, 2) := by decide +kernel
theorem dX6_simulate_45 : decode cX6_simulate 45 = .ok (.iload_n 3, 1) := by decide +kernel
theorem dX6_simulate_46 : decode cX6_simulate 46 = .ok (.if_icmp .ge 31, 3) := by decide +kernel
theorem dX6_simulate_49 : decode cX6_simulate 49 = .ok (.lload 4, 2) := by decide +kernel
theorem dX6_simulate_51 : decode cX6_simulate 51 = .ok (.ldc2_w 286, 3) := by decide +kernel
theorem dX6_simulate_54 : decode cX6_simulate 54 = .ok (.lmul, 1) := by decide +kernel
theorem dX6_simulate_55 : decode cX6_simulate 55 = .ok (.ldc2_w 288, 3) := by decide +kernel
theorem dX6_simulate_58 : decode cX6_simulate 58 = .ok (.ladd, 1) := by decide +kernel
theorem dX6_simulate_59 : decode cX6_simulate 59 = .ok (.lstore 4, 2) := by decide +kernel
theorem dX6_simulate_61 : decode cX6_simulate 61 = .ok (.aload_n 0, 1) := by decide +kernel
theorem dX6_simulate_62 : decode cX6_simulate 62 = .ok (.lload 4, 2) := by decide +kernel
theorem dX6_simulate_64 : decode cX6_simulate 64 = .ok (.bipush 33, 2) := by decide +kernel
theorem dX6_simulate_66 : decode cX6_simulate 66 = .ok (.lushr, 1) := by decide +kernel
theorem dX6_simulate_67 : decode cX6_simulate 67 = .ok (.l2i, 1) := by decide +kernel
theorem dX6_simulate_68 : decode cX6_simulate 68 = .ok (.invokevirtual 290, 3) := by decide +kernel
theorem dX6_simulate_71 : decode cX6_simulate 71 = .ok (.iinc 6 1, 3) := by decide +kernel
theorem dX6_simulate_74 : decode cX6_simulate 74 = .ok (.goto (-31), 3) := by decide +kernel
theorem dX6_simulate_77 : decode cX6_simulate 77 = .ok (.iconst 0, 1) := by decide +kernel
theorem dX6_simulate_78 : decode cX6_simulate 78 = .ok (.istore 6, 2) := by decide +kernel
theorem dX6_simulate_80 : decode cX6_simulate 80 = .ok (.iconst 0, 1) := by decide +kernel
theorem dX6_simulate_81 : decode cX6_simulate 81 = .ok (.istore 7, 2) := by decide +kernel
theorem dX6_simulate_83 : decode cX6_simulate 83 = .ok (.iload 7, 2) := by decide +kernel
theorem dX6_simulate_85 : decode cX6_simulate 85 = .ok (.iconst 4, 1) := by decide +kernel
theorem dX6_simulate_86 : decode cX6_simulate 86 = .ok (.if_icmp .ge 27, 3) := by decide +kernel
theorem dX6_simulate_89 : decode cX6_simulate 89 = .ok (.iload 6, 2) := by decide +kernel
theorem dX6_simulate_91 : decode cX6_simulate 91 = .ok (.aload_n 0, 1) := by decide +kernel
theorem dX6_simulate_92 : decode cX6_simulate 92 = .ok (.getfield 13, 3) := by decide +kernel
theorem dX6_simulate_95 : decode cX6_simulate 95 = .ok (.sipush 134, 3) := by decide +kernel
theorem dX6_simulate_98 : decode cX6_simulate 98 = .ok (.iconst 3, 1) := by decide +kernel
theorem dX6_simulate_99 : decode cX6_simulate 99 = .ok (.iload 7, 2) := by decide +kernel
theorem dX6_simulate_101 : decode cX6_simulate 101 = .ok (.imul, 1) := by decide +kernel
theorem dX6_simulate_102 : decode cX6_simulate 102 = .ok (.iadd, 1) := by decide +kernel
theorem dX6_simulate_103 : decode cX6_simulate 103 = .ok (.iaload, 1) := by decide +kernel
theorem dX6_simulate_104 : decode cX6_simulate 104 = .ok (.iadd, 1) := by decide +kernel
theorem dX6_simulate_105 : decode cX6_simulate 105 = .ok (.istore 6, 2) := by decide +kernel
theorem dX6_simulate_107 : decode cX6_simulate 107 = .ok (.iinc 7 1, 3) := by decide +kernel
theorem dX6_simulate_110 : decode cX6_simulate 110 = .ok (.goto (-27), 3) := by decide +kernel
theorem dX6_simulate_113 : decode cX6_simulate 113 = .ok (.sipush 10000, 3) := by decide +kernel
theorem dX6_simulate_116 : decode cX6_simulate 116 = .ok (.aload_n 0, 1) := by decide +kernel
theorem dX6_simulate_117 : decode cX6_simulate 117 = .ok (.getfield 13, 3) := by decide +kernel
theorem dX6_simulate_120 : decode cX6_simulate 120 = .ok (.sipush 149, 3) := by decide +kernel
theorem dX6_simulate_123 : decode cX6_simulate 123 = .ok (.iaload, 1) := by decide +kernel
theorem dX6_simulate_124 : decode cX6_simulate 124 = .ok (.aload_n 0, 1) := by decide +kernel
theorem dX6_simulate_125 : decode cX6_simulate 125 = .ok (.getfield 7, 3) := by decide +kernel
theorem dX6_simulate_128 : decode cX6_simulate 128 = .ok (.sipush 149, 3) := by decide +kernel
theorem dX6_simulate_131 : decode cX6_simulate 131 = .ok (.iaload, 1) := by decide +kernel
theorem dX6_simulate_132 : decode cX6_simulate 132 = .ok (.isub, 1) := by decide +kernel
theorem dX6_simulate_133 : decode cX6_simulate 133 = .ok (.imul, 1) := by decide +kernel
theorem dX6_simulate_134 : decode cX6_simulate 134 = .ok (.bipush 100, 2) := by decide +kernel
theorem dX6_simulate_136 : decode cX6_simulate 136 = .ok (.iload 6, 2) := by decide +kernel
theorem dX6_simulate_138 : decode cX6_simulate 138 = .ok (.bipush 100, 2) := by decide +kernel
theorem dX6_simulate_140 : decode cX6_simulate 140 = .ok (.irem, 1) := by decide +kernel
theorem dX6_simulate_141 : decode cX6_simulate 141 = .ok (.imul, 1) := by decide +kernel
theorem dX6_simulate_142 : decode cX6_simulate 142 = .ok (.iadd, 1) := by decide +kernel
theorem dX6_simulate_143 : decode cX6_simulate 143 = .ok (.aload_n 0, 1) := by decide +kernel
theorem dX6_simulate_144 : decode cX6_simulate 144 = .ok (.getfield 13, 3) := by decide +kernel
theorem dX6_simulate_147 : decode cX6_simulate 147 = .ok (.iconst 3, 1) := by decide +kernel
theorem dX6_simulate_148 : decode cX6_simulate 148 = .ok (.invokestatic 82, 3) := by decide +kernel
theorem dX6_simulate_151 : decode cX6_simulate 151 = .ok (.iadd, 1) := by decide +kernel
theorem dX6_simulate_152 : decode cX6_simulate 152 = .ok (.ireturn, 1) := by decide +kernel
theorem dX6_save_0 : decode cX6_save 0 = .ok (.aload_n 0, 1) := by decide +kernel
theorem dX6_save_1 : decode cX6_save 1 = .ok (.iload_n 1, 1) := by decide +kernel
theorem dX6_save_2 : decode cX6_save 2 = .ok (.i2l, 1) := by decide +kernel
theorem dX6_save_3 : decode cX6_save 3 = .ok (.lconst 0, 1) := by decide +kernel
theorem dX6_save_4 : decode cX6_save 4 = .ok (.lconst 1, 1) := by decide +kernel
theorem dX6_save_5 : decode cX6_save 5 = .ok (.invokestatic 42, 3) := by decide +kernel
theorem dX6_save_8 : decode cX6_save 8 = .ok (.ifCond .eq 7, 3) := by decide +kernel
theorem dX6_save_11 : decode cX6_save 11 = .ok (.iconst 0, 1) := by decide +kernel
theorem dX6_save_12 : decode cX6_save 12 = .ok (.goto 4, 3) := by decide +kernel
theorem dX6_save_15 : decode cX6_save 15 = .ok (.iconst 1, 1) := by decide +kernel
theorem dX6_save_16 : decode cX6_save 16 = .ok (.invokevirtual 122, 3) := by decide +kernel
theorem dX6_save_19 : decode cX6_save 19 = .ok (.ifCond .eq 5, 3) := by decide +kernel
theorem dX6_save_22 : decode cX6_save 22 = .ok (.iconst 0, 1) := by decide +kernel
theorem dX6_save_23 : decode cX6_save 23 = .ok (.ireturn, 1) := by decide +kernel
theorem dX6_save_24 : decode cX6_save 24 = .ok (.iconst 0, 1) := by decide +kernel
theorem dX6_save_25 : decode cX6_save 25 = .ok (.istore_n 2, 1) := by decide +kernel
theorem dX6_save_26 : decode cX6_save 26 = .ok (.iload_n 2, 1) := by decide +kernel
theorem dX6_save_27 : decode cX6_save 27 = .ok (.sipush 157, 3) := by decide +kernel
theorem dX6_save_30 : decode cX6_save 30 = .ok (.if_icmp .ge 27, 3) := by decide +kernel
theorem dX6_save_33 : decode cX6_save 33 = .ok (.aload_n 0, 1) := by decide +kernel
theorem dX6_save_34 : decode cX6_save 34 = .ok (.getfield 22, 3) := by decide +kernel
theorem dX6_save_37 : decode cX6_save 37 = .ok (.sipush 157, 3) := by decide +kernel
theorem dX6_save_40 : decode cX6_save 40 = .ok (.iload_n 1, 1) := by decide +kernel
theorem dX6_save_41 : decode cX6_save 41 = .ok (.imul, 1) := by decide +kernel
theorem dX6_save_42 : decode cX6_save 42 = .ok (.iload_n 2, 1) := by decide +kernel
theorem dX6_save_43 : decode cX6_save 43 = .ok (.iadd, 1) := by decide +kernel
theorem dX6_save_44 : decode cX6_save 44 = .ok (.aload_n 0, 1) := by decide +kernel
theorem dX6_save_45 : decode cX6_save 45 = .ok (.getfield 7, 3) := by decide +kernel
theorem dX6_save_48 : decode cX6_save 48 = .ok (.iload_n 2, 1) := by decide +kernel
theorem dX6_save_49 : decode cX6_save 49 = .ok (.iaload, 1) := by decide +kernel
theorem dX6_save_50 : decode cX6_save 50 = .ok (.iastore, 1) := by decide +kernel
theorem dX6_save_51 : decode cX6_save 51 = .ok (.iinc 2 1, 3) := by decide +kernel
theorem dX6_save_54 : decode cX6_save 54 = .ok (.goto (-28), 3) := by decide +kernel
theorem dX6_save_57 : decode cX6_save 57 = .ok (.aload_n 0, 1) := by decide +kernel
theorem dX6_save_58 : decode cX6_save 58 = .ok (.getfield 25, 3) := by decide +kernel
theorem dX6_save_61 : decode cX6_save 61 = .ok (.iload_n 1, 1) := by decide +kernel
theorem dX6_save_62 : decode cX6_save 62 = .ok (.iconst 1, 1) := by decide +kernel
theorem dX6_save_63 : decode cX6_save 63 = .ok (.bastore, 1) := by decide +kernel
theorem dX6_save_64 : decode cX6_save 64 = .ok (.aload_n 0, 1) := by decide +kernel
theorem dX6_save_65 : decode cX6_save 65 = .ok (.getfield 7, 3) := by decide +kernel
theorem dX6_save_68 : decode cX6_save 68 = .ok (.sipush 148, 3) := by decide +kernel
theorem dX6_save_71 : decode cX6_save 71 = .ok (.iaload, 1) := by decide +kernel
theorem dX6_save_72 : decode cX6_save 72 = .ok (.ireturn, 1) := by decide +kernel
theorem dX6_restore_0 : decode cX6_restore 0 = .ok (.aload_n 0, 1) := by decide +kernel
theorem dX6_restore_1 : decode cX6_restore 1 = .ok (.iload_n 1, 1) := by decide +kernel
theorem dX6_restore_2 : decode cX6_restore 2 = .ok (.i2l, 1) := by decide +kernel
theorem dX6_restore_3 : decode cX6_restore 3 = .ok (.lconst 0, 1) := by decide +kernel
theorem dX6_restore_4 : decode cX6_restore 4 = .ok (.lconst 1, 1) := by decide +kernel
theorem dX6_restore_5 : decode cX6_restore 5 = .ok (.invokestatic 42, 3) := by decide +kernel
theorem dX6_restore_8 : decode cX6_restore 8 = .ok (.ifCond .ne 7, 3) := by decide +kernel
theorem dX6_restore_11 : decode cX6_restore 11 = .ok (.iconst 1, 1) := by decide +kernel
theorem dX6_restore_12 : decode cX6_restore 12 = .ok (.goto 17, 3) := by decide +kernel
theorem dX6_restore_15 : decode cX6_restore 15 = .ok (.aload_n 0, 1) := by decide +kernel
theorem dX6_restore_16 : decode cX6_restore 16 = .ok (.getfield 25, 3) := by decide +kernel
theorem dX6_restore_19 : decode cX6_restore 19 = .ok (.iload_n 1, 1) := by decide +kernel
theorem dX6_restore_20 : decode cX6_restore 20 = .ok (.baload, 1) := by decide +kernel
theorem dX6_restore_21 : decode cX6_restore 21 = .ok (.ifCond .ne 7, 3) := by decide +kernel
theorem dX6_restore_24 : decode cX6_restore 24 = .ok (.iconst 2, 1) := by decide +kernel
theorem dX6_restore_25 : decode cX6_restore 25 = .ok (.goto 4, 3) := by decide +kernel
theorem dX6_restore_28 : decode cX6_restore 28 = .ok (.iconst 0, 1) := by decide +kernel
theorem dX6_restore_29 : decode cX6_restore 29 = .ok (.invokevirtual 122, 3) := by decide +kernel
theorem dX6_restore_32 : decode cX6_restore 32 = .ok (.ifCond .eq 5, 3) := by decide +kernel
theorem dX6_restore_35 : decode cX6_restore 35 = .ok (.iconst 0, 1) := by decide +kernel
theorem dX6_restore_36 : decode cX6_restore 36 = .ok (.ireturn, 1) := by decide +kernel
theorem dX6_restore_37 : decode cX6_restore 37 = .ok (.iconst 0, 1) := by decide +kernel
theorem dX6_restore_38 : decode cX6_restore 38 = .ok (.istore_n 2, 1) := by decide +kernel
theorem dX6_restore_39 : decode cX6_restore 39 = .ok (.iload_n 2, 1) := by decide +kernel
theorem dX6_restore_40 : decode cX6_restore 40 = .ok (.sipush 157, 3) := by decide +kernel
theorem dX6_restore_43 : decode cX6_restore 43 = .ok (.if_icmp .ge 27, 3) := by decide +kernel
theorem dX6_restore_46 : decode cX6_restore 46 = .ok (.aload_n 0, 1) := by decide +kernel
theorem dX6_restore_47 : decode cX6_restore 47 = .ok (.getfield 7, 3) := by decide +kernel
theorem dX6_restore_50 : decode cX6_restore 50 = .ok (.iload_n 2, 1) := by decide +kernel
theorem dX6_restore_51 : decode cX6_restore 51 = .ok (.aload_n 0, 1) := by decide +kernel
theorem dX6_restore_52 : decode cX6_restore 52 = .ok (.getfield 22, 3) := by decide +kernel
theorem dX6_restore_55 : decode cX6_restore 55 = .ok (.sipush 157, 3) := by decide +kernel
theorem dX6_restore_58 : decode cX6_restore 58 = .ok (.iload_n 1, 1) := by decide +kernel
theorem dX6_restore_59 : decode cX6_restore 59 = .ok (.imul, 1) := by decide +kernel
theorem dX6_restore_60 : decode cX6_restore 60 = .ok (.iload_n 2, 1) := by decide +kernel
theorem dX6_restore_61 : decode cX6_restore 61 = .ok (.iadd, 1) := by decide +kernel
theorem dX6_restore_62 : decode cX6_restore 62 = .ok (.iaload, 1) := by decide +kernel
theorem dX6_restore_63 : decode cX6_restore 63 = .ok (.iastore, 1) := by decide +kernel
theorem dX6_restore_64 : decode cX6_restore 64 = .ok (.iinc 2 1, 3) := by decide +kernel
theorem dX6_restore_67 : decode cX6_restore 67 = .ok (.goto (-28), 3) := by decide +kernel
theorem dX6_restore_70 : decode cX6_restore 70 = .ok (.aload_n 0, 1) := by decide +kernel
theorem dX6_restore_71 : decode cX6_restore 71 = .ok (.iconst 0, 1) := by decide +kernel
theorem dX6_restore_72 : decode cX6_restore 72 = .ok (.putfield 114, 3) := by decide +kernel
theorem dX6_restore_75 : decode cX6_restore 75 = .ok (.aload_n 0, 1) := by decide +kernel
theorem dX6_restore_76 : decode cX6_restore 76 = .ok (.getfield 7, 3) := by decide +kernel
theorem dX6_restore_79 : decode cX6_restore 79 = .ok (.sipush 148, 3) := by decide +kernel
theorem dX6_restore_82 : decode cX6_restore 82 = .ok (.iaload, 1) := by decide +kernel
theorem dX6_restore_83 : decode cX6_restore 83 = .ok (.ireturn, 1) := by decide +kernel
end
section
theorem dL_law_0 : decode cL_law 0 = .ok (.new 8, 3) := by decide +kernel
theorem dL_law_3 : decode cL_law 3 = .ok (.dup, 1) := by decide +kernel
theorem dL_law_4 : decode cL_law 4 = .ok (.invokespecial 91, 3) := by decide +kernel
theorem dL_law_7 : decode cL_law 7 = .ok (.astore_n 1, 1) := by decide +kernel
theorem dL_law_8 : decode cL_law 8 = .ok (.new 92, 3) := by decide +kernel
theorem dL_law_11 : decode cL_law 11 = .ok (.dup, 1) := by decide +kernel
theorem dL_law_12 : decode cL_law 12 = .ok (.invokespecial 94, 3) := by decide +kernel
theorem dL_law_15 : decode cL_law 15 = .ok (.astore_n 2, 1) := by decide +kernel
theorem dL_law_16 : decode cL_law 16 = .ok (.iconst 1, 1) := by decide +kernel
theorem dL_law_17 : decode cL_law 17 = .ok (.newarray .long, 2) := by decide +kernel
theorem dL_law_19 : decode cL_law 19 = .ok (.astore_n 3, 1) := by decide +kernel
theorem dL_law_20 : decode cL_law 20 = .ok (.iconst 0, 1) := by decide +kernel
theorem dL_law_21 : decode cL_law 21 = .ok (.istore 4, 2) := by decide +kernel
theorem dL_law_23 : decode cL_law 23 = .ok (.iload 4, 2) := by decide +kernel
theorem dL_law_25 : decode cL_law 25 = .ok (.aload_n 0, 1) := by decide +kernel
theorem dL_law_26 : decode cL_law 26 = .ok (.arraylength, 1) := by decide +kernel
theorem dL_law_27 : decode cL_law 27 = .ok (.iconst 5, 1) := by decide +kernel
theorem dL_law_28 : decode cL_law 28 = .ok (.isub, 1) := by decide +kernel
theorem dL_law_29 : decode cL_law 29 = .ok (.if_icmp .gt 1740, 3) := by decide +kernel
theorem dL_law_32 : decode cL_law 32 = .ok (.aload_n 0, 1) := by decide +kernel
theorem dL_law_33 : decode cL_law 33 = .ok (.iload 4, 2) := by decide +kernel
theorem dL_law_35 : decode cL_law 35 = .ok (.iaload, 1) := by decide +kernel
theorem dL_law_36 : decode cL_law 36 = .ok (.bipush 31, 2) := by decide +kernel
theorem dL_law_38 : decode cL_law 38 = .ok (.iand, 1) := by decide +kernel
theorem dL_law_39 : decode cL_law 39 = .ok (.tableswitch 1724 0 25 #[117, 173, 186, 199, 243, 299, 367, 435, 503, 583, 639, 731, 811, 879, 959, 1027, 1083, 1151, 1195, 1263, 1331, 1344, 1412, 1512, 1612, 1668], 117) := by decide +kernel
theorem dL_law_156 : decode cL_law 156 = .ok (.aload_n 1, 1) := by decide +kernel
theorem dL_law_157 : decode cL_law 157 = .ok (.aload_n 0, 1) := by decide +kernel
theorem dL_law_158 : decode cL_law 158 = .ok (.iload 4, 2) := by decide +kernel
theorem dL_law_160 : decode cL_law 160 = .ok (.iconst 1, 1) := by decide +kernel
theorem dL_law_161 : decode cL_law 161 = .ok (.iadd, 1) := by decide +kernel
theorem dL_law_162 : decode cL_law 162 = .ok (.iaload, 1) := by decide +kernel
theorem dL_law_163 : decode cL_law 163 = .ok (.aload_n 3, 1) := by decide +kernel
theorem dL_law_164 : decode cL_law 164 = .ok (.invokestatic 95, 3) := by decide +kernel
theorem dL_law_167 : decode cL_law 167 = .ok (.istore 5, 2) := by decide +kernel
theorem dL_law_169 : decode cL_law 169 = .ok (.aload_n 2, 1) := by decide +kernel
theorem dL_law_170 : decode cL_law 170 = .ok (.aload_n 0, 1) := by decide +kernel
theorem dL_law_171 : decode cL_law 171 = .ok (.iload 4, 2) := by decide +kernel
theorem dL_law_173 : decode cL_law 173 = .ok (.iconst 1, 1) := by decide +kernel
theorem dL_law_174 : decode cL_law 174 = .ok (.iadd, 1) := by decide +kernel
theorem dL_law_175 : decode cL_law 175 = .ok (.iaload, 1) := by decide +kernel
theorem dL_law_176 : decode cL_law 176 = .ok (.invokevirtual 100, 3) := by decide +kernel
theorem dL_law_179 : decode cL_law 179 = .ok (.istore 6, 2) := by decide +kernel
theorem dL_law_181 : decode cL_law 181 = .ok (.aload_n 2, 1) := by decide +kernel
theorem dL_law_182 : decode cL_law 182 = .ok (.invokevirtual 101, 3) := by decide +kernel
theorem dL_law_185 : decode cL_law 185 = .ok (.iload 5, 2) := by decide +kernel
theorem dL_law_187 : decode cL_law 187 = .ok (.if_icmp .eq 5, 3) := by decide +kernel
theorem dL_law_190 : decode cL_law 190 = .ok (.iconst 0, 1) := by decide +kernel
theorem dL_law_191 : decode cL_law 191 = .ok (.ireturn, 1) := by decide +kernel
theorem dL_law_192 : decode cL_law 192 = .ok (.iload 5, 2) := by decide +kernel
theorem dL_law_194 : decode cL_law 194 = .ok (.ifCond .ne 15, 3) := by decide +kernel
theorem dL_law_197 : decode cL_law 197 = .ok (.aload_n 3, 1) := by decide +kernel
theorem dL_law_198 : decode cL_law 198 = .ok (.iconst 0, 1) := by decide +kernel
theorem dL_law_199 : decode cL_law 199 = .ok (.laload, 1) := by decide +kernel
theorem dL_law_200 : decode cL_law 200 = .ok (.iload 6, 2) := by decide +kernel
theorem dL_law_202 : decode cL_law 202 = .ok (.i2l, 1) := by decide +kernel
theorem dL_law_203 : decode cL_law 203 = .ok (.lcmp, 1) := by decide +kernel
theorem dL_law_204 : decode cL_law 204 = .ok (.ifCond .eq 5, 3) := by decide +kernel
theorem dL_law_207 : decode cL_law 207 = .ok (.iconst 0, 1) := by decide +kernel
theorem dL_law_208 : decode cL_law 208 = .ok (.ireturn, 1) := by decide +kernel
theorem dL_law_209 : decode cL_law 209 = .ok (.goto 1554, 3) := by decide +kernel
theorem dL_law_212 : decode cL_law 212 = .ok (.aload_n 1, 1) := by decide +kernel
theorem dL_law_213 : decode cL_law 213 = .ok (.invokevirtual 104, 3) := by decide +kernel
theorem dL_law_216 : decode cL_law 216 = .ok (.aload_n 2, 1) := by decide +kernel
theorem dL_law_217 : decode cL_law 217 = .ok (.invokevirtual 107, 3) := by decide +kernel
theorem dL_law_220 : decode cL_law 220 = .ok (.if_icmp .eq 1543, 3) := by decide +kernel
theorem dL_law_223 : decode cL_law 223 = .ok (.iconst 0, 1) := by decide +kernel
theorem dL_law_224 : decode cL_law 224 = .ok (.ireturn, 1) := by decide +kernel
theorem dL_law_225 : decode cL_law 225 = .ok (.aload_n 1, 1) := by decide +kernel
theorem dL_law_226 : decode cL_law 226 = .ok (.invokevirtual 108, 3) := by decide +kernel
theorem dL_law_229 : decode cL_law 229 = .ok (.aload_n 2, 1) := by decide +kernel
theorem dL_law_230 : decode cL_law 230 = .ok (.invokevirtual 111, 3) := by decide +kernel
theorem dL_law_233 : decode cL_law 233 = .ok (.if_icmp .eq 1530, 3) := by decide +kernel
theorem dL_law_236 : decode cL_law 236 = .ok (.iconst 0, 1) := by decide +kernel
theorem dL_law_237 : decode cL_law 237 = .ok (.ireturn, 1) := by decide +kernel
theorem dL_law_238 : decode cL_law 238 = .ok (.aload_n 1, 1) := by decide +kernel
theorem dL_law_239 : decode cL_law 239 = .ok (.aload_n 3, 1) := by decide +kernel
theorem dL_law_240 : decode cL_law 240 = .ok (.invokestatic 112, 3) := by decide +kernel
theorem dL_law_243 : decode cL_law 243 = .ok (.istore 5, 2) := by decide +kernel
theorem dL_law_245 : decode cL_law 245 = .ok (.aload_n 2, 1) := by decide +kernel
theorem dL_law_246 : decode cL_law 246 = .ok (.invokevirtual 115, 3) := by decide +kernel
theorem dL_law_249 : decode cL_law 249 = .ok (.istore 6, 2) := by decide +kernel
theorem dL_law_251 : decode cL_law 251 = .ok (.aload_n 2, 1) := by decide +kernel
theorem dL_law_252 : decode cL_law 252 = .ok (.invokevirtual 101, 3) := by decide +kernel
theorem dL_law_255 : decode cL_law 255 = .ok (.iload 5, 2) := by decide +kernel
theorem dL_law_257 : decode cL_law 257 = .ok (.if_icmp .eq 5, 3) := by decide +kernel
theorem dL_law_260 : decode cL_law 260 = .ok (.iconst 0, 1) := by decide +kernel
theorem dL_law_261 : decode cL_law 261 = .ok (.ireturn, 1) := by decide +kernel
theorem dL_law_262 : decode cL_law 262 = .ok (.iload 5, 2) := by decide +kernel
theorem dL_law_264 : decode cL_law 264 = .ok (.ifCond .ne 15, 3) := by decide +kernel
theorem dL_law_267 : decode cL_law 267 = .ok (.aload_n 3, 1) := by decide +kernel
theorem dL_law_268 : decode cL_law 268 = .ok (.iconst 0, 1) := by decide +kernel
theorem dL_law_269 : decode cL_law 269 = .ok (.laload, 1) := by decide +kernel
theorem dL_law_270 : decode cL_law 270 = .ok (.iload 6, 2) := by decide +kernel
theorem dL_law_272 : decode cL_law 272 = .ok (.i2l, 1) := by decide +kernel
theorem dL_law_273 : decode cL_law 273 = .ok (.lcmp, 1) := by decide +kernel
theorem dL_law_274 : decode cL_law 274 = .ok (.ifCond .eq 5, 3) := by decide +kernel
theorem dL_law_277 : decode cL_law 277 = .ok (.iconst 0, 1) := by decide +kernel
theorem dL_law_278 : decode cL_law 278 = .ok (.ireturn, 1) := by decide +kernel
theorem dL_law_279 : decode cL_law 279 = .ok (.goto 1484, 3) := by decide +kernel
theorem dL_law_282 : decode cL_law 282 = .ok (.aload_n 1, 1) := by decide +kernel
theorem dL_law_283 : decode cL_law 283 = .ok (.aload_n 0, 1) := by decide +kernel
theorem dL_law_284 : decode cL_law 284 = .ok (.iload 4, 2) := by decide +kernel
theorem dL_law_286 : decode cL_law 286 = .ok (.iconst 1, 1) := by decide +kernel
theorem dL_law_287 : decode cL_law 287 = .ok (.iadd, 1) := by decide +kernel
theorem dL_law_288 : decode cL_law 288 = .ok (.iaload, 1) := by decide +kernel
theorem dL_law_289 : decode cL_law 289 = .ok (.aload_n 3, 1) := by decide +kernel
theorem dL_law_290 : decode cL_law 290 = .ok (.invokestatic 116, 3) := by decide +kernel
theorem dL_law_293 : decode cL_law 293 = .ok (.istore 5, 2) := by decide +kernel
theorem dL_law_295 : decode cL_law 295 = .ok (.aload_n 2, 1) := by decide +kernel
theorem dL_law_296 : decode cL_law 296 = .ok (.aload_n 0, 1) := by decide +kernel
theorem dL_law_297 : decode cL_law 297 = .ok (.iload 4, 2) := by decide +kernel
theorem dL_law_299 : decode cL_law 299 = .ok (.iconst 1, 1) := by decide +kernel
theorem dL_law_300 : decode cL_law 300 = .ok (.iadd, 1) := by decide +kernel
theorem dL_law_301 : decode cL_law 301 = .ok (.iaload, 1) := by decide +kernel
theorem dL_law_302 : decode cL_law 302 = .ok (.invokevirtual 118, 3) := by decide +kernel
theorem dL_law_305 : decode cL_law 305 = .ok (.istore 6, 2) := by decide +kernel
theorem dL_law_307 : decode cL_law 307 = .ok (.aload_n 2, 1) := by decide +kernel
theorem dL_law_308 : decode cL_law 308 = .ok (.invokevirtual 101, 3) := by decide +kernel
theorem dL_law_311 : decode cL_law 311 = .ok (.iload 5, 2) := by decide +kernel
theorem dL_law_313 : decode cL_law 313 = .ok (.if_icmp .eq 5, 3) := by decide +kernel
theorem dL_law_316 : decode cL_law 316 = .ok (.iconst 0, 1) := by decide +kernel
theorem dL_law_317 : decode cL_law 317 = .ok (.ireturn, 1) := by decide +kernel
theorem dL_law_318 : decode cL_law 318 = .ok (.iload 5, 2) := by decide +kernel
theorem dL_law_320 : decode cL_law 320 = .ok (.ifCond .ne 15, 3) := by decide +kernel
theorem dL_law_323 : decode cL_law 323 = .ok (.aload_n 3, 1) := by decide +kernel
theorem dL_law_324 : decode cL_law 324 = .ok (.iconst 0, 1) := by decide +kernel
theorem dL_law_325 : decode cL_law 325 = .ok (.laload, 1) := by decide +kernel
theorem dL_law_326 : decode cL_law 326 = .ok (.iload 6, 2) := by decide +kernel
theorem dL_law_328 : decode cL_law 328 = .ok (.i2l, 1) := by decide +kernel
theorem dL_law_329 : decode cL_law 329 = .ok (.lcmp, 1) := by decide +kernel
theorem dL_law_330 : decode cL_law 330 = .ok (.ifCond .eq 5, 3) := by decide +kernel
theorem dL_law_333 : decode cL_law 333 = .ok (.iconst 0, 1) := by decide +kernel
theorem dL_law_334 : decode cL_law 334 = .ok (.ireturn, 1) := by decide +kernel
theorem dL_law_335 : decode cL_law 335 = .ok (.goto 1428, 3) := by decide +kernel
theorem dL_law_338 : decode cL_law 338 = .ok (.aload_n 1, 1) := by decide +kernel
theorem dL_law_339 : decode cL_law 339 = .ok (.aload_n 0, 1) := by decide +kernel
theorem dL_law_340 : decode cL_law 340 = .ok (.iload 4, 2) := by decide +kernel
theorem dL_law_342 : decode cL_law 342 = .ok (.iconst 1, 1) := by decide +kernel
theorem dL_law_343 : decode cL_law 343 = .ok (.iadd, 1) := by decide +kernel
theorem dL_law_344 : decode cL_law 344 = .ok (.iaload, 1) := by decide +kernel
theorem dL_law_345 : decode cL_law 345 = .ok (.aload_n 0, 1) := by decide +kernel
theorem dL_law_346 : decode cL_law 346 = .ok (.iload 4, 2) := by decide +kernel
theorem dL_law_348 : decode cL_law 348 = .ok (.iconst 2, 1) := by decide +kernel
theorem dL_law_349 : decode cL_law 349 = .ok (.iadd, 1) := by decide +kernel
theorem dL_law_350 : decode cL_law 350 = .ok (.iaload, 1) := by decide +kernel
theorem dL_law_351 : decode cL_law 351 = .ok (.aload_n 3, 1) := by decide +kernel
theorem dL_law_352 : decode cL_law 352 = .ok (.invokestatic 119, 3) := by decide +kernel
theorem dL_law_355 : decode cL_law 355 = .ok (.istore 5, 2) := by decide +kernel
theorem dL_law_357 : decode cL_law 357 = .ok (.aload_n 2, 1) := by decide +kernel
theorem dL_law_358 : decode cL_law 358 = .ok (.aload_n 0, 1) := by decide +kernel
theorem dL_law_359 : decode cL_law 359 = .ok (.iload 4, 2) := by decide +kernel
theorem dL_law_361 : decode cL_law 361 = .ok (.iconst 1, 1) := by decide +kernel
theorem dL_law_362 : decode cL_law 362 = .ok (.iadd, 1) := by decide +kernel
theorem dL_law_363 : decode cL_law 363 = .ok (.iaload, 1) := by decide +kernel
theorem dL_law_364 : decode cL_law 364 = .ok (.aload_n 0, 1) := by decide +kernel
theorem dL_law_365 : decode cL_law 365 = .ok (.iload 4, 2) := by decide +kernel
theorem dL_law_367 : decode cL_law 367 = .ok (.iconst 2, 1) := by decide +kernel
theorem dL_law_368 : decode cL_law 368 = .ok (.iadd, 1) := by decide +kernel
theorem dL_law_369 : decode cL_law 369 = .ok (.iaload, 1) := by decide +kernel
theorem dL_law_370 : decode cL_law 370 = .ok (.invokevirtual 122, 3) := by decide +kernel
theorem dL_law_373 : decode cL_law 373 = .ok (.istore 6, 2) := by decide +kernel
theorem dL_law_375 : decode cL_law 375 = .ok (.aload_n 2, 1) := by decide +kernel
theorem dL_law_376 : decode cL_law 376 = .ok (.invokevirtual 101, 3) := by decide +kernel
theorem dL_law_379 : decode cL_law 379 = .ok (.iload 5, 2) := by decide +kernel
theorem dL_law_381 : decode cL_law 381 = .ok (.if_icmp .eq 5, 3) := by decide +kernel
theorem dL_law_384 : decode cL_law 384 = .ok (.iconst 0, 1) := by decide +kernel
theorem dL_law_385 : decode cL_law 385 = .ok (.ireturn, 1) := by decide +kernel
theorem dL_law_386 : decode cL_law 386 = .ok (.iload 5, 2) := by decide +kernel
theorem dL_law_388 : decode cL_law 388 = .ok (.ifCond .ne 15, 3) := by decide +kernel
theorem dL_law_391 : decode cL_law 391 = .ok (.aload_n 3, 1) := by decide +kernel
theorem dL_law_392 : decode cL_law 392 = .ok (.iconst 0, 1) := by decide +kernel
theorem dL_law_393 : decode cL_law 393 = .ok (.laload, 1) := by decide +kernel
theorem dL_law_394 : decode cL_law 394 = .ok (.iload 6, 2) := by decide +kernel
theorem dL_law_396 : decode cL_law 396 = .ok (.i2l, 1) := by decide +kernel
theorem dL_law_397 : decode cL_law 397 = .ok (.lcmp, 1) := by decide +kernel
theorem dL_law_398 : decode cL_law 398 = .ok (.ifCond .eq 5, 3) := by decide +kernel
theorem dL_law_401 : decode cL_law 401 = .ok (.iconst 0, 1) := by decide +kernel
theorem dL_law_402 : decode cL_law 402 = .ok (.ireturn, 1) := by decide +kernel
theorem dL_law_403 : decode cL_law 403 = .ok (.goto 1360, 3) := by decide +kernel
theorem dL_law_406 : decode cL_law 406 = .ok (.aload_n 1, 1) := by decide +kernel
theorem dL_law_407 : decode cL_law 407 = .ok (.aload_n 0, 1) := by decide +kernel
theorem dL_law_408 : decode cL_law 408 = .ok (.iload 4, 2) := by decide +kernel
theorem dL_law_410 : decode cL_law 410 = .ok (.iconst 1, 1) := by decide +kernel
theorem dL_law_411 : decode cL_law 411 = .ok (.iadd, 1) := by decide +kernel
theorem dL_law_412 : decode cL_law 412 = .ok (.iaload, 1) := by decide +kernel
theorem dL_law_413 : decode cL_law 413 = .ok (.aload_n 0, 1) := by decide +kernel
theorem dL_law_414 : decode cL_law 414 = .ok (.iload 4, 2) := by decide +kernel
theorem dL_law_416 : decode cL_law 416 = .ok (.iconst 2, 1) := by decide +kernel
theorem dL_law_417 : decode cL_law 417 = .ok (.iadd, 1) := by decide +kernel
theorem dL_law_418 : decode cL_law 418 = .ok (.iaload, 1) := by decide +kernel
theorem dL_law_419 : decode cL_law 419 = .ok (.aload_n 3, 1) := by decide +kernel
theorem dL_law_420 : decode cL_law 420 = .ok (.invokestatic 123, 3) := by decide +kernel
theorem dL_law_423 : decode cL_law 423 = .ok (.istore 5, 2) := by decide +kernel
theorem dL_law_425 : decode cL_law 425 = .ok (.aload_n 2, 1) := by decide +kernel
theorem dL_law_426 : decode cL_law 426 = .ok (.aload_n 0, 1) := by decide +kernel
theorem dL_law_427 : decode cL_law 427 = .ok (.iload 4, 2) := by decide +kernel
theorem dL_law_429 : decode cL_law 429 = .ok (.iconst 1, 1) := by decide +kernel
theorem dL_law_430 : decode cL_law 430 = .ok (.iadd, 1) := by decide +kernel
theorem dL_law_431 : decode cL_law 431 = .ok (.iaload, 1) := by decide +kernel
theorem dL_law_432 : decode cL_law 432 = .ok (.aload_n 0, 1) := by decide +kernel
theorem dL_law_433 : decode cL_law 433 = .ok (.iload 4, 2) := by decide +kernel
theorem dL_law_435 : decode cL_law 435 = .ok (.iconst 2, 1) := by decide +kernel
theorem dL_law_436 : decode cL_law 436 = .ok (.iadd, 1) := by decide +kernel
theorem dL_law_437 : decode cL_law 437 = .ok (.iaload, 1) := by decide +kernel
theorem dL_law_438 : decode cL_law 438 = .ok (.invokevirtual 125, 3) := by decide +kernel
theorem dL_law_441 : decode cL_law 441 = .ok (.istore 6, 2) := by decide +kernel
theorem dL_law_443 : decode cL_law 443 = .ok (.aload_n 2, 1) := by decide +kernel
theorem dL_law_444 : decode cL_law 444 = .ok (.invokevirtual 101, 3) := by decide +kernel
theorem dL_law_447 : decode cL_law 447 = .ok (.iload 5, 2) := by decide +kernel
theorem dL_law_449 : decode cL_law 449 = .ok (.if_icmp .eq 5, 3) := by decide +kernel
theorem dL_law_452 : decode cL_law 452 = .ok (.iconst 0, 1) := by decide +kernel
theorem dL_law_453 : decode cL_law 453 = .ok (.ireturn, 1) := by decide +kernel
theorem dL_law_454 : decode cL_law 454 = .ok (.iload 5, 2) := by decide +kernel
theorem dL_law_456 : decode cL_law 456 = .ok (.ifCond .ne 15, 3) := by decide +kernel
theorem dL_law_459 : decode cL_law 459 = .ok (.aload_n 3, 1) := by decide +kernel
theorem dL_law_460 : decode cL_law 460 = .ok (.iconst 0, 1) := by decide +kernel
theorem dL_law_461 : decode cL_law 461 = .ok (.laload, 1) := by decide +kernel
theorem dL_law_462 : decode cL_law 462 = .ok (.iload 6, 2) := by decide +kernel
theorem dL_law_464 : decode cL_law 464 = .ok (.i2l, 1) := by decide +kernel
theorem dL_law_465 : decode cL_law 465 = .ok (.lcmp, 1) := by decide +kernel
theorem dL_law_466 : decode cL_law 466 = .ok (.ifCond .eq 5, 3) := by decide +kernel
theorem dL_law_469 : decode cL_law 469 = .ok (.iconst 0, 1) := by decide +kernel
theorem dL_law_470 : decode cL_law 470 = .ok (.ireturn, 1) := by decide +kernel
theorem dL_law_471 : decode cL_law 471 = .ok (.goto 1292, 3) := by decide +kernel
theorem dL_law_474 : decode cL_law 474 = .ok (.aload_n 1, 1) := by decide +kernel
theorem dL_law_475 : decode cL_law 475 = .ok (.aload_n 0, 1) := by decide +kernel
theorem dL_law_476 : decode cL_law 476 = .ok (.iload 4, 2) := by decide +kernel
theorem dL_law_478 : decode cL_law 478 = .ok (.iconst 1, 1) := by decide +kernel
theorem dL_law_479 : decode cL_law 479 = .ok (.iadd, 1) := by decide +kernel
theorem dL_law_480 : decode cL_law 480 = .ok (.iaload, 1) := by decide +kernel
theorem dL_law_481 : decode cL_law 481 = .ok (.aload_n 0, 1) := by decide +kernel
theorem dL_law_482 : decode cL_law 482 = .ok (.iload 4, 2) := by decide +kernel
theorem dL_law_484 : decode cL_law 484 = .ok (.iconst 2, 1) := by decide +kernel
theorem dL_law_485 : decode cL_law 485 = .ok (.iadd, 1) := by decide +kernel
theorem dL_law_486 : decode cL_law 486 = .ok (.iaload, 1) := by decide +kernel
theorem dL_law_487 : decode cL_law 487 = .ok (.aload_n 3, 1) := by decide +kernel
theorem dL_law_488 : decode cL_law 488 = .ok (.invokestatic 126, 3) := by decide +kernel
theorem dL_law_491 : decode cL_law 491 = .ok (.istore 5, 2) := by decide +kernel
theorem dL_law_493 : decode cL_law 493 = .ok (.aload_n 2, 1) := by decide +kernel
theorem dL_law_494 : decode cL_law 494 = .ok (.aload_n 0, 1) := by decide +kernel
theorem dL_law_495 : decode cL_law 495 = .ok (.iload 4, 2) := by decide +kernel
theorem dL_law_497 : decode cL_law 497 = .ok (.iconst 1, 1) := by decide +kernel
theorem dL_law_498 : decode cL_law 498 = .ok (.iadd, 1) := by decide +kernel
theorem dL_law_499 : decode cL_law 499 = .ok (.iaload, 1) := by decide +kernel
theorem dL_law_500 : decode cL_law 500 = .ok (.aload_n 0, 1) := by decide +kernel
theorem dL_law_501 : decode cL_law 501 = .ok (.iload 4, 2) := by decide +kernel
theorem dL_law_503 : decode cL_law 503 = .ok (.iconst 2, 1) := by decide +kernel
theorem dL_law_504 : decode cL_law 504 = .ok (.iadd, 1) := by decide +kernel
theorem dL_law_505 : decode cL_law 505 = .ok (.iaload, 1) := by decide +kernel
theorem dL_law_506 : decode cL_law 506 = .ok (.invokevirtual 128, 3) := by decide +kernel
theorem dL_law_509 : decode cL_law 509 = .ok (.istore 6, 2) := by decide +kernel
theorem dL_law_511 : decode cL_law 511 = .ok (.aload_n 2, 1) := by decide +kernel
theorem dL_law_512 : decode cL_law 512 = .ok (.invokevirtual 101, 3) := by decide +kernel
theorem dL_law_515 : decode cL_law 515 = .ok (.iload 5, 2) := by decide +kernel
theorem dL_law_517 : decode cL_law 517 = .ok (.if_icmp .eq 5, 3) := by decide +kernel
theorem dL_law_520 : decode cL_law 520 = .ok (.iconst 0, 1) := by decide +kernel
theorem dL_law_521 : decode cL_law 521 = .ok (.ireturn, 1) := by decide +kernel
theorem dL_law_522 : decode cL_law 522 = .ok (.iload 5, 2) := by decide +kernel
theorem dL_law_524 : decode cL_law 524 = .ok (.ifCond .ne 15, 3) := by decide +kernel
theorem dL_law_527 : decode cL_law 527 = .ok (.aload_n 3, 1) := by decide +kernel
theorem dL_law_528 : decode cL_law 528 = .ok (.iconst 0, 1) := by decide +kernel
theorem dL_law_529 : decode cL_law 529 = .ok (.laload, 1) := by decide +kernel
theorem dL_law_530 : decode cL_law 530 = .ok (.iload 6, 2) := by decide +kernel
theorem dL_law_532 : decode cL_law 532 = .ok (.i2l, 1) := by decide +kernel
theorem dL_law_533 : decode cL_law 533 = .ok (.lcmp, 1) := by decide +kernel
theorem dL_law_534 : decode cL_law 534 = .ok (.ifCond .eq 5, 3) := by decide +kernel
theorem dL_law_537 : decode cL_law 537 = .ok (.iconst 0, 1) := by decide +kernel
theorem dL_law_538 : decode cL_law 538 = .ok (.ireturn, 1) := by decide +kernel
theorem dL_law_539 : decode cL_law 539 = .ok (.goto 1224, 3) := by decide +kernel
theorem dL_law_542 : decode cL_law 542 = .ok (.aload_n 1, 1) := by decide +kernel
theorem dL_law_543 : decode cL_law 543 = .ok (.aload_n 0, 1) := by decide +kernel
theorem dL_law_544 : decode cL_law 544 = .ok (.iload 4, 2) := by decide +kernel
theorem dL_law_546 : decode cL_law 546 = .ok (.iconst 1, 1) := by decide +kernel
theorem dL_law_547 : decode cL_law 547 = .ok (.iadd, 1) := by decide +kernel
theorem dL_law_548 : decode cL_law 548 = .ok (.iaload, 1) := by decide +kernel
theorem dL_law_549 : decode cL_law 549 = .ok (.aload_n 0, 1) := by decide +kernel
theorem dL_law_550 : decode cL_law 550 = .ok (.iload 4, 2) := by decide +kernel
theorem dL_law_552 : decode cL_law 552 = .ok (.iconst 2, 1) := by decide +kernel
theorem dL_law_553 : decode cL_law 553 = .ok (.iadd, 1) := by decide +kernel
theorem dL_law_554 : decode cL_law 554 = .ok (.iaload, 1) := by decide +kernel
theorem dL_law_555 : decode cL_law 555 = .ok (.aload_n 0, 1) := by decide +kernel
theorem dL_law_556 : decode cL_law 556 = .ok (.iload 4, 2) := by decide +kernel
theorem dL_law_558 : decode cL_law 558 = .ok (.iconst 3, 1) := by decide +kernel
theorem dL_law_559 : decode cL_law 559 = .ok (.iadd, 1) := by decide +kernel
theorem dL_law_560 : decode cL_law 560 = .ok (.iaload, 1) := by decide +kernel
theorem dL_law_561 : decode cL_law 561 = .ok (.aload_n 3, 1) := by decide +kernel
theorem dL_law_562 : decode cL_law 562 = .ok (.invokestatic 129, 3) := by decide +kernel
theorem dL_law_565 : decode cL_law 565 = .ok (.istore 5, 2) := by decide +kernel
theorem dL_law_567 : decode cL_law 567 = .ok (.aload_n 2, 1) := by decide +kernel
theorem dL_law_568 : decode cL_law 568 = .ok (.aload_n 0, 1) := by decide +kernel
theorem dL_law_569 : decode cL_law 569 = .ok (.iload 4, 2) := by decide +kernel
theorem dL_law_571 : decode cL_law 571 = .ok (.iconst 1, 1) := by decide +kernel
theorem dL_law_572 : decode cL_law 572 = .ok (.iadd, 1) := by decide +kernel
theorem dL_law_573 : decode cL_law 573 = .ok (.iaload, 1) := by decide +kernel
theorem dL_law_574 : decode cL_law 574 = .ok (.aload_n 0, 1) := by decide +kernel
theorem dL_law_575 : decode cL_law 575 = .ok (.iload 4, 2) := by decide +kernel
theorem dL_law_577 : decode cL_law 577 = .ok (.iconst 2, 1) := by decide +kernel
theorem dL_law_578 : decode cL_law 578 = .ok (.iadd, 1) := by decide +kernel
theorem dL_law_579 : decode cL_law 579 = .ok (.iaload, 1) := by decide +kernel
theorem dL_law_580 : decode cL_law 580 = .ok (.aload_n 0, 1) := by decide +kernel
theorem dL_law_581 : decode cL_law 581 = .ok (.iload 4, 2) := by decide +kernel
theorem dL_law_583 : decode cL_law 583 = .ok (.iconst 3, 1) := by decide +kernel
theorem dL_law_584 : decode cL_law 584 = .ok (.iadd, 1) := by decide +kernel
theorem dL_law_585 : decode cL_law 585 = .ok (.iaload, 1) := by decide +kernel
theorem dL_law_586 : decode cL_law 586 = .ok (.invokevirtual 132, 3) := by decide +kernel
theorem dL_law_589 : decode cL_law 589 = .ok (.istore 6, 2) := by decide +kernel
theorem dL_law_591 : decode cL_law 591 = .ok (.aload_n 2, 1) := by decide +kernel
theorem dL_law_592 : decode cL_law 592 = .ok (.invokevirtual 101, 3) := by decide +kernel
theorem dL_law_595 : decode cL_law 595 = .ok (.iload 5, 2) := by decide +kernel
theorem dL_law_597 : decode cL_law 597 = .ok (.if_icmp .eq 5, 3) := by decide +kernel
theorem dL_law_600 : decode cL_law 600 = .ok (.iconst 0, 1) := by decide +kernel
theorem dL_law_601 : decode cL_law 601 = .ok (.ireturn, 1) := by decide +kernel
theorem dL_law_602 : decode cL_law 602 = .ok (.iload 5, 2) := by decide +kernel
theorem dL_law_604 : decode cL_law 604 = .ok (.ifCond .ne 15, 3) := by decide +kernel
theorem dL_law_607 : decode cL_law 607 = .ok (.aload_n 3, 1) := by decide +kernel
theorem dL_law_608 : decode cL_law 608 = .ok (.iconst 0, 1) := by decide +kernel
theorem dL_law_609 : decode cL_law 609 = .ok (.laload, 1) := by decide +kernel
theorem dL_law_610 : decode cL_law 610 = .ok (.iload 6, 2) := by decide +kernel
theorem dL_law_612 : decode cL_law 612 = .ok (.i2l, 1) := by decide +kernel
theorem dL_law_613 : decode cL_law 613 = .ok (.lcmp, 1) := by decide +kernel
theorem dL_law_614 : decode cL_law 614 = .ok (.ifCond .eq 5, 3) := by decide +kernel
theorem dL_law_617 : decode cL_law 617 = .ok (.iconst 0, 1) := by decide +kernel
theorem dL_law_618 : decode cL_law 618 = .ok (.ireturn, 1) := by decide +kernel
theorem dL_law_619 : decode cL_law 619 = .ok (.goto 1144, 3) := by decide +kernel
theorem dL_law_622 : decode cL_law 622 = .ok (.aload_n 1, 1) := by decide +kernel
theorem dL_law_623 : decode cL_law 623 = .ok (.aload_n 0, 1) := by decide +kernel
theorem dL_law_624 : decode cL_law 624 = .ok (.iload 4, 2) := by decide +kernel
theorem dL_law_626 : decode cL_law 626 = .ok (.iconst 1, 1) := by decide +kernel
theorem dL_law_627 : decode cL_law 627 = .ok (.iadd, 1) := by decide +kernel
theorem dL_law_628 : decode cL_law 628 = .ok (.iaload, 1) := by decide +kernel
theorem dL_law_629 : decode cL_law 629 = .ok (.aload_n 3, 1) := by decide +kernel
theorem dL_law_630 : decode cL_law 630 = .ok (.invokestatic 133, 3) := by decide +kernel
theorem dL_law_633 : decode cL_law 633 = .ok (.istore 5, 2) := by decide +kernel
theorem dL_law_635 : decode cL_law 635 = .ok (.aload_n 2, 1) := by decide +kernel
theorem dL_law_636 : decode cL_law 636 = .ok (.aload_n 0, 1) := by decide +kernel
theorem dL_law_637 : decode cL_law 637 = .ok (.iload 4, 2) := by decide +kernel
theorem dL_law_639 : decode cL_law 639 = .ok (.iconst 1, 1) := by decide +kernel
theorem dL_law_640 : decode cL_law 640 = .ok (.iadd, 1) := by decide +kernel
theorem dL_law_641 : decode cL_law 641 = .ok (.iaload, 1) := by decide +kernel
theorem dL_law_642 : decode cL_law 642 = .ok (.invokevirtual 135, 3) := by decide +kernel
theorem dL_law_645 : decode cL_law 645 = .ok (.istore 6, 2) := by decide +kernel
theorem dL_law_647 : decode cL_law 647 = .ok (.aload_n 2, 1) := by decide +kernel
theorem dL_law_648 : decode cL_law 648 = .ok (.invokevirtual 101, 3) := by decide +kernel
theorem dL_law_651 : decode cL_law 651 = .ok (.iload 5, 2) := by decide +kernel
theorem dL_law_653 : decode cL_law 653 = .ok (.if_icmp .eq 5, 3) := by decide +kernel
theorem dL_law_656 : decode cL_law 656 = .ok (.iconst 0, 1) := by decide +kernel
theorem dL_law_657 : decode cL_law 657 = .ok (.ireturn, 1) := by decide +kernel
theorem dL_law_658 : decode cL_law 658 = .ok (.iload 5, 2) := by decide +kernel
theorem dL_law_660 : decode cL_law 660 = .ok (.ifCond .ne 15, 3) := by decide +kernel
theorem dL_law_663 : decode cL_law 663 = .ok (.aload_n 3, 1) := by decide +kernel
theorem dL_law_664 : decode cL_law 664 = .ok (.iconst 0, 1) := by decide +kernel
theorem dL_law_665 : decode cL_law 665 = .ok (.laload, 1) := by decide +kernel
theorem dL_law_666 : decode cL_law 666 = .ok (.iload 6, 2) := by decide +kernel
theorem dL_law_668 : decode cL_law 668 = .ok (.i2l, 1) := by decide +kernel
theorem dL_law_669 : decode cL_law 669 = .ok (.lcmp, 1) := by decide +kernel
theorem dL_law_670 : decode cL_law 670 = .ok (.ifCond .eq 5, 3) := by decide +kernel
theorem dL_law_673 : decode cL_law 673 = .ok (.iconst 0, 1) := by decide +kernel
theorem dL_law_674 : decode cL_law 674 = .ok (.ireturn, 1) := by decide +kernel
theorem dL_law_675 : decode cL_law 675 = .ok (.goto 1088, 3) := by decide +kernel
theorem dL_law_678 : decode cL_law 678 = .ok (.aload_n 1, 1) := by decide +kernel
theorem dL_law_679 : decode cL_law 679 = .ok (.aload_n 0, 1) := by decide +kernel
theorem dL_law_680 : decode cL_law 680 = .ok (.iload 4, 2) := by decide +kernel
theorem dL_law_682 : decode cL_law 682 = .ok (.iconst 1, 1) := by decide +kernel
theorem dL_law_683 : decode cL_law 683 = .ok (.iadd, 1) := by decide +kernel
theorem dL_law_684 : decode cL_law 684 = .ok (.iaload, 1) := by decide +kernel
theorem dL_law_685 : decode cL_law 685 = .ok (.aload_n 0, 1) := by decide +kernel
theorem dL_law_686 : decode cL_law 686 = .ok (.iload 4, 2) := by decide +kernel
theorem dL_law_688 : decode cL_law 688 = .ok (.iconst 2, 1) := by decide +kernel
theorem dL_law_689 : decode cL_law 689 = .ok (.iadd, 1) := by decide +kernel
theorem dL_law_690 : decode cL_law 690 = .ok (.iaload, 1) := by decide +kernel
theorem dL_law_691 : decode cL_law 691 = .ok (.aload_n 0, 1) := by decide +kernel
theorem dL_law_692 : decode cL_law 692 = .ok (.iload 4, 2) := by decide +kernel
theorem dL_law_694 : decode cL_law 694 = .ok (.iconst 3, 1) := by decide +kernel
theorem dL_law_695 : decode cL_law 695 = .ok (.iadd, 1) := by decide +kernel
theorem dL_law_696 : decode cL_law 696 = .ok (.iaload, 1) := by decide +kernel
theorem dL_law_697 : decode cL_law 697 = .ok (.aload_n 0, 1) := by decide +kernel
theorem dL_law_698 : decode cL_law 698 = .ok (.iload 4, 2) := by decide +kernel
theorem dL_law_700 : decode cL_law 700 = .ok (.iconst 4, 1) := by decide +kernel
theorem dL_law_701 : decode cL_law 701 = .ok (.iadd, 1) := by decide +kernel
theorem dL_law_702 : decode cL_law 702 = .ok (.iaload, 1) := by decide +kernel
theorem dL_law_703 : decode cL_law 703 = .ok (.aload_n 3, 1) := by decide +kernel
theorem dL_law_704 : decode cL_law 704 = .ok (.invokestatic 136, 3) := by decide +kernel
theorem dL_law_707 : decode cL_law 707 = .ok (.istore 5, 2) := by decide +kernel
theorem dL_law_709 : decode cL_law 709 = .ok (.aload_n 2, 1) := by decide +kernel
theorem dL_law_710 : decode cL_law 710 = .ok (.aload_n 0, 1) := by decide +kernel
theorem dL_law_711 : decode cL_law 711 = .ok (.iload 4, 2) := by decide +kernel
theorem dL_law_713 : decode cL_law 713 = .ok (.iconst 1, 1) := by decide +kernel
theorem dL_law_714 : decode cL_law 714 = .ok (.iadd, 1) := by decide +kernel
theorem dL_law_715 : decode cL_law 715 = .ok (.iaload, 1) := by decide +kernel
theorem dL_law_716 : decode cL_law 716 = .ok (.aload_n 0, 1) := by decide +kernel
theorem dL_law_717 : decode cL_law 717 = .ok (.iload 4, 2) := by decide +kernel
theorem dL_law_719 : decode cL_law 719 = .ok (.iconst 2, 1) := by decide +kernel
theorem dL_law_720 : decode cL_law 720 = .ok (.iadd, 1) := by decide +kernel
theorem dL_law_721 : decode cL_law 721 = .ok (.iaload, 1) := by decide +kernel
theorem dL_law_722 : decode cL_law 722 = .ok (.aload_n 0, 1) := by decide +kernel
theorem dL_law_723 : decode cL_law 723 = .ok (.iload 4, 2) := by decide +kernel
theorem dL_law_725 : decode cL_law 725 = .ok (.iconst 3, 1) := by decide +kernel
theorem dL_law_726 : decode cL_law 726 = .ok (.iadd, 1) := by decide +kernel
theorem dL_law_727 : decode cL_law 727 = .ok (.iaload, 1) := by decide +kernel
theorem dL_law_728 : decode cL_law 728 = .ok (.aload_n 0, 1) := by decide +kernel
theorem dL_law_729 : decode cL_law 729 = .ok (.iload 4, 2) := by decide +kernel
theorem dL_law_731 : decode cL_law 731 = .ok (.iconst 4, 1) := by decide +kernel
theorem dL_law_732 : decode cL_law 732 = .ok (.iadd, 1) := by decide +kernel
theorem dL_law_733 : decode cL_law 733 = .ok (.iaload, 1) := by decide +kernel
theorem dL_law_734 : decode cL_law 734 = .ok (.invokevirtual 139, 3) := by decide +kernel
theorem dL_law_737 : decode cL_law 737 = .ok (.istore 6, 2) := by decide +kernel
theorem dL_law_739 : decode cL_law 739 = .ok (.aload_n 2, 1) := by decide +kernel
theorem dL_law_740 : decode cL_law 740 = .ok (.invokevirtual 101, 3) := by decide +kernel
theorem dL_law_743 : decode cL_law 743 = .ok (.iload 5, 2) := by decide +kernel
theorem dL_law_745 : decode cL_law 745 = .ok (.if_icmp .eq 5, 3) := by decide +kernel
theorem dL_law_748 : decode cL_law 748 = .ok (.iconst 0, 1) := by decide +kernel
theorem dL_law_749 : decode cL_law 749 = .ok (.ireturn, 1) := by decide +kernel
theorem dL_law_750 : decode cL_law 750 = .ok (.iload 5, 2) := by decide +kernel
theorem dL_law_752 : decode cL_law 752 = .ok (.ifCond .ne 15, 3) := by decide +kernel
theorem dL_law_755 : decode cL_law 755 = .ok (.aload_n 3, 1) := by decide +kernel
theorem dL_law_756 : decode cL_law 756 = .ok (.iconst 0, 1) := by decide +kernel
theorem dL_law_757 : decode cL_law 757 = .ok (.laload, 1) := by decide +kernel
theorem dL_law_758 : decode cL_law 758 = .ok (.iload 6, 2) := by decide +kernel
theorem dL_law_760 : decode cL_law 760 = .ok (.i2l, 1) := by decide +kernel
theorem dL_law_761 : decode cL_law 761 = .ok (.lcmp, 1) := by decide +kernel
theorem dL_law_762 : decode cL_law 762 = .ok (.ifCond .eq 5, 3) := by decide +kernel
theorem dL_law_765 : decode cL_law 765 = .ok (.iconst 0, 1) := by decide +kernel
theorem dL_law_766 : decode cL_law 766 = .ok (.ireturn, 1) := by decide +kernel
theorem dL_law_767 : decode cL_law 767 = .ok (.goto 996, 3) := by decide +kernel
theorem dL_law_770 : decode cL_law 770 = .ok (.aload_n 1, 1) := by decide +kernel
theorem dL_law_771 : decode cL_law 771 = .ok (.aload_n 0, 1) := by decide +kernel
theorem dL_law_772 : decode cL_law 772 = .ok (.iload 4, 2) := by decide +kernel
theorem dL_law_774 : decode cL_law 774 = .ok (.iconst 1, 1) := by decide +kernel
theorem dL_law_775 : decode cL_law 775 = .ok (.iadd, 1) := by decide +kernel
theorem dL_law_776 : decode cL_law 776 = .ok (.iaload, 1) := by decide +kernel
theorem dL_law_777 : decode cL_law 777 = .ok (.aload_n 0, 1) := by decide +kernel
theorem dL_law_778 : decode cL_law 778 = .ok (.iload 4, 2) := by decide +kernel
theorem dL_law_780 : decode cL_law 780 = .ok (.iconst 2, 1) := by decide +kernel
theorem dL_law_781 : decode cL_law 781 = .ok (.iadd, 1) := by decide +kernel
theorem dL_law_782 : decode cL_law 782 = .ok (.iaload, 1) := by decide +kernel
theorem dL_law_783 : decode cL_law 783 = .ok (.aload_n 0, 1) := by decide +kernel
theorem dL_law_784 : decode cL_law 784 = .ok (.iload 4, 2) := by decide +kernel
theorem dL_law_786 : decode cL_law 786 = .ok (.iconst 3, 1) := by decide +kernel
theorem dL_law_787 : decode cL_law 787 = .ok (.iadd, 1) := by decide +kernel
theorem dL_law_788 : decode cL_law 788 = .ok (.iaload, 1) := by decide +kernel
theorem dL_law_789 : decode cL_law 789 = .ok (.aload_n 3, 1) := by decide +kernel
theorem dL_law_790 : decode cL_law 790 = .ok (.invokestatic 140, 3) := by decide +kernel
theorem dL_law_793 : decode cL_law 793 = .ok (.istore 5, 2) := by decide +kernel
theorem dL_law_795 : decode cL_law 795 = .ok (.aload_n 2, 1) := by decide +kernel
theorem dL_law_796 : decode cL_law 796 = .ok (.aload_n 0, 1) := by decide +kernel
theorem dL_law_797 : decode cL_law 797 = .ok (.iload 4, 2) := by decide +kernel
theorem dL_law_799 : decode cL_law 799 = .ok (.iconst 1, 1) := by decide +kernel
theorem dL_law_800 : decode cL_law 800 = .ok (.iadd, 1) := by decide +kernel
theorem dL_law_801 : decode cL_law 801 = .ok (.iaload, 1) := by decide +kernel
theorem dL_law_802 : decode cL_law 802 = .ok (.aload_n 0, 1) := by decide +kernel
theorem dL_law_803 : decode cL_law 803 = .ok (.iload 4, 2) := by decide +kernel
theorem dL_law_805 : decode cL_law 805 = .ok (.iconst 2, 1) := by decide +kernel
theorem dL_law_806 : decode cL_law 806 = .ok (.iadd, 1) := by decide +kernel
theorem dL_law_807 : decode cL_law 807 = .ok (.iaload, 1) := by decide +kernel
theorem dL_law_808 : decode cL_law 808 = .ok (.aload_n 0, 1) := by decide +kernel
theorem dL_law_809 : decode cL_law 809 = .ok (.iload 4, 2) := by decide +kernel
theorem dL_law_811 : decode cL_law 811 = .ok (.iconst 3, 1) := by decide +kernel
theorem dL_law_812 : decode cL_law 812 = .ok (.iadd, 1) := by decide +kernel
theorem dL_law_813 : decode cL_law 813 = .ok (.iaload, 1) := by decide +kernel
theorem dL_law_814 : decode cL_law 814 = .ok (.invokevirtual 142, 3) := by decide +kernel
theorem dL_law_817 : decode cL_law 817 = .ok (.istore 6, 2) := by decide +kernel
theorem dL_law_819 : decode cL_law 819 = .ok (.aload_n 2, 1) := by decide +kernel
theorem dL_law_820 : decode cL_law 820 = .ok (.invokevirtual 101, 3) := by decide +kernel
theorem dL_law_823 : decode cL_law 823 = .ok (.iload 5, 2) := by decide +kernel
theorem dL_law_825 : decode cL_law 825 = .ok (.if_icmp .eq 5, 3) := by decide +kernel
theorem dL_law_828 : decode cL_law 828 = .ok (.iconst 0, 1) := by decide +kernel
theorem dL_law_829 : decode cL_law 829 = .ok (.ireturn, 1) := by decide +kernel
theorem dL_law_830 : decode cL_law 830 = .ok (.iload 5, 2) := by decide +kernel
theorem dL_law_832 : decode cL_law 832 = .ok (.ifCond .ne 15, 3) := by decide +kernel
theorem dL_law_835 : decode cL_law 835 = .ok (.aload_n 3, 1) := by decide +kernel
theorem dL_law_836 : decode cL_law 836 = .ok (.iconst 0, 1) := by decide +kernel
theorem dL_law_837 : decode cL_law 837 = .ok (.laload, 1) := by decide +kernel
theorem dL_law_838 : decode cL_law 838 = .ok (.iload 6, 2) := by decide +kernel
theorem dL_law_840 : decode cL_law 840 = .ok (.i2l, 1) := by decide +kernel
theorem dL_law_841 : decode cL_law 841 = .ok (.lcmp, 1) := by decide +kernel
theorem dL_law_842 : decode cL_law 842 = .ok (.ifCond .eq 5, 3) := by decide +kernel
theorem dL_law_845 : decode cL_law 845 = .ok (.iconst 0, 1) := by decide +kernel
theorem dL_law_846 : decode cL_law 846 = .ok (.ireturn, 1) := by decide +kernel
theorem dL_law_847 : decode cL_law 847 = .ok (.goto 916, 3) := by decide +kernel
theorem dL_law_850 : decode cL_law 850 = .ok (.aload_n 1, 1) := by decide +kernel
theorem dL_law_851 : decode cL_law 851 = .ok (.aload_n 0, 1) := by decide +kernel
theorem dL_law_852 : decode cL_law 852 = .ok (.iload 4, 2) := by decide +kernel
theorem dL_law_854 : decode cL_law 854 = .ok (.iconst 1, 1) := by decide +kernel
theorem dL_law_855 : decode cL_law 855 = .ok (.iadd, 1) := by decide +kernel
theorem dL_law_856 : decode cL_law 856 = .ok (.iaload, 1) := by decide +kernel
theorem dL_law_857 : decode cL_law 857 = .ok (.aload_n 0, 1) := by decide +kernel
theorem dL_law_858 : decode cL_law 858 = .ok (.iload 4, 2) := by decide +kernel
theorem dL_law_860 : decode cL_law 860 = .ok (.iconst 2, 1) := by decide +kernel
theorem dL_law_861 : decode cL_law 861 = .ok (.iadd, 1) := by decide +kernel
theorem dL_law_862 : decode cL_law 862 = .ok (.iaload, 1) := by decide +kernel
theorem dL_law_863 : decode cL_law 863 = .ok (.aload_n 3, 1) := by decide +kernel
theorem dL_law_864 : decode cL_law 864 = .ok (.invokestatic 143, 3) := by decide +kernel
theorem dL_law_867 : decode cL_law 867 = .ok (.istore 5, 2) := by decide +kernel
theorem dL_law_869 : decode cL_law 869 = .ok (.aload_n 2, 1) := by decide +kernel
theorem dL_law_870 : decode cL_law 870 = .ok (.aload_n 0, 1) := by decide +kernel
theorem dL_law_871 : decode cL_law 871 = .ok (.iload 4, 2) := by decide +kernel
theorem dL_law_873 : decode cL_law 873 = .ok (.iconst 1, 1) := by decide +kernel
theorem dL_law_874 : decode cL_law 874 = .ok (.iadd, 1) := by decide +kernel
theorem dL_law_875 : decode cL_law 875 = .ok (.iaload, 1) := by decide +kernel
theorem dL_law_876 : decode cL_law 876 = .ok (.aload_n 0, 1) := by decide +kernel
theorem dL_law_877 : decode cL_law 877 = .ok (.iload 4, 2) := by decide +kernel
theorem dL_law_879 : decode cL_law 879 = .ok (.iconst 2, 1) := by decide +kernel
theorem dL_law_880 : decode cL_law 880 = .ok (.iadd, 1) := by decide +kernel
theorem dL_law_881 : decode cL_law 881 = .ok (.iaload, 1) := by decide +kernel
theorem dL_law_882 : decode cL_law 882 = .ok (.invokevirtual 145, 3) := by decide +kernel
theorem dL_law_885 : decode cL_law 885 = .ok (.istore 6, 2) := by decide +kernel
theorem dL_law_887 : decode cL_law 887 = .ok (.aload_n 2, 1) := by decide +kernel
theorem dL_law_888 : decode cL_law 888 = .ok (.invokevirtual 101, 3) := by decide +kernel
theorem dL_law_891 : decode cL_law 891 = .ok (.iload 5, 2) := by decide +kernel
theorem dL_law_893 : decode cL_law 893 = .ok (.if_icmp .eq 5, 3) := by decide +kernel
theorem dL_law_896 : decode cL_law 896 = .ok (.iconst 0, 1) := by decide +kernel
theorem dL_law_897 : decode cL_law 897 = .ok (.ireturn, 1) := by decide +kernel
theorem dL_law_898 : decode cL_law 898 = .ok (.iload 5, 2) := by decide +kernel
theorem dL_law_900 : decode cL_law 900 = .ok (.ifCond .ne 15, 3) := by decide +kernel
theorem dL_law_903 : decode cL_law 903 = .ok (.aload_n 3, 1) := by decide +kernel
theorem dL_law_904 : decode cL_law 904 = .ok (.iconst 0, 1) := by decide +kernel
theorem dL_law_905 : decode cL_law 905 = .ok (.laload, 1) := by decide +kernel
theorem dL_law_906 : decode cL_law 906 = .ok (.iload 6, 2) := by decide +kernel
theorem dL_law_908 : decode cL_law 908 = .ok (.i2l, 1) := by decide +kernel
theorem dL_law_909 : decode cL_law 909 = .ok (.lcmp, 1) := by decide +kernel
theorem dL_law_910 : decode cL_law 910 = .ok (.ifCond .eq 5, 3) := by decide +kernel
theorem dL_law_913 : decode cL_law 913 = .ok (.iconst 0, 1) := by decide +kernel
theorem dL_law_914 : decode cL_law 914 = .ok (.ireturn, 1) := by decide +kernel
theorem dL_law_915 : decode cL_law 915 = .ok (.goto 848, 3) := by decide +kernel
theorem dL_law_918 : decode cL_law 918 = .ok (.aload_n 1, 1) := by decide +kernel
theorem dL_law_919 : decode cL_law 919 = .ok (.aload_n 0, 1) := by decide +kernel
theorem dL_law_920 : decode cL_law 920 = .ok (.iload 4, 2) := by decide +kernel
theorem dL_law_922 : decode cL_law 922 = .ok (.iconst 1, 1) := by decide +kernel
theorem dL_law_923 : decode cL_law 923 = .ok (.iadd, 1) := by decide +kernel
theorem dL_law_924 : decode cL_law 924 = .ok (.iaload, 1) := by decide +kernel
theorem dL_law_925 : decode cL_law 925 = .ok (.aload_n 0, 1) := by decide +kernel
theorem dL_law_926 : decode cL_law 926 = .ok (.iload 4, 2) := by decide +kernel
theorem dL_law_928 : decode cL_law 928 = .ok (.iconst 2, 1) := by decide +kernel
theorem dL_law_929 : decode cL_law 929 = .ok (.iadd, 1) := by decide +kernel
theorem dL_law_930 : decode cL_law 930 = .ok (.iaload, 1) := by decide +kernel
theorem dL_law_931 : decode cL_law 931 = .ok (.aload_n 0, 1) := by decide +kernel
theorem dL_law_932 : decode cL_law 932 = .ok (.iload 4, 2) := by decide +kernel
theorem dL_law_934 : decode cL_law 934 = .ok (.iconst 3, 1) := by decide +kernel
theorem dL_law_935 : decode cL_law 935 = .ok (.iadd, 1) := by decide +kernel
theorem dL_law_936 : decode cL_law 936 = .ok (.iaload, 1) := by decide +kernel
theorem dL_law_937 : decode cL_law 937 = .ok (.aload_n 3, 1) := by decide +kernel
theorem dL_law_938 : decode cL_law 938 = .ok (.invokestatic 146, 3) := by decide +kernel
theorem dL_law_941 : decode cL_law 941 = .ok (.istore 5, 2) := by decide +kernel
theorem dL_law_943 : decode cL_law 943 = .ok (.aload_n 2, 1) := by decide +kernel
theorem dL_law_944 : decode cL_law 944 = .ok (.aload_n 0, 1) := by decide +kernel
theorem dL_law_945 : decode cL_law 945 = .ok (.iload 4, 2) := by decide +kernel
theorem dL_law_947 : decode cL_law 947 = .ok (.iconst 1, 1) := by decide +kernel
theorem dL_law_948 : decode cL_law 948 = .ok (.iadd, 1) := by decide +kernel
theorem dL_law_949 : decode cL_law 949 = .ok (.iaload, 1) := by decide +kernel
theorem dL_law_950 : decode cL_law 950 = .ok (.aload_n 0, 1) := by decide +kernel
theorem dL_law_951 : decode cL_law 951 = .ok (.iload 4, 2) := by decide +kernel
theorem dL_law_953 : decode cL_law 953 = .ok (.iconst 2, 1) := by decide +kernel
theorem dL_law_954 : decode cL_law 954 = .ok (.iadd, 1) := by decide +kernel
theorem dL_law_955 : decode cL_law 955 = .ok (.iaload, 1) := by decide +kernel
theorem dL_law_956 : decode cL_law 956 = .ok (.aload_n 0, 1) := by decide +kernel
theorem dL_law_957 : decode cL_law 957 = .ok (.iload 4, 2) := by decide +kernel
theorem dL_law_959 : decode cL_law 959 = .ok (.iconst 3, 1) := by decide +kernel
theorem dL_law_960 : decode cL_law 960 = .ok (.iadd, 1) := by decide +kernel
theorem dL_law_961 : decode cL_law 961 = .ok (.iaload, 1) := by decide +kernel
theorem dL_law_962 : decode cL_law 962 = .ok (.invokevirtual 148, 3) := by decide +kernel
theorem dL_law_965 : decode cL_law 965 = .ok (.istore 6, 2) := by decide +kernel
theorem dL_law_967 : decode cL_law 967 = .ok (.aload_n 2, 1) := by decide +kernel
theorem dL_law_968 : decode cL_law 968 = .ok (.invokevirtual 101, 3) := by decide +kernel
theorem dL_law_971 : decode cL_law 971 = .ok (.iload 5, 2) := by decide +kernel
theorem dL_law_973 : decode cL_law 973 = .ok (.if_icmp .eq 5, 3) := by decide +kernel
theorem dL_law_976 : decode cL_law 976 = .ok (.iconst 0, 1) := by decide +kernel
theorem dL_law_977 : decode cL_law 977 = .ok (.ireturn, 1) := by decide +kernel
theorem dL_law_978 : decode cL_law 978 = .ok (.iload 5, 2) := by decide +kernel
theorem dL_law_980 : decode cL_law 980 = .ok (.ifCond .ne 15, 3) := by decide +kernel
theorem dL_law_983 : decode cL_law 983 = .ok (.aload_n 3, 1) := by decide +kernel
theorem dL_law_984 : decode cL_law 984 = .ok (.iconst 0, 1) := by decide +kernel
theorem dL_law_985 : decode cL_law 985 = .ok (.laload, 1) := by decide +kernel
theorem dL_law_986 : decode cL_law 986 = .ok (.iload 6, 2) := by decide +kernel
theorem dL_law_988 : decode cL_law 988 = .ok (.i2l, 1) := by decide +kernel
theorem dL_law_989 : decode cL_law 989 = .ok (.lcmp, 1) := by decide +kernel
theorem dL_law_990 : decode cL_law 990 = .ok (.ifCond .eq 5, 3) := by decide +kernel
theorem dL_law_993 : decode cL_law 993 = .ok (.iconst 0, 1) := by decide +kernel
theorem dL_law_994 : decode cL_law 994 = .ok (.ireturn, 1) := by decide +kernel
theorem dL_law_995 : decode cL_law 995 = .ok (.goto 768, 3) := by decide +kernel
theorem dL_law_998 : decode cL_law 998 = .ok (.aload_n 1, 1) := by decide +kernel
theorem dL_law_999 : decode cL_law 999 = .ok (.aload_n 0, 1) := by decide +kernel
theorem dL_law_1000 : decode cL_law 1000 = .ok (.iload 4, 2) := by decide +kernel
theorem dL_law_1002 : decode cL_law 1002 = .ok (.iconst 1, 1) := by decide +kernel
theorem dL_law_1003 : decode cL_law 1003 = .ok (.iadd, 1) := by decide +kernel
theorem dL_law_1004 : decode cL_law 1004 = .ok (.iaload, 1) := by decide +kernel
theorem dL_law_1005 : decode cL_law 1005 = .ok (.aload_n 0, 1) := by decide +kernel
theorem dL_law_1006 : decode cL_law 1006 = .ok (.iload 4, 2) := by decide +kernel
theorem dL_law_1008 : decode cL_law 1008 = .ok (.iconst 2, 1) := by decide +kernel
theorem dL_law_1009 : decode cL_law 1009 = .ok (.iadd, 1) := by decide +kernel
theorem dL_law_1010 : decode cL_law 1010 = .ok (.iaload, 1) := by decide +kernel
theorem dL_law_1011 : decode cL_law 1011 = .ok (.aload_n 3, 1) := by decide +kernel
theorem dL_law_1012 : decode cL_law 1012 = .ok (.invokestatic 149, 3) := by decide +kernel
theorem dL_law_1015 : decode cL_law 1015 = .ok (.istore 5, 2) := by decide +kernel
theorem dL_law_1017 : decode cL_law 1017 = .ok (.aload_n 2, 1) := by decide +kernel
theorem dL_law_1018 : decode cL_law 1018 = .ok (.aload_n 0, 1) := by decide +kernel
theorem dL_law_1019 : decode cL_law 1019 = .ok (.iload 4, 2) := by decide +kernel
theorem dL_law_1021 : decode cL_law 1021 = .ok (.iconst 1, 1) := by decide +kernel
theorem dL_law_1022 : decode cL_law 1022 = .ok (.iadd, 1) := by decide +kernel
theorem dL_law_1023 : decode cL_law 1023 = .ok (.iaload, 1) := by decide +kernel
theorem dL_law_1024 : decode cL_law 1024 = .ok (.aload_n 0, 1) := by decide +kernel
theorem dL_law_1025 : decode cL_law 1025 = .ok (.iload 4, 2) := by decide +kernel
theorem dL_law_1027 : decode cL_law 1027 = .ok (.iconst 2, 1) := by decide +kernel
theorem dL_law_1028 : decode cL_law 1028 = .ok (.iadd, 1) := by decide +kernel
theorem dL_law_1029 : decode cL_law 1029 = .ok (.iaload, 1) := by decide +kernel
theorem dL_law_1030 : decode cL_law 1030 = .ok (.invokevirtual 151, 3) := by decide +kernel
theorem dL_law_1033 : decode cL_law 1033 = .ok (.istore 6, 2) := by decide +kernel
theorem dL_law_1035 : decode cL_law 1035 = .ok (.aload_n 2, 1) := by decide +kernel
theorem dL_law_1036 : decode cL_law 1036 = .ok (.invokevirtual 101, 3) := by decide +kernel
theorem dL_law_1039 : decode cL_law 1039 = .ok (.iload 5, 2) := by decide +kernel
theorem dL_law_1041 : decode cL_law 1041 = .ok (.if_icmp .eq 5, 3) := by decide +kernel
theorem dL_law_1044 : decode cL_law 1044 = .ok (.iconst 0, 1) := by decide +kernel
theorem dL_law_1045 : decode cL_law 1045 = .ok (.ireturn, 1) := by decide +kernel
theorem dL_law_1046 : decode cL_law 1046 = .ok (.iload 5, 2) := by decide +kernel
theorem dL_law_1048 : decode cL_law 1048 = .ok (.ifCond .ne 15, 3) := by decide +kernel
theorem dL_law_1051 : decode cL_law 1051 = .ok (.aload_n 3, 1) := by decide +kernel
theorem dL_law_1052 : decode cL_law 1052 = .ok (.iconst 0, 1) := by decide +kernel
theorem dL_law_1053 : decode cL_law 1053 = .ok (.laload, 1) := by decide +kernel
theorem dL_law_1054 : decode cL_law 1054 = .ok (.iload 6, 2) := by decide +kernel
theorem dL_law_1056 : decode cL_law 1056 = .ok (.i2l, 1) := by decide +kernel
theorem dL_law_1057 : decode cL_law 1057 = .ok (.lcmp, 1) := by decide +kernel
theorem dL_law_1058 : decode cL_law 1058 = .ok (.ifCond .eq 5, 3) := by decide +kernel
theorem dL_law_1061 : decode cL_law 1061 = .ok (.iconst 0, 1) := by decide +kernel
theorem dL_law_1062 : decode cL_law 1062 = .ok (.ireturn, 1) := by decide +kernel
theorem dL_law_1063 : decode cL_law 1063 = .ok (.goto 700, 3) := by decide +kernel
theorem dL_law_1066 : decode cL_law 1066 = .ok (.aload_n 1, 1) := by decide +kernel
theorem dL_law_1067 : decode cL_law 1067 = .ok (.aload_n 0, 1) := by decide +kernel
theorem dL_law_1068 : decode cL_law 1068 = .ok (.iload 4, 2) := by decide +kernel
theorem dL_law_1070 : decode cL_law 1070 = .ok (.iconst 1, 1) := by decide +kernel
theorem dL_law_1071 : decode cL_law 1071 = .ok (.iadd, 1) := by decide +kernel
theorem dL_law_1072 : decode cL_law 1072 = .ok (.iaload, 1) := by decide +kernel
theorem dL_law_1073 : decode cL_law 1073 = .ok (.aload_n 3, 1) := by decide +kernel
theorem dL_law_1074 : decode cL_law 1074 = .ok (.invokestatic 152, 3) := by decide +kernel
theorem dL_law_1077 : decode cL_law 1077 = .ok (.istore 5, 2) := by decide +kernel
theorem dL_law_1079 : decode cL_law 1079 = .ok (.aload_n 2, 1) := by decide +kernel
theorem dL_law_1080 : decode cL_law 1080 = .ok (.aload_n 0, 1) := by decide +kernel
theorem dL_law_1081 : decode cL_law 1081 = .ok (.iload 4, 2) := by decide +kernel
theorem dL_law_1083 : decode cL_law 1083 = .ok (.iconst 1, 1) := by decide +kernel
theorem dL_law_1084 : decode cL_law 1084 = .ok (.iadd, 1) := by decide +kernel
theorem dL_law_1085 : decode cL_law 1085 = .ok (.iaload, 1) := by decide +kernel
theorem dL_law_1086 : decode cL_law 1086 = .ok (.invokevirtual 154, 3) := by decide +kernel
theorem dL_law_1089 : decode cL_law 1089 = .ok (.istore 6, 2) := by decide +kernel
theorem dL_law_1091 : decode cL_law 1091 = .ok (.aload_n 2, 1) := by decide +kernel
theorem dL_law_1092 : decode cL_law 1092 = .ok (.invokevirtual 101, 3) := by decide +kernel
theorem dL_law_1095 : decode cL_law 1095 = .ok (.iload 5, 2) := by decide +kernel
theorem dL_law_1097 : decode cL_law 1097 = .ok (.if_icmp .eq 5, 3) := by decide +kernel
theorem dL_law_1100 : decode cL_law 1100 = .ok (.iconst 0, 1) := by decide +kernel
theorem dL_law_1101 : decode cL_law 1101 = .ok (.ireturn, 1) := by decide +kernel
theorem dL_law_1102 : decode cL_law 1102 = .ok (.iload 5, 2) := by decide +kernel
theorem dL_law_1104 : decode cL_law 1104 = .ok (.ifCond .ne 15, 3) := by decide +kernel
theorem dL_law_1107 : decode cL_law 1107 = .ok (.aload_n 3, 1) := by decide +kernel
theorem dL_law_1108 : decode cL_law 1108 = .ok (.iconst 0, 1) := by decide +kernel
theorem dL_law_1109 : decode cL_law 1109 = .ok (.laload, 1) := by decide +kernel
theorem dL_law_1110 : decode cL_law 1110 = .ok (.iload 6, 2) := by decide +kernel
theorem dL_law_1112 : decode cL_law 1112 = .ok (.i2l, 1) := by decide +kernel
theorem dL_law_1113 : decode cL_law 1113 = .ok (.lcmp, 1) := by decide +kernel
theorem dL_law_1114 : decode cL_law 1114 = .ok (.ifCond .eq 5, 3) := by decide +kernel
theorem dL_law_1117 : decode cL_law 1117 = .ok (.iconst 0, 1) := by decide +kernel
theorem dL_law_1118 : decode cL_law 1118 = .ok (.ireturn, 1) := by decide +kernel
theorem dL_law_1119 : decode cL_law 1119 = .ok (.goto 644, 3) := by decide +kernel
theorem dL_law_1122 : decode cL_law 1122 = .ok (.aload_n 1, 1) := by decide +kernel
theorem dL_law_1123 : decode cL_law 1123 = .ok (.aload_n 0, 1) := by decide +kernel
theorem dL_law_1124 : decode cL_law 1124 = .ok (.iload 4, 2) := by decide +kernel
theorem dL_law_1126 : decode cL_law 1126 = .ok (.iconst 1, 1) := by decide +kernel
theorem dL_law_1127 : decode cL_law 1127 = .ok (.iadd, 1) := by decide +kernel
theorem dL_law_1128 : decode cL_law 1128 = .ok (.iaload, 1) := by decide +kernel
theorem dL_law_1129 : decode cL_law 1129 = .ok (.aload_n 0, 1) := by decide +kernel
theorem dL_law_1130 : decode cL_law 1130 = .ok (.iload 4, 2) := by decide +kernel
theorem dL_law_1132 : decode cL_law 1132 = .ok (.iconst 2, 1) := by decide +kernel
theorem dL_law_1133 : decode cL_law 1133 = .ok (.iadd, 1) := by decide +kernel
theorem dL_law_1134 : decode cL_law 1134 = .ok (.iaload, 1) := by decide +kernel
theorem dL_law_1135 : decode cL_law 1135 = .ok (.aload_n 3, 1) := by decide +kernel
theorem dL_law_1136 : decode cL_law 1136 = .ok (.invokestatic 155, 3) := by decide +kernel
theorem dL_law_1139 : decode cL_law 1139 = .ok (.istore 5, 2) := by decide +kernel
theorem dL_law_1141 : decode cL_law 1141 = .ok (.aload_n 2, 1) := by decide +kernel
theorem dL_law_1142 : decode cL_law 1142 = .ok (.aload_n 0, 1) := by decide +kernel
theorem dL_law_1143 : decode cL_law 1143 = .ok (.iload 4, 2) := by decide +kernel
theorem dL_law_1145 : decode cL_law 1145 = .ok (.iconst 1, 1) := by decide +kernel
theorem dL_law_1146 : decode cL_law 1146 = .ok (.iadd, 1) := by decide +kernel
theorem dL_law_1147 : decode cL_law 1147 = .ok (.iaload, 1) := by decide +kernel
theorem dL_law_1148 : decode cL_law 1148 = .ok (.aload_n 0, 1) := by decide +kernel
theorem dL_law_1149 : decode cL_law 1149 = .ok (.iload 4, 2) := by decide +kernel
theorem dL_law_1151 : decode cL_law 1151 = .ok (.iconst 2, 1) := by decide +kernel
theorem dL_law_1152 : decode cL_law 1152 = .ok (.iadd, 1) := by decide +kernel
theorem dL_law_1153 : decode cL_law 1153 = .ok (.iaload, 1) := by decide +kernel
theorem dL_law_1154 : decode cL_law 1154 = .ok (.invokevirtual 157, 3) := by decide +kernel
theorem dL_law_1157 : decode cL_law 1157 = .ok (.istore 6, 2) := by decide +kernel
theorem dL_law_1159 : decode cL_law 1159 = .ok (.aload_n 2, 1) := by decide +kernel
theorem dL_law_1160 : decode cL_law 1160 = .ok (.invokevirtual 101, 3) := by decide +kernel
theorem dL_law_1163 : decode cL_law 1163 = .ok (.iload 5, 2) := by decide +kernel
theorem dL_law_1165 : decode cL_law 1165 = .ok (.if_icmp .eq 5, 3) := by decide +kernel
theorem dL_law_1168 : decode cL_law 1168 = .ok (.iconst 0, 1) := by decide +kernel
theorem dL_law_1169 : decode cL_law 1169 = .ok (.ireturn, 1) := by decide +kernel
theorem dL_law_1170 : decode cL_law 1170 = .ok (.iload 5, 2) := by decide +kernel
theorem dL_law_1172 : decode cL_law 1172 = .ok (.ifCond .ne 15, 3) := by decide +kernel
theorem dL_law_1175 : decode cL_law 1175 = .ok (.aload_n 3, 1) := by decide +kernel
theorem dL_law_1176 : decode cL_law 1176 = .ok (.iconst 0, 1) := by decide +kernel
theorem dL_law_1177 : decode cL_law 1177 = .ok (.laload, 1) := by decide +kernel
theorem dL_law_1178 : decode cL_law 1178 = .ok (.iload 6, 2) := by decide +kernel
theorem dL_law_1180 : decode cL_law 1180 = .ok (.i2l, 1) := by decide +kernel
theorem dL_law_1181 : decode cL_law 1181 = .ok (.lcmp, 1) := by decide +kernel
theorem dL_law_1182 : decode cL_law 1182 = .ok (.ifCond .eq 5, 3) := by decide +kernel
theorem dL_law_1185 : decode cL_law 1185 = .ok (.iconst 0, 1) := by decide +kernel
theorem dL_law_1186 : decode cL_law 1186 = .ok (.ireturn, 1) := by decide +kernel
theorem dL_law_1187 : decode cL_law 1187 = .ok (.goto 576, 3) := by decide +kernel
theorem dL_law_1190 : decode cL_law 1190 = .ok (.aload_n 1, 1) := by decide +kernel
theorem dL_law_1191 : decode cL_law 1191 = .ok (.aload_n 3, 1) := by decide +kernel
theorem dL_law_1192 : decode cL_law 1192 = .ok (.invokestatic 158, 3) := by decide +kernel
theorem dL_law_1195 : decode cL_law 1195 = .ok (.istore 5, 2) := by decide +kernel
theorem dL_law_1197 : decode cL_law 1197 = .ok (.aload_n 2, 1) := by decide +kernel
theorem dL_law_1198 : decode cL_law 1198 = .ok (.invokevirtual 160, 3) := by decide +kernel
theorem dL_law_1201 : decode cL_law 1201 = .ok (.istore 6, 2) := by decide +kernel
theorem dL_law_1203 : decode cL_law 1203 = .ok (.aload_n 2, 1) := by decide +kernel
theorem dL_law_1204 : decode cL_law 1204 = .ok (.invokevirtual 101, 3) := by decide +kernel
theorem dL_law_1207 : decode cL_law 1207 = .ok (.iload 5, 2) := by decide +kernel
theorem dL_law_1209 : decode cL_law 1209 = .ok (.if_icmp .eq 5, 3) := by decide +kernel
theorem dL_law_1212 : decode cL_law 1212 = .ok (.iconst 0, 1) := by decide +kernel
theorem dL_law_1213 : decode cL_law 1213 = .ok (.ireturn, 1) := by decide +kernel
theorem dL_law_1214 : decode cL_law 1214 = .ok (.iload 5, 2) := by decide +kernel
theorem dL_law_1216 : decode cL_law 1216 = .ok (.ifCond .ne 15, 3) := by decide +kernel
theorem dL_law_1219 : decode cL_law 1219 = .ok (.aload_n 3, 1) := by decide +kernel
theorem dL_law_1220 : decode cL_law 1220 = .ok (.iconst 0, 1) := by decide +kernel
theorem dL_law_1221 : decode cL_law 1221 = .ok (.laload, 1) := by decide +kernel
theorem dL_law_1222 : decode cL_law 1222 = .ok (.iload 6, 2) := by decide +kernel
theorem dL_law_1224 : decode cL_law 1224 = .ok (.i2l, 1) := by decide +kernel
theorem dL_law_1225 : decode cL_law 1225 = .ok (.lcmp, 1) := by decide +kernel
theorem dL_law_1226 : decode cL_law 1226 = .ok (.ifCond .eq 5, 3) := by decide +kernel
theorem dL_law_1229 : decode cL_law 1229 = .ok (.iconst 0, 1) := by decide +kernel
theorem dL_law_1230 : decode cL_law 1230 = .ok (.ireturn, 1) := by decide +kernel
theorem dL_law_1231 : decode cL_law 1231 = .ok (.goto 532, 3) := by decide +kernel
theorem dL_law_1234 : decode cL_law 1234 = .ok (.aload_n 1, 1) := by decide +kernel
theorem dL_law_1235 : decode cL_law 1235 = .ok (.aload_n 0, 1) := by decide +kernel
theorem dL_law_1236 : decode cL_law 1236 = .ok (.iload 4, 2) := by decide +kernel
theorem dL_law_1238 : decode cL_law 1238 = .ok (.iconst 1, 1) := by decide +kernel
theorem dL_law_1239 : decode cL_law 1239 = .ok (.iadd, 1) := by decide +kernel
theorem dL_law_1240 : decode cL_law 1240 = .ok (.iaload, 1) := by decide +kernel
theorem dL_law_1241 : decode cL_law 1241 = .ok (.aload_n 0, 1) := by decide +kernel
theorem dL_law_1242 : decode cL_law 1242 = .ok (.iload 4, 2) := by decide +kernel
theorem dL_law_1244 : decode cL_law 1244 = .ok (.iconst 2, 1) := by decide +kernel
theorem dL_law_1245 : decode cL_law 1245 = .ok (.iadd, 1) := by decide +kernel
theorem dL_law_1246 : decode cL_law 1246 = .ok (.iaload, 1) := by decide +kernel
theorem dL_law_1247 : decode cL_law 1247 = .ok (.aload_n 3, 1) := by decide +kernel
theorem dL_law_1248 : decode cL_law 1248 = .ok (.invokestatic 161, 3) := by decide +kernel
theorem dL_law_1251 : decode cL_law 1251 = .ok (.istore 5, 2) := by decide +kernel
theorem dL_law_1253 : decode cL_law 1253 = .ok (.aload_n 2, 1) := by decide +kernel
theorem dL_law_1254 : decode cL_law 1254 = .ok (.aload_n 0, 1) := by decide +kernel
theorem dL_law_1255 : decode cL_law 1255 = .ok (.iload 4, 2) := by decide +kernel
theorem dL_law_1257 : decode cL_law 1257 = .ok (.iconst 1, 1) := by decide +kernel
theorem dL_law_1258 : decode cL_law 1258 = .ok (.iadd, 1) := by decide +kernel
theorem dL_law_1259 : decode cL_law 1259 = .ok (.iaload, 1) := by decide +kernel
theorem dL_law_1260 : decode cL_law 1260 = .ok (.aload_n 0, 1) := by decide +kernel
theorem dL_law_1261 : decode cL_law 1261 = .ok (.iload 4, 2) := by decide +kernel
theorem dL_law_1263 : decode cL_law 1263 = .ok (.iconst 2, 1) := by decide +kernel
theorem dL_law_1264 : decode cL_law 1264 = .ok (.iadd, 1) := by decide +kernel
theorem dL_law_1265 : decode cL_law 1265 = .ok (.iaload, 1) := by decide +kernel
theorem dL_law_1266 : decode cL_law 1266 = .ok (.invokevirtual 163, 3) := by decide +kernel
theorem dL_law_1269 : decode cL_law 1269 = .ok (.istore 6, 2) := by decide +kernel
theorem dL_law_1271 : decode cL_law 1271 = .ok (.aload_n 2, 1) := by decide +kernel
theorem dL_law_1272 : decode cL_law 1272 = .ok (.invokevirtual 101, 3) := by decide +kernel
theorem dL_law_1275 : decode cL_law 1275 = .ok (.iload 5, 2) := by decide +kernel
theorem dL_law_1277 : decode cL_law 1277 = .ok (.if_icmp .eq 5, 3) := by decide +kernel
theorem dL_law_1280 : decode cL_law 1280 = .ok (.iconst 0, 1) := by decide +kernel
theorem dL_law_1281 : decode cL_law 1281 = .ok (.ireturn, 1) := by decide +kernel
theorem dL_law_1282 : decode cL_law 1282 = .ok (.iload 5, 2) := by decide +kernel
theorem dL_law_1284 : decode cL_law 1284 = .ok (.ifCond .ne 15, 3) := by decide +kernel
theorem dL_law_1287 : decode cL_law 1287 = .ok (.aload_n 3, 1) := by decide +kernel
theorem dL_law_1288 : decode cL_law 1288 = .ok (.iconst 0, 1) := by decide +kernel
theorem dL_law_1289 : decode cL_law 1289 = .ok (.laload, 1) := by decide +kernel
theorem dL_law_1290 : decode cL_law 1290 = .ok (.iload 6, 2) := by decide +kernel
theorem dL_law_1292 : decode cL_law 1292 = .ok (.i2l, 1) := by decide +kernel
theorem dL_law_1293 : decode cL_law 1293 = .ok (.lcmp, 1) := by decide +kernel
theorem dL_law_1294 : decode cL_law 1294 = .ok (.ifCond .eq 5, 3) := by decide +kernel
theorem dL_law_1297 : decode cL_law 1297 = .ok (.iconst 0, 1) := by decide +kernel
theorem dL_law_1298 : decode cL_law 1298 = .ok (.ireturn, 1) := by decide +kernel
theorem dL_law_1299 : decode cL_law 1299 = .ok (.goto 464, 3) := by decide +kernel
theorem dL_law_1302 : decode cL_law 1302 = .ok (.aload_n 1, 1) := by decide +kernel
theorem dL_law_1303 : decode cL_law 1303 = .ok (.aload_n 0, 1) := by decide +kernel
theorem dL_law_1304 : decode cL_law 1304 = .ok (.iload 4, 2) := by decide +kernel
theorem dL_law_1306 : decode cL_law 1306 = .ok (.iconst 1, 1) := by decide +kernel
theorem dL_law_1307 : decode cL_law 1307 = .ok (.iadd, 1) := by decide +kernel
theorem dL_law_1308 : decode cL_law 1308 = .ok (.iaload, 1) := by decide +kernel
theorem dL_law_1309 : decode cL_law 1309 = .ok (.aload_n 0, 1) := by decide +kernel
theorem dL_law_1310 : decode cL_law 1310 = .ok (.iload 4, 2) := by decide +kernel
theorem dL_law_1312 : decode cL_law 1312 = .ok (.iconst 2, 1) := by decide +kernel
theorem dL_law_1313 : decode cL_law 1313 = .ok (.iadd, 1) := by decide +kernel
theorem dL_law_1314 : decode cL_law 1314 = .ok (.iaload, 1) := by decide +kernel
theorem dL_law_1315 : decode cL_law 1315 = .ok (.aload_n 3, 1) := by decide +kernel
theorem dL_law_1316 : decode cL_law 1316 = .ok (.invokestatic 164, 3) := by decide +kernel
theorem dL_law_1319 : decode cL_law 1319 = .ok (.istore 5, 2) := by decide +kernel
theorem dL_law_1321 : decode cL_law 1321 = .ok (.aload_n 2, 1) := by decide +kernel
theorem dL_law_1322 : decode cL_law 1322 = .ok (.aload_n 0, 1) := by decide +kernel
theorem dL_law_1323 : decode cL_law 1323 = .ok (.iload 4, 2) := by decide +kernel
theorem dL_law_1325 : decode cL_law 1325 = .ok (.iconst 1, 1) := by decide +kernel
theorem dL_law_1326 : decode cL_law 1326 = .ok (.iadd, 1) := by decide +kernel
theorem dL_law_1327 : decode cL_law 1327 = .ok (.iaload, 1) := by decide +kernel
theorem dL_law_1328 : decode cL_law 1328 = .ok (.aload_n 0, 1) := by decide +kernel
theorem dL_law_1329 : decode cL_law 1329 = .ok (.iload 4, 2) := by decide +kernel
theorem dL_law_1331 : decode cL_law 1331 = .ok (.iconst 2, 1) := by decide +kernel
theorem dL_law_1332 : decode cL_law 1332 = .ok (.iadd, 1) := by decide +kernel
theorem dL_law_1333 : decode cL_law 1333 = .ok (.iaload, 1) := by decide +kernel
theorem dL_law_1334 : decode cL_law 1334 = .ok (.invokevirtual 166, 3) := by decide +kernel
theorem dL_law_1337 : decode cL_law 1337 = .ok (.istore 6, 2) := by decide +kernel
theorem dL_law_1339 : decode cL_law 1339 = .ok (.aload_n 2, 1) := by decide +kernel
theorem dL_law_1340 : decode cL_law 1340 = .ok (.invokevirtual 101, 3) := by decide +kernel
theorem dL_law_1343 : decode cL_law 1343 = .ok (.iload 5, 2) := by decide +kernel
theorem dL_law_1345 : decode cL_law 1345 = .ok (.if_icmp .eq 5, 3) := by decide +kernel
theorem dL_law_1348 : decode cL_law 1348 = .ok (.iconst 0, 1) := by decide +kernel
theorem dL_law_1349 : decode cL_law 1349 = .ok (.ireturn, 1) := by decide +kernel
theorem dL_law_1350 : decode cL_law 1350 = .ok (.iload 5, 2) := by decide +kernel
theorem dL_law_1352 : decode cL_law 1352 = .ok (.ifCond .ne 15, 3) := by decide +kernel
theorem dL_law_1355 : decode cL_law 1355 = .ok (.aload_n 3, 1) := by decide +kernel
theorem dL_law_1356 : decode cL_law 1356 = .ok (.iconst 0, 1) := by decide +kernel
theorem dL_law_1357 : decode cL_law 1357 = .ok (.laload, 1) := by decide +kernel
theorem dL_law_1358 : decode cL_law 1358 = .ok (.iload 6, 2) := by decide +kernel
theorem dL_law_1360 : decode cL_law 1360 = .ok (.i2l, 1) := by decide +kernel
theorem dL_law_1361 : decode cL_law 1361 = .ok (.lcmp, 1) := by decide +kernel
theorem dL_law_1362 : decode cL_law 1362 = .ok (.ifCond .eq 5, 3) := by decide +kernel
theorem dL_law_1365 : decode cL_law 1365 = .ok (.iconst 0, 1) := by decide +kernel
theorem dL_law_1366 : decode cL_law 1366 = .ok (.ireturn, 1) := by decide +kernel
theorem dL_law_1367 : decode cL_law 1367 = .ok (.goto 396, 3) := by decide +kernel
theorem dL_law_1370 : decode cL_law 1370 = .ok (.aload_n 1, 1) := by decide +kernel
theorem dL_law_1371 : decode cL_law 1371 = .ok (.invokevirtual 167, 3) := by decide +kernel
theorem dL_law_1374 : decode cL_law 1374 = .ok (.aload_n 2, 1) := by decide +kernel
theorem dL_law_1375 : decode cL_law 1375 = .ok (.invokevirtual 170, 3) := by decide +kernel
theorem dL_law_1378 : decode cL_law 1378 = .ok (.if_icmp .eq 385, 3) := by decide +kernel
theorem dL_law_1381 : decode cL_law 1381 = .ok (.iconst 0, 1) := by decide +kernel
theorem dL_law_1382 : decode cL_law 1382 = .ok (.ireturn, 1) := by decide +kernel
theorem dL_law_1383 : decode cL_law 1383 = .ok (.aload_n 1, 1) := by decide +kernel
theorem dL_law_1384 : decode cL_law 1384 = .ok (.aload_n 0, 1) := by decide +kernel
theorem dL_law_1385 : decode cL_law 1385 = .ok (.iload 4, 2) := by decide +kernel
theorem dL_law_1387 : decode cL_law 1387 = .ok (.iconst 1, 1) := by decide +kernel
theorem dL_law_1388 : decode cL_law 1388 = .ok (.iadd, 1) := by decide +kernel
theorem dL_law_1389 : decode cL_law 1389 = .ok (.iaload, 1) := by decide +kernel
theorem dL_law_1390 : decode cL_law 1390 = .ok (.aload_n 0, 1) := by decide +kernel
theorem dL_law_1391 : decode cL_law 1391 = .ok (.iload 4, 2) := by decide +kernel
theorem dL_law_1393 : decode cL_law 1393 = .ok (.iconst 2, 1) := by decide +kernel
theorem dL_law_1394 : decode cL_law 1394 = .ok (.iadd, 1) := by decide +kernel
theorem dL_law_1395 : decode cL_law 1395 = .ok (.iaload, 1) := by decide +kernel
theorem dL_law_1396 : decode cL_law 1396 = .ok (.aload_n 3, 1) := by decide +kernel
theorem dL_law_1397 : decode cL_law 1397 = .ok (.invokestatic 171, 3) := by decide +kernel
theorem dL_law_1400 : decode cL_law 1400 = .ok (.istore 5, 2) := by decide +kernel
theorem dL_law_1402 : decode cL_law 1402 = .ok (.aload_n 2, 1) := by decide +kernel
theorem dL_law_1403 : decode cL_law 1403 = .ok (.aload_n 0, 1) := by decide +kernel
theorem dL_law_1404 : decode cL_law 1404 = .ok (.iload 4, 2) := by decide +kernel
theorem dL_law_1406 : decode cL_law 1406 = .ok (.iconst 1, 1) := by decide +kernel
theorem dL_law_1407 : decode cL_law 1407 = .ok (.iadd, 1) := by decide +kernel
theorem dL_law_1408 : decode cL_law 1408 = .ok (.iaload, 1) := by decide +kernel
theorem dL_law_1409 : decode cL_law 1409 = .ok (.aload_n 0, 1) := by decide +kernel
theorem dL_law_1410 : decode cL_law 1410 = .ok (.iload 4, 2) := by decide +kernel
theorem dL_law_1412 : decode cL_law 1412 = .ok (.iconst 2, 1) := by decide +kernel
theorem dL_law_1413 : decode cL_law 1413 = .ok (.iadd, 1) := by decide +kernel
theorem dL_law_1414 : decode cL_law 1414 = .ok (.iaload, 1) := by decide +kernel
theorem dL_law_1415 : decode cL_law 1415 = .ok (.invokevirtual 173, 3) := by decide +kernel
theorem dL_law_1418 : decode cL_law 1418 = .ok (.istore 6, 2) := by decide +kernel
theorem dL_law_1420 : decode cL_law 1420 = .ok (.aload_n 2, 1) := by decide +kernel
theorem dL_law_1421 : decode cL_law 1421 = .ok (.invokevirtual 101, 3) := by decide +kernel
theorem dL_law_1424 : decode cL_law 1424 = .ok (.iload 5, 2) := by decide +kernel
theorem dL_law_1426 : decode cL_law 1426 = .ok (.if_icmp .eq 5, 3) := by decide +kernel
theorem dL_law_1429 : decode cL_law 1429 = .ok (.iconst 0, 1) := by decide +kernel
theorem dL_law_1430 : decode cL_law 1430 = .ok (.ireturn, 1) := by decide +kernel
theorem dL_law_1431 : decode cL_law 1431 = .ok (.iload 5, 2) := by decide +kernel
theorem dL_law_1433 : decode cL_law 1433 = .ok (.ifCond .ne 15, 3) := by decide +kernel
theorem dL_law_1436 : decode cL_law 1436 = .ok (.aload_n 3, 1) := by decide +kernel
theorem dL_law_1437 : decode cL_law 1437 = .ok (.iconst 0, 1) := by decide +kernel
theorem dL_law_1438 : decode cL_law 1438 = .ok (.laload, 1) := by decide +kernel
theorem dL_law_1439 : decode cL_law 1439 = .ok (.iload 6, 2) := by decide +kernel
theorem dL_law_1441 : decode cL_law 1441 = .ok (.i2l, 1) := by decide +kernel
theorem dL_law_1442 : decode cL_law 1442 = .ok (.lcmp, 1) := by decide +kernel
theorem dL_law_1443 : decode cL_law 1443 = .ok (.ifCond .eq 5, 3) := by decide +kernel
theorem dL_law_1446 : decode cL_law 1446 = .ok (.iconst 0, 1) := by decide +kernel
theorem dL_law_1447 : decode cL_law 1447 = .ok (.ireturn, 1) := by decide +kernel
theorem dL_law_1448 : decode cL_law 1448 = .ok (.goto 315, 3) := by decide +kernel
theorem dL_law_1451 : decode cL_law 1451 = .ok (.aload_n 1, 1) := by decide +kernel
theorem dL_law_1452 : decode cL_law 1452 = .ok (.aload_n 0, 1) := by decide +kernel
theorem dL_law_1453 : decode cL_law 1453 = .ok (.iload 4, 2) := by decide +kernel
theorem dL_law_1455 : decode cL_law 1455 = .ok (.iconst 1, 1) := by decide +kernel
theorem dL_law_1456 : decode cL_law 1456 = .ok (.iadd, 1) := by decide +kernel
theorem dL_law_1457 : decode cL_law 1457 = .ok (.iaload, 1) := by decide +kernel
theorem dL_law_1458 : decode cL_law 1458 = .ok (.aload_n 0, 1) := by decide +kernel
theorem dL_law_1459 : decode cL_law 1459 = .ok (.iload 4, 2) := by decide +kernel
theorem dL_law_1461 : decode cL_law 1461 = .ok (.iconst 2, 1) := by decide +kernel
theorem dL_law_1462 : decode cL_law 1462 = .ok (.iadd, 1) := by decide +kernel
theorem dL_law_1463 : decode cL_law 1463 = .ok (.iaload, 1) := by decide +kernel
theorem dL_law_1464 : decode cL_law 1464 = .ok (.i2l, 1) := by decide +kernel
theorem dL_law_1465 : decode cL_law 1465 = .ok (.bipush 32, 2) := by decide +kernel
theorem dL_law_1467 : decode cL_law 1467 = .ok (.lshl, 1) := by decide +kernel
theorem dL_law_1468 : decode cL_law 1468 = .ok (.aload_n 0, 1) := by decide +kernel
theorem dL_law_1469 : decode cL_law 1469 = .ok (.iload 4, 2) := by decide +kernel
theorem dL_law_1471 : decode cL_law 1471 = .ok (.iconst 3, 1) := by decide +kernel
theorem dL_law_1472 : decode cL_law 1472 = .ok (.iadd, 1) := by decide +kernel
theorem dL_law_1473 : decode cL_law 1473 = .ok (.iaload, 1) := by decide +kernel
theorem dL_law_1474 : decode cL_law 1474 = .ok (.i2l, 1) := by decide +kernel
theorem dL_law_1475 : decode cL_law 1475 = .ok (.ldc2_w 174, 3) := by decide +kernel
theorem dL_law_1478 : decode cL_law 1478 = .ok (.land, 1) := by decide +kernel
theorem dL_law_1479 : decode cL_law 1479 = .ok (.lor, 1) := by decide +kernel
theorem dL_law_1480 : decode cL_law 1480 = .ok (.aload_n 3, 1) := by decide +kernel
theorem dL_law_1481 : decode cL_law 1481 = .ok (.invokestatic 176, 3) := by decide +kernel
theorem dL_law_1484 : decode cL_law 1484 = .ok (.istore 5, 2) := by decide +kernel
theorem dL_law_1486 : decode cL_law 1486 = .ok (.aload_n 2, 1) := by decide +kernel
theorem dL_law_1487 : decode cL_law 1487 = .ok (.aload_n 0, 1) := by decide +kernel
theorem dL_law_1488 : decode cL_law 1488 = .ok (.iload 4, 2) := by decide +kernel
theorem dL_law_1490 : decode cL_law 1490 = .ok (.iconst 1, 1) := by decide +kernel
theorem dL_law_1491 : decode cL_law 1491 = .ok (.iadd, 1) := by decide +kernel
theorem dL_law_1492 : decode cL_law 1492 = .ok (.iaload, 1) := by decide +kernel
theorem dL_law_1493 : decode cL_law 1493 = .ok (.aload_n 0, 1) := by decide +kernel
theorem dL_law_1494 : decode cL_law 1494 = .ok (.iload 4, 2) := by decide +kernel
theorem dL_law_1496 : decode cL_law 1496 = .ok (.iconst 2, 1) := by decide +kernel
theorem dL_law_1497 : decode cL_law 1497 = .ok (.iadd, 1) := by decide +kernel
theorem dL_law_1498 : decode cL_law 1498 = .ok (.iaload, 1) := by decide +kernel
theorem dL_law_1499 : decode cL_law 1499 = .ok (.i2l, 1) := by decide +kernel
theorem dL_law_1500 : decode cL_law 1500 = .ok (.bipush 32, 2) := by decide +kernel
theorem dL_law_1502 : decode cL_law 1502 = .ok (.lshl, 1) := by decide +kernel
theorem dL_law_1503 : decode cL_law 1503 = .ok (.aload_n 0, 1) := by decide +kernel
theorem dL_law_1504 : decode cL_law 1504 = .ok (.iload 4, 2) := by decide +kernel
theorem dL_law_1506 : decode cL_law 1506 = .ok (.iconst 3, 1) := by decide +kernel
theorem dL_law_1507 : decode cL_law 1507 = .ok (.iadd, 1) := by decide +kernel
theorem dL_law_1508 : decode cL_law 1508 = .ok (.iaload, 1) := by decide +kernel
theorem dL_law_1509 : decode cL_law 1509 = .ok (.i2l, 1) := by decide +kernel
theorem dL_law_1510 : decode cL_law 1510 = .ok (.ldc2_w 174, 3) := by decide +kernel
theorem dL_law_1513 : decode cL_law 1513 = .ok (.land, 1) := by decide +kernel
theorem dL_law_1514 : decode cL_law 1514 = .ok (.lor, 1) := by decide +kernel
theorem dL_law_1515 : decode cL_law 1515 = .ok (.invokevirtual 179, 3) := by decide +kernel
theorem dL_law_1518 : decode cL_law 1518 = .ok (.istore 6, 2) := by decide +kernel
theorem dL_law_1520 : decode cL_law 1520 = .ok (.aload_n 2, 1) := by decide +kernel
theorem dL_law_1521 : decode cL_law 1521 = .ok (.invokevirtual 101, 3) := by decide +kernel
theorem dL_law_1524 : decode cL_law 1524 = .ok (.iload 5, 2) := by decide +kernel
theorem dL_law_1526 : decode cL_law 1526 = .ok (.if_icmp .eq 5, 3) := by decide +kernel
theorem dL_law_1529 : decode cL_law 1529 = .ok (.iconst 0, 1) := by decide +kernel
theorem dL_law_1530 : decode cL_law 1530 = .ok (.ireturn, 1) := by decide +kernel
theorem dL_law_1531 : decode cL_law 1531 = .ok (.iload 5, 2) := by decide +kernel
theorem dL_law_1533 : decode cL_law 1533 = .ok (.ifCond .ne 15, 3) := by decide +kernel
theorem dL_law_1536 : decode cL_law 1536 = .ok (.aload_n 3, 1) := by decide +kernel
theorem dL_law_1537 : decode cL_law 1537 = .ok (.iconst 0, 1) := by decide +kernel
theorem dL_law_1538 : decode cL_law 1538 = .ok (.laload, 1) := by decide +kernel
theorem dL_law_1539 : decode cL_law 1539 = .ok (.iload 6, 2) := by decide +kernel
theorem dL_law_1541 : decode cL_law 1541 = .ok (.i2l, 1) := by decide +kernel
theorem dL_law_1542 : decode cL_law 1542 = .ok (.lcmp, 1) := by decide +kernel
theorem dL_law_1543 : decode cL_law 1543 = .ok (.ifCond .eq 5, 3) := by decide +kernel
theorem dL_law_1546 : decode cL_law 1546 = .ok (.iconst 0, 1) := by decide +kernel
theorem dL_law_1547 : decode cL_law 1547 = .ok (.ireturn, 1) := by decide +kernel
theorem dL_law_1548 : decode cL_law 1548 = .ok (.goto 215, 3) := by decide +kernel
theorem dL_law_1551 : decode cL_law 1551 = .ok (.aload_n 1, 1) := by decide +kernel
theorem dL_law_1552 : decode cL_law 1552 = .ok (.aload_n 0, 1) := by decide +kernel
theorem dL_law_1553 : decode cL_law 1553 = .ok (.iload 4, 2) := by decide +kernel
theorem dL_law_1555 : decode cL_law 1555 = .ok (.iconst 1, 1) := by decide +kernel
theorem dL_law_1556 : decode cL_law 1556 = .ok (.iadd, 1) := by decide +kernel
theorem dL_law_1557 : decode cL_law 1557 = .ok (.iaload, 1) := by decide +kernel
theorem dL_law_1558 : decode cL_law 1558 = .ok (.i2l, 1) := by decide +kernel
theorem dL_law_1559 : decode cL_law 1559 = .ok (.bipush 32, 2) := by decide +kernel
theorem dL_law_1561 : decode cL_law 1561 = .ok (.lshl, 1) := by decide +kernel
theorem dL_law_1562 : decode cL_law 1562 = .ok (.aload_n 0, 1) := by decide +kernel
theorem dL_law_1563 : decode cL_law 1563 = .ok (.iload 4, 2) := by decide +kernel
theorem dL_law_1565 : decode cL_law 1565 = .ok (.iconst 2, 1) := by decide +kernel
theorem dL_law_1566 : decode cL_law 1566 = .ok (.iadd, 1) := by decide +kernel
theorem dL_law_1567 : decode cL_law 1567 = .ok (.iaload, 1) := by decide +kernel
theorem dL_law_1568 : decode cL_law 1568 = .ok (.i2l, 1) := by decide +kernel
theorem dL_law_1569 : decode cL_law 1569 = .ok (.ldc2_w 174, 3) := by decide +kernel
theorem dL_law_1572 : decode cL_law 1572 = .ok (.land, 1) := by decide +kernel
theorem dL_law_1573 : decode cL_law 1573 = .ok (.lor, 1) := by decide +kernel
theorem dL_law_1574 : decode cL_law 1574 = .ok (.aload_n 0, 1) := by decide +kernel
theorem dL_law_1575 : decode cL_law 1575 = .ok (.iload 4, 2) := by decide +kernel
theorem dL_law_1577 : decode cL_law 1577 = .ok (.iconst 3, 1) := by decide +kernel
theorem dL_law_1578 : decode cL_law 1578 = .ok (.iadd, 1) := by decide +kernel
theorem dL_law_1579 : decode cL_law 1579 = .ok (.iaload, 1) := by decide +kernel
theorem dL_law_1580 : decode cL_law 1580 = .ok (.aload_n 3, 1) := by decide +kernel
theorem dL_law_1581 : decode cL_law 1581 = .ok (.invokestatic 180, 3) := by decide +kernel
theorem dL_law_1584 : decode cL_law 1584 = .ok (.istore 5, 2) := by decide +kernel
theorem dL_law_1586 : decode cL_law 1586 = .ok (.aload_n 2, 1) := by decide +kernel
theorem dL_law_1587 : decode cL_law 1587 = .ok (.aload_n 0, 1) := by decide +kernel
theorem dL_law_1588 : decode cL_law 1588 = .ok (.iload 4, 2) := by decide +kernel
theorem dL_law_1590 : decode cL_law 1590 = .ok (.iconst 1, 1) := by decide +kernel
theorem dL_law_1591 : decode cL_law 1591 = .ok (.iadd, 1) := by decide +kernel
theorem dL_law_1592 : decode cL_law 1592 = .ok (.iaload, 1) := by decide +kernel
theorem dL_law_1593 : decode cL_law 1593 = .ok (.i2l, 1) := by decide +kernel
theorem dL_law_1594 : decode cL_law 1594 = .ok (.bipush 32, 2) := by decide +kernel
theorem dL_law_1596 : decode cL_law 1596 = .ok (.lshl, 1) := by decide +kernel
theorem dL_law_1597 : decode cL_law 1597 = .ok (.aload_n 0, 1) := by decide +kernel
theorem dL_law_1598 : decode cL_law 1598 = .ok (.iload 4, 2) := by decide +kernel
theorem dL_law_1600 : decode cL_law 1600 = .ok (.iconst 2, 1) := by decide +kernel
theorem dL_law_1601 : decode cL_law 1601 = .ok (.iadd, 1) := by decide +kernel
theorem dL_law_1602 : decode cL_law 1602 = .ok (.iaload, 1) := by decide +kernel
theorem dL_law_1603 : decode cL_law 1603 = .ok (.i2l, 1) := by decide +kernel
theorem dL_law_1604 : decode cL_law 1604 = .ok (.ldc2_w 174, 3) := by decide +kernel
theorem dL_law_1607 : decode cL_law 1607 = .ok (.land, 1) := by decide +kernel
theorem dL_law_1608 : decode cL_law 1608 = .ok (.lor, 1) := by decide +kernel
theorem dL_law_1609 : decode cL_law 1609 = .ok (.aload_n 0, 1) := by decide +kernel
theorem dL_law_1610 : decode cL_law 1610 = .ok (.iload 4, 2) := by decide +kernel
theorem dL_law_1612 : decode cL_law 1612 = .ok (.iconst 3, 1) := by decide +kernel
theorem dL_law_1613 : decode cL_law 1613 = .ok (.iadd, 1) := by decide +kernel
theorem dL_law_1614 : decode cL_law 1614 = .ok (.iaload, 1) := by decide +kernel
theorem dL_law_1615 : decode cL_law 1615 = .ok (.invokevirtual 183, 3) := by decide +kernel
theorem dL_law_1618 : decode cL_law 1618 = .ok (.istore 6, 2) := by decide +kernel
theorem dL_law_1620 : decode cL_law 1620 = .ok (.aload_n 2, 1) := by decide +kernel
theorem dL_law_1621 : decode cL_law 1621 = .ok (.invokevirtual 101, 3) := by decide +kernel
theorem dL_law_1624 : decode cL_law 1624 = .ok (.iload 5, 2) := by decide +kernel
theorem dL_law_1626 : decode cL_law 1626 = .ok (.if_icmp .eq 5, 3) := by decide +kernel
theorem dL_law_1629 : decode cL_law 1629 = .ok (.iconst 0, 1) := by decide +kernel
theorem dL_law_1630 : decode cL_law 1630 = .ok (.ireturn, 1) := by decide +kernel
theorem dL_law_1631 : decode cL_law 1631 = .ok (.iload 5, 2) := by decide +kernel
theorem dL_law_1633 : decode cL_law 1633 = .ok (.ifCond .ne 15, 3) := by decide +kernel
theorem dL_law_1636 : decode cL_law 1636 = .ok (.aload_n 3, 1) := by decide +kernel
theorem dL_law_1637 : decode cL_law 1637 = .ok (.iconst 0, 1) := by decide +kernel
theorem dL_law_1638 : decode cL_law 1638 = .ok (.laload, 1) := by decide +kernel
theorem dL_law_1639 : decode cL_law 1639 = .ok (.iload 6, 2) := by decide +kernel
theorem dL_law_1641 : decode cL_law 1641 = .ok (.i2l, 1) := by decide +kernel
theorem dL_law_1642 : decode cL_law 1642 = .ok (.lcmp, 1) := by decide +kernel
theorem dL_law_1643 : decode cL_law 1643 = .ok (.ifCond .eq 5, 3) := by decide +kernel
theorem dL_law_1646 : decode cL_law 1646 = .ok (.iconst 0, 1) := by decide +kernel
theorem dL_law_1647 : decode cL_law 1647 = .ok (.ireturn, 1) := by decide +kernel
theorem dL_law_1648 : decode cL_law 1648 = .ok (.goto 115, 3) := by decide +kernel
theorem dL_law_1651 : decode cL_law 1651 = .ok (.aload_n 1, 1) := by decide +kernel
theorem dL_law_1652 : decode cL_law 1652 = .ok (.aload_n 0, 1) := by decide +kernel
theorem dL_law_1653 : decode cL_law 1653 = .ok (.iload 4, 2) := by decide +kernel
theorem dL_law_1655 : decode cL_law 1655 = .ok (.iconst 1, 1) := by decide +kernel
theorem dL_law_1656 : decode cL_law 1656 = .ok (.iadd, 1) := by decide +kernel
theorem dL_law_1657 : decode cL_law 1657 = .ok (.iaload, 1) := by decide +kernel
theorem dL_law_1658 : decode cL_law 1658 = .ok (.aload_n 3, 1) := by decide +kernel
theorem dL_law_1659 : decode cL_law 1659 = .ok (.invokestatic 184, 3) := by decide +kernel
theorem dL_law_1662 : decode cL_law 1662 = .ok (.istore 5, 2) := by decide +kernel
theorem dL_law_1664 : decode cL_law 1664 = .ok (.aload_n 2, 1) := by decide +kernel
theorem dL_law_1665 : decode cL_law 1665 = .ok (.aload_n 0, 1) := by decide +kernel
theorem dL_law_1666 : decode cL_law 1666 = .ok (.iload 4, 2) := by decide +kernel
theorem dL_law_1668 : decode cL_law 1668 = .ok (.iconst 1, 1) := by decide +kernel
theorem dL_law_1669 : decode cL_law 1669 = .ok (.iadd, 1) := by decide +kernel
theorem dL_law_1670 : decode cL_law 1670 = .ok (.iaload, 1) := by decide +kernel
theorem dL_law_1671 : decode cL_law 1671 = .ok (.invokevirtual 186, 3) := by decide +kernel
theorem dL_law_1674 : decode cL_law 1674 = .ok (.istore 6, 2) := by decide +kernel
theorem dL_law_1676 : decode cL_law 1676 = .ok (.aload_n 2, 1) := by decide +kernel
theorem dL_law_1677 : decode cL_law 1677 = .ok (.invokevirtual 101, 3) := by decide +kernel
theorem dL_law_1680 : decode cL_law 1680 = .ok (.iload 5, 2) := by decide +kernel
theorem dL_law_1682 : decode cL_law 1682 = .ok (.if_icmp .eq 5, 3) := by decide +kernel
theorem dL_law_1685 : decode cL_law 1685 = .ok (.iconst 0, 1) := by decide +kernel
theorem dL_law_1686 : decode cL_law 1686 = .ok (.ireturn, 1) := by decide +kernel
theorem dL_law_1687 : decode cL_law 1687 = .ok (.iload 5, 2) := by decide +kernel
theorem dL_law_1689 : decode cL_law 1689 = .ok (.ifCond .ne 15, 3) := by decide +kernel
theorem dL_law_1692 : decode cL_law 1692 = .ok (.aload_n 3, 1) := by decide +kernel
theorem dL_law_1693 : decode cL_law 1693 = .ok (.iconst 0, 1) := by decide +kernel
theorem dL_law_1694 : decode cL_law 1694 = .ok (.laload, 1) := by decide +kernel
theorem dL_law_1695 : decode cL_law 1695 = .ok (.iload 6, 2) := by decide +kernel
theorem dL_law_1697 : decode cL_law 1697 = .ok (.i2l, 1) := by decide +kernel
theorem dL_law_1698 : decode cL_law 1698 = .ok (.lcmp, 1) := by decide +kernel
theorem dL_law_1699 : decode cL_law 1699 = .ok (.ifCond .eq 5, 3) := by decide +kernel
theorem dL_law_1702 : decode cL_law 1702 = .ok (.iconst 0, 1) := by decide +kernel
theorem dL_law_1703 : decode cL_law 1703 = .ok (.ireturn, 1) := by decide +kernel
theorem dL_law_1704 : decode cL_law 1704 = .ok (.goto 59, 3) := by decide +kernel
theorem dL_law_1707 : decode cL_law 1707 = .ok (.aload_n 1, 1) := by decide +kernel
theorem dL_law_1708 : decode cL_law 1708 = .ok (.aload_n 0, 1) := by decide +kernel
theorem dL_law_1709 : decode cL_law 1709 = .ok (.iload 4, 2) := by decide +kernel
theorem dL_law_1711 : decode cL_law 1711 = .ok (.iconst 1, 1) := by decide +kernel
theorem dL_law_1712 : decode cL_law 1712 = .ok (.iadd, 1) := by decide +kernel
theorem dL_law_1713 : decode cL_law 1713 = .ok (.iaload, 1) := by decide +kernel
theorem dL_law_1714 : decode cL_law 1714 = .ok (.aload_n 3, 1) := by decide +kernel
theorem dL_law_1715 : decode cL_law 1715 = .ok (.invokestatic 187, 3) := by decide +kernel
theorem dL_law_1718 : decode cL_law 1718 = .ok (.istore 5, 2) := by decide +kernel
theorem dL_law_1720 : decode cL_law 1720 = .ok (.aload_n 2, 1) := by decide +kernel
theorem dL_law_1721 : decode cL_law 1721 = .ok (.aload_n 0, 1) := by decide +kernel
theorem dL_law_1722 : decode cL_law 1722 = .ok (.iload 4, 2) := by decide +kernel
theorem dL_law_1724 : decode cL_law 1724 = .ok (.iconst 1, 1) := by decide +kernel
theorem dL_law_1725 : decode cL_law 1725 = .ok (.iadd, 1) := by decide +kernel
theorem dL_law_1726 : decode cL_law 1726 = .ok (.iaload, 1) := by decide +kernel
theorem dL_law_1727 : decode cL_law 1727 = .ok (.invokevirtual 189, 3) := by decide +kernel
theorem dL_law_1730 : decode cL_law 1730 = .ok (.istore 6, 2) := by decide +kernel
theorem dL_law_1732 : decode cL_law 1732 = .ok (.aload_n 2, 1) := by decide +kernel
theorem dL_law_1733 : decode cL_law 1733 = .ok (.invokevirtual 101, 3) := by decide +kernel
theorem dL_law_1736 : decode cL_law 1736 = .ok (.iload 5, 2) := by decide +kernel
theorem dL_law_1738 : decode cL_law 1738 = .ok (.if_icmp .eq 5, 3) := by decide +kernel
theorem dL_law_1741 : decode cL_law 1741 = .ok (.iconst 0, 1) := by decide +kernel
theorem dL_law_1742 : decode cL_law 1742 = .ok (.ireturn, 1) := by decide +kernel
theorem dL_law_1743 : decode cL_law 1743 = .ok (.iload 5, 2) := by decide +kernel
theorem dL_law_1745 : decode cL_law 1745 = .ok (.ifCond .ne 15, 3) := by decide +kernel
theorem dL_law_1748 : decode cL_law 1748 = .ok (.aload_n 3, 1) := by decide +kernel
theorem dL_law_1749 : decode cL_law 1749 = .ok (.iconst 0, 1) := by decide +kernel
theorem dL_law_1750 : decode cL_law 1750 = .ok (.laload, 1) := by decide +kernel
theorem dL_law_1751 : decode cL_law 1751 = .ok (.iload 6, 2) := by decide +kernel
theorem dL_law_1753 : decode cL_law 1753 = .ok (.i2l, 1) := by decide +kernel
theorem dL_law_1754 : decode cL_law 1754 = .ok (.lcmp, 1) := by decide +kernel
theorem dL_law_1755 : decode cL_law 1755 = .ok (.ifCond .eq 5, 3) := by decide +kernel
theorem dL_law_1758 : decode cL_law 1758 = .ok (.iconst 0, 1) := by decide +kernel
theorem dL_law_1759 : decode cL_law 1759 = .ok (.ireturn, 1) := by decide +kernel
theorem dL_law_1760 : decode cL_law 1760 = .ok (.goto 3, 3) := by decide +kernel
theorem dL_law_1763 : decode cL_law 1763 = .ok (.iinc 4 5, 3) := by decide +kernel
theorem dL_law_1766 : decode cL_law 1766 = .ok (.goto (-1743), 3) := by decide +kernel
theorem dL_law_1769 : decode cL_law 1769 = .ok (.iconst 1, 1) := by decide +kernel
theorem dL_law_1770 : decode cL_law 1770 = .ok (.ireturn, 1) := by decide +kernel
end
section
/-! THE UNIFORM WORLD: cells at a base and numbers from it; one list of words for every method; a judgement Z inside a method, a judgement Cn of a call -/
def WA : List Cond := lw_tbl.filter goodWord
theorem wa_mem {x : Cond} (i : Nat) (h : tables_1[i]? = some x) (g : goodWord x = true) : x ∈ WA :=
  List.mem_filter.mpr ⟨List.mem_append_right _ (List.mem_of_getElem? h), g⟩
theorem wa_sel {x : Cond} (h : x ∈ k2_sels lw_privs) (g : goodWord x = true) : x ∈ WA := List.mem_filter.mpr ⟨List.mem_append_left _ h, g⟩
theorem wa_good : ∀ x ∈ WA, goodWord x = true := fun x h => (List.mem_filter.mp h).2
theorem wa_in {a c' : Cond} {extra : List Cond} (h : ∀ x ∈ extra, x ∈ WA) (hc : c' ∈ WA) : GoodIn (a :: WA) (extra ++ (c' :: WA)) := by
  intro x hx
  have h9 : x ∈ WA := by
    rcases List.mem_append.mp hx with h1 | h1
    · exact h x h1
    · rcases List.mem_cons.mp h1 with h2 | h2
      · rw [h2]; exact hc
      · exact h2
  exact ⟨List.mem_cons_of_mem _ h9, good_of_word (wa_good x h9)⟩
abbrev Wt : Type := va_G × (Nat → ClassId) × Nat × (Nat → Nat)
def wG (w : Wt) : va_G := w.1
def wC (w : Wt) : Nat → ClassId := w.2.1
def wB (w : Wt) : Nat := w.2.2.1
def wO (w : Wt) : Nat → Nat := w.2.2.2
def wT (w : Wt) : List (ClassId × FieldType) := [(wC w 0, .int), (wC w 1, .boolean), (wC w 2, .long), (wC w 3, .object "GutterBoats$Tournament")]
def wA (w : Wt) : Nat → Prop := fun q => wB w ≤ q
abbrev Hs : Type := Nat → Option va_E
def PH (w : Wt) (hs : Hs) (n : Option Nat) (H : Heap) : Prop :=
  (∀ k, n = some k → H.size = wB w + k) ∧ ∀ (i : Nat) (e : va_E), hs i = some e → va_at (wG w) vwCl (wB w + i, e) H
def upH (hs : Hs) (i : Nat) (e : va_E) : Hs := fun j => if j = i then some e else hs j
theorem upH_s (hs : Hs) (i : Nat) (e : va_E) : upH hs i e i = some e := by simp [upH]
theorem upH_n {hs : Hs} {i j : Nat} {e : va_E} (h : j ≠ i) : upH hs i e j = hs j := by simp [upH, h]
theorem upH_up (hs : Hs) (i : Nat) (e e' : va_E) : upH (upH hs i e) i e' = upH hs i e' := by
  funext j; unfold upH; split <;> rfl
theorem PH.set {w : Wt} {hs : Hs} {n : Option Nat} {H H' : Heap} {i : Nat} {e : va_E} (hP : PH w hs n H) (he : va_at (wG w) vwCl (wB w + i, e) H') (z : H'.size = H.size) (o : ∀ q : Nat, q ≠ wB w + i → H'[q]? = H[q]?) : PH w (upH hs i e) n H' := by
  refine ⟨fun k h => by rw [z]; exact hP.1 k h, fun j e' h => ?_⟩
  unfold upH at h
  by_cases hj : j = i
  · rw [if_pos hj] at h
    subst hj
    cases h
    exact he
  · rw [if_neg hj] at h
    exact (hP.2 j e' h).kept (o _ (by show ¬ (wB w + j = wB w + i); omega))
theorem PH.push {w : Wt} {hs : Hs} {k : Nat} {H H' : Heap} {e : va_E} (hP : PH w hs (some k) H) (he : va_at (wG w) vwCl (wB w + k, e) H') (z : H'.size = H.size + 1) (o : ∀ q : Nat, q < H.size → H'[q]? = H[q]?) : PH w (upH hs k e) (some (k + 1)) H' := by
  refine ⟨fun j h => by cases h; rw [z, hP.1 k rfl]; rfl, fun j e' h => ?_⟩
  unfold upH at h
  by_cases hj : j = k
  · rw [if_pos hj] at h
    subst hj
    cases h
    exact he
  · rw [if_neg hj] at h
    have h1 := hP.2 j e' h
    exact h1.kept (o _ h1.lt)
theorem PH.any {w : Wt} {hs : Hs} {n : Option Nat} {H : Heap} (hP : PH w hs n H) : PH w hs none H := ⟨fun k h => (nomatch h), hP.2⟩
theorem PH.lt {w : Wt} {hs : Hs} {n : Option Nat} {H : Heap} (hP : PH w hs n H) {i : Nat} {e : va_E} (h : hs i = some e) : wB w + i < H.size := (hP.2 i e h).lt
/-- the class's written-out arrays: name, length, contents -/
def soN : Nat → String := fun k => match k with
  | 0 => "GUTTER_NUMBERS"
  | 1 => "BOAT_NUMBERS"
  | 2 => "LAUNCH_NUMBERS"
  | 3 => "MINUTES_NUMBERS"
  | 4 => "HOOK_NUMBERS"
  | 5 => "CLAIM_NUMBERS"
  | 6 => "SET_NUMBERS"
  | _ => "NO_NUMBERS"
def soV : Nat → List Int32 := fun k => match k with
  | 0 => [10, 4, 40, 1, 0, 5, 1, 0, 5, 10, 0, 39]
  | 1 => [1, 1, 9, 1, 0, 3, 1, 0, 3]
  | 2 => [1, 0, 9, 1, 0, 5]
  | 3 => [10, 1, 60]
  | 4 => [1, 0, 3, 1, 0, 5, 10, 0, 39]
  | 5 => [1, 0, 3, 1, 0, 9]
  | 6 => [1, 0, 2, 1, 0, 9]
  | _ => []
def soF (k : Nat) : Nat → Int32 := fun j => (soV k).getD j 0
/-- the three texts of throwFor: where they stand in the pool, what they say -/
def sxI : Nat → Nat := fun k => match k with
  | 0 => 237
  | 1 => 244
  | _ => 249
def sxT : Nat → String := fun k => match k with
  | 0 => "no such gutter, cell, boat, owner or save slot"
  | 1 => "an argument is out of its range"
  | _ => "not possible in this state"
/-- what lies in the heap from before: the two statics of Throwable, the three texts, the eight arrays -/
def OL (w : Wt) (s : State) : Prop :=
  wB w ≤ s.heap.size ∧ vx_Zq Bundle.tN "UNASSIGNED_STACK" Bundle.steD (wA w) s s.heap ∧ vx_Zq Bundle.tN "SUPPRESSED_SENTINEL" Bundle.listD (wA w) s s.heap ∧
  (∀ k, k < 3 → ∃ a, vk_R "GutterBoats" (sxI k) (sxT k) a s) ∧
  ∀ k, k < 8 → va_Z "GutterBoats" (soN k) "[I" (.ref (wO w k)) (wA w) s s.heap ∧ wO w k < wB w ∧ va_at (wG w) vwCl (wO w k, .inl (wC w 0, (soV k).length, .inl (soF k))) s.heap
theorem OL.to {w : Wt} {s U : State} {H : Heap} {locs : List Loc} (h : OL w s) (hW : s.WarmedH U.vm) (hU : U.heap = H) (hS : va_S (wA w) s.heap H locs) : OL w U := by
  obtain ⟨h0, h1, h2, h3, h4⟩ := h
  have hk : ∀ a : Nat, a < s.heap.size → ¬ wA w a → U.heap[a]? = s.heap[a]? := fun a q1 q2 => by rw [hU]; exact hS.2.1 a q1 q2
  refine ⟨Nat.le_trans h0 (by rw [hU]; exact hS.1), (h1.moved hW.alike).kept hk, (h2.moved hW.alike).kept hk, fun k hk3 => ?_, fun k hk8 => ?_⟩
  · obtain ⟨a, ha⟩ := h3 k hk3
    exact ⟨a, ha.warm hW⟩
  · obtain ⟨q1, q2, q3⟩ := h4 k hk8
    have hn : ¬ wA w (wO w k) := Nat.not_le.mpr q2
    exact ⟨(q1.moved hW.alike).kept hk, q2, q3.kept (hk _ (Nat.lt_of_lt_of_le q2 h0) hn)⟩
theorem OL.same {w : Wt} {u U : State} (hv : U.vm = u.vm) (hh : U.heap = u.heap) (h : OL w u) : OL w U := by
  obtain ⟨h0, h1, h2, h3, h4⟩ := h
  have hA : u.vm.Alike U.vm := by rw [hv]; exact Vm.Alike.refl _
  unfold OL
  rw [hh]
  refine ⟨h0, h1.moved hA, h2.moved hA, fun k hk3 => ?_, fun k hk8 => ?_⟩
  · obtain ⟨a, ha⟩ := h3 k hk3
    exact ⟨a, ha.same hv⟩
  · obtain ⟨q1, q2, q3⟩ := h4 k hk8
    exact ⟨q1.moved hA, q2, q3⟩
def WS (w : Wt) (hs : Hs) (n : Option Nat) (U : State) : Prop := PH w hs n U.heap ∧ va_K (wG w) vwCl (wT w) U ∧ OL w U
theorem WS_blind (w : Wt) (hs : Hs) (n : Option Nat) (av : List Value) : FrameBlind (va_Pc av (WS w hs n)) := by
  intro a U g mk q
  obtain ⟨q0, qP, qK, qO⟩ := q
  exact ⟨q0, qP, va_K.moved (u := U) (U := U.calling g mk a) (Vm.Alike.refl U.vm) qK, OL.same (u := U) (U := U.calling g mk a) rfl rfl qO⟩
/-- a method: name, bytes, locals, what it hands back, frames and words of locals below it -/
abbrev MD : Type := MethodName × ByteArray × Nat × Option FieldType × Nat × Nat
def mws (d : MD) : List Cond := .code d.1 d.2.1 d.2.2.1 d.2.2.2.1 :: WA
def mrm (d : MD) (mc ms : Nat) : Room := { frames := d.2.2.2.2.1, cells := mc, slots := ms, locals := d.2.2.2.2.2 }
def Qn (w : Wt) (hs' : Hs) (n' : Option Nat) (v : Option Value) : Array Value → State → Outcome → State → Prop := fun _ st o t =>
  o = .returned v ∧ PH w hs' n' t.heap ∧ va_F (wA w) st t
/-- A CALL: with these arguments, from a heap with the cells hs, the method hands back v and leaves the cells hs' -/
def Cn (l : Launch) (w : Wt) (d : MD) (mc ms : Nat) (av : List Value) (hs : Hs) (n : Option Nat) (hs' : Hs) (n' : Option Nat) (v : Option Value) : Prop :=
  Met l d.1 (mws d) (mrm d mc ms) (va_Pc av (WS w hs n)) (Qn w hs' n' v) mc ms (wA w)
/-- what holds all through a method's body -/
def Ctx (p : Program) (s : State) (m : MethodId) (args : Array Value) (meth : Method) (c : Code) (R : Room) (w : Wt) (own nm : String) (cc : ByteArray) (nL : Nat) (rt : Option FieldType) (fr lo mc ms : Nat) : Prop :=
  p.tables.exec = Jvm.exec ∧ c.code = cc ∧ c.maxLocals = nL ∧ s.vm.findClass own = some m.cls ∧ (∀ x ∈ WA, x.before args s = true) ∧ meth.locks = false ∧ meth.sig.returnType = rt ∧
  (R.frames = fr ∧ R.locals = lo ∧ R.cells = mc ∧ R.slots = ms) ∧ va_K (wG w) vwCl (wT w) s ∧ OL w s ∧ meth.name = nm
/-- INSIDE A BODY: at pc, with these locals and this stack and these cells, the machine comes to Q -/
def ZW (p : Program) (l : Launch) (e : Env) (R : Room) (s : State) (m : MethodId) (args : Array Value) (below : List Frame) (meth : Method) (c : Code) (w : Wt) (nL : Nat) (hs : Hs) (n : Option Nat) (cells slots : Nat) (Q : State → Prop) (pc : Nat) (lv : List (Nat × Value)) (st : List Value) : Prop :=
  ∀ (H : Heap) (locs : List Loc) (ls : Array Slot), PH w hs n H → va_S (wA w) s.heap H locs → lv_has ls nL lv → W p l e R s m args below meth c H locs cells slots Q (F0 m pc ls st)
def lkL : List (Nat × Value) → Nat → Option Value
  | [], _ => none
  | q :: t, i => if q.1 = i then some q.2 else lkL t i
theorem lkL_mem : ∀ (lv : List (Nat × Value)) (i : Nat) (v : Value), lkL lv i = some v → (i, v) ∈ lv
  | [], _, _, h => by cases h
  | q :: t, i, v, h => by
    unfold lkL at h
    by_cases hq : q.1 = i
    · rw [if_pos hq] at h
      cases h
      rw [← hq]
      exact List.mem_cons_self
    · rw [if_neg hq] at h
      exact List.mem_cons_of_mem _ (lkL_mem t i v h)
theorem lkL_at {ls : Array Slot} {nL : Nat} {lv : List (Nat × Value)} {i : Nat} {v : Value} (h : lv_has ls nL lv) (hv : lkL lv i = some v) : ls[i]? = some (.val v) := h.2.2 (i, v) (lkL_mem lv i v hv)
def stL (lv : List (Nat × Value)) (i : Nat) (v : Value) : List (Nat × Value) := (i, v) :: lv.filter (fun q => !(q.1 == i) && !(q.1 + 1 == i && q.2.category == 2))
def stL2 (lv : List (Nat × Value)) (i : Nat) (v : Value) : List (Nat × Value) := (i, v) :: lv.filter (fun q => !(q.1 == i) && (!(q.1 == i + 1) && !(q.1 + 1 == i && q.2.category == 2)))
def subL : List (Nat × Value) → List (Nat × Value) → Prop
  | [], _ => True
  | q :: t, lv => lkL lv q.1 = some q.2 ∧ subL t lv
theorem subL_mem : ∀ (lv' lv : List (Nat × Value)), subL lv' lv → ∀ q ∈ lv', q ∈ lv
  | [], _, _, _, h => by cases h
  | a :: t, lv, h, q, hq => by
    rcases List.mem_cons.mp hq with e | e
    · rw [e]; exact lkL_mem lv a.1 a.2 h.1
    · exact subL_mem t lv h.2 q e
end
section
section ZR
variable {p : Program} {l : Launch} {e : Env} {R : Room} {s : State} {m : MethodId} {args : Array Value} {below : List Frame} {meth : Method} {c : Code} {w : Wt} {own nm : String} {cc : ByteArray} {nL : Nat} {rt : Option FieldType} {fr lo mc ms : Nat} {hs : Hs} {n : Option Nat} {cells slots : Nat} {Q : State → Prop} {pc : Nat} {lv : List (Nat × Value)} {st : List Value}
theorem z_iconst (C : Ctx p s m args meth c R w own nm cc nL rt fr lo mc ms) {k : Int} {v : Int32} (d : decode cc pc = .ok (.iconst k, 1)) (hv : Int32.ofInt k = v) (K : ZW p l e R s m args below meth c w nL hs n cells slots Q (pc + 1) lv (.int v :: st)) : ZW p l e R s m args below meth c w nL hs n cells slots Q pc lv st := fun H locs ls hP hS hl => lv_iconst C.1 C.2.1 d hv (K H locs ls hP hS hl)
theorem z_lconst (C : Ctx p s m args meth c R w own nm cc nL rt fr lo mc ms) {k : Fin 2} {v : Int64} (d : decode cc pc = .ok (.lconst k, 1)) (hv : Int64.ofNat (k : Nat) = v) (K : ZW p l e R s m args below meth c w nL hs n cells slots Q (pc + 1) lv (.long v :: st)) : ZW p l e R s m args below meth c w nL hs n cells slots Q pc lv st := fun H locs ls hP hS hl => lv_lconst C.1 C.2.1 d hv (K H locs ls hP hS hl)
theorem z_bipush (C : Ctx p s m args meth c R w own nm cc nL rt fr lo mc ms) {k : Int} {v : Int32} (d : decode cc pc = .ok (.bipush k, 2)) (hv : (Int8.ofInt k).toInt32 = v) (K : ZW p l e R s m args below meth c w nL hs n cells slots Q (pc + 2) lv (.int v :: st)) : ZW p l e R s m args below meth c w nL hs n cells slots Q pc lv st := fun H locs ls hP hS hl => lv_bipush C.1 C.2.1 d hv (K H locs ls hP hS hl)
theorem z_sipush (C : Ctx p s m args meth c R w own nm cc nL rt fr lo mc ms) {k : Int} {v : Int32} (d : decode cc pc = .ok (.sipush k, 3)) (hv : (Int16.ofInt k).toInt32 = v) (K : ZW p l e R s m args below meth c w nL hs n cells slots Q (pc + 3) lv (.int v :: st)) : ZW p l e R s m args below meth c w nL hs n cells slots Q pc lv st := fun H locs ls hP hS hl => lv_sipush C.1 C.2.1 d hv (K H locs ls hP hS hl)
theorem z_aload_n (C : Ctx p s m args meth c R w own nm cc nL rt fr lo mc ms) {k : Fin 4} (i : Nat) {x : Nat} (d : decode cc pc = .ok (.aload_n k, 1)) (hi : (k : Nat) = i) (hv : lkL lv i = some (.ref x)) (K : ZW p l e R s m args below meth c w nL hs n cells slots Q (pc + 1) lv (.ref x :: st)) : ZW p l e R s m args below meth c w nL hs n cells slots Q pc lv st := fun H locs ls hP hS hl => lv_aload_n C.1 C.2.1 d hi (lkL_at hl hv) (K H locs ls hP hS hl)
theorem z_aload (C : Ctx p s m args meth c R w own nm cc nL rt fr lo mc ms) {i : Nat} {x : Nat} (d : decode cc pc = .ok (.aload i, 2)) (hv : lkL lv i = some (.ref x)) (K : ZW p l e R s m args below meth c w nL hs n cells slots Q (pc + 2) lv (.ref x :: st)) : ZW p l e R s m args below meth c w nL hs n cells slots Q pc lv st := fun H locs ls hP hS hl => lv_aload C.1 C.2.1 d (lkL_at hl hv) (K H locs ls hP hS hl)
theorem z_iload_n (C : Ctx p s m args meth c R w own nm cc nL rt fr lo mc ms) {k : Fin 4} (i : Nat) {x : Int32} (d : decode cc pc = .ok (.iload_n k, 1)) (hi : (k : Nat) = i) (hv : lkL lv i = some (.int x)) (K : ZW p l e R s m args below meth c w nL hs n cells slots Q (pc + 1) lv (.int x :: st)) : ZW p l e R s m args below meth c w nL hs n cells slots Q pc lv st := fun H locs ls hP hS hl => lv_iload_n C.1 C.2.1 d hi (lkL_at hl hv) (K H locs ls hP hS hl)
theorem z_iload (C : Ctx p s m args meth c R w own nm cc nL rt fr lo mc ms) {i : Nat} {x : Int32} (d : decode cc pc = .ok (.iload i, 2)) (hv : lkL lv i = some (.int x)) (K : ZW p l e R s m args below meth c w nL hs n cells slots Q (pc + 2) lv (.int x :: st)) : ZW p l e R s m args below meth c w nL hs n cells slots Q pc lv st := fun H locs ls hP hS hl => lv_iload C.1 C.2.1 d (lkL_at hl hv) (K H locs ls hP hS hl)
theorem z_lload_n (C : Ctx p s m args meth c R w own nm cc nL rt fr lo mc ms) {k : Fin 4} (i : Nat) {x : Int64} (d : decode cc pc = .ok (.lload_n k, 1)) (hi : (k : Nat) = i) (hv : lkL lv i = some (.long x)) (K : ZW p l e R s m args below meth c w nL hs n cells slots Q (pc + 1) lv (.long x :: st)) : ZW p l e R s m args below meth c w nL hs n cells slots Q pc lv st := fun H locs ls hP hS hl => lv_lload_n C.1 C.2.1 d hi (lkL_at hl hv) (K H locs ls hP hS hl)
theorem z_lload (C : Ctx p s m args meth c R w own nm cc nL rt fr lo mc ms) {i : Nat} {x : Int64} (d : decode cc pc = .ok (.lload i, 2)) (hv : lkL lv i = some (.long x)) (K : ZW p l e R s m args below meth c w nL hs n cells slots Q (pc + 2) lv (.long x :: st)) : ZW p l e R s m args below meth c w nL hs n cells slots Q pc lv st := fun H locs ls hP hS hl => lv_lload C.1 C.2.1 d (lkL_at hl hv) (K H locs ls hP hS hl)
theorem z_istore_n (C : Ctx p s m args meth c R w own nm cc nL rt fr lo mc ms) {k : Fin 4} (i : Nat) {x : Int32} (d : decode cc pc = .ok (.istore_n k, 1)) (hi : (k : Nat) = i) (hn : i < nL) (K : ZW p l e R s m args below meth c w nL hs n cells slots Q (pc + 1) (stL lv i (.int x)) st) : ZW p l e R s m args below meth c w nL hs n cells slots Q pc lv (.int x :: st) := fun H locs ls hP hS hl => lv_istore_n C.1 C.2.1 d hi hl hn rfl (fun ls9 hl9 => K H locs ls9 hP hS hl9)
theorem z_istore (C : Ctx p s m args meth c R w own nm cc nL rt fr lo mc ms) {i : Nat} {x : Int32} (d : decode cc pc = .ok (.istore i, 2)) (hn : i < nL) (K : ZW p l e R s m args below meth c w nL hs n cells slots Q (pc + 2) (stL lv i (.int x)) st) : ZW p l e R s m args below meth c w nL hs n cells slots Q pc lv (.int x :: st) := fun H locs ls hP hS hl => lv_istore C.1 C.2.1 d hl hn rfl (fun ls9 hl9 => K H locs ls9 hP hS hl9)
theorem z_astore_n (C : Ctx p s m args meth c R w own nm cc nL rt fr lo mc ms) {k : Fin 4} (i : Nat) {x : Nat} (d : decode cc pc = .ok (.astore_n k, 1)) (hi : (k : Nat) = i) (hn : i < nL) (K : ZW p l e R s m args below meth c w nL hs n cells slots Q (pc + 1) (stL lv i (.ref x)) st) : ZW p l e R s m args below meth c w nL hs n cells slots Q pc lv (.ref x :: st) := fun H locs ls hP hS hl => lv_astore_n C.1 C.2.1 d hi hl hn rfl (fun ls9 hl9 => K H locs ls9 hP hS hl9)
theorem z_astore (C : Ctx p s m args meth c R w own nm cc nL rt fr lo mc ms) {i : Nat} {x : Nat} (d : decode cc pc = .ok (.astore i, 2)) (hn : i < nL) (K : ZW p l e R s m args below meth c w nL hs n cells slots Q (pc + 2) (stL lv i (.ref x)) st) : ZW p l e R s m args below meth c w nL hs n cells slots Q pc lv (.ref x :: st) := fun H locs ls hP hS hl => lv_astore C.1 C.2.1 d hl hn rfl (fun ls9 hl9 => K H locs ls9 hP hS hl9)
theorem z_lstore_n (C : Ctx p s m args meth c R w own nm cc nL rt fr lo mc ms) {k : Fin 4} (i : Nat) {x : Int64} (d : decode cc pc = .ok (.lstore_n k, 1)) (hi : (k : Nat) = i) (hn : i + 1 < nL) (K : ZW p l e R s m args below meth c w nL hs n cells slots Q (pc + 1) (stL2 lv i (.long x)) st) : ZW p l e R s m args below meth c w nL hs n cells slots Q pc lv (.long x :: st) := fun H locs ls hP hS hl => lv_lstore_n C.1 C.2.1 d hi hl hn rfl (fun ls9 hl9 => K H locs ls9 hP hS hl9)
theorem z_lstore (C : Ctx p s m args meth c R w own nm cc nL rt fr lo mc ms) {i : Nat} {x : Int64} (d : decode cc pc = .ok (.lstore i, 2)) (hn : i + 1 < nL) (K : ZW p l e R s m args below meth c w nL hs n cells slots Q (pc + 2) (stL2 lv i (.long x)) st) : ZW p l e R s m args below meth c w nL hs n cells slots Q pc lv (.long x :: st) := fun H locs ls hP hS hl => lv_lstore C.1 C.2.1 d hl hn rfl (fun ls9 hl9 => K H locs ls9 hP hS hl9)
theorem z_iadd (C : Ctx p s m args meth c R w own nm cc nL rt fr lo mc ms) {x y : Int32} (d : decode cc pc = .ok (.iadd, 1))  (K : ZW p l e R s m args below meth c w nL hs n cells slots Q (pc + 1) lv (.int (x + y) :: st)) : ZW p l e R s m args below meth c w nL hs n cells slots Q pc lv (.int y :: .int x :: st) := fun H locs ls hP hS hl => lv_iadd C.1 C.2.1 d  (K H locs ls hP hS hl)
theorem z_isub (C : Ctx p s m args meth c R w own nm cc nL rt fr lo mc ms) {x y : Int32} (d : decode cc pc = .ok (.isub, 1))  (K : ZW p l e R s m args below meth c w nL hs n cells slots Q (pc + 1) lv (.int (x - y) :: st)) : ZW p l e R s m args below meth c w nL hs n cells slots Q pc lv (.int y :: .int x :: st) := fun H locs ls hP hS hl => lv_isub C.1 C.2.1 d  (K H locs ls hP hS hl)
theorem z_imul (C : Ctx p s m args meth c R w own nm cc nL rt fr lo mc ms) {x y : Int32} (d : decode cc pc = .ok (.imul, 1))  (K : ZW p l e R s m args below meth c w nL hs n cells slots Q (pc + 1) lv (.int (x * y) :: st)) : ZW p l e R s m args below meth c w nL hs n cells slots Q pc lv (.int y :: .int x :: st) := fun H locs ls hP hS hl => lv_imul C.1 C.2.1 d  (K H locs ls hP hS hl)
theorem z_iand (C : Ctx p s m args meth c R w own nm cc nL rt fr lo mc ms) {x y : Int32} (d : decode cc pc = .ok (.iand, 1))  (K : ZW p l e R s m args below meth c w nL hs n cells slots Q (pc + 1) lv (.int (x &&& y) :: st)) : ZW p l e R s m args below meth c w nL hs n cells slots Q pc lv (.int y :: .int x :: st) := fun H locs ls hP hS hl => lv_iand C.1 C.2.1 d  (K H locs ls hP hS hl)
theorem z_ladd (C : Ctx p s m args meth c R w own nm cc nL rt fr lo mc ms) {x y : Int64} (d : decode cc pc = .ok (.ladd, 1))  (K : ZW p l e R s m args below meth c w nL hs n cells slots Q (pc + 1) lv (.long (x + y) :: st)) : ZW p l e R s m args below meth c w nL hs n cells slots Q pc lv (.long y :: .long x :: st) := fun H locs ls hP hS hl => lv_ladd C.1 C.2.1 d  (K H locs ls hP hS hl)
theorem z_lsub (C : Ctx p s m args meth c R w own nm cc nL rt fr lo mc ms) {x y : Int64} (d : decode cc pc = .ok (.lsub, 1))  (K : ZW p l e R s m args below meth c w nL hs n cells slots Q (pc + 1) lv (.long (x - y) :: st)) : ZW p l e R s m args below meth c w nL hs n cells slots Q pc lv (.long y :: .long x :: st) := fun H locs ls hP hS hl => lv_lsub C.1 C.2.1 d  (K H locs ls hP hS hl)
theorem z_lmul (C : Ctx p s m args meth c R w own nm cc nL rt fr lo mc ms) {x y : Int64} (d : decode cc pc = .ok (.lmul, 1))  (K : ZW p l e R s m args below meth c w nL hs n cells slots Q (pc + 1) lv (.long (x * y) :: st)) : ZW p l e R s m args below meth c w nL hs n cells slots Q pc lv (.long y :: .long x :: st) := fun H locs ls hP hS hl => lv_lmul C.1 C.2.1 d  (K H locs ls hP hS hl)
theorem z_lor (C : Ctx p s m args meth c R w own nm cc nL rt fr lo mc ms) {x y : Int64} (d : decode cc pc = .ok (.lor, 1))  (K : ZW p l e R s m args below meth c w nL hs n cells slots Q (pc + 1) lv (.long (x ||| y) :: st)) : ZW p l e R s m args below meth c w nL hs n cells slots Q pc lv (.long y :: .long x :: st) := fun H locs ls hP hS hl => lv_lor C.1 C.2.1 d  (K H locs ls hP hS hl)
theorem z_land (C : Ctx p s m args meth c R w own nm cc nL rt fr lo mc ms) {x y : Int64} (d : decode cc pc = .ok (.land, 1))  (K : ZW p l e R s m args below meth c w nL hs n cells slots Q (pc + 1) lv (.long (x &&& y) :: st)) : ZW p l e R s m args below meth c w nL hs n cells slots Q pc lv (.long y :: .long x :: st) := fun H locs ls hP hS hl => lv_land C.1 C.2.1 d  (K H locs ls hP hS hl)
theorem z_ineg (C : Ctx p s m args meth c R w own nm cc nL rt fr lo mc ms) {x : Int32} (d : decode cc pc = .ok (.ineg, 1))  (K : ZW p l e R s m args below meth c w nL hs n cells slots Q (pc + 1) lv (.int (-x) :: st)) : ZW p l e R s m args below meth c w nL hs n cells slots Q pc lv (.int x :: st) := fun H locs ls hP hS hl => lv_ineg C.1 C.2.1 d  (K H locs ls hP hS hl)
theorem z_idiv (C : Ctx p s m args meth c R w own nm cc nL rt fr lo mc ms) {x y : Int32} (d : decode cc pc = .ok (.idiv, 1)) (hne : ¬ y = 0) (K : ZW p l e R s m args below meth c w nL hs n cells slots Q (pc + 1) lv (.int (x / y) :: st)) : ZW p l e R s m args below meth c w nL hs n cells slots Q pc lv (.int y :: .int x :: st) := fun H locs ls hP hS hl => lv_idiv C.1 C.2.1 d hne (K H locs ls hP hS hl)
theorem z_irem (C : Ctx p s m args meth c R w own nm cc nL rt fr lo mc ms) {x y : Int32} (d : decode cc pc = .ok (.irem, 1)) (hne : ¬ y = 0) (K : ZW p l e R s m args below meth c w nL hs n cells slots Q (pc + 1) lv (.int (x - x / y * y) :: st)) : ZW p l e R s m args below meth c w nL hs n cells slots Q pc lv (.int y :: .int x :: st) := fun H locs ls hP hS hl => lv_irem C.1 C.2.1 d hne (K H locs ls hP hS hl)
theorem z_ldiv (C : Ctx p s m args meth c R w own nm cc nL rt fr lo mc ms) {x y : Int64} (d : decode cc pc = .ok (.ldiv, 1)) (hne : ¬ y = 0) (K : ZW p l e R s m args below meth c w nL hs n cells slots Q (pc + 1) lv (.long (x / y) :: st)) : ZW p l e R s m args below meth c w nL hs n cells slots Q pc lv (.long y :: .long x :: st) := fun H locs ls hP hS hl => lv_ldiv C.1 C.2.1 d hne (K H locs ls hP hS hl)
theorem z_lrem (C : Ctx p s m args meth c R w own nm cc nL rt fr lo mc ms) {x y : Int64} (d : decode cc pc = .ok (.lrem, 1)) (hne : ¬ y = 0) (K : ZW p l e R s m args below meth c w nL hs n cells slots Q (pc + 1) lv (.long (x - x / y * y) :: st)) : ZW p l e R s m args below meth c w nL hs n cells slots Q pc lv (.long y :: .long x :: st) := fun H locs ls hP hS hl => lv_lrem C.1 C.2.1 d hne (K H locs ls hP hS hl)
theorem z_lushr (C : Ctx p s m args meth c R w own nm cc nL rt fr lo mc ms) {x v : Int64} {y : Int32} (d : decode cc pc = .ok (.lushr, 1)) (hv : (x.toUInt64 >>> (y.toInt64.toUInt64 &&& Int64.toUInt64 63)).toInt64 = v) (K : ZW p l e R s m args below meth c w nL hs n cells slots Q (pc + 1) lv (.long v :: st)) : ZW p l e R s m args below meth c w nL hs n cells slots Q pc lv (.int y :: .long x :: st) := fun H locs ls hP hS hl => lv_lushr C.1 C.2.1 d hv (K H locs ls hP hS hl)
theorem z_lshl (C : Ctx p s m args meth c R w own nm cc nL rt fr lo mc ms) {x v : Int64} {y : Int32} (d : decode cc pc = .ok (.lshl, 1)) (hv : x <<< (y.toInt64 &&& 63) = v) (K : ZW p l e R s m args below meth c w nL hs n cells slots Q (pc + 1) lv (.long v :: st)) : ZW p l e R s m args below meth c w nL hs n cells slots Q pc lv (.int y :: .long x :: st) := fun H locs ls hP hS hl => lv_lshl C.1 C.2.1 d hv (K H locs ls hP hS hl)
theorem z_i2l (C : Ctx p s m args meth c R w own nm cc nL rt fr lo mc ms) {x : Int32} {v : Int64} (d : decode cc pc = .ok (.i2l, 1)) (hv : x.toInt64 = v) (K : ZW p l e R s m args below meth c w nL hs n cells slots Q (pc + 1) lv (.long v :: st)) : ZW p l e R s m args below meth c w nL hs n cells slots Q pc lv (.int x :: st) := fun H locs ls hP hS hl => lv_i2l C.1 C.2.1 d hv (K H locs ls hP hS hl)
theorem z_l2i (C : Ctx p s m args meth c R w own nm cc nL rt fr lo mc ms) {x : Int64} {v : Int32} (d : decode cc pc = .ok (.l2i, 1)) (hv : x.toInt32 = v) (K : ZW p l e R s m args below meth c w nL hs n cells slots Q (pc + 1) lv (.int v :: st)) : ZW p l e R s m args below meth c w nL hs n cells slots Q pc lv (.long x :: st) := fun H locs ls hP hS hl => lv_l2i C.1 C.2.1 d hv (K H locs ls hP hS hl)
theorem z_dup (C : Ctx p s m args meth c R w own nm cc nL rt fr lo mc ms) {va : Value} (d : decode cc pc = .ok (.dup, 1)) (hva : va.category = 1) (K : ZW p l e R s m args below meth c w nL hs n cells slots Q (pc + 1) lv (va :: va :: st)) : ZW p l e R s m args below meth c w nL hs n cells slots Q pc lv (va :: st) := fun H locs ls hP hS hl => lv_dup C.1 C.2.1 d hva (K H locs ls hP hS hl)
theorem z_pop (C : Ctx p s m args meth c R w own nm cc nL rt fr lo mc ms) {va : Value} (d : decode cc pc = .ok (.pop, 1)) (hva : va.category = 1) (K : ZW p l e R s m args below meth c w nL hs n cells slots Q (pc + 1) lv st) : ZW p l e R s m args below meth c w nL hs n cells slots Q pc lv (va :: st) := fun H locs ls hP hS hl => lv_pop C.1 C.2.1 d hva (K H locs ls hP hS hl)
theorem z_dup2 (C : Ctx p s m args meth c R w own nm cc nL rt fr lo mc ms) {va vb : Value} (d : decode cc pc = .ok (.dup2, 1)) (hva : va.category = 1) (hvb : vb.category = 1) (K : ZW p l e R s m args below meth c w nL hs n cells slots Q (pc + 1) lv (va :: vb :: va :: vb :: st)) : ZW p l e R s m args below meth c w nL hs n cells slots Q pc lv (va :: vb :: st) := fun H locs ls hP hS hl => lv_dup2_11 C.1 C.2.1 d hva hvb (K H locs ls hP hS hl)
theorem z_lcmp (C : Ctx p s m args meth c R w own nm cc nL rt fr lo mc ms) {x y : Int64} (d : decode cc pc = .ok (.lcmp, 1)) (K : ZW p l e R s m args below meth c w nL hs n cells slots Q (pc + 1) lv (.int (lg_cmp x y) :: st)) : ZW p l e R s m args below meth c w nL hs n cells slots Q pc lv (.long y :: .long x :: st) := fun H locs ls hP hS hl => W.lcmp C.1 C.2.1 d (K H locs ls hP hS hl)
theorem z_iinc (C : Ctx p s m args meth c R w own nm cc nL rt fr lo mc ms) {i : Nat} {k : Int} {x v : Int32} (d : decode cc pc = .ok (.iinc i k, 3)) (hx : lkL lv i = some (.int x)) (hv : x + Int32.ofInt k = v) (hn : i < nL) (K : ZW p l e R s m args below meth c w nL hs n cells slots Q (pc + 3) (stL lv i (.int v)) st) : ZW p l e R s m args below meth c w nL hs n cells slots Q pc lv st := by
  intro H locs ls hP hS hl
  obtain ⟨j, hj⟩ := List.getElem?_of_mem (lkL_mem lv i _ hx)
  exact lv_iinc C.1 C.2.1 d hl hj hv hn rfl (fun ls9 hl9 => K H locs ls9 hP hS hl9)
theorem z_goto (C : Ctx p s m args meth c R w own nm cc nL rt fr lo mc ms) {off : Int} (tgt : Nat) (d : decode cc pc = .ok (.goto off, 3)) (ht : (pc : Int) + off = (tgt : Int)) (K : ZW p l e R s m args below meth c w nL hs n cells slots Q tgt lv st) : ZW p l e R s m args below meth c w nL hs n cells slots Q pc lv st := fun H locs ls hP hS hl => lv_goto C.1 C.2.1 d ht (K H locs ls hP hS hl)
theorem z_icmp_eq (C : Ctx p s m args meth c R w own nm cc nL rt fr lo mc ms) {x y : Int32} {off : Int} (tgt : Nat) (d : decode cc pc = .ok (.if_icmp .eq off, 3)) (ht : (pc : Int) + off = (tgt : Int)) (kt : x = y → ZW p l e R s m args below meth c w nL hs n cells slots Q tgt lv st) (kf : ¬ (x = y) → ZW p l e R s m args below meth c w nL hs n cells slots Q (pc + 3) lv st) : ZW p l e R s m args below meth c w nL hs n cells slots Q pc lv (.int y :: .int x :: st) := fun H locs ls hP hS hl => lv_icmp_eq C.1 C.2.1 d ht (fun q => kt q H locs ls hP hS hl) (fun q => kf q H locs ls hP hS hl)
theorem z_icmp_ne (C : Ctx p s m args meth c R w own nm cc nL rt fr lo mc ms) {x y : Int32} {off : Int} (tgt : Nat) (d : decode cc pc = .ok (.if_icmp .ne off, 3)) (ht : (pc : Int) + off = (tgt : Int)) (kt : x ≠ y → ZW p l e R s m args below meth c w nL hs n cells slots Q tgt lv st) (kf : x = y → ZW p l e R s m args below meth c w nL hs n cells slots Q (pc + 3) lv st) : ZW p l e R s m args below meth c w nL hs n cells slots Q pc lv (.int y :: .int x :: st) := fun H locs ls hP hS hl => lv_icmp_ne C.1 C.2.1 d ht (fun q => kt q H locs ls hP hS hl) (fun q => kf q H locs ls hP hS hl)
theorem z_icmp_lt (C : Ctx p s m args meth c R w own nm cc nL rt fr lo mc ms) {x y : Int32} {off : Int} (tgt : Nat) (d : decode cc pc = .ok (.if_icmp .lt off, 3)) (ht : (pc : Int) + off = (tgt : Int)) (kt : x < y → ZW p l e R s m args below meth c w nL hs n cells slots Q tgt lv st) (kf : ¬ (x < y) → ZW p l e R s m args below meth c w nL hs n cells slots Q (pc + 3) lv st) : ZW p l e R s m args below meth c w nL hs n cells slots Q pc lv (.int y :: .int x :: st) := fun H locs ls hP hS hl => lv_icmp_lt C.1 C.2.1 d ht (fun q => kt q H locs ls hP hS hl) (fun q => kf q H locs ls hP hS hl)
theorem z_icmp_ge (C : Ctx p s m args meth c R w own nm cc nL rt fr lo mc ms) {x y : Int32} {off : Int} (tgt : Nat) (d : decode cc pc = .ok (.if_icmp .ge off, 3)) (ht : (pc : Int) + off = (tgt : Int)) (kt : y ≤ x → ZW p l e R s m args below meth c w nL hs n cells slots Q tgt lv st) (kf : ¬ (y ≤ x) → ZW p l e R s m args below meth c w nL hs n cells slots Q (pc + 3) lv st) : ZW p l e R s m args below meth c w nL hs n cells slots Q pc lv (.int y :: .int x :: st) := fun H locs ls hP hS hl => lv_icmp_ge C.1 C.2.1 d ht (fun q => kt q H locs ls hP hS hl) (fun q => kf q H locs ls hP hS hl)
theorem z_icmp_gt (C : Ctx p s m args meth c R w own nm cc nL rt fr lo mc ms) {x y : Int32} {off : Int} (tgt : Nat) (d : decode cc pc = .ok (.if_icmp .gt off, 3)) (ht : (pc : Int) + off = (tgt : Int)) (kt : y < x → ZW p l e R s m args below meth c w nL hs n cells slots Q tgt lv st) (kf : ¬ (y < x) → ZW p l e R s m args below meth c w nL hs n cells slots Q (pc + 3) lv st) : ZW p l e R s m args below meth c w nL hs n cells slots Q pc lv (.int y :: .int x :: st) := fun H locs ls hP hS hl => lv_icmp_gt C.1 C.2.1 d ht (fun q => kt q H locs ls hP hS hl) (fun q => kf q H locs ls hP hS hl)
theorem z_icmp_le (C : Ctx p s m args meth c R w own nm cc nL rt fr lo mc ms) {x y : Int32} {off : Int} (tgt : Nat) (d : decode cc pc = .ok (.if_icmp .le off, 3)) (ht : (pc : Int) + off = (tgt : Int)) (kt : x ≤ y → ZW p l e R s m args below meth c w nL hs n cells slots Q tgt lv st) (kf : ¬ (x ≤ y) → ZW p l e R s m args below meth c w nL hs n cells slots Q (pc + 3) lv st) : ZW p l e R s m args below meth c w nL hs n cells slots Q pc lv (.int y :: .int x :: st) := fun H locs ls hP hS hl => lv_icmp_le C.1 C.2.1 d ht (fun q => kt q H locs ls hP hS hl) (fun q => kf q H locs ls hP hS hl)
theorem z_if_eq (C : Ctx p s m args meth c R w own nm cc nL rt fr lo mc ms) {x : Int32} {off : Int} (tgt : Nat) (d : decode cc pc = .ok (.ifCond .eq off, 3)) (ht : (pc : Int) + off = (tgt : Int)) (kt : x = 0 → ZW p l e R s m args below meth c w nL hs n cells slots Q tgt lv st) (kf : ¬ (x = 0) → ZW p l e R s m args below meth c w nL hs n cells slots Q (pc + 3) lv st) : ZW p l e R s m args below meth c w nL hs n cells slots Q pc lv (.int x :: st) := fun H locs ls hP hS hl => lv_if_eq C.1 C.2.1 d ht (fun q => kt q H locs ls hP hS hl) (fun q => kf q H locs ls hP hS hl)
theorem z_if_ne (C : Ctx p s m args meth c R w own nm cc nL rt fr lo mc ms) {x : Int32} {off : Int} (tgt : Nat) (d : decode cc pc = .ok (.ifCond .ne off, 3)) (ht : (pc : Int) + off = (tgt : Int)) (kt : x ≠ 0 → ZW p l e R s m args below meth c w nL hs n cells slots Q tgt lv st) (kf : x = 0 → ZW p l e R s m args below meth c w nL hs n cells slots Q (pc + 3) lv st) : ZW p l e R s m args below meth c w nL hs n cells slots Q pc lv (.int x :: st) := fun H locs ls hP hS hl => lv_if_ne C.1 C.2.1 d ht (fun q => kt q H locs ls hP hS hl) (fun q => kf q H locs ls hP hS hl)
theorem z_if_lt (C : Ctx p s m args meth c R w own nm cc nL rt fr lo mc ms) {x : Int32} {off : Int} (tgt : Nat) (d : decode cc pc = .ok (.ifCond .lt off, 3)) (ht : (pc : Int) + off = (tgt : Int)) (kt : x < 0 → ZW p l e R s m args below meth c w nL hs n cells slots Q tgt lv st) (kf : ¬ (x < 0) → ZW p l e R s m args below meth c w nL hs n cells slots Q (pc + 3) lv st) : ZW p l e R s m args below meth c w nL hs n cells slots Q pc lv (.int x :: st) := fun H locs ls hP hS hl => lv_if_lt C.1 C.2.1 d ht (fun q => kt q H locs ls hP hS hl) (fun q => kf q H locs ls hP hS hl)
theorem z_if_ge (C : Ctx p s m args meth c R w own nm cc nL rt fr lo mc ms) {x : Int32} {off : Int} (tgt : Nat) (d : decode cc pc = .ok (.ifCond .ge off, 3)) (ht : (pc : Int) + off = (tgt : Int)) (kt : 0 ≤ x → ZW p l e R s m args below meth c w nL hs n cells slots Q tgt lv st) (kf : ¬ (0 ≤ x) → ZW p l e R s m args below meth c w nL hs n cells slots Q (pc + 3) lv st) : ZW p l e R s m args below meth c w nL hs n cells slots Q pc lv (.int x :: st) := fun H locs ls hP hS hl => lv_if_ge C.1 C.2.1 d ht (fun q => kt q H locs ls hP hS hl) (fun q => kf q H locs ls hP hS hl)
theorem z_if_gt (C : Ctx p s m args meth c R w own nm cc nL rt fr lo mc ms) {x : Int32} {off : Int} (tgt : Nat) (d : decode cc pc = .ok (.ifCond .gt off, 3)) (ht : (pc : Int) + off = (tgt : Int)) (kt : 0 < x → ZW p l e R s m args below meth c w nL hs n cells slots Q tgt lv st) (kf : ¬ (0 < x) → ZW p l e R s m args below meth c w nL hs n cells slots Q (pc + 3) lv st) : ZW p l e R s m args below meth c w nL hs n cells slots Q pc lv (.int x :: st) := fun H locs ls hP hS hl => lv_if_gt C.1 C.2.1 d ht (fun q => kt q H locs ls hP hS hl) (fun q => kf q H locs ls hP hS hl)
theorem z_if_le (C : Ctx p s m args meth c R w own nm cc nL rt fr lo mc ms) {x : Int32} {off : Int} (tgt : Nat) (d : decode cc pc = .ok (.ifCond .le off, 3)) (ht : (pc : Int) + off = (tgt : Int)) (kt : x ≤ 0 → ZW p l e R s m args below meth c w nL hs n cells slots Q tgt lv st) (kf : ¬ (x ≤ 0) → ZW p l e R s m args below meth c w nL hs n cells slots Q (pc + 3) lv st) : ZW p l e R s m args below meth c w nL hs n cells slots Q pc lv (.int x :: st) := fun H locs ls hP hS hl => lv_if_le C.1 C.2.1 d ht (fun q => kt q H locs ls hP hS hl) (fun q => kf q H locs ls hP hS hl)
theorem z_ifnull (C : Ctx p s m args meth c R w own nm cc nL rt fr lo mc ms) {x : Nat} {off : Int} (d : decode cc pc = .ok (.ifnull off, 3)) (K : ZW p l e R s m args below meth c w nL hs n cells slots Q (pc + 3) lv st) : ZW p l e R s m args below meth c w nL hs n cells slots Q pc lv (.ref x :: st) := fun H locs ls hP hS hl => lv_ifnull C.1 C.2.1 d (K H locs ls hP hS hl)
theorem z_tabIn (C : Ctx p s m args meth c R w own nm cc nL rt fr lo mc ms) {dflt lo9 hi9 : Int} {offs : Array Int} {len : Nat} {x : Int32} {off : Int} (tgt : Nat) (d : decode cc pc = .ok (.tableswitch dflt lo9 hi9 offs, len)) (h1 : ¬ x.toInt < lo9) (h2 : ¬ hi9 < x.toInt) (ho : offs[(x.toInt - lo9).toNat]? = some off) (ht : (pc : Int) + off = (tgt : Int)) (K : ZW p l e R s m args below meth c w nL hs n cells slots Q tgt lv st) : ZW p l e R s m args below meth c w nL hs n cells slots Q pc lv (.int x :: st) := fun H locs ls hP hS hl => lv_tableIn C.1 C.2.1 d h1 h2 ho ht (K H locs ls hP hS hl)
theorem z_tabOut (C : Ctx p s m args meth c R w own nm cc nL rt fr lo mc ms) {dflt lo9 hi9 : Int} {offs : Array Int} {len : Nat} {x : Int32} (tgt : Nat) (d : decode cc pc = .ok (.tableswitch dflt lo9 hi9 offs, len)) (h : x.toInt < lo9 ∨ hi9 < x.toInt) (ht : (pc : Int) + dflt = (tgt : Int)) (K : ZW p l e R s m args below meth c w nL hs n cells slots Q tgt lv st) : ZW p l e R s m args below meth c w nL hs n cells slots Q pc lv (.int x :: st) := fun H locs ls hP hS hl => lv_tableOut C.1 C.2.1 d h ht (K H locs ls hP hS hl)
theorem z_ldc2 (C : Ctx p s m args meth c R w own nm cc nL rt fr lo mc ms) {ix : Nat} {v : Int64} (d : decode cc pc = .ok (.ldc2_w ix, 3)) (hw : Cond.constantLong own ix v ∈ WA) (K : ZW p l e R s m args below meth c w nL hs n cells slots Q (pc + 3) lv (.long v :: st)) : ZW p l e R s m args below meth c w nL hs n cells slots Q pc lv st := fun H locs ls hP hS hl => lv_ldc2 C.1 C.2.1 C.2.2.2.1 (C.2.2.2.2.1 _ hw) d (K H locs ls hP hS hl)
theorem z_loc (lv9 : List (Nat × Value)) (h : subL lv9 lv) (K : ZW p l e R s m args below meth c w nL hs n cells slots Q pc lv9 st) : ZW p l e R s m args below meth c w nL hs n cells slots Q pc lv st := fun H locs ls hP hS hl => K H locs ls hP hS ⟨hl.1, hl.2.1, fun q hq => hl.2.2 q (subL_mem lv9 lv h q hq)⟩
theorem z_none (K : ZW p l e R s m args below meth c w nL hs none cells slots Q pc lv st) : ZW p l e R s m args below meth c w nL hs n cells slots Q pc lv st := fun H locs ls hP hS hl => K H locs ls hP.any hS hl
theorem z_heap {hs9 : Hs} (h : hs = hs9) (K : ZW p l e R s m args below meth c w nL hs9 n cells slots Q pc lv st) : ZW p l e R s m args below meth c w nL hs n cells slots Q pc lv st := by subst h; exact K
theorem z_stk {st9 : List Value} (h : st = st9) (K : ZW p l e R s m args below meth c w nL hs n cells slots Q pc lv st9) : ZW p l e R s m args below meth c w nL hs n cells slots Q pc lv st := by subst h; exact K
theorem z_widen {k9 n9 : Nat} (h1 : cells ≤ k9) (h2 : slots ≤ n9) (K : ZW p l e R s m args below meth c w nL hs n k9 n9 Q pc lv st) : ZW p l e R s m args below meth c w nL hs n cells slots Q pc lv st := fun H locs ls hP hS hl => W.widen h1 h2 (K H locs ls hP hS hl)
/-- a field: class and slot, out of the pool of own at ix -/
def FG (own : String) (ix ci k : Nat) : Prop := ∃ (C : String) (T : u_T) (N : Nat), vwCl[ci]? = some (C, T, N) ∧ k < N ∧ (∀ x ∈ u_ws C T N, x ∈ WA) ∧ (Cond.fieldLink own ix (T k).1 (T k).2.1 (T k).2.2.1 ∈ WA ∨ ∃ host, Cond.fieldLinkNest own ix (T k).1 (T k).2.1 (T k).2.2.1 host ∈ WA)
def FP (ci k : Nat) (ty : FieldType) (fin : Bool) : Prop := ∃ (C : String) (T : u_T) (N : Nat) (ty0 : Nat → FieldType), vwCl[ci]? = some (C, T, N) ∧ (∀ j, j < N → parseFieldDescriptor (T j).2.2.1 = some (ty0 j)) ∧ (∀ a, a < N → ∀ b, b < N → a ≠ b → (T a).2.1 ≠ (T b).2.1) ∧ ty0 k = ty ∧ (T k).2.2.2 = fin ∧ (T k).1 = C
theorem z_get (C : Ctx p s m args meth c R w own nm cc nL rt fr lo mc ms) {ix ci k i : Nat} {fs : List Value} {v : Value} (d : decode cc pc = .ok (.getfield ix, 3)) (g : FG own ix ci k) (hh : hs i = some (.inr (ci, fs))) (hv : fs[k]? = some v) (K : ZW p l e R s m args below meth c w nL hs n cells slots Q (pc + 3) lv (v :: st)) : ZW p l e R s m args below meth c w nL hs n cells slots Q pc lv (.ref (wB w + i) :: st) := by
  intro H locs ls hP hS hl
  obtain ⟨C9, T, N, hc, hk, hin, hlink⟩ := g
  have hP1 : va_P (wG w) vwCl [(wB w + i, .inr (ci, fs))] H := by
    intro j q hq
    have hz : j < 1 := (List.getElem?_eq_some_iff.mp hq).1
    rw [show j = 0 by omega] at hq
    cases hq
    exact hP.2 i _ hh
  rcases hlink with h | ⟨host, h⟩
  · exact va_get (D := wG w) C.1 C.2.1 C.2.2.2.2.1 hin C.2.2.2.1 C.2.2.2.2.2.2.2.2.1 hP1 0 rfl hc k hk (C.2.2.2.2.1 _ h) (fun _ h9 => h9) hv d (K H locs ls hP hS hl)
  · exact va_getN (D := wG w) C.1 C.2.1 C.2.2.2.2.1 hin C.2.2.2.1 C.2.2.2.2.2.2.2.2.1 hP1 0 rfl hc k hk (C.2.2.2.2.1 _ h) (fun _ h9 => h9) hv d (K H locs ls hP hS hl)
theorem z_put (C : Ctx p s m args meth c R w own nm cc nL rt fr lo mc ms) {ix ci k i : Nat} {ty : FieldType} {fs : List Value} {v : Value} (d : decode cc pc = .ok (.putfield ix, 3)) (g : FG own ix ci k) (g2 : FP ci k ty false) (hh : hs i = some (.inr (ci, fs))) (hl9 : k < fs.length) (hn : narrow ty v = v) (hf : fits ty v = true) (K : ZW p l e R s m args below meth c w nL (upH hs i (.inr (ci, fs.set k v))) n cells slots Q (pc + 3) lv st) : ZW p l e R s m args below meth c w nL hs n cells slots Q pc lv (v :: .ref (wB w + i) :: st) := by
  intro H locs ls hP hS hl
  obtain ⟨C9, T, N, hc, hk, hin, hlink⟩ := g
  obtain ⟨C8, T8, N8, ty0, hc8, hty, hnm, hy, hfin, hdecl⟩ := g2
  have hTT : (C8, T8, N8) = (C9, T, N) := Option.some.inj (hc8.symm.trans hc)
  cases hTT
  subst hy
  have hx := C.1
  have hb := C.2.1
  have hown := C.2.2.2.1
  have hts := C.2.2.2.2.1
  have hK := C.2.2.2.2.2.2.2.2.1
  have hap := va_apart (own := own) hts hin ty0 hty hnm hK hc
  obtain ⟨r, h1, cell, q1, q2, q3, q4⟩ := hP.2 i _ hh
  have hr : r = (C9, T, N) := Option.some.inj (h1.symm.trans hc)
  subst hr
  obtain ⟨hS9, hfc, kC, hkC, hkind⟩ := hK.1 ci _ hc
  obtain ⟨cf, kf, fi, f, hi, hsl⟩ := hS9 k hk
  have hlay := hts _ (hin _ (u_in_lay hk))
  unfold u_lay at hlay
  have hst := (u_facts hfc hkC (u_lays hts hin hk) hi).1
  have key : ∀ H1 : Heap, H1[wB w + i]? = some (cell.setSlot f.slot v) → H1.size = H.size → (∀ q : Nat, q ≠ wB w + i → H1[q]? = H[q]?) → PH w (upH hs i (.inr (ci, fs.set k v))) n H1 := by
    intro H1 e1 e2 e3
    rw [hsl] at e1
    exact hP.set ⟨_, hc, t_OB.to (V := updV (vp_V fs) k v) ⟨_, e1, q2, q3, t_set q4 hap hk v⟩ (fun j _ => vp_updV_set hl9 v j)⟩ e2 e3
  rw [if_neg (by rw [hfin]; decide)] at hlay
  have h6 := u_store hfc hkC hkind hlay hi (hty k hk) hn hf
  rcases hlink with h | ⟨host, h⟩
  · refine W.putK hx hb (f := f) ⟨hown, hts _ h, ⟨_, _, _, hi⟩, hst⟩ (by rw [q2]; exact h6) q1 q3 (by rw [hsl]; exact k2_hasslot (q4 k hk)) rfl rfl d fun H1 e1 e2 e3 => ?_
    exact K H1 _ ls (key H1 e1 e2 e3) (hS.put e2 e3 (Nat.le_add_right _ _)) hl
  · refine va_WputK hx hb (f := f) hown (hts _ h) hi hst (by rw [q2]; exact h6) q1 q3 (by rw [hsl]; exact k2_hasslot (q4 k hk)) rfl rfl d fun H1 e1 e2 e3 => ?_
    exact K H1 _ ls (key H1 e1 e2 e3) (hS.put e2 e3 (Nat.le_add_right _ _)) hl
theorem z_putF (C : Ctx p s m args meth c R w own nm cc nL rt fr lo mc ms) {ix ci k i : Nat} {ty : FieldType} {fs : List Value} {v : Value} (d : decode cc pc = .ok (.putfield ix, 3)) (g : FG own ix ci k) (g2 : FP ci k ty true) (hnm9 : nm = "<init>") (hw9 : ∀ C T N, vwCl[ci]? = some (C, T, N) → C = own ∧ Cond.fieldLink own ix (T k).1 (T k).2.1 (T k).2.2.1 ∈ WA) (hh : hs i = some (.inr (ci, fs))) (hl9 : k < fs.length) (hn : narrow ty v = v) (hf : fits ty v = true) (K : ZW p l e R s m args below meth c w nL (upH hs i (.inr (ci, fs.set k v))) n cells slots Q (pc + 3) lv st) : ZW p l e R s m args below meth c w nL hs n cells slots Q pc lv (v :: .ref (wB w + i) :: st) := by
  intro H locs ls hP hS hl
  obtain ⟨C9, T, N, hc, hk, hin, hlink⟩ := g
  obtain ⟨C8, T8, N8, ty0, hc8, hty, hnm, hy, hfin, hdecl⟩ := g2
  have hTT : (C8, T8, N8) = (C9, T, N) := Option.some.inj (hc8.symm.trans hc)
  cases hTT
  subst hy
  have hx := C.1
  have hb := C.2.1
  have hown := C.2.2.2.1
  have hts := C.2.2.2.2.1
  have hK := C.2.2.2.2.2.2.2.2.1
  have hap := va_apart (own := own) hts hin ty0 hty hnm hK hc
  obtain ⟨r, h1, cell, q1, q2, q3, q4⟩ := hP.2 i _ hh
  have hr : r = (C9, T, N) := Option.some.inj (h1.symm.trans hc)
  subst hr
  obtain ⟨hS9, hfc, kC, hkC, hkind⟩ := hK.1 ci _ hc
  obtain ⟨cf, kf, fi, f, hi, hsl⟩ := hS9 k hk
  have hlay := hts _ (hin _ (u_in_lay hk))
  unfold u_lay at hlay
  have hst := (u_facts hfc hkC (u_lays hts hin hk) hi).1
  have key : ∀ H1 : Heap, H1[wB w + i]? = some (cell.setSlot f.slot v) → H1.size = H.size → (∀ q : Nat, q ≠ wB w + i → H1[q]? = H[q]?) → PH w (upH hs i (.inr (ci, fs.set k v))) n H1 := by
    intro H1 e1 e2 e3
    rw [hsl] at e1
    exact hP.set ⟨_, hc, t_OB.to (V := updV (vp_V fs) k v) ⟨_, e1, q2, q3, t_set q4 hap hk v⟩ (fun j _ => vp_updV_set hl9 v j)⟩ e2 e3
  rw [if_pos hfin] at hlay
  obtain ⟨hCo, hlink⟩ := hw9 _ _ _ hc
  have hcf : m.cls = cf := by
    obtain ⟨_, _, c9, _, _, _, -, -, hf9, -, -, -, hown2, -⟩ := Cond.laysFinal_spec hlay
    have e1 : c9 = cf := by have := hi.symm.trans hf9; simp at this; exact this.1.symm
    rw [hdecl, hCo] at hown2
    rw [← e1]; exact Option.some.inj (hown.symm.trans hown2)
  have h6 := u_fits hfc hkC hkind (Or.inr hlay) hi (hty k hk) hn hf
  refine W.putFinK hx hb hown (hts _ hlink) hi hst hcf (C.2.2.2.2.2.2.2.2.2.2.trans hnm9) (by rw [q2]; exact h6) q1 q3 (by rw [hsl]; exact k2_hasslot (q4 k hk)) rfl rfl d fun H1 e1 e2 e3 => ?_
  exact K H1 _ ls (key H1 e1 e2 e3) (hS.put e2 e3 (Nat.le_add_right _ _)) hl
end ZR
end
section
section ZC
variable {p : Program} {l : Launch} {e : Env} {R : Room} {s : State} {m : MethodId} {args : Array Value} {below : List Frame} {meth : Method} {c : Code} {w : Wt} {own nm : String} {cc : ByteArray} {nL : Nat} {rt : Option FieldType} {fr lo mc ms : Nat} {hs : Hs} {n : Option Nat} {cells slots : Nat} {Q : State → Prop} {pc : Nat} {lv : List (Nat × Value)} {st : List Value}
theorem P1 {H : Heap} {i : Nat} {x : va_E} (hP : PH w hs n H) (hh : hs i = some x) : va_P (wG w) vwCl [(wB w + i, x)] H := by
  intro j q hq
  have hz : j < 1 := (List.getElem?_eq_some_iff.mp hq).1
  rw [show j = 0 by omega] at hq
  cases hq
  exact hP.2 i _ hh
theorem z_iald (C : Ctx p s m args meth c R w own nm cc nL rt fr lo mc ms) {i len : Nat} {f : Nat → Int32} {x : Int32} {v : Int32} (d : decode cc pc = .ok (.iaload, 1)) (hh : hs i = some (.inl (wC w 0, len, .inl f))) (hin : vp_in x len) (hv : f x.toNatClampNeg = v) (K : ZW p l e R s m args below meth c w nL hs n cells slots Q (pc + 1) lv (.int v :: st)) : ZW p l e R s m args below meth c w nL hs n cells slots Q pc lv (.int x :: .ref (wB w + i) :: st) := by
  subst hv
  intro H locs ls hP hS hl
  exact va_iald (D := wG w) C.1 C.2.1 C.2.2.2.2.2.2.2.2.1 (P1 hP hh) 0 0 rfl rfl hin d (K H locs ls hP hS hl)
theorem z_zald (C : Ctx p s m args meth c R w own nm cc nL rt fr lo mc ms) {i len : Nat} {f : Nat → Int32} {x : Int32} {v : Int32} (d : decode cc pc = .ok (.baload, 1)) (hh : hs i = some (.inl (wC w 1, len, .inl f))) (hin : vp_in x len) (hv : f x.toNatClampNeg = v) (K : ZW p l e R s m args below meth c w nL hs n cells slots Q (pc + 1) lv (.int v :: st)) : ZW p l e R s m args below meth c w nL hs n cells slots Q pc lv (.int x :: .ref (wB w + i) :: st) := by
  subst hv
  intro H locs ls hP hS hl
  exact va_zald (D := wG w) C.1 C.2.1 C.2.2.2.2.2.2.2.2.1 (P1 hP hh) 0 1 rfl rfl hin d (K H locs ls hP hS hl)
theorem z_lald (C : Ctx p s m args meth c R w own nm cc nL rt fr lo mc ms) {i len : Nat} {f : Nat → Int64} {x : Int32} {v : Int64} (d : decode cc pc = .ok (.laload, 1)) (hh : hs i = some (.inl (wC w 2, len, .inr (.inl f)))) (hin : vp_in x len) (hv : f x.toNatClampNeg = v) (K : ZW p l e R s m args below meth c w nL hs n cells slots Q (pc + 1) lv (.long v :: st)) : ZW p l e R s m args below meth c w nL hs n cells slots Q pc lv (.int x :: .ref (wB w + i) :: st) := by
  subst hv
  intro H locs ls hP hS hl
  exact va_lald (D := wG w) C.1 C.2.1 C.2.2.2.2.2.2.2.2.1 (P1 hP hh) 0 2 rfl rfl hin d (K H locs ls hP hS hl)
theorem z_aald (C : Ctx p s m args meth c R w own nm cc nL rt fr lo mc ms) {i len : Nat} {f : Nat → Option Nat} {x : Int32} {v : Value} (d : decode cc pc = .ok (.aaload, 1)) (hh : hs i = some (.inl (wC w 3, len, .inr (.inr (.inr (.inr f)))))) (hin : vp_in x len) (hv : va_rf (f x.toNatClampNeg) = v) (K : ZW p l e R s m args below meth c w nL hs n cells slots Q (pc + 1) lv (v :: st)) : ZW p l e R s m args below meth c w nL hs n cells slots Q pc lv (.int x :: .ref (wB w + i) :: st) := by
  subst hv
  intro H locs ls hP hS hl
  exact va_aldq (D := wG w) C.1 C.2.1 C.2.2.2.2.2.2.2.2.1 (P1 hP hh) 0 3 rfl rfl hin d (K H locs ls hP hS hl)
theorem z_alen (C : Ctx p s m args meth c R w own nm cc nL rt fr lo mc ms) {i : Nat} {cA : ClassId} {x : vp_A} {v : Int32} (t0 : Nat) {ty : FieldType} (d : decode cc pc = .ok (.arraylength, 1)) (hh : hs i = some (.inl (cA, x))) (ht : (wT w)[t0]? = some (cA, ty)) (hv : Int32.ofNat x.1 = v) (K : ZW p l e R s m args below meth c w nL hs n cells slots Q (pc + 1) lv (.int v :: st)) : ZW p l e R s m args below meth c w nL hs n cells slots Q pc lv (.ref (wB w + i) :: st) := fun H locs ls hP hS hl => va_alen (D := wG w) C.1 C.2.1 C.2.2.2.2.2.2.2.2.1 (P1 hP hh) 0 t0 rfl ht hv d (K H locs ls hP hS hl)
theorem z_ogets (C : Ctx p s m args meth c R w own nm cc nL rt fr lo mc ms) {k : Nat} {ix : Nat} (d : decode cc pc = .ok (.getstatic ix, 3)) (hk : k < 8) (hw : Cond.fieldLink own ix "GutterBoats" (soN k) "[I" ∈ WA ∨ ∃ host, Cond.fieldLinkNest own ix "GutterBoats" (soN k) "[I" host ∈ WA) (K : ZW p l e R s m args below meth c w nL hs n cells slots Q (pc + 3) lv (.ref (wO w k) :: st)) : ZW p l e R s m args below meth c w nL hs n cells slots Q pc lv st := by
  intro H locs ls hP hS hl
  obtain ⟨-, -, -, -, h4⟩ := C.2.2.2.2.2.2.2.2.2.1
  obtain ⟨hZ, -, -⟩ := h4 k hk
  rcases hw with h | ⟨host, h⟩
  · exact va_gets C.1 C.2.1 hZ hS C.2.2.2.1 (C.2.2.2.2.1 _ h) (fun _ h9 => h9) d (K H locs ls hP hS hl)
  · exact va_getsN C.1 C.2.1 hZ hS C.2.2.2.1 (C.2.2.2.2.1 _ h) (fun _ h9 => h9) d (K H locs ls hP hS hl)
theorem PO (C : Ctx p s m args meth c R w own nm cc nL rt fr lo mc ms) {H : Heap} {locs : List Loc} {k : Nat} (hk : k < 8) (hS : va_S (wA w) s.heap H locs) : va_P (wG w) vwCl [(wO w k, .inl (wC w 0, (soV k).length, .inl (soF k)))] H := by
  intro j q hq
  have hz : j < 1 := (List.getElem?_eq_some_iff.mp hq).1
  rw [show j = 0 by omega] at hq
  cases hq
  obtain ⟨h0, -, -, -, h4⟩ := C.2.2.2.2.2.2.2.2.2.1
  obtain ⟨-, h5, h6⟩ := h4 k hk
  exact h6.kept (hS.2.1 _ (Nat.lt_of_lt_of_le h5 h0) (Nat.not_le.mpr h5))
theorem z_oalen (C : Ctx p s m args meth c R w own nm cc nL rt fr lo mc ms) {k : Nat} {v : Int32} (d : decode cc pc = .ok (.arraylength, 1)) (hk : k < 8) (hv : Int32.ofNat (soV k).length = v) (K : ZW p l e R s m args below meth c w nL hs n cells slots Q (pc + 1) lv (.int v :: st)) : ZW p l e R s m args below meth c w nL hs n cells slots Q pc lv (.ref (wO w k) :: st) := fun H locs ls hP hS hl => va_alen (D := wG w) C.1 C.2.1 C.2.2.2.2.2.2.2.2.1 (PO C hk hS) 0 0 rfl rfl hv d (K H locs ls hP hS hl)
theorem z_oald (C : Ctx p s m args meth c R w own nm cc nL rt fr lo mc ms) {k : Nat} {x v : Int32} (d : decode cc pc = .ok (.iaload, 1)) (hk : k < 8) (hin : vp_in x (soV k).length) (hv : soF k x.toNatClampNeg = v) (K : ZW p l e R s m args below meth c w nL hs n cells slots Q (pc + 1) lv (.int v :: st)) : ZW p l e R s m args below meth c w nL hs n cells slots Q pc lv (.int x :: .ref (wO w k) :: st) := by
  subst hv
  intro H locs ls hP hS hl
  exact va_iald (D := wG w) C.1 C.2.1 C.2.2.2.2.2.2.2.2.1 (PO C hk hS) 0 0 rfl rfl hin d (K H locs ls hP hS hl)
theorem z_iast (C : Ctx p s m args meth c R w own nm cc nL rt fr lo mc ms) {i len : Nat} {f : Nat → Int32} {x : Int32} {y : Int32} (d : decode cc pc = .ok (.iastore, 1)) (hh : hs i = some (.inl (wC w 0, len, .inl f))) (hin : vp_in x len) (K : ZW p l e R s m args below meth c w nL (upH hs i (.inl (wC w 0, len, .inl (upd f x.toNatClampNeg y)))) n cells slots Q (pc + 1) lv st) : ZW p l e R s m args below meth c w nL hs n cells slots Q pc lv (.int y :: .int x :: .ref (wB w + i) :: st) := by
  intro H locs ls hP hS hl
  have h1 : H[wB w + i]? = some (vp_cell (wC w 0) (len, .inl f)) := hP.2 i _ hh
  refine W.iast C.1 C.2.1 h1 ((C.2.2.2.2.2.2.2.2.1.2 0 _ rfl).1 len (fun j => .int (f j))) (fun q => by cases q) (by show ¬ (x < 0 ∨ (arrV _ _ _).slots.size ≤ _); rw [arrV_size]; exact hin) rfl rfl d fun H1 e1 z1 o1 => ?_
  refine K H1 _ ls (hP.set ?_ z1 o1) (hS.put z1 o1 (Nat.le_add_right _ _)) hl
  show H1[wB w + i]? = some (vp_cell _ _)
  rw [e1, vp_cell_i, vp_cell_i, arrV_store]
  congr 2
  funext q
  by_cases hq : q = x.toNatClampNeg
  · subst hq
    simp [updV, upd]
  · simp [updV, upd, hq]
theorem z_last (C : Ctx p s m args meth c R w own nm cc nL rt fr lo mc ms) {i len : Nat} {f : Nat → Int64} {x : Int32} {y : Int64} (d : decode cc pc = .ok (.lastore, 1)) (hh : hs i = some (.inl (wC w 2, len, .inr (.inl f)))) (hin : vp_in x len) (K : ZW p l e R s m args below meth c w nL (upH hs i (.inl (wC w 2, len, .inr (.inl (vp_updL f x.toNatClampNeg y))))) n cells slots Q (pc + 1) lv st) : ZW p l e R s m args below meth c w nL hs n cells slots Q pc lv (.long y :: .int x :: .ref (wB w + i) :: st) := by
  intro H locs ls hP hS hl
  have h1 : H[wB w + i]? = some (vp_cell (wC w 2) (len, .inr (.inl f))) := hP.2 i _ hh
  refine W.last C.1 C.2.1 h1 ((C.2.2.2.2.2.2.2.2.1.2 2 _ rfl).1 len (fun j => .long (f j))) (fun q => by cases q) (by show ¬ (x < 0 ∨ (arrV _ _ _).slots.size ≤ _); rw [arrV_size]; exact hin) rfl rfl d fun H1 e1 z1 o1 => ?_
  refine K H1 _ ls (hP.set ?_ z1 o1) (hS.put z1 o1 (Nat.le_add_right _ _)) hl
  show H1[wB w + i]? = some (vp_cell _ _)
  rw [e1, vp_cell_l, vp_cell_l, arrV_store]
  congr 2
  funext q
  by_cases hq : q = x.toNatClampNeg
  · subst hq
    simp [updV, vp_updL]
  · simp [updV, vp_updL, hq]
theorem z_zast (C : Ctx p s m args meth c R w own nm cc nL rt fr lo mc ms) {i len : Nat} {f : Nat → Int32} {x : Int32} {y : Int32} (d : decode cc pc = .ok (.bastore, 1)) (hh : hs i = some (.inl (wC w 1, len, .inl f))) (hin : vp_in x len) (hz : narrow .boolean (.int y) = .int y) (K : ZW p l e R s m args below meth c w nL (upH hs i (.inl (wC w 1, len, .inl (upd f x.toNatClampNeg y)))) n cells slots Q (pc + 1) lv st) : ZW p l e R s m args below meth c w nL hs n cells slots Q pc lv (.int y :: .int x :: .ref (wB w + i) :: st) := by
  intro H locs ls hP hS hl
  have h1 : H[wB w + i]? = some (vp_cell (wC w 1) (len, .inl f)) := hP.2 i _ hh
  refine W.zast C.1 C.2.1 h1 ((C.2.2.2.2.2.2.2.2.1.2 1 _ rfl).1 len (fun j => .int (f j))) (fun q => by cases q) (by show ¬ (x < 0 ∨ (arrV _ _ _).slots.size ≤ _); rw [arrV_size]; exact hin) rfl rfl d fun H1 e1 z1 o1 => ?_
  refine K H1 _ ls (hP.set ?_ z1 o1) (hS.put z1 o1 (Nat.le_add_right _ _)) hl
  show H1[wB w + i]? = some (vp_cell _ _)
  rw [e1, vp_cell_i, vp_cell_i, arrV_store]
  congr 2
  funext q
  by_cases hq : q = x.toNatClampNeg
  · subst hq
    simp [updV, upd, hz]
  · simp [updV, upd, hq]
end ZC
end
section
section ZN
variable {p : Program} {l : Launch} {e : Env} {R : Room} {s : State} {m : MethodId} {args : Array Value} {below : List Frame} {meth : Method} {c : Code} {w : Wt} {own nm : String} {cc : ByteArray} {nL : Nat} {rt : Option FieldType} {fr lo mc ms : Nat} {hs : Hs} {n : Option Nat} {cells slots : Nat} {Q : State → Prop} {pc : Nat} {lv : List (Nat × Value)} {st : List Value}
def FN (own : String) (ix ci N : Nat) (fs : List Value) : Prop := ∃ (C : String) (T : u_T) (ty0 : Nat → FieldType), vwCl[ci]? = some (C, T, N) ∧ (∀ x ∈ u_ws C T N, x ∈ WA) ∧ Cond.classLink own ix C ∈ WA ∧ Cond.instantiable C N ∈ WA ∧ Cond.initialized C ∈ WA ∧ (∀ j, j < N → parseFieldDescriptor (T j).2.2.1 = some (ty0 j)) ∧ ∀ j, j < N → defaultValue (ty0 j) = vp_V fs j
theorem z_new (C : Ctx p s m args meth c R w own nm cc nL rt fr lo mc ms) {k ix ci N : Nat} {fs : List Value} (d : decode cc pc = .ok (.new ix, 3)) (g : FN own ix ci N fs) (h1 : cells + 1 ≤ mc) (h2 : slots + N ≤ ms) (K : ZW p l e R s m args below meth c w nL (upH hs k (.inr (ci, fs))) (some (k + 1)) (cells + 1) (slots + N) Q (pc + 3) lv (.ref (wB w + k) :: st)) : ZW p l e R s m args below meth c w nL hs (some k) cells slots Q pc lv st := by
  intro H locs ls hP hS hl
  obtain ⟨C9, T, ty0, hc, hin, w1, w2, w3, hty, hfs⟩ := g
  obtain ⟨hx, hb, hml, hown, hts, -, -, hR, hK, -, -⟩ := C
  have hKn := hK.1 ci _ hc
  refine W.newcK hx hb hown (hts _ w1) (hts _ w2) (hts _ w3) rfl d (by rw [hR.2.2.1]; exact h1) (by rw [hR.2.2.2]; exact h2) hKn.2.1 rfl fun H1 kC hkC e1 z1 o1 => ?_
  have hz : H.size = wB w + k := hP.1 k rfl
  have hz9 : wB w ≤ H.size := by omega
  rw [hz] at e1
  have hP1 : PH w (upH hs k (.inr (ci, fs))) (some (k + 1)) H1 := hP.push ⟨_, hc, (u_born ty0 hts hin hKn hkC e1 hty).to hfs⟩ z1 o1
  have K1 := K H1 locs ls hP1 ⟨Nat.le_trans hS.1 (by omega), fun q g1 g2 => (o1 q (Nat.lt_of_lt_of_le g1 hS.1)).trans (hS.2.1 q g1 g2), hS.2.2⟩ hl
  rw [hz]
  exact K1
theorem z_newI (C : Ctx p s m args meth c R w own nm cc nL rt fr lo mc ms) {k N : Nat} {x : Int32} (d : decode cc pc = .ok (.newarray .int, 2)) (hw : Cond.arrayClass .int ∈ WA) (hx0 : ¬ x < 0) (hN : x.toNatClampNeg = N) (hN9 : N ≤ 5000) (h1 : cells + 1 ≤ mc) (h2 : slots + N ≤ ms) (K : ZW p l e R s m args below meth c w nL (upH hs k (.inl (wC w 0, N, .inl (fun _ => 0)))) (some (k + 1)) (cells + 1) (slots + N) Q (pc + 2) lv (.ref (wB w + k) :: st)) : ZW p l e R s m args below meth c w nL hs (some k) cells slots Q pc lv (.int x :: st) := by
  intro H locs ls hP hS hl
  obtain ⟨hx, hb, hml, hown, hts, -, -, hR, hK, -, -⟩ := C
  have hz : H.size = wB w + k := hP.1 k rfl
  refine va_newaK (atype := .int) hx hb (hts _ hw) rfl d rfl hx0 hN (by show N * componentBytes .int ≤ _; have : componentBytes .int ≤ 8 := (by decide); exact Nat.le_trans (Nat.mul_le_mul hN9 this) (by decide)) (by rw [hR.2.2.1]; exact h1) (by rw [hR.2.2.2]; exact h2) hz fun H1 cA e1 z1 o1 hAr hNm => ?_
  have hcA : wC w 0 = cA := Option.some.inj (((hK.2 0 _ rfl).2 : va_RA s (wC w 0) .int).symm.trans hNm)
  subst hcA
  have hz9 : wB w ≤ H.size := by omega
  have hP1 : PH w (upH hs k (.inl (wC w 0, N, .inl (fun _ => 0)))) (some (k + 1)) H1 := hP.push (show H1[wB w + k]? = some (vp_cell _ _) by rw [e1, vp_cell_i]; rfl) (by rw [z1, hz]) (fun q hq => o1 q (by rw [← hz]; exact hq))
  exact K H1 locs ls hP1 ⟨Nat.le_trans hS.1 (by omega), fun q g1 g2 => (o1 q (by rw [← hz]; exact Nat.lt_of_lt_of_le g1 hS.1)).trans (hS.2.1 q g1 g2), hS.2.2⟩ hl
theorem z_newZ (C : Ctx p s m args meth c R w own nm cc nL rt fr lo mc ms) {k N : Nat} {x : Int32} (d : decode cc pc = .ok (.newarray .boolean, 2)) (hw : Cond.arrayClass .boolean ∈ WA) (hx0 : ¬ x < 0) (hN : x.toNatClampNeg = N) (hN9 : N ≤ 5000) (h1 : cells + 1 ≤ mc) (h2 : slots + N ≤ ms) (K : ZW p l e R s m args below meth c w nL (upH hs k (.inl (wC w 1, N, .inl (fun _ => 0)))) (some (k + 1)) (cells + 1) (slots + N) Q (pc + 2) lv (.ref (wB w + k) :: st)) : ZW p l e R s m args below meth c w nL hs (some k) cells slots Q pc lv (.int x :: st) := by
  intro H locs ls hP hS hl
  obtain ⟨hx, hb, hml, hown, hts, -, -, hR, hK, -, -⟩ := C
  have hz : H.size = wB w + k := hP.1 k rfl
  refine va_newaK (atype := .boolean) hx hb (hts _ hw) rfl d rfl hx0 hN (by show N * componentBytes .boolean ≤ _; have : componentBytes .boolean ≤ 8 := (by decide); exact Nat.le_trans (Nat.mul_le_mul hN9 this) (by decide)) (by rw [hR.2.2.1]; exact h1) (by rw [hR.2.2.2]; exact h2) hz fun H1 cA e1 z1 o1 hAr hNm => ?_
  have hcA : wC w 1 = cA := Option.some.inj (((hK.2 1 _ rfl).2 : va_RA s (wC w 1) .boolean).symm.trans hNm)
  subst hcA
  have hz9 : wB w ≤ H.size := by omega
  have hP1 : PH w (upH hs k (.inl (wC w 1, N, .inl (fun _ => 0)))) (some (k + 1)) H1 := hP.push (show H1[wB w + k]? = some (vp_cell _ _) by rw [e1, vp_cell_i]; rfl) (by rw [z1, hz]) (fun q hq => o1 q (by rw [← hz]; exact hq))
  exact K H1 locs ls hP1 ⟨Nat.le_trans hS.1 (by omega), fun q g1 g2 => (o1 q (by rw [← hz]; exact Nat.lt_of_lt_of_le g1 hS.1)).trans (hS.2.1 q g1 g2), hS.2.2⟩ hl
theorem z_newJ (C : Ctx p s m args meth c R w own nm cc nL rt fr lo mc ms) {k N : Nat} {x : Int32} (d : decode cc pc = .ok (.newarray .long, 2)) (hw : Cond.arrayClass .long ∈ WA) (hx0 : ¬ x < 0) (hN : x.toNatClampNeg = N) (hN9 : N ≤ 5000) (h1 : cells + 1 ≤ mc) (h2 : slots + N ≤ ms) (K : ZW p l e R s m args below meth c w nL (upH hs k (.inl (wC w 2, N, .inr (.inl (fun _ => 0))))) (some (k + 1)) (cells + 1) (slots + N) Q (pc + 2) lv (.ref (wB w + k) :: st)) : ZW p l e R s m args below meth c w nL hs (some k) cells slots Q pc lv (.int x :: st) := by
  intro H locs ls hP hS hl
  obtain ⟨hx, hb, hml, hown, hts, -, -, hR, hK, -, -⟩ := C
  have hz : H.size = wB w + k := hP.1 k rfl
  refine va_newaK (atype := .long) hx hb (hts _ hw) rfl d rfl hx0 hN (by show N * componentBytes .long ≤ _; have : componentBytes .long ≤ 8 := (by decide); exact Nat.le_trans (Nat.mul_le_mul hN9 this) (by decide)) (by rw [hR.2.2.1]; exact h1) (by rw [hR.2.2.2]; exact h2) hz fun H1 cA e1 z1 o1 hAr hNm => ?_
  have hcA : wC w 2 = cA := Option.some.inj (((hK.2 2 _ rfl).2 : va_RA s (wC w 2) .long).symm.trans hNm)
  subst hcA
  have hz9 : wB w ≤ H.size := by omega
  have hP1 : PH w (upH hs k (.inl (wC w 2, N, .inr (.inl (fun _ => 0))))) (some (k + 1)) H1 := hP.push (show H1[wB w + k]? = some (vp_cell _ _) by rw [e1, vp_cell_l]; rfl) (by rw [z1, hz]) (fun q hq => o1 q (by rw [← hz]; exact hq))
  exact K H1 locs ls hP1 ⟨Nat.le_trans hS.1 (by omega), fun q g1 g2 => (o1 q (by rw [← hz]; exact Nat.lt_of_lt_of_le g1 hS.1)).trans (hS.2.1 q g1 g2), hS.2.2⟩ hl
theorem z_anew (C : Ctx p s m args meth c R w own nm cc nL rt fr lo mc ms) {k N ix : Nat} {x : Int32} (d : decode cc pc = .ok (.anewarray ix, 3)) (hw : Cond.classLink own ix "GutterBoats$Tournament" ∈ WA) (hw2 : Cond.arrayOver (.object "GutterBoats$Tournament") ∈ WA) (hx0 : ¬ x < 0) (hN : x.toNatClampNeg = N) (hN9 : N ≤ 5000) (h1 : cells + 1 ≤ mc) (h2 : slots + N ≤ ms) (K : ZW p l e R s m args below meth c w nL (upH hs k (.inl (wC w 3, N, .inr (.inr (.inr (.inr (fun _ => none))))))) (some (k + 1)) (cells + 1) (slots + N) Q (pc + 3) lv (.ref (wB w + k) :: st)) : ZW p l e R s m args below meth c w nL hs (some k) cells slots Q pc lv (.int x :: st) := by
  intro H locs ls hP hS hl
  obtain ⟨hx, hb, hml, hown, hts, -, -, hR, hK, -, -⟩ := C
  have hz : H.size = wB w + k := hP.1 k rfl
  have hz9 : wB w ≤ H.size := by omega
  subst hN
  refine W.anew hx hb hown (hts _ hw) (hts _ hw2) rfl d rfl hx0 (Nat.le_trans (Nat.mul_le_mul_right 4 hN9) (by decide)) (by rw [hR.2.2.1]; exact h1) (by rw [hR.2.2.2]; exact h2) fun cA kA comp f1 f2 f3 f4 => ?_
  have hcA : wC w 3 = cA := by
    obtain ⟨kA9, comp9, -, -, -, hNm⟩ := ((hK.2 3 _ rfl).2 : va_RA s (wC w 3) (.object "GutterBoats$Tournament"))
    exact Option.some.inj (hNm.symm.trans f1)
  subst hcA
  generalize hH1 : H.push ({ cls := wC w 3, slots := Array.replicate x.toNatClampNeg .null, vm := .none } : Cell) = H1
  have z1 : H1.size = H.size + 1 := by rw [← hH1, Array.size_push]
  have e1 : H1[wB w + k]? = some (arrV (wC w 3) x.toNatClampNeg (fun _ => .null)) := by rw [← hz, ← hH1, Array.getElem?_push_size, ← arrV_new]
  have o1 : ∀ q : Nat, q < H.size → H1[q]? = H[q]? := fun q hq => by rw [← hH1, Array.getElem?_push, if_neg (Nat.ne_of_lt hq)]
  have hP1 : PH w (upH hs k (.inl (wC w 3, x.toNatClampNeg, .inr (.inr (.inr (.inr (fun _ => none))))))) (some (k + 1)) H1 := hP.push (show H1[wB w + k]? = some (vp_cell _ _) by rw [e1, vp_cell_q]; rfl) z1 o1
  have K1 := K H1 locs ls hP1 ⟨Nat.le_trans hS.1 (by omega), fun q g1 g2 => (o1 q (Nat.lt_of_lt_of_le g1 hS.1)).trans (hS.2.1 q g1 g2), hS.2.2⟩ hl
  rw [hz]
  exact K1
theorem z_aast (C : Ctx p s m args meth c R w own nm cc nL rt fr lo mc ms) {i j len : Nat} {f : Nat → Option Nat} {fs : List Value} {x : Int32} (d : decode cc pc = .ok (.aastore, 1)) (hh : hs i = some (.inl (wC w 3, len, .inr (.inr (.inr (.inr f)))))) (hj : hs j = some (.inr (4, fs))) (hin : vp_in x len) (K : ZW p l e R s m args below meth c w nL (upH hs i (.inl (wC w 3, len, .inr (.inr (.inr (.inr (va_up f x.toNatClampNeg (some (wB w + j))))))))) n cells slots Q (pc + 1) lv st) : ZW p l e R s m args below meth c w nL hs n cells slots Q pc lv (.ref (wB w + j) :: .int x :: .ref (wB w + i) :: st) := by
  intro H locs ls hP hS hl
  have hK := C.2.2.2.2.2.2.2.2.1
  have hlt : x.toNatClampNeg < len := Nat.not_le.mp fun q => hin (Or.inr q)
  have h0 : ¬ x < 0 := fun q => hin (Or.inl q)
  obtain ⟨r9, hr9, cellV, g1, g2, g3, -⟩ := hP.2 j _ hj
  cases hr9
  have hcls := (hK.1 4 _ rfl).2
  obtain ⟨kA, comp, k1, k2, k3, -⟩ := ((hK.2 3 _ rfl).2 : va_RA s (wC w 3) (.object "GutterBoats$Tournament"))
  have hcomp : comp = (wG w).1 4 := Option.some.inj (k3.symm.trans hcls.1)
  subst hcomp
  obtain ⟨kC, hkC, -⟩ := hcls.2
  have h1 : H[wB w + i]? = some (vp_cell (wC w 3) (len, .inr (.inr (.inr (.inr f))))) := hP.2 i _ hh
  refine W.aast C.1 C.2.1 h1 (fun q h => by cases h) (fun h => by cases h) k1 k2 rfl hkC ⟨h0, by show _ < (arrV _ _ _).slots.size; rw [arrV_size]; exact hlt⟩ g1 (fun q h => by rw [g3] at h; cases h) (by rw [g2]; exact hkC) (by rw [g2]; exact va_assign hcls) rfl rfl d fun H1 e1 z1 o1 => ?_
  refine K H1 _ ls (hP.set ?_ z1 o1) (hS.put z1 o1 (Nat.le_add_right _ _)) hl
  show H1[wB w + i]? = some (vp_cell _ _)
  rw [e1, vp_cell_q, vp_cell_q, arrV_store]
  congr 2
  funext q
  by_cases hq : q = x.toNatClampNeg
  · subst hq
    simp [updV, va_up, va_rf]
  · simp [updV, va_up, hq]
theorem z_max (C : Ctx p s m args meth c R w own nm cc nL rt fr lo mc ms) {ix : Nat} {x y : Int32} (d : decode cc pc = .ok (.invokestatic ix, 3)) (w1 : Cond.methodLink own ix Lib.Math.max.name ∈ WA) (w2 : Cond.static Lib.Math.max.name ∈ WA) (w3 : Cond.initialized "java/lang/Math" ∈ WA) (w4 : Cond.code Lib.Math.max.name Lib.Math.max.code 2 (some .int) ∈ WA) (hf : 1 ≤ fr) (hlo : (st.map fun v => v.category).sum + 13 ≤ lo) (hc1 : cells ≤ mc) (hc2 : slots ≤ ms) (K : ZW p l e R s m args below meth c w nL hs n cells slots Q (pc + 3) lv (.int (if x < y then y else x) :: st)) : ZW p l e R s m args below meth c w nL hs n cells slots Q pc lv (.int y :: .int x :: st) := fun H locs ls hP hS hl =>
  va_mmax C.1 C.2.1 (C.2.2.1.trans hl.1.symm) C.2.2.2.1 (C.2.2.2.2.1 _ w1) (C.2.2.2.2.1 _ w2) (C.2.2.2.2.1 _ w3) (C.2.2.2.2.1 _ w4) (by rw [C.2.2.2.2.2.2.2.1.1]; exact hf) (by rw [C.2.2.2.2.2.2.2.1.2.1]; exact hlo) (by rw [C.2.2.2.2.2.2.2.1.2.2.1]; exact hc1) (by rw [C.2.2.2.2.2.2.2.1.2.2.2]; exact hc2) d (K H locs ls hP hS hl)
theorem z_min (C : Ctx p s m args meth c R w own nm cc nL rt fr lo mc ms) {ix : Nat} {x y : Int32} (d : decode cc pc = .ok (.invokestatic ix, 3)) (w1 : Cond.methodLink own ix Lib.Math.min.name ∈ WA) (w2 : Cond.static Lib.Math.min.name ∈ WA) (w3 : Cond.initialized "java/lang/Math" ∈ WA) (w4 : Cond.code Lib.Math.min.name Lib.Math.min.code 2 (some .int) ∈ WA) (hf : 1 ≤ fr) (hlo : (st.map fun v => v.category).sum + 13 ≤ lo) (hc1 : cells ≤ mc) (hc2 : slots ≤ ms) (K : ZW p l e R s m args below meth c w nL hs n cells slots Q (pc + 3) lv (.int (if y < x then y else x) :: st)) : ZW p l e R s m args below meth c w nL hs n cells slots Q pc lv (.int y :: .int x :: st) := fun H locs ls hP hS hl =>
  va_mmin C.1 C.2.1 (C.2.2.1.trans hl.1.symm) C.2.2.2.1 (C.2.2.2.2.1 _ w1) (C.2.2.2.2.1 _ w2) (C.2.2.2.2.1 _ w3) (C.2.2.2.2.1 _ w4) (by rw [C.2.2.2.2.2.2.2.1.1]; exact hf) (by rw [C.2.2.2.2.2.2.2.1.2.1]; exact hlo) (by rw [C.2.2.2.2.2.2.2.1.2.2.1]; exact hc1) (by rw [C.2.2.2.2.2.2.2.1.2.2.2]; exact hc2) d (K H locs ls hP hS hl)
theorem z_abs (C : Ctx p s m args meth c R w own nm cc nL rt fr lo mc ms) {ix : Nat} {x : Int32} (d : decode cc pc = .ok (.invokestatic ix, 3)) (w1 : Cond.methodLink own ix Lib.Math.abs.name ∈ WA) (w2 : Cond.static Lib.Math.abs.name ∈ WA) (w3 : Cond.initialized "java/lang/Math" ∈ WA) (w4 : Cond.code Lib.Math.abs.name Lib.Math.abs.code 1 (some .int) ∈ WA) (hf : 1 ≤ fr) (hlo : (st.map fun v => v.category).sum + 13 ≤ lo) (hc1 : cells ≤ mc) (hc2 : slots ≤ ms) (K : ZW p l e R s m args below meth c w nL hs n cells slots Q (pc + 3) lv (.int (if 0 ≤ x then x else 0 - x) :: st)) : ZW p l e R s m args below meth c w nL hs n cells slots Q pc lv (.int x :: st) := fun H locs ls hP hS hl =>
  va_mabs C.1 C.2.1 (C.2.2.1.trans hl.1.symm) C.2.2.2.1 (C.2.2.2.2.1 _ w1) (C.2.2.2.2.1 _ w2) (C.2.2.2.2.1 _ w3) (C.2.2.2.2.1 _ w4) (by rw [C.2.2.2.2.2.2.2.1.1]; exact hf) (by rw [C.2.2.2.2.2.2.2.1.2.1]; exact hlo) (by rw [C.2.2.2.2.2.2.2.1.2.2.1]; exact hc1) (by rw [C.2.2.2.2.2.2.2.1.2.2.2]; exact hc2) d (K H locs ls hP hS hl)
theorem z_objinit (C : Ctx p s m args meth c R w own nm cc nL rt fr lo mc ms) {ix x : Nat} (d : decode cc pc = .ok (.invokespecial ix, 3)) (w1 : Cond.methodLink own ix Lib.objectInit ∈ WA) (w2 : Cond.instanceMethod Lib.objectInit ∈ WA) (w3 : Cond.code Lib.objectInit ⟨#[0xb1]⟩ 1 none ∈ WA) (hf : 1 ≤ fr) (hlo : (st.map fun v => v.category).sum + 12 ≤ lo) (K : ZW p l e R s m args below meth c w nL hs n cells slots Q (pc + 3) lv st) : ZW p l e R s m args below meth c w nL hs n cells slots Q pc lv (.ref x :: st) := fun H locs ls hP hS hl =>
  W.objInit C.1 C.2.1 C.2.2.2.1 (C.2.2.2.2.1 _ w1) (C.2.2.2.2.1 _ w2) (C.2.2.2.2.1 _ w3) rfl (hl.1.trans C.2.2.1.symm) rfl d (by rw [C.2.2.2.2.2.2.2.1.1]; exact hf) (by rw [C.2.2.2.2.2.2.2.1.2.1]; show 2 * 0 + _ + 12 ≤ lo; omega) (K H locs ls hP hS hl)
theorem z_copy (C : Ctx p s m args meth c R w own nm cc nL rt fr lo mc ms) {ix i j n0 n1 : Nat} {f g : Nat → Int32} {x : Int32} (d : decode cc pc = .ok (.invokestatic ix, 3)) (w1 : Cond.methodLink own ix arraycopyName ∈ WA) (w2 : Cond.native arraycopyName ∈ WA) (w3 : Cond.static arraycopyName ∈ WA) (w4 : Cond.initialized "java/lang/System" ∈ WA) (hi : hs i = some (.inl (wC w 0, n0, .inl f))) (hj : hs j = some (.inl (wC w 0, n1, .inl g))) (h3 : ¬ x < 0) (h4 : x.toNatClampNeg ≤ n0) (h5 : x.toNatClampNeg ≤ n1) (hf : 1 ≤ fr) (hlo : (st.map fun v => v.category).sum + (nativeFrameWords "java/lang/System" "arraycopy" 5 + 11) ≤ lo) (K : ZW p l e R s m args below meth c w nL (upH hs j (.inl (wC w 0, n1, .inl (va_cpy f g 0 0 x.toNatClampNeg)))) n cells slots Q (pc + 3) lv st) : ZW p l e R s m args below meth c w nL hs n cells slots Q pc lv (.int x :: .int 0 :: .ref (wB w + j) :: .int 0 :: .ref (wB w + i) :: st) := by
  intro H locs ls hP hS hl
  have z0 : (0 : Int32).toNatClampNeg = 0 := by decide
  have hx9 : x.toInt = (x.toNatClampNeg : Int) := by
    have hz0 : (0 : Int) ≤ x.toInt := by
      have := Int32.not_lt.mp h3
      simpa using Int32.le_iff_toInt_le.mp this
    show x.toInt = ((x.toInt.toNat : Nat) : Int)
    omega
  obtain ⟨hx, hb, hml, hown, hts, -, -, hR, hK, -, -⟩ := C
  intro T hT X
  have hc0 : H[wB w + i]? = some (vp_cell (wC w 0) (n0, .inl f)) := hP.2 i _ hi
  have hc1 : H[wB w + j]? = some (vp_cell (wC w 0) (n1, .inl g)) := hP.2 j _ hj
  obtain ⟨-, k0, hk0, cm0, hkk0⟩ := (hK.2 0 _ rfl).1 n0 (fun j => .int (f j))
  obtain ⟨vm9, X9, step⟩ := X.arraycopy hx hown (hts _ w1) (hts _ w2) (hts _ w3) (hts _ w4) (src := wB w + i) (dst := wB w + j) (cs := vp_cell (wC w 0) (n0, .inl f)) (cd := vp_cell (wC w 0) (n1, .inl g)) (srcPos := 0) (destPos := 0) (n := x) (by rw [hT]; exact hc0) (by rw [hT]; exact hc1)
    (fun _ h => by cases h) (fun _ h => by cases h) (fun h => by cases h) (fun h => by cases h) hk0 hk0 hkk0 hkk0 rfl (by decide) (by decide) h3
    (by rw [hx9]; show ¬ (0 : Int) + _ > ((arrV (wC w 0) n0 (fun j => .int (f j))).slots.size : Int); rw [arrV_size]; omega)
    (by rw [hx9]; show ¬ (0 : Int) + _ > ((arrV (wC w 0) n1 (fun j => .int (g j))).slots.size : Int); rw [arrV_size]; omega)
    (fun vm₁ _ k hk => by
      have e9 : (vp_cell (wC w 0) (n0, .inl f)).slots.getD ((0 : Int32).toNatClampNeg + k) .null = .int (f ((0 : Int32).toNatClampNeg + k)) := by
        show (arrV (wC w 0) n0 (fun j => .int (f j))).slots.getD _ _ = _
        rw [Array.getD_eq_getD_getElem?, arrV_read _ _ (by rw [z0]; omega)]
        rfl
      exact ⟨by rw [e9]; rfl, by rw [e9]; exact trivial⟩)
    (g := F0 m pc ls (.int x :: .int 0 :: .ref (wB w + j) :: .int 0 :: .ref (wB w + i) :: st)) rfl (by rw [hml]; exact hl.1) (rest := st) rfl (by rw [hb]; exact d) (by rw [hR.1]; exact hf) (by rw [hR.2.1]; show 2 * 0 + _ + _ ≤ _; omega)
  have e1 : copied (vp_cell (wC w 0) (n0, .inl f)) (vp_cell (wC w 0) (n1, .inl g)) 0 0 x = vp_cell (wC w 0) (n1, .inl (va_cpy f g (0 : Int32).toNatClampNeg (0 : Int32).toNatClampNeg x.toNatClampNeg)) := va_copied (fun z => .int z) (wC w 0) (wC w 0) f g (by rw [z0]; omega)
  rw [e1, z0] at X9 step
  generalize hce : vp_cell (wC w 0) (n1, .inl (va_cpy f g 0 0 x.toNatClampNeg)) = ce at X9 step
  have hlt : wB w + j < H.size := (Array.getElem?_eq_some_iff.mp hc1).1
  have hheap : ((T.setVm vm9).setCell (wB w + j) ce).heap = H.setIfInBounds (wB w + j) ce := by rw [← hT]; rfl
  have o1 : ∀ q : Nat, q ≠ wB w + j → (H.setIfInBounds (wB w + j) ce)[q]? = H[q]? := fun q hq => by simp [Array.getElem?_setIfInBounds, Ne.symm hq]
  have hA : wA w (wB w + j) := Nat.le_add_right _ _
  obtain ⟨t, a1, b1⟩ := K (H.setIfInBounds (wB w + j) ce) _ ls (hP.set (e := .inl (wC w 0, n1, .inl (va_cpy f g 0 0 x.toNatClampNeg))) (show (H.setIfInBounds (wB w + j) ce)[wB w + j]? = some _ by rw [← hce]; simp [Array.getElem?_setIfInBounds, hlt]) (by simp) o1) ⟨by simp; exact hS.1, fun q g1 g2 => by
      rw [o1 q (fun e9 => g2 (by rw [e9]; exact hA))]
      exact hS.2.1 q g1 g2, fun q hq => by
      rcases List.mem_append.mp hq with h | h
      · exact hS.2.2 q h
      · obtain ⟨z, -, hz⟩ := List.mem_map.mp h
        rw [← hz]
        exact hA⟩ hl _ hheap X9
  exact ⟨t, step t a1, b1⟩
end ZN
end
section
section ZK
variable {p : Program} {l : Launch} {e : Env} {R : Room} {s : State} {m : MethodId} {args : Array Value} {below : List Frame} {meth : Method} {c : Code} {w : Wt} {own nm : String} {cc : ByteArray} {nL : Nat} {rt : Option FieldType} {fr lo mc ms : Nat} {hs : Hs} {n : Option Nat} {cells slots : Nat} {Q : State → Prop} {pc : Nat} {lv : List (Nat × Value)} {st : List Value}
/-- the words of a call: of a virtual one, a static one, a constructor's -/
def CV (own : String) (ix ci na : Nat) (d : MD) : Prop := Cond.methodLink own ix d.1 ∈ WA ∧ Cond.instanceMethod d.1 ∈ WA ∧ Cond.selects d.1.cls d.1 d.1 ∈ WA ∧ Cond.initialized d.1.cls ∈ WA ∧ Cond.code d.1 d.2.1 d.2.2.1 d.2.2.2.1 ∈ WA ∧ (∃ (T : u_T) (N : Nat), vwCl[ci]? = some (d.1.cls, T, N)) ∧ (d.1.cls ≠ "java/lang/invoke/MethodHandle" ∧ d.1.cls ≠ "java/lang/invoke/VarHandle" ∧ (parseMethodDescriptor d.1.desc).map (fun q => q.parameters.length) = some na)
def CS (own : String) (ix na : Nat) (d : MD) : Prop := Cond.methodLink own ix d.1 ∈ WA ∧ Cond.static d.1 ∈ WA ∧ Cond.initialized d.1.cls ∈ WA ∧ Cond.code d.1 d.2.1 d.2.2.1 d.2.2.2.1 ∈ WA ∧ (d.1.cls ≠ "java/lang/invoke/MethodHandle" ∧ d.1.cls ≠ "java/lang/invoke/VarHandle" ∧ (parseMethodDescriptor d.1.desc).map (fun q => q.parameters.length) = some na)
def CI (own : String) (ix na : Nat) (d : MD) : Prop := Cond.methodLink own ix d.1 ∈ WA ∧ Cond.instanceMethod d.1 ∈ WA ∧ Cond.initialized d.1.cls ∈ WA ∧ Cond.code d.1 d.2.1 d.2.2.1 d.2.2.2.1 ∈ WA ∧ d.1.name = "<init>" ∧ d.2.2.2.1 = none ∧ (d.1.cls ≠ "java/lang/invoke/MethodHandle" ∧ d.1.cls ≠ "java/lang/invoke/VarHandle" ∧ (parseMethodDescriptor d.1.desc).map (fun q => q.parameters.length) = some na)
theorem mws_ok (C : Ctx p s m args meth c R w own nm cc nL rt fr lo mc ms) {d : MD} (hc : Cond.code d.1 d.2.1 d.2.2.1 d.2.2.2.1 ∈ WA) : ∀ x ∈ mws d, ∀ (a9 : Array Value) (U : State), s.WarmedH U.vm → x.before a9 U = true := by
  intro x hx a9 U hW
  have h9 : x ∈ WA := by
    rcases List.mem_cons.mp hx with h | h
    · rw [h]; exact hc
    · exact h
  exact word_at hW (good_of_word (wa_good x h9)) (C.2.2.2.2.1 x h9)
/-- the room a callee needs, in the caller's -/
def RM (d : MD) (fr lo : Nat) : Prop := d.2.2.2.2.1 + 1 ≤ fr ∧ 8 + (d.2.2.1 + 11) + d.2.2.2.2.2 ≤ lo
theorem callB9 (C : Ctx p s m args meth c R w own nm cc nL rt fr lo mc ms) {ix na c1 s1 : Nat} {d : MD} (hR : RM d fr lo) (hcode : Cond.code d.1 d.2.1 d.2.2.1 d.2.2.2.1 ∈ WA) (hini : Cond.initialized d.1.cls ∈ WA) (hlink : Cond.methodLink own ix d.1 ∈ WA) (hd : d.1.cls ≠ "java/lang/invoke/MethodHandle" ∧ d.1.cls ≠ "java/lang/invoke/VarHandle" ∧ (parseMethodDescriptor d.1.desc).map (fun q => q.parameters.length) = some na) :
    CallB R s args own ix d.1 d.2.1 d.2.2.1 d.2.2.2.1 (mws d) (mrm d c1 s1) c1 s1 na := by
  have hts := C.2.2.2.2.1
  refine ⟨rfl, rfl, by rw [C.2.2.2.2.2.2.2.1.1]; exact hR.1, by rw [C.2.2.2.2.2.2.2.1.2.1]; exact hR.2, mws_ok C hcode, List.mem_cons_self, hts _ hcode, hts _ hini, ⟨hd.1, hd.2.1⟩, fun sig h => ?_, hts _ hlink⟩
  have h2 := hd.2.2
  rw [h] at h2
  exact (Option.some.inj h2).symm
theorem pre9 (C : Ctx p s m args meth c R w own nm cc nL rt fr lo mc ms) {H : Heap} {locs : List Loc} {av : List Value} (hP : PH w hs n H) (hS : va_S (wA w) s.heap H locs) : PreS s H (va_Pc av (WS w hs n)) av :=
  ⟨WS_blind w hs n av, fun U hU hW => ⟨rfl, by rw [hU]; exact hP, va_K.moved hW.alike C.2.2.2.2.2.2.2.2.1, OL.to C.2.2.2.2.2.2.2.2.2.1 hW hU hS⟩⟩
theorem run9 {H : Heap} {locs : List Loc} {c1 s1 : Nat} {ls : Array Slot} {st0 rest : List Value} {a : Array Value} {hs9 : Hs} {n9 : Option Nat} {v : Option Value} (hr : va_Run p l e R s m args below meth c H locs cells slots c1 s1 (F0 m pc ls st0) rest (Qn w hs9 n9 v a) (wA w)) (hS : va_S (wA w) s.heap H locs) (hl : lv_has ls nL lv)
    (K : ZW p l e R s m args below meth c w nL hs9 n9 (cells + c1) (slots + s1) Q (pc + 3) lv (v.toList ++ rest)) : W p l e R s m args below meth c H locs cells slots Q (F0 m pc ls st0) := by
  intro T hT X
  obtain ⟨v9, st9, t, T9, L, h0, X9, hL, e1, e2, ⟨hv, hP9, hz, hk⟩, step⟩ := hr T hT X
  cases hv
  rw [h0] at hz hk
  rw [← e1] at hP9
  obtain ⟨t2, a1, b1⟩ := K T9.heap (locs ++ L) ls hP9 ⟨Nat.le_trans hS.1 (by rw [e1]; exact hz), fun q h1 h2 => by rw [e1, hk q (Nat.lt_of_lt_of_le h1 hS.1) h2]; exact hS.2.1 q h1 h2, fun q hq => by
      rcases List.mem_append.mp hq with h | h
      · exact hS.2.2 q h
      · exact hL q h⟩ hl T9 rfl X9
  exact ⟨t2, step t2 a1, b1⟩
theorem z_callV1 (C : Ctx p s m args meth c R w own nm cc nL rt fr lo mc ms) {ix ci na c1 s1 i : Nat} {d : MD} {fs As rest : List Value} {hs9 : Hs} {n9 : Option Nat} {v : Value} (dd : decode cc pc = .ok (.invokevirtual ix, 3)) (g : CV own ix ci na d) (hC : Cn l w d c1 s1 (.ref (wB w + i) :: As) hs n hs9 n9 (some v)) (hh : hs i = some (.inr (ci, fs))) (hst : st = As.reverse ++ .ref (wB w + i) :: rest) (hn : As.length = na) (hcat : (rest.map fun v => v.category).sum ≤ 8) (hR : RM d fr lo) (hf : cells + c1 ≤ mc ∧ slots + s1 ≤ ms) (K : ZW p l e R s m args below meth c w nL hs9 n9 (cells + c1) (slots + s1) Q (pc + 3) lv (v :: rest)) : ZW p l e R s m args below meth c w nL hs n cells slots Q pc lv st := by
  intro H locs ls hP hS hl
  obtain ⟨w1, w2, w3, w4, w5, ⟨T, N, hc⟩, hd⟩ := g
  have hpre := pre9 C (av := .ref (wB w + i) :: As) hP hS
  have hrecv := va_recv (D := wG w) C.2.2.2.2.2.2.2.2.1 (P1 hP hh) (ci := ci) (q0 := 0) hc rfl
  exact run9 (va_runV (C := d.1.cls) ⟨C.1, C.2.1, C.2.2.1, C.2.2.2.1, C.2.2.2.2.1⟩ hC ⟨callB9 C hR w5 w4 w1 hd, C.2.2.2.2.1 _ w2, C.2.2.2.2.1 _ w3⟩ ⟨hpre.1, hrecv, hpre.2⟩ rfl hn hl.1 hst (lv_room hcat) dd ⟨by rw [C.2.2.2.2.2.2.2.1.2.2.1]; exact hf.1, by rw [C.2.2.2.2.2.2.2.1.2.2.2]; exact hf.2⟩) hS hl K
theorem z_callS1 (C : Ctx p s m args meth c R w own nm cc nL rt fr lo mc ms) {ix na c1 s1 : Nat} {d : MD} {As rest : List Value} {hs9 : Hs} {n9 : Option Nat} {v : Value} (dd : decode cc pc = .ok (.invokestatic ix, 3)) (g : CS own ix na d) (hC : Cn l w d c1 s1 As hs n hs9 n9 (some v)) (hst : st = As.reverse ++ rest) (hn : As.length = na) (hcat : (rest.map fun v => v.category).sum ≤ 8) (hR : RM d fr lo) (hf : cells + c1 ≤ mc ∧ slots + s1 ≤ ms) (K : ZW p l e R s m args below meth c w nL hs9 n9 (cells + c1) (slots + s1) Q (pc + 3) lv (v :: rest)) : ZW p l e R s m args below meth c w nL hs n cells slots Q pc lv st := by
  intro H locs ls hP hS hl
  obtain ⟨w1, w2, w4, w5, hd⟩ := g
  exact run9 (va_runS ⟨C.1, C.2.1, C.2.2.1, C.2.2.2.1, C.2.2.2.2.1⟩ hC ⟨callB9 C hR w5 w4 w1 hd, C.2.2.2.2.1 _ w2⟩ (pre9 C (av := As) hP hS) rfl hn hl.1 hst (lv_room hcat) dd ⟨by rw [C.2.2.2.2.2.2.2.1.2.2.1]; exact hf.1, by rw [C.2.2.2.2.2.2.2.1.2.2.2]; exact hf.2⟩) hS hl K
theorem z_callV0 (C : Ctx p s m args meth c R w own nm cc nL rt fr lo mc ms) {ix ci na c1 s1 i : Nat} {d : MD} {fs As rest : List Value} {hs9 : Hs} {n9 : Option Nat} (dd : decode cc pc = .ok (.invokevirtual ix, 3)) (g : CV own ix ci na d) (hC : Cn l w d c1 s1 (.ref (wB w + i) :: As) hs n hs9 n9 none) (hh : hs i = some (.inr (ci, fs))) (hst : st = As.reverse ++ .ref (wB w + i) :: rest) (hn : As.length = na) (hcat : (rest.map fun v => v.category).sum ≤ 8) (hR : RM d fr lo) (hf : cells + c1 ≤ mc ∧ slots + s1 ≤ ms) (K : ZW p l e R s m args below meth c w nL hs9 n9 (cells + c1) (slots + s1) Q (pc + 3) lv rest) : ZW p l e R s m args below meth c w nL hs n cells slots Q pc lv st := by
  intro H locs ls hP hS hl
  obtain ⟨w1, w2, w3, w4, w5, ⟨T, N, hc⟩, hd⟩ := g
  have hpre := pre9 C (av := .ref (wB w + i) :: As) hP hS
  have hrecv := va_recv (D := wG w) C.2.2.2.2.2.2.2.2.1 (P1 hP hh) (ci := ci) (q0 := 0) hc rfl
  exact run9 (va_runV (C := d.1.cls) ⟨C.1, C.2.1, C.2.2.1, C.2.2.2.1, C.2.2.2.2.1⟩ hC ⟨callB9 C hR w5 w4 w1 hd, C.2.2.2.2.1 _ w2, C.2.2.2.2.1 _ w3⟩ ⟨hpre.1, hrecv, hpre.2⟩ rfl hn hl.1 hst (lv_room hcat) dd ⟨by rw [C.2.2.2.2.2.2.2.1.2.2.1]; exact hf.1, by rw [C.2.2.2.2.2.2.2.1.2.2.2]; exact hf.2⟩) hS hl K
theorem z_callS0 (C : Ctx p s m args meth c R w own nm cc nL rt fr lo mc ms) {ix na c1 s1 : Nat} {d : MD} {As rest : List Value} {hs9 : Hs} {n9 : Option Nat} (dd : decode cc pc = .ok (.invokestatic ix, 3)) (g : CS own ix na d) (hC : Cn l w d c1 s1 As hs n hs9 n9 none) (hst : st = As.reverse ++ rest) (hn : As.length = na) (hcat : (rest.map fun v => v.category).sum ≤ 8) (hR : RM d fr lo) (hf : cells + c1 ≤ mc ∧ slots + s1 ≤ ms) (K : ZW p l e R s m args below meth c w nL hs9 n9 (cells + c1) (slots + s1) Q (pc + 3) lv rest) : ZW p l e R s m args below meth c w nL hs n cells slots Q pc lv st := by
  intro H locs ls hP hS hl
  obtain ⟨w1, w2, w4, w5, hd⟩ := g
  exact run9 (va_runS ⟨C.1, C.2.1, C.2.2.1, C.2.2.2.1, C.2.2.2.2.1⟩ hC ⟨callB9 C hR w5 w4 w1 hd, C.2.2.2.2.1 _ w2⟩ (pre9 C (av := As) hP hS) rfl hn hl.1 hst (lv_room hcat) dd ⟨by rw [C.2.2.2.2.2.2.2.1.2.2.1]; exact hf.1, by rw [C.2.2.2.2.2.2.2.1.2.2.2]; exact hf.2⟩) hS hl K
theorem z_callI (C : Ctx p s m args meth c R w own nm cc nL rt fr lo mc ms) {ix na c1 s1 i : Nat} {d : MD} {As rest : List Value} {hs9 : Hs} {n9 : Option Nat} (dd : decode cc pc = .ok (.invokespecial ix, 3)) (g : CI own ix na d) (hC : Cn l w d c1 s1 (.ref (wB w + i) :: As) hs n hs9 n9 none) (hst : st = As.reverse ++ .ref (wB w + i) :: rest) (hn : As.length = na) (hcat : (rest.map fun v => v.category).sum ≤ 8) (hR : RM d fr lo) (hf : cells + c1 ≤ mc ∧ slots + s1 ≤ ms) (K : ZW p l e R s m args below meth c w nL hs9 n9 (cells + c1) (slots + s1) Q (pc + 3) lv rest) : ZW p l e R s m args below meth c w nL hs n cells slots Q pc lv st := by
  intro H locs ls hP hS hl
  obtain ⟨w1, w2, w4, w5, hi9, hr9, hd⟩ := g
  have hB := callB9 (c1 := c1) (s1 := s1) C hR w5 w4 w1 hd
  rw [hr9] at hB
  exact run9 (va_runI ⟨C.1, C.2.1, C.2.2.1, C.2.2.2.1, C.2.2.2.2.1⟩ hC ⟨hB, hi9, C.2.2.2.2.1 _ w2⟩ (pre9 C (av := .ref (wB w + i) :: As) hP hS) rfl hn hl.1 hst (lv_room hcat) dd ⟨by rw [C.2.2.2.2.2.2.2.1.2.2.1]; exact hf.1, by rw [C.2.2.2.2.2.2.2.1.2.2.2]; exact hf.2⟩) hS hl K
theorem nle {n9 : Option Nat} (h : n9 = n ∨ n9 = none) {H : Heap} (hP : PH w hs n H) : PH w hs n9 H := by
  rcases h with h | h
  · rw [h]; exact hP
  · rw [h]; exact hP.any
theorem z_iret (C : Ctx p s m args meth c R w own nm cc nL rt fr lo mc ms) {x : Int32} {v : Value} {hs9 : Hs} {n9 : Option Nat} (d : decode cc pc = .ok (.ireturn, 1)) (hrt : rt = some .int) (hv : v = .int x) (hh : hs = hs9) (hn : n9 = n ∨ n9 = none) : ZW p l e R s m args below meth c w nL hs n cells slots (MQ below (Qn w hs9 n9 (some v)) args s cells slots (wA w)) pc lv [.int x] := by
  subst hv; subst hh
  exact fun H locs ls hP hS hl => W.iret C.1 C.2.1 (C.2.2.2.2.2.2.1.trans hrt) (fun t ht hW => ⟨rfl, by rw [ht]; exact nle hn hP, hS.F ht⟩) hS.2.2 d (hlocks := C.2.2.2.2.2.1)
theorem z_zret (C : Ctx p s m args meth c R w own nm cc nL rt fr lo mc ms) {x : Int32} {v : Value} {ty : FieldType} {hs9 : Hs} {n9 : Option Nat} (d : decode cc pc = .ok (.ireturn, 1)) (hrt : rt = some ty) (hx : narrow ty (.int x) = .int x) (hv : v = .int x) (hh : hs = hs9) (hn : n9 = n ∨ n9 = none) : ZW p l e R s m args below meth c w nL hs n cells slots (MQ below (Qn w hs9 n9 (some v)) args s cells slots (wA w)) pc lv [.int x] := by
  subst hv; subst hh
  exact fun H locs ls hP hS hl => W.zret C.1 C.2.1 (C.2.2.2.2.2.2.1.trans hrt) hx (fun t ht hW => ⟨rfl, by rw [ht]; exact nle hn hP, hS.F ht⟩) hS.2.2 d (hlocks := C.2.2.2.2.2.1)
theorem z_lret (C : Ctx p s m args meth c R w own nm cc nL rt fr lo mc ms) {x : Int64} {v : Value} {hs9 : Hs} {n9 : Option Nat} (d : decode cc pc = .ok (.lreturn, 1)) (hrt : rt = some .long) (hv : v = .long x) (hh : hs = hs9) (hn : n9 = n ∨ n9 = none) : ZW p l e R s m args below meth c w nL hs n cells slots (MQ below (Qn w hs9 n9 (some v)) args s cells slots (wA w)) pc lv [.long x] := by
  subst hv; subst hh
  exact fun H locs ls hP hS hl => W.lret C.1 C.2.1 (C.2.2.2.2.2.2.1.trans hrt) (fun t ht hW => ⟨rfl, by rw [ht]; exact nle hn hP, hS.F ht⟩) hS.2.2 d (hlocks := C.2.2.2.2.2.1)
theorem z_aret (C : Ctx p s m args meth c R w own nm cc nL rt fr lo mc ms) {x : Nat} {v : Value} {ty : FieldType} {hs9 : Hs} {n9 : Option Nat} (d : decode cc pc = .ok (.areturn, 1)) (hrt : rt = some ty) (hty : (∃ q, ty = .object q) ∨ ∃ t, ty = .array t) (hv : v = .ref x) (hh : hs = hs9) (hn : n9 = n ∨ n9 = none) : ZW p l e R s m args below meth c w nL hs n cells slots (MQ below (Qn w hs9 n9 (some v)) args s cells slots (wA w)) pc lv [.ref x] := by
  subst hv; subst hh
  exact fun H locs ls hP hS hl => W.aret C.1 C.2.1 (C.2.2.2.2.2.2.1.trans hrt) hty (Or.inr ⟨_, rfl⟩) (fun t ht hW => ⟨rfl, by rw [ht]; exact nle hn hP, hS.F ht⟩) hS.2.2 d (hlocks := C.2.2.2.2.2.1)
theorem z_vret (C : Ctx p s m args meth c R w own nm cc nL rt fr lo mc ms) {hs9 : Hs} {n9 : Option Nat} (d : decode cc pc = .ok (.return_, 1)) (hrt : rt = none) (hh : hs = hs9) (hn : n9 = n ∨ n9 = none) : ZW p l e R s m args below meth c w nL hs n cells slots (MQ below (Qn w hs9 n9 none) args s cells slots (wA w)) pc lv [] := by
  subst hh
  exact fun H locs ls hP hS hl => W.vret C.1 C.2.1 (C.2.2.2.2.2.2.1.trans hrt) (fun t ht hW => ⟨rfl, by rw [ht]; exact nle hn hP, hS.F ht⟩) hS.2.2 d (hlocks := C.2.2.2.2.2.1)
end ZK
theorem Cn.of {l : Launch} {w : Wt} {d : MD} {c1 s1 : Nat} {av : List Value} {hs hs9 : Hs} {n n9 : Option Nat} {v : Option Value} (hpl : plainName d.1.cls = true) (hav : (lg_sl av).length ≤ d.2.2.1)
    (body : ∀ (p : Program) (e : Env) (R : Room) (s : State) (m : MethodId) (args : Array Value) (below : List Frame) (meth : Method) (c : Code), Ctx p s m args meth c R w d.1.cls d.1.name d.2.1 d.2.2.1 d.2.2.2.1 d.2.2.2.2.1 d.2.2.2.2.2 c1 s1 →
      ZW p l e R s m args below meth c w d.2.2.1 hs n 0 0 (MQ below (Qn w hs9 n9 v) args s c1 s1 (wA w)) 0 (lv_args 0 av) []) : Cn l w d c1 s1 av hs n hs9 n9 v := by
  refine Met.ofW (cc := d.2.1) (maxL := d.2.2.1) (ret := d.2.2.2.1) hpl rfl ?_
  intro p e s m args below meth c s₁ B hml hv
  obtain ⟨rfl, hP, hK, hO⟩ := hv
  have hts : ∀ x ∈ WA, x.before av.toArray s = true := fun x hx => atoms_spec (ws := mws d) B.pre x (List.mem_cons_of_mem _ hx)
  have K := body p e (headSpec (mws d) (mrm d c1 s1)).room s m av.toArray below meth c ⟨B.exec, B.bytes, hml, findClass_of_methodNamed B.named, hts, B.notSynchronized, B.returns, ⟨rfl, rfl, rfl, rfl⟩, hK, hO, (name_of_methodNamed B.named B.method).1⟩
  rw [lg_entry_eq]
  exact K s.heap [] _ hP va_S.rf (lv_entry av hav)
end
