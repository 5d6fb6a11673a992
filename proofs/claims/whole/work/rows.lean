section
-- ===== PART A: goes FIRST, ahead of the names: the tables' words, and 'selects' of the private methods out of them =====
/-- a private method of a class that the tables say can be made, by its rows of tables_1 -/
def lw_okq (q : MethodName × Nat) : Prop := (q.1.cls ≠ "java/lang/invoke/MethodHandle" ∧ q.1.cls ≠ "java/lang/invoke/VarHandle") ∧ Cond.instantiable q.1.cls q.2 ∈ tables_1 ∧ Cond.privateMethod q.1 ∈ tables_1 ∧ Cond.instanceMethod q.1 ∈ tables_1
theorem lw_p0 : lw_okq (⟨"OnionCourt$Witness", "item", "(LOnionCourt$Tape;)V"⟩, 4) := ⟨⟨by decide +kernel, by decide +kernel⟩, List.mem_of_getElem? (i := 149) (by decide +kernel), List.mem_of_getElem? (i := 526) (by decide +kernel), List.mem_of_getElem? (i := 527) (by decide +kernel)⟩
theorem lw_p1 : lw_okq (⟨"OnionCourt$Archive", "line", "(LOnionCourt$Tape;LOnionCourt$Questions;)V"⟩, 7) := ⟨⟨by decide +kernel, by decide +kernel⟩, List.mem_of_getElem? (i := 140) (by decide +kernel), List.mem_of_getElem? (i := 563) (by decide +kernel), List.mem_of_getElem? (i := 564) (by decide +kernel)⟩
theorem lw_p2 : lw_okq (⟨"OnionCourt$Archive", "whatIsWrongWith", "(I)I"⟩, 7) := ⟨⟨by decide +kernel, by decide +kernel⟩, List.mem_of_getElem? (i := 140) (by decide +kernel), List.mem_of_getElem? (i := 568) (by decide +kernel), List.mem_of_getElem? (i := 569) (by decide +kernel)⟩
theorem lw_p3 : lw_okq (⟨"OnionCourt$Archive", "live", "(ILOnionCourt$Law;LOnionCourt$Case;)V"⟩, 7) := ⟨⟨by decide +kernel, by decide +kernel⟩, List.mem_of_getElem? (i := 140) (by decide +kernel), List.mem_of_getElem? (i := 643) (by decide +kernel), List.mem_of_getElem? (i := 644) (by decide +kernel)⟩
theorem lw_p4 : lw_okq (⟨"OnionCourt$Law", "run", "(IILOnionCourt$Case;)J"⟩, 9) := ⟨⟨by decide +kernel, by decide +kernel⟩, List.mem_of_getElem? (i := 61) (by decide +kernel), List.mem_of_getElem? (i := 664) (by decide +kernel), List.mem_of_getElem? (i := 665) (by decide +kernel)⟩
theorem lw_p5 : lw_okq (⟨"OnionCourt", "canWeigh", "(I)Z"⟩, 14) := ⟨⟨by decide +kernel, by decide +kernel⟩, List.mem_of_getElem? (i := 17) (by decide +kernel), List.mem_of_getElem? (i := 745) (by decide +kernel), List.mem_of_getElem? (i := 746) (by decide +kernel)⟩
theorem lw_p6 : lw_okq (⟨"OnionCourt", "weigh", "(I)V"⟩, 14) := ⟨⟨by decide +kernel, by decide +kernel⟩, List.mem_of_getElem? (i := 17) (by decide +kernel), List.mem_of_getElem? (i := 754) (by decide +kernel), List.mem_of_getElem? (i := 755) (by decide +kernel)⟩
theorem lw_p7 : lw_okq (⟨"OnionCourt", "mostOpen", "()I"⟩, 14) := ⟨⟨by decide +kernel, by decide +kernel⟩, List.mem_of_getElem? (i := 17) (by decide +kernel), List.mem_of_getElem? (i := 833) (by decide +kernel), List.mem_of_getElem? (i := 834) (by decide +kernel)⟩
theorem lw_p8 : lw_okq (⟨"OnionCourt", "mostTrue", "(II)I"⟩, 14) := ⟨⟨by decide +kernel, by decide +kernel⟩, List.mem_of_getElem? (i := 17) (by decide +kernel), List.mem_of_getElem? (i := 894) (by decide +kernel), List.mem_of_getElem? (i := 895) (by decide +kernel)⟩
theorem lw_p9 : lw_okq (⟨"OnionCourt", "canBoth", "(III)Z"⟩, 14) := ⟨⟨by decide +kernel, by decide +kernel⟩, List.mem_of_getElem? (i := 17) (by decide +kernel), List.mem_of_getElem? (i := 898) (by decide +kernel), List.mem_of_getElem? (i := 899) (by decide +kernel)⟩
theorem lw_p10 : lw_okq (⟨"OnionCourt", "isTogether", "(II)Z"⟩, 14) := ⟨⟨by decide +kernel, by decide +kernel⟩, List.mem_of_getElem? (i := 17) (by decide +kernel), List.mem_of_getElem? (i := 909) (by decide +kernel), List.mem_of_getElem? (i := 910) (by decide +kernel)⟩
theorem lw_p11 : lw_okq (⟨"OnionCourt$Boxes", "place", "(III)Z"⟩, 5) := ⟨⟨by decide +kernel, by decide +kernel⟩, List.mem_of_getElem? (i := 222) (by decide +kernel), List.mem_of_getElem? (i := 927) (by decide +kernel), List.mem_of_getElem? (i := 928) (by decide +kernel)⟩
theorem lw_p12 : lw_okq (⟨"OnionCourt$Exchange", "give", "(III)V"⟩, 7) := ⟨⟨by decide +kernel, by decide +kernel⟩, List.mem_of_getElem? (i := 244) (by decide +kernel), List.mem_of_getElem? (i := 956) (by decide +kernel), List.mem_of_getElem? (i := 957) (by decide +kernel)⟩
theorem lw_p13 : lw_okq (⟨"OnionCourt$Exchange", "note", "(I)V"⟩, 7) := ⟨⟨by decide +kernel, by decide +kernel⟩, List.mem_of_getElem? (i := 244) (by decide +kernel), List.mem_of_getElem? (i := 960) (by decide +kernel), List.mem_of_getElem? (i := 961) (by decide +kernel)⟩
theorem lw_p14 : lw_okq (⟨"OnionCourtModel", "types", "(I)V"⟩, 52) := ⟨⟨by decide +kernel, by decide +kernel⟩, List.mem_of_getElem? (i := 1018) (by decide +kernel), List.mem_of_getElem? (i := 1197) (by decide +kernel), List.mem_of_getElem? (i := 1198) (by decide +kernel)⟩
theorem lw_p15 : lw_okq (⟨"OnionCourtModel", "beginsText", "(I)V"⟩, 52) := ⟨⟨by decide +kernel, by decide +kernel⟩, List.mem_of_getElem? (i := 1018) (by decide +kernel), List.mem_of_getElem? (i := 1205) (by decide +kernel), List.mem_of_getElem? (i := 1206) (by decide +kernel)⟩
def lw_privs_1 : List (MethodName × Nat) := [(⟨"OnionCourt$Witness", "item", "(LOnionCourt$Tape;)V"⟩, 4), (⟨"OnionCourt$Archive", "line", "(LOnionCourt$Tape;LOnionCourt$Questions;)V"⟩, 7), (⟨"OnionCourt$Archive", "whatIsWrongWith", "(I)I"⟩, 7), (⟨"OnionCourt$Archive", "live", "(ILOnionCourt$Law;LOnionCourt$Case;)V"⟩, 7), (⟨"OnionCourt$Law", "run", "(IILOnionCourt$Case;)J"⟩, 9), (⟨"OnionCourt", "canWeigh", "(I)Z"⟩, 14), (⟨"OnionCourt", "weigh", "(I)V"⟩, 14), (⟨"OnionCourt", "mostOpen", "()I"⟩, 14), (⟨"OnionCourt", "mostTrue", "(II)I"⟩, 14), (⟨"OnionCourt", "canBoth", "(III)Z"⟩, 14), (⟨"OnionCourt", "isTogether", "(II)Z"⟩, 14), (⟨"OnionCourt$Boxes", "place", "(III)Z"⟩, 5), (⟨"OnionCourt$Exchange", "give", "(III)V"⟩, 7), (⟨"OnionCourt$Exchange", "note", "(I)V"⟩, 7), (⟨"OnionCourtModel", "types", "(I)V"⟩, 52), (⟨"OnionCourtModel", "beginsText", "(I)V"⟩, 52)]
theorem lw_r1 : ∀ q ∈ lw_privs_1, lw_okq q := List.forall_mem_cons.mpr ⟨lw_p0, List.forall_mem_cons.mpr ⟨lw_p1, List.forall_mem_cons.mpr ⟨lw_p2, List.forall_mem_cons.mpr ⟨lw_p3, List.forall_mem_cons.mpr ⟨lw_p4, List.forall_mem_cons.mpr ⟨lw_p5, List.forall_mem_cons.mpr ⟨lw_p6, List.forall_mem_cons.mpr ⟨lw_p7, List.forall_mem_cons.mpr ⟨lw_p8, List.forall_mem_cons.mpr ⟨lw_p9, List.forall_mem_cons.mpr ⟨lw_p10, List.forall_mem_cons.mpr ⟨lw_p11, List.forall_mem_cons.mpr ⟨lw_p12, List.forall_mem_cons.mpr ⟨lw_p13, List.forall_mem_cons.mpr ⟨lw_p14, List.forall_mem_cons.mpr ⟨lw_p15, fun _ h => absurd h List.not_mem_nil⟩⟩⟩⟩⟩⟩⟩⟩⟩⟩⟩⟩⟩⟩⟩⟩
theorem lw_p16 : lw_okq (⟨"OnionCourtModel", "readsRule", "()Z"⟩, 52) := ⟨⟨by decide +kernel, by decide +kernel⟩, List.mem_of_getElem? (i := 1018) (by decide +kernel), List.mem_of_getElem? (i := 1209) (by decide +kernel), List.mem_of_getElem? (i := 1210) (by decide +kernel)⟩
theorem lw_p17 : lw_okq (⟨"OnionCourtModel", "here", "()I"⟩, 52) := ⟨⟨by decide +kernel, by decide +kernel⟩, List.mem_of_getElem? (i := 1018) (by decide +kernel), List.mem_of_getElem? (i := 1213) (by decide +kernel), List.mem_of_getElem? (i := 1214) (by decide +kernel)⟩
theorem lw_p18 : lw_okq (⟨"OnionCourtModel", "wrongAt", "(II)Z"⟩, 52) := ⟨⟨by decide +kernel, by decide +kernel⟩, List.mem_of_getElem? (i := 1018) (by decide +kernel), List.mem_of_getElem? (i := 1217) (by decide +kernel), List.mem_of_getElem? (i := 1218) (by decide +kernel)⟩
theorem lw_p19 : lw_okq (⟨"OnionCourtModel", "readsSum", "()Z"⟩, 52) := ⟨⟨by decide +kernel, by decide +kernel⟩, List.mem_of_getElem? (i := 1018) (by decide +kernel), List.mem_of_getElem? (i := 1221) (by decide +kernel), List.mem_of_getElem? (i := 1222) (by decide +kernel)⟩
theorem lw_p20 : lw_okq (⟨"OnionCourtModel", "readsFactor", "()Z"⟩, 52) := ⟨⟨by decide +kernel, by decide +kernel⟩, List.mem_of_getElem? (i := 1018) (by decide +kernel), List.mem_of_getElem? (i := 1225) (by decide +kernel), List.mem_of_getElem? (i := 1226) (by decide +kernel)⟩
theorem lw_p21 : lw_okq (⟨"OnionCourtModel", "opens", "(I)Z"⟩, 52) := ⟨⟨by decide +kernel, by decide +kernel⟩, List.mem_of_getElem? (i := 1018) (by decide +kernel), List.mem_of_getElem? (i := 1229) (by decide +kernel), List.mem_of_getElem? (i := 1230) (by decide +kernel)⟩
theorem lw_p22 : lw_okq (⟨"OnionCourtModel", "isDigit", "()Z"⟩, 52) := ⟨⟨by decide +kernel, by decide +kernel⟩, List.mem_of_getElem? (i := 1018) (by decide +kernel), List.mem_of_getElem? (i := 1234) (by decide +kernel), List.mem_of_getElem? (i := 1235) (by decide +kernel)⟩
theorem lw_p23 : lw_okq (⟨"OnionCourtModel", "readsNumber", "()Z"⟩, 52) := ⟨⟨by decide +kernel, by decide +kernel⟩, List.mem_of_getElem? (i := 1018) (by decide +kernel), List.mem_of_getElem? (i := 1238) (by decide +kernel), List.mem_of_getElem? (i := 1239) (by decide +kernel)⟩
theorem lw_p24 : lw_okq (⟨"OnionCourtModel", "notes", "(II)V"⟩, 52) := ⟨⟨by decide +kernel, by decide +kernel⟩, List.mem_of_getElem? (i := 1018) (by decide +kernel), List.mem_of_getElem? (i := 1242) (by decide +kernel), List.mem_of_getElem? (i := 1243) (by decide +kernel)⟩
theorem lw_p25 : lw_okq (⟨"OnionCourtModel", "closesSums", "(Z)V"⟩, 52) := ⟨⟨by decide +kernel, by decide +kernel⟩, List.mem_of_getElem? (i := 1018) (by decide +kernel), List.mem_of_getElem? (i := 1252) (by decide +kernel), List.mem_of_getElem? (i := 1253) (by decide +kernel)⟩
theorem lw_p26 : lw_okq (⟨"OnionCourtModel", "waitTop", "()I"⟩, 52) := ⟨⟨by decide +kernel, by decide +kernel⟩, List.mem_of_getElem? (i := 1018) (by decide +kernel), List.mem_of_getElem? (i := 1256) (by decide +kernel), List.mem_of_getElem? (i := 1257) (by decide +kernel)⟩
theorem lw_p27 : lw_okq (⟨"OnionCourtModel", "hasOpenSum", "(I)Z"⟩, 52) := ⟨⟨by decide +kernel, by decide +kernel⟩, List.mem_of_getElem? (i := 1018) (by decide +kernel), List.mem_of_getElem? (i := 1260) (by decide +kernel), List.mem_of_getElem? (i := 1261) (by decide +kernel)⟩
theorem lw_p28 : lw_okq (⟨"OnionCourtModel", "readsCondition", "()Z"⟩, 52) := ⟨⟨by decide +kernel, by decide +kernel⟩, List.mem_of_getElem? (i := 1018) (by decide +kernel), List.mem_of_getElem? (i := 1264) (by decide +kernel), List.mem_of_getElem? (i := 1265) (by decide +kernel)⟩
theorem lw_p29 : lw_okq (⟨"OnionCourtModel", "readsCompared", "()Z"⟩, 52) := ⟨⟨by decide +kernel, by decide +kernel⟩, List.mem_of_getElem? (i := 1018) (by decide +kernel), List.mem_of_getElem? (i := 1268) (by decide +kernel), List.mem_of_getElem? (i := 1269) (by decide +kernel)⟩
theorem lw_p30 : lw_okq (⟨"OnionCourtModel", "endsPiece", "()V"⟩, 52) := ⟨⟨by decide +kernel, by decide +kernel⟩, List.mem_of_getElem? (i := 1018) (by decide +kernel), List.mem_of_getElem? (i := 1272) (by decide +kernel), List.mem_of_getElem? (i := 1273) (by decide +kernel)⟩
theorem lw_p31 : lw_okq (⟨"OnionCourtModel", "lands", "(Z)V"⟩, 52) := ⟨⟨by decide +kernel, by decide +kernel⟩, List.mem_of_getElem? (i := 1018) (by decide +kernel), List.mem_of_getElem? (i := 1276) (by decide +kernel), List.mem_of_getElem? (i := 1277) (by decide +kernel)⟩
def lw_privs_2 : List (MethodName × Nat) := [(⟨"OnionCourtModel", "readsRule", "()Z"⟩, 52), (⟨"OnionCourtModel", "here", "()I"⟩, 52), (⟨"OnionCourtModel", "wrongAt", "(II)Z"⟩, 52), (⟨"OnionCourtModel", "readsSum", "()Z"⟩, 52), (⟨"OnionCourtModel", "readsFactor", "()Z"⟩, 52), (⟨"OnionCourtModel", "opens", "(I)Z"⟩, 52), (⟨"OnionCourtModel", "isDigit", "()Z"⟩, 52), (⟨"OnionCourtModel", "readsNumber", "()Z"⟩, 52), (⟨"OnionCourtModel", "notes", "(II)V"⟩, 52), (⟨"OnionCourtModel", "closesSums", "(Z)V"⟩, 52), (⟨"OnionCourtModel", "waitTop", "()I"⟩, 52), (⟨"OnionCourtModel", "hasOpenSum", "(I)Z"⟩, 52), (⟨"OnionCourtModel", "readsCondition", "()Z"⟩, 52), (⟨"OnionCourtModel", "readsCompared", "()Z"⟩, 52), (⟨"OnionCourtModel", "endsPiece", "()V"⟩, 52), (⟨"OnionCourtModel", "lands", "(Z)V"⟩, 52)]
theorem lw_r2 : ∀ q ∈ lw_privs_2, lw_okq q := List.forall_mem_cons.mpr ⟨lw_p16, List.forall_mem_cons.mpr ⟨lw_p17, List.forall_mem_cons.mpr ⟨lw_p18, List.forall_mem_cons.mpr ⟨lw_p19, List.forall_mem_cons.mpr ⟨lw_p20, List.forall_mem_cons.mpr ⟨lw_p21, List.forall_mem_cons.mpr ⟨lw_p22, List.forall_mem_cons.mpr ⟨lw_p23, List.forall_mem_cons.mpr ⟨lw_p24, List.forall_mem_cons.mpr ⟨lw_p25, List.forall_mem_cons.mpr ⟨lw_p26, List.forall_mem_cons.mpr ⟨lw_p27, List.forall_mem_cons.mpr ⟨lw_p28, List.forall_mem_cons.mpr ⟨lw_p29, List.forall_mem_cons.mpr ⟨lw_p30, List.forall_mem_cons.mpr ⟨lw_p31, fun _ h => absurd h List.not_mem_nil⟩⟩⟩⟩⟩⟩⟩⟩⟩⟩⟩⟩⟩⟩⟩⟩
theorem lw_p32 : lw_okq (⟨"OnionCourtModel", "jumps", "(I)V"⟩, 52) := ⟨⟨by decide +kernel, by decide +kernel⟩, List.mem_of_getElem? (i := 1018) (by decide +kernel), List.mem_of_getElem? (i := 1280) (by decide +kernel), List.mem_of_getElem? (i := 1281) (by decide +kernel)⟩
theorem lw_p33 : lw_okq (⟨"OnionCourtModel", "takes", "(I)Z"⟩, 52) := ⟨⟨by decide +kernel, by decide +kernel⟩, List.mem_of_getElem? (i := 1018) (by decide +kernel), List.mem_of_getElem? (i := 1284) (by decide +kernel), List.mem_of_getElem? (i := 1285) (by decide +kernel)⟩
theorem lw_p34 : lw_okq (⟨"OnionCourtModel", "readsTruth", "()Z"⟩, 52) := ⟨⟨by decide +kernel, by decide +kernel⟩, List.mem_of_getElem? (i := 1018) (by decide +kernel), List.mem_of_getElem? (i := 1292) (by decide +kernel), List.mem_of_getElem? (i := 1293) (by decide +kernel)⟩
theorem lw_p35 : lw_okq (⟨"OnionCourtModel", "endsTruth", "()V"⟩, 52) := ⟨⟨by decide +kernel, by decide +kernel⟩, List.mem_of_getElem? (i := 1018) (by decide +kernel), List.mem_of_getElem? (i := 1303) (by decide +kernel), List.mem_of_getElem? (i := 1304) (by decide +kernel)⟩
theorem lw_p36 : lw_okq (⟨"OnionCourtModel", "lastSign", "()I"⟩, 52) := ⟨⟨by decide +kernel, by decide +kernel⟩, List.mem_of_getElem? (i := 1018) (by decide +kernel), List.mem_of_getElem? (i := 1307) (by decide +kernel), List.mem_of_getElem? (i := 1308) (by decide +kernel)⟩
theorem lw_p37 : lw_okq (⟨"OnionCourtModel", "joinsLast", "()V"⟩, 52) := ⟨⟨by decide +kernel, by decide +kernel⟩, List.mem_of_getElem? (i := 1018) (by decide +kernel), List.mem_of_getElem? (i := 1311) (by decide +kernel), List.mem_of_getElem? (i := 1312) (by decide +kernel)⟩
theorem lw_p38 : lw_okq (⟨"OnionCourtModel", "waitsFor", "(I)V"⟩, 52) := ⟨⟨by decide +kernel, by decide +kernel⟩, List.mem_of_getElem? (i := 1018) (by decide +kernel), List.mem_of_getElem? (i := 1316) (by decide +kernel), List.mem_of_getElem? (i := 1317) (by decide +kernel)⟩
theorem lw_p39 : lw_okq (⟨"OnionCourtModel", "readsSign", "()Z"⟩, 52) := ⟨⟨by decide +kernel, by decide +kernel⟩, List.mem_of_getElem? (i := 1018) (by decide +kernel), List.mem_of_getElem? (i := 1320) (by decide +kernel), List.mem_of_getElem? (i := 1321) (by decide +kernel)⟩
theorem lw_p40 : lw_okq (⟨"OnionCourtModel", "joinsTo", "(I)V"⟩, 52) := ⟨⟨by decide +kernel, by decide +kernel⟩, List.mem_of_getElem? (i := 1018) (by decide +kernel), List.mem_of_getElem? (i := 1324) (by decide +kernel), List.mem_of_getElem? (i := 1325) (by decide +kernel)⟩
theorem lw_p41 : lw_okq (⟨"OnionCourtModel", "isWitness", "(I)Z"⟩, 52) := ⟨⟨by decide +kernel, by decide +kernel⟩, List.mem_of_getElem? (i := 1018) (by decide +kernel), List.mem_of_getElem? (i := 1335) (by decide +kernel), List.mem_of_getElem? (i := 1336) (by decide +kernel)⟩
theorem lw_p42 : lw_okq (⟨"OnionCourtModel", "readsItem", "()Z"⟩, 52) := ⟨⟨by decide +kernel, by decide +kernel⟩, List.mem_of_getElem? (i := 1018) (by decide +kernel), List.mem_of_getElem? (i := 1339) (by decide +kernel), List.mem_of_getElem? (i := 1340) (by decide +kernel)⟩
theorem lw_p43 : lw_okq (⟨"OnionCourtModel", "readsLine", "()Z"⟩, 52) := ⟨⟨by decide +kernel, by decide +kernel⟩, List.mem_of_getElem? (i := 1018) (by decide +kernel), List.mem_of_getElem? (i := 1347) (by decide +kernel), List.mem_of_getElem? (i := 1348) (by decide +kernel)⟩
theorem lw_p44 : lw_okq (⟨"OnionCourtModel", "isQuestion", "(I)Z"⟩, 52) := ⟨⟨by decide +kernel, by decide +kernel⟩, List.mem_of_getElem? (i := 1018) (by decide +kernel), List.mem_of_getElem? (i := 1351) (by decide +kernel), List.mem_of_getElem? (i := 1352) (by decide +kernel)⟩
theorem lw_p45 : lw_okq (⟨"OnionCourtModel", "answersNow", "(IIII)I"⟩, 52) := ⟨⟨by decide +kernel, by decide +kernel⟩, List.mem_of_getElem? (i := 1018) (by decide +kernel), List.mem_of_getElem? (i := 1355) (by decide +kernel), List.mem_of_getElem? (i := 1356) (by decide +kernel)⟩
theorem lw_p46 : lw_okq (⟨"OnionCourtModel", "layerOf", "(II)I"⟩, 52) := ⟨⟨by decide +kernel, by decide +kernel⟩, List.mem_of_getElem? (i := 1018) (by decide +kernel), List.mem_of_getElem? (i := 1359) (by decide +kernel), List.mem_of_getElem? (i := 1360) (by decide +kernel)⟩
theorem lw_p47 : lw_okq (⟨"OnionCourtModel", "weeksGo", "(I)V"⟩, 52) := ⟨⟨by decide +kernel, by decide +kernel⟩, List.mem_of_getElem? (i := 1018) (by decide +kernel), List.mem_of_getElem? (i := 1375) (by decide +kernel), List.mem_of_getElem? (i := 1376) (by decide +kernel)⟩
def lw_privs_3 : List (MethodName × Nat) := [(⟨"OnionCourtModel", "jumps", "(I)V"⟩, 52), (⟨"OnionCourtModel", "takes", "(I)Z"⟩, 52), (⟨"OnionCourtModel", "readsTruth", "()Z"⟩, 52), (⟨"OnionCourtModel", "endsTruth", "()V"⟩, 52), (⟨"OnionCourtModel", "lastSign", "()I"⟩, 52), (⟨"OnionCourtModel", "joinsLast", "()V"⟩, 52), (⟨"OnionCourtModel", "waitsFor", "(I)V"⟩, 52), (⟨"OnionCourtModel", "readsSign", "()Z"⟩, 52), (⟨"OnionCourtModel", "joinsTo", "(I)V"⟩, 52), (⟨"OnionCourtModel", "isWitness", "(I)Z"⟩, 52), (⟨"OnionCourtModel", "readsItem", "()Z"⟩, 52), (⟨"OnionCourtModel", "readsLine", "()Z"⟩, 52), (⟨"OnionCourtModel", "isQuestion", "(I)Z"⟩, 52), (⟨"OnionCourtModel", "answersNow", "(IIII)I"⟩, 52), (⟨"OnionCourtModel", "layerOf", "(II)I"⟩, 52), (⟨"OnionCourtModel", "weeksGo", "(I)V"⟩, 52)]
theorem lw_r3 : ∀ q ∈ lw_privs_3, lw_okq q := List.forall_mem_cons.mpr ⟨lw_p32, List.forall_mem_cons.mpr ⟨lw_p33, List.forall_mem_cons.mpr ⟨lw_p34, List.forall_mem_cons.mpr ⟨lw_p35, List.forall_mem_cons.mpr ⟨lw_p36, List.forall_mem_cons.mpr ⟨lw_p37, List.forall_mem_cons.mpr ⟨lw_p38, List.forall_mem_cons.mpr ⟨lw_p39, List.forall_mem_cons.mpr ⟨lw_p40, List.forall_mem_cons.mpr ⟨lw_p41, List.forall_mem_cons.mpr ⟨lw_p42, List.forall_mem_cons.mpr ⟨lw_p43, List.forall_mem_cons.mpr ⟨lw_p44, List.forall_mem_cons.mpr ⟨lw_p45, List.forall_mem_cons.mpr ⟨lw_p46, List.forall_mem_cons.mpr ⟨lw_p47, fun _ h => absurd h List.not_mem_nil⟩⟩⟩⟩⟩⟩⟩⟩⟩⟩⟩⟩⟩⟩⟩⟩
theorem lw_p48 : lw_okq (⟨"OnionCourtModel", "weekGoes", "()V"⟩, 52) := ⟨⟨by decide +kernel, by decide +kernel⟩, List.mem_of_getElem? (i := 1018) (by decide +kernel), List.mem_of_getElem? (i := 1379) (by decide +kernel), List.mem_of_getElem? (i := 1380) (by decide +kernel)⟩
theorem lw_p49 : lw_okq (⟨"OnionCourtModel", "grows", "(I)V"⟩, 52) := ⟨⟨by decide +kernel, by decide +kernel⟩, List.mem_of_getElem? (i := 1018) (by decide +kernel), List.mem_of_getElem? (i := 1383) (by decide +kernel), List.mem_of_getElem? (i := 1384) (by decide +kernel)⟩
theorem lw_p50 : lw_okq (⟨"OnionCourtModel", "feels", "(IIIII)V"⟩, 52) := ⟨⟨by decide +kernel, by decide +kernel⟩, List.mem_of_getElem? (i := 1018) (by decide +kernel), List.mem_of_getElem? (i := 1387) (by decide +kernel), List.mem_of_getElem? (i := 1388) (by decide +kernel)⟩
theorem lw_p51 : lw_okq (⟨"OnionCourtModel", "byLaw", "(II)I"⟩, 52) := ⟨⟨by decide +kernel, by decide +kernel⟩, List.mem_of_getElem? (i := 1018) (by decide +kernel), List.mem_of_getElem? (i := 1391) (by decide +kernel), List.mem_of_getElem? (i := 1392) (by decide +kernel)⟩
theorem lw_p52 : lw_okq (⟨"OnionCourtModel", "comesTo", "(II)I"⟩, 52) := ⟨⟨by decide +kernel, by decide +kernel⟩, List.mem_of_getElem? (i := 1018) (by decide +kernel), List.mem_of_getElem? (i := 1395) (by decide +kernel), List.mem_of_getElem? (i := 1396) (by decide +kernel)⟩
theorem lw_p53 : lw_okq (⟨"OnionCourtModel", "maySprout", "(I)V"⟩, 52) := ⟨⟨by decide +kernel, by decide +kernel⟩, List.mem_of_getElem? (i := 1018) (by decide +kernel), List.mem_of_getElem? (i := 1408) (by decide +kernel), List.mem_of_getElem? (i := 1409) (by decide +kernel)⟩
theorem lw_p54 : lw_okq (⟨"OnionCourtModel", "together", "(I)I"⟩, 52) := ⟨⟨by decide +kernel, by decide +kernel⟩, List.mem_of_getElem? (i := 1018) (by decide +kernel), List.mem_of_getElem? (i := 1420) (by decide +kernel), List.mem_of_getElem? (i := 1421) (by decide +kernel)⟩
theorem lw_p55 : lw_okq (⟨"OnionCourtModel", "tearsOf", "(II)I"⟩, 52) := ⟨⟨by decide +kernel, by decide +kernel⟩, List.mem_of_getElem? (i := 1018) (by decide +kernel), List.mem_of_getElem? (i := 1428) (by decide +kernel), List.mem_of_getElem? (i := 1429) (by decide +kernel)⟩
theorem lw_p56 : lw_okq (⟨"OnionCourtModel", "answersOf", "(I)I"⟩, 52) := ⟨⟨by decide +kernel, by decide +kernel⟩, List.mem_of_getElem? (i := 1018) (by decide +kernel), List.mem_of_getElem? (i := 1432) (by decide +kernel), List.mem_of_getElem? (i := 1433) (by decide +kernel)⟩
theorem lw_p57 : lw_okq (⟨"OnionCourtModel", "areWeighed", "(I)Z"⟩, 52) := ⟨⟨by decide +kernel, by decide +kernel⟩, List.mem_of_getElem? (i := 1018) (by decide +kernel), List.mem_of_getElem? (i := 1444) (by decide +kernel), List.mem_of_getElem? (i := 1445) (by decide +kernel)⟩
theorem lw_p58 : lw_okq (⟨"OnionCourtModel", "areAnswers", "(I)Z"⟩, 52) := ⟨⟨by decide +kernel, by decide +kernel⟩, List.mem_of_getElem? (i := 1018) (by decide +kernel), List.mem_of_getElem? (i := 1448) (by decide +kernel), List.mem_of_getElem? (i := 1449) (by decide +kernel)⟩
theorem lw_p59 : lw_okq (⟨"OnionCourtModel", "oddsOf", "(JII)J"⟩, 52) := ⟨⟨by decide +kernel, by decide +kernel⟩, List.mem_of_getElem? (i := 1018) (by decide +kernel), List.mem_of_getElem? (i := 1452) (by decide +kernel), List.mem_of_getElem? (i := 1453) (by decide +kernel)⟩
theorem lw_p60 : lw_okq (⟨"OnionCourtModel", "weighs", "(I)J"⟩, 52) := ⟨⟨by decide +kernel, by decide +kernel⟩, List.mem_of_getElem? (i := 1018) (by decide +kernel), List.mem_of_getElem? (i := 1456) (by decide +kernel), List.mem_of_getElem? (i := 1457) (by decide +kernel)⟩
theorem lw_p61 : lw_okq (⟨"OnionCourtModel", "weighsBy", "(II)J"⟩, 52) := ⟨⟨by decide +kernel, by decide +kernel⟩, List.mem_of_getElem? (i := 1018) (by decide +kernel), List.mem_of_getElem? (i := 1460) (by decide +kernel), List.mem_of_getElem? (i := 1461) (by decide +kernel)⟩
theorem lw_p62 : lw_okq (⟨"OnionCourtModel", "weightIn", "(J)J"⟩, 52) := ⟨⟨by decide +kernel, by decide +kernel⟩, List.mem_of_getElem? (i := 1018) (by decide +kernel), List.mem_of_getElem? (i := 1465) (by decide +kernel), List.mem_of_getElem? (i := 1466) (by decide +kernel)⟩
theorem lw_p63 : lw_okq (⟨"OnionCourtModel", "fitsOf", "(I)J"⟩, 52) := ⟨⟨by decide +kernel, by decide +kernel⟩, List.mem_of_getElem? (i := 1018) (by decide +kernel), List.mem_of_getElem? (i := 1476) (by decide +kernel), List.mem_of_getElem? (i := 1477) (by decide +kernel)⟩
def lw_privs_4 : List (MethodName × Nat) := [(⟨"OnionCourtModel", "weekGoes", "()V"⟩, 52), (⟨"OnionCourtModel", "grows", "(I)V"⟩, 52), (⟨"OnionCourtModel", "feels", "(IIIII)V"⟩, 52), (⟨"OnionCourtModel", "byLaw", "(II)I"⟩, 52), (⟨"OnionCourtModel", "comesTo", "(II)I"⟩, 52), (⟨"OnionCourtModel", "maySprout", "(I)V"⟩, 52), (⟨"OnionCourtModel", "together", "(I)I"⟩, 52), (⟨"OnionCourtModel", "tearsOf", "(II)I"⟩, 52), (⟨"OnionCourtModel", "answersOf", "(I)I"⟩, 52), (⟨"OnionCourtModel", "areWeighed", "(I)Z"⟩, 52), (⟨"OnionCourtModel", "areAnswers", "(I)Z"⟩, 52), (⟨"OnionCourtModel", "oddsOf", "(JII)J"⟩, 52), (⟨"OnionCourtModel", "weighs", "(I)J"⟩, 52), (⟨"OnionCourtModel", "weighsBy", "(II)J"⟩, 52), (⟨"OnionCourtModel", "weightIn", "(J)J"⟩, 52), (⟨"OnionCourtModel", "fitsOf", "(I)J"⟩, 52)]
theorem lw_r4 : ∀ q ∈ lw_privs_4, lw_okq q := List.forall_mem_cons.mpr ⟨lw_p48, List.forall_mem_cons.mpr ⟨lw_p49, List.forall_mem_cons.mpr ⟨lw_p50, List.forall_mem_cons.mpr ⟨lw_p51, List.forall_mem_cons.mpr ⟨lw_p52, List.forall_mem_cons.mpr ⟨lw_p53, List.forall_mem_cons.mpr ⟨lw_p54, List.forall_mem_cons.mpr ⟨lw_p55, List.forall_mem_cons.mpr ⟨lw_p56, List.forall_mem_cons.mpr ⟨lw_p57, List.forall_mem_cons.mpr ⟨lw_p58, List.forall_mem_cons.mpr ⟨lw_p59, List.forall_mem_cons.mpr ⟨lw_p60, List.forall_mem_cons.mpr ⟨lw_p61, List.forall_mem_cons.mpr ⟨lw_p62, List.forall_mem_cons.mpr ⟨lw_p63, fun _ h => absurd h List.not_mem_nil⟩⟩⟩⟩⟩⟩⟩⟩⟩⟩⟩⟩⟩⟩⟩⟩
theorem lw_p64 : lw_okq (⟨"OnionCourtModel", "fitsAll", "(I)J"⟩, 52) := ⟨⟨by decide +kernel, by decide +kernel⟩, List.mem_of_getElem? (i := 1018) (by decide +kernel), List.mem_of_getElem? (i := 1493) (by decide +kernel), List.mem_of_getElem? (i := 1494) (by decide +kernel)⟩
theorem lw_p65 : lw_okq (⟨"OnionCourtModel", "answersWithout", "(I)I"⟩, 52) := ⟨⟨by decide +kernel, by decide +kernel⟩, List.mem_of_getElem? (i := 1018) (by decide +kernel), List.mem_of_getElem? (i := 1501) (by decide +kernel), List.mem_of_getElem? (i := 1502) (by decide +kernel)⟩
theorem lw_p66 : lw_okq (⟨"OnionCourtModel", "lastOf", "(II)I"⟩, 52) := ⟨⟨by decide +kernel, by decide +kernel⟩, List.mem_of_getElem? (i := 1018) (by decide +kernel), List.mem_of_getElem? (i := 1517) (by decide +kernel), List.mem_of_getElem? (i := 1518) (by decide +kernel)⟩
theorem lw_p67 : lw_okq (⟨"OnionCourtModel", "areAllTrue", "(III)Z"⟩, 52) := ⟨⟨by decide +kernel, by decide +kernel⟩, List.mem_of_getElem? (i := 1018) (by decide +kernel), List.mem_of_getElem? (i := 1529) (by decide +kernel), List.mem_of_getElem? (i := 1530) (by decide +kernel)⟩
theorem lw_p68 : lw_okq (⟨"OnionCourtModel", "areTrue", "(III)Z"⟩, 52) := ⟨⟨by decide +kernel, by decide +kernel⟩, List.mem_of_getElem? (i := 1018) (by decide +kernel), List.mem_of_getElem? (i := 1533) (by decide +kernel), List.mem_of_getElem? (i := 1534) (by decide +kernel)⟩
theorem lw_p69 : lw_okq (⟨"OnionCourtModel", "skinOf", "(I)I"⟩, 52) := ⟨⟨by decide +kernel, by decide +kernel⟩, List.mem_of_getElem? (i := 1018) (by decide +kernel), List.mem_of_getElem? (i := 1544) (by decide +kernel), List.mem_of_getElem? (i := 1545) (by decide +kernel)⟩
theorem lw_p70 : lw_okq (⟨"OnionCourtModel", "laysBoxes", "(III)Z"⟩, 52) := ⟨⟨by decide +kernel, by decide +kernel⟩, List.mem_of_getElem? (i := 1018) (by decide +kernel), List.mem_of_getElem? (i := 1548) (by decide +kernel), List.mem_of_getElem? (i := 1549) (by decide +kernel)⟩
theorem lw_p71 : lw_okq (⟨"OnionCourtModel", "begunBy", "(I)I"⟩, 52) := ⟨⟨by decide +kernel, by decide +kernel⟩, List.mem_of_getElem? (i := 1018) (by decide +kernel), List.mem_of_getElem? (i := 1552) (by decide +kernel), List.mem_of_getElem? (i := 1553) (by decide +kernel)⟩
theorem lw_p72 : lw_okq (⟨"OnionCourtModel", "readsRow", "(II)Z"⟩, 52) := ⟨⟨by decide +kernel, by decide +kernel⟩, List.mem_of_getElem? (i := 1018) (by decide +kernel), List.mem_of_getElem? (i := 1560) (by decide +kernel), List.mem_of_getElem? (i := 1561) (by decide +kernel)⟩
theorem lw_p73 : lw_okq (⟨"OnionCourtModel", "worthOfRow", "(I)I"⟩, 52) := ⟨⟨by decide +kernel, by decide +kernel⟩, List.mem_of_getElem? (i := 1018) (by decide +kernel), List.mem_of_getElem? (i := 1564) (by decide +kernel), List.mem_of_getElem? (i := 1565) (by decide +kernel)⟩
def lw_privs_5 : List (MethodName × Nat) := [(⟨"OnionCourtModel", "fitsAll", "(I)J"⟩, 52), (⟨"OnionCourtModel", "answersWithout", "(I)I"⟩, 52), (⟨"OnionCourtModel", "lastOf", "(II)I"⟩, 52), (⟨"OnionCourtModel", "areAllTrue", "(III)Z"⟩, 52), (⟨"OnionCourtModel", "areTrue", "(III)Z"⟩, 52), (⟨"OnionCourtModel", "skinOf", "(I)I"⟩, 52), (⟨"OnionCourtModel", "laysBoxes", "(III)Z"⟩, 52), (⟨"OnionCourtModel", "begunBy", "(I)I"⟩, 52), (⟨"OnionCourtModel", "readsRow", "(II)Z"⟩, 52), (⟨"OnionCourtModel", "worthOfRow", "(I)I"⟩, 52)]
theorem lw_r5 : ∀ q ∈ lw_privs_5, lw_okq q := List.forall_mem_cons.mpr ⟨lw_p64, List.forall_mem_cons.mpr ⟨lw_p65, List.forall_mem_cons.mpr ⟨lw_p66, List.forall_mem_cons.mpr ⟨lw_p67, List.forall_mem_cons.mpr ⟨lw_p68, List.forall_mem_cons.mpr ⟨lw_p69, List.forall_mem_cons.mpr ⟨lw_p70, List.forall_mem_cons.mpr ⟨lw_p71, List.forall_mem_cons.mpr ⟨lw_p72, List.forall_mem_cons.mpr ⟨lw_p73, fun _ h => absurd h List.not_mem_nil⟩⟩⟩⟩⟩⟩⟩⟩⟩⟩
def lw_privs : List (MethodName × Nat) := lw_privs_1 ++ (lw_privs_2 ++ (lw_privs_3 ++ (lw_privs_4 ++ (lw_privs_5))))
def lw_tbl : List Cond := k2_sels lw_privs ++ tables_1
theorem lw_privs_ok : ∀ q ∈ lw_privs, lw_okq q := by
  show ∀ q ∈ lw_privs_1 ++ (lw_privs_2 ++ (lw_privs_3 ++ (lw_privs_4 ++ (lw_privs_5)))), lw_okq q
  exact List.forall_mem_append.mpr ⟨lw_r1, List.forall_mem_append.mpr ⟨lw_r2, List.forall_mem_append.mpr ⟨lw_r3, List.forall_mem_append.mpr ⟨lw_r4, lw_r5⟩⟩⟩⟩
-- ===== end of PART A; then your names; then what follows =====
end
section
/-! THE CLASSES: names, fields in the order of the words (declaring class, name, descriptor, final), and what the tables say of them. -/
theorem xv_wsin {C : String} {T : u_T} {N : Nat} {L : List Nat} (h : ∀ k, k < N → L[k]?.bind (fun i => lw_tbl[i]?) = some (u_lay C T k)) : ∀ w ∈ u_ws C T N, w ∈ lw_tbl := by
  intro w hw
  obtain ⟨k, hk, rfl⟩ := List.mem_map.mp hw
  have h1 := h k (List.mem_range.mp hk)
  cases hL : L[k]? with
  | none => rw [hL] at h1; cases h1
  | some i => rw [hL] at h1; exact List.mem_of_getElem? h1
def xf_Mo : u_T := fun k => match k with
  | 0 => ("OnionCourtModel", "now", "[I", true)
  | 1 => ("OnionCourtModel", "aside", "[I", true)
  | 2 => ("OnionCourtModel", "kept", "[I", true)
  | 3 => ("OnionCourtModel", "prior", "[I", true)
  | 4 => ("OnionCourtModel", "holdsIn", "[J", true)
  | 5 => ("OnionCourtModel", "questionSet", "I", false)
  | 6 => ("OnionCourtModel", "tape", "[B", true)
  | 7 => ("OnionCourtModel", "taped", "I", false)
  | 8 => ("OnionCourtModel", "place0", "I", false)
  | 9 => ("OnionCourtModel", "length0", "I", false)
  | 10 => ("OnionCourtModel", "fault", "I", false)
  | 11 => ("OnionCourtModel", "number0", "I", false)
  | 12 => ("OnionCourtModel", "open", "I", false)
  | 13 => ("OnionCourtModel", "codeMany", "I", false)
  | 14 => ("OnionCourtModel", "waiting", "I", false)
  | 15 => ("OnionCourtModel", "saidMany", "I", false)
  | 16 => ("OnionCourtModel", "clauses", "I", false)
  | 17 => ("OnionCourtModel", "said", "[I", true)
  | 18 => ("OnionCourtModel", "waitsAt", "[I", true)
  | 19 => ("OnionCourtModel", "saidLetter", "[I", true)
  | 20 => ("OnionCourtModel", "saidFrom", "[I", true)
  | 21 => ("OnionCourtModel", "saidHalf", "[I", true)
  | 22 => ("OnionCourtModel", "saidTo", "[I", true)
  | 23 => ("OnionCourtModel", "codes", "[I", true)
  | 24 => ("OnionCourtModel", "clauseOf", "[I", true)
  | 25 => ("OnionCourtModel", "codeFrom", "[I", true)
  | 26 => ("OnionCourtModel", "codeHalf", "[I", true)
  | 27 => ("OnionCourtModel", "codeTo", "[I", true)
  | 28 => ("OnionCourtModel", "stack", "[I", true)
  | 29 => ("OnionCourtModel", "facts", "[I", true)
  | 30 => ("OnionCourtModel", "sign", "[I", true)
  | 31 => ("OnionCourtModel", "said0", "[J", true)
  | 32 => ("OnionCourtModel", "signs", "I", false)
  | 33 => ("OnionCourtModel", "sets", "I", false)
  | 34 => ("OnionCourtModel", "opened", "I", false)
  | 35 => ("OnionCourtModel", "isNext", "Z", false)
  | 36 => ("OnionCourtModel", "newLayer", "[I", true)
  | 37 => ("OnionCourtModel", "newMany", "I", false)
  | 38 => ("OnionCourtModel", "lineWho", "[I", true)
  | 39 => ("OnionCourtModel", "lineAsked", "[I", true)
  | 40 => ("OnionCourtModel", "lineTold", "[I", true)
  | 41 => ("OnionCourtModel", "peels", "[I", true)
  | 42 => ("OnionCourtModel", "lines", "I", false)
  | 43 => ("OnionCourtModel", "sprouts", "I", false)
  | 44 => ("OnionCourtModel", "gone", "I", false)
  | 45 => ("OnionCourtModel", "weightOf", "[J", true)
  | 46 => ("OnionCourtModel", "boxOf", "[I", true)
  | 47 => ("OnionCourtModel", "fullOf", "[I", true)
  | 48 => ("OnionCourtModel", "whoOf", "[I", true)
  | 49 => ("OnionCourtModel", "rowNow", "[I", true)
  | 50 => ("OnionCourtModel", "rowBest", "[I", true)
  | _ => ("OnionCourtModel", "isKept", "Z", false)
def xt_Mo : Nat → FieldType := fun k => match k with
  | 0 => .array .int
  | 1 => .array .int
  | 2 => .array .int
  | 3 => .array .int
  | 4 => .array .long
  | 5 => .int
  | 6 => .array .byte
  | 7 => .int
  | 8 => .int
  | 9 => .int
  | 10 => .int
  | 11 => .int
  | 12 => .int
  | 13 => .int
  | 14 => .int
  | 15 => .int
  | 16 => .int
  | 17 => .array .int
  | 18 => .array .int
  | 19 => .array .int
  | 20 => .array .int
  | 21 => .array .int
  | 22 => .array .int
  | 23 => .array .int
  | 24 => .array .int
  | 25 => .array .int
  | 26 => .array .int
  | 27 => .array .int
  | 28 => .array .int
  | 29 => .array .int
  | 30 => .array .int
  | 31 => .array .long
  | 32 => .int
  | 33 => .int
  | 34 => .int
  | 35 => .boolean
  | 36 => .array .int
  | 37 => .int
  | 38 => .array .int
  | 39 => .array .int
  | 40 => .array .int
  | 41 => .array .int
  | 42 => .int
  | 43 => .int
  | 44 => .int
  | 45 => .array .long
  | 46 => .array .int
  | 47 => .array .int
  | 48 => .array .int
  | 49 => .array .int
  | 50 => .array .int
  | _ => .boolean
theorem xn_Mo : ∀ a, a < 52 → ∀ b, b < 52 → a ≠ b → (xf_Mo a).2.1 ≠ (xf_Mo b).2.1 := by decide +kernel
theorem xt_Mo_ok : ∀ k, k < 52 → parseFieldDescriptor (xf_Mo k).2.2.1 = some (xt_Mo k) := by decide +kernel
theorem xi_Mo_ok : ∀ k, k < 52 → ([1149, 1151, 1153, 1155, 1157, 1159, 1161, 1163, 1165, 1167, 1169, 1171, 1173, 1175, 1177, 1179, 1181, 1183, 1185, 1187, 1189, 1191, 1193, 1195, 1197, 1199, 1201, 1203, 1205, 1207, 1209, 1211, 1213, 1215, 1217, 1219, 1221, 1223, 1225, 1227, 1229, 1231, 1233, 1235, 1237, 1239, 1241, 1243, 1245, 1247, 1249, 1251] : List Nat)[k]?.bind (fun i => lw_tbl[i]?) = some (u_lay "OnionCourtModel" xf_Mo k) := by decide +kernel
theorem xi_Mo : ∀ w ∈ u_ws "OnionCourtModel" xf_Mo 52, w ∈ lw_tbl := fun w h => xv_wsin (fun k hk => xi_Mo_ok k hk) w h
def xf_Ct : u_T := fun k => match k with
  | 0 => ("OnionCourt", "tape", "LOnionCourt$Tape;", true)
  | 1 => ("OnionCourt", "questions", "LOnionCourt$Questions;", true)
  | 2 => ("OnionCourt", "inForce", "LOnionCourt$Law;", true)
  | 3 => ("OnionCourt", "draft", "LOnionCourt$Law;", true)
  | 4 => ("OnionCourt", "matter", "LOnionCourt$Case;", true)
  | 5 => ("OnionCourt", "scales", "LOnionCourt$Scales;", true)
  | 6 => ("OnionCourt", "now", "LOnionCourt$Archive;", true)
  | 7 => ("OnionCourt", "kept", "LOnionCourt$Archive;", true)
  | 8 => ("OnionCourt", "trial", "LOnionCourt$Archive;", true)
  | 9 => ("OnionCourt", "isKept", "Z", false)
  | 10 => ("OnionCourt", "spare", "LOnionCourt$Witness;", true)
  | 11 => ("OnionCourt", "boxes", "LOnionCourt$Boxes;", true)
  | 12 => ("OnionCourt", "exchange", "LOnionCourt$Exchange;", true)
  | _ => ("OnionCourt", "alibis", "[I", true)
def xt_Ct : Nat → FieldType := fun k => match k with
  | 0 => .object "OnionCourt$Tape"
  | 1 => .object "OnionCourt$Questions"
  | 2 => .object "OnionCourt$Law"
  | 3 => .object "OnionCourt$Law"
  | 4 => .object "OnionCourt$Case"
  | 5 => .object "OnionCourt$Scales"
  | 6 => .object "OnionCourt$Archive"
  | 7 => .object "OnionCourt$Archive"
  | 8 => .object "OnionCourt$Archive"
  | 9 => .boolean
  | 10 => .object "OnionCourt$Witness"
  | 11 => .object "OnionCourt$Boxes"
  | 12 => .object "OnionCourt$Exchange"
  | _ => .array .int
theorem xn_Ct : ∀ a, a < 14 → ∀ b, b < 14 → a ≠ b → (xf_Ct a).2.1 ≠ (xf_Ct b).2.1 := by decide +kernel
theorem xt_Ct_ok : ∀ k, k < 14 → parseFieldDescriptor (xf_Ct k).2.2.1 = some (xt_Ct k) := by decide +kernel
theorem xi_Ct_ok : ∀ k, k < 14 → ([359, 361, 363, 365, 367, 369, 371, 373, 375, 377, 379, 381, 383, 385] : List Nat)[k]?.bind (fun i => lw_tbl[i]?) = some (u_lay "OnionCourt" xf_Ct k) := by decide +kernel
theorem xi_Ct : ∀ w ∈ u_ws "OnionCourt" xf_Ct 14, w ∈ lw_tbl := fun w h => xv_wsin (fun k hk => xi_Ct_ok k hk) w h
def xf_Tape : u_T := fun k => match k with
  | 0 => ("OnionCourt$Tape", "bytes", "[I", true)
  | 1 => ("OnionCourt$Tape", "size", "I", false)
  | 2 => ("OnionCourt$Tape", "length", "I", false)
  | 3 => ("OnionCourt$Tape", "place", "I", false)
  | _ => ("OnionCourt$Tape", "fault", "I", false)
def xt_Tape : Nat → FieldType := fun k => match k with
  | 0 => .array .int
  | 1 => .int
  | 2 => .int
  | 3 => .int
  | _ => .int
theorem xn_Tape : ∀ a, a < 5 → ∀ b, b < 5 → a ≠ b → (xf_Tape a).2.1 ≠ (xf_Tape b).2.1 := by decide +kernel
theorem xt_Tape_ok : ∀ k, k < 5 → parseFieldDescriptor (xf_Tape k).2.2.1 = some (xt_Tape k) := by decide +kernel
theorem xi_Tape_ok : ∀ k, k < 5 → ([109, 111, 113, 115, 117] : List Nat)[k]?.bind (fun i => lw_tbl[i]?) = some (u_lay "OnionCourt$Tape" xf_Tape k) := by decide +kernel
theorem xi_Tape : ∀ w ∈ u_ws "OnionCourt$Tape" xf_Tape 5, w ∈ lw_tbl := fun w h => xv_wsin (fun k hk => xi_Tape_ok k hk) w h
def xf_Questions : u_T := fun k => match k with
  | 0 => ("OnionCourt$Questions", "worlds", "[I", true)
  | _ => ("OnionCourt$Questions", "told", "I", false)
def xt_Questions : Nat → FieldType := fun k => match k with
  | 0 => .array .int
  | _ => .int
theorem xn_Questions : ∀ a, a < 2 → ∀ b, b < 2 → a ≠ b → (xf_Questions a).2.1 ≠ (xf_Questions b).2.1 := by decide +kernel
theorem xt_Questions_ok : ∀ k, k < 2 → parseFieldDescriptor (xf_Questions k).2.2.1 = some (xt_Questions k) := by decide +kernel
theorem xi_Questions_ok : ∀ k, k < 2 → ([129, 131] : List Nat)[k]?.bind (fun i => lw_tbl[i]?) = some (u_lay "OnionCourt$Questions" xf_Questions k) := by decide +kernel
theorem xi_Questions : ∀ w ∈ u_ws "OnionCourt$Questions" xf_Questions 2, w ∈ lw_tbl := fun w h => xv_wsin (fun k hk => xi_Questions_ok k hk) w h
def xf_Law : u_T := fun k => match k with
  | 0 => ("OnionCourt$Law", "steps", "[I", true)
  | 1 => ("OnionCourt$Law", "numbers", "[I", true)
  | 2 => ("OnionCourt$Law", "kinds", "[I", true)
  | 3 => ("OnionCourt$Law", "starts", "[I", true)
  | 4 => ("OnionCourt$Law", "turns", "[I", true)
  | 5 => ("OnionCourt$Law", "ends", "[I", true)
  | 6 => ("OnionCourt$Law", "stack", "[J", true)
  | 7 => ("OnionCourt$Law", "size", "I", false)
  | _ => ("OnionCourt$Law", "rules", "I", false)
def xt_Law : Nat → FieldType := fun k => match k with
  | 0 => .array .int
  | 1 => .array .int
  | 2 => .array .int
  | 3 => .array .int
  | 4 => .array .int
  | 5 => .array .int
  | 6 => .array .long
  | 7 => .int
  | _ => .int
theorem xn_Law : ∀ a, a < 9 → ∀ b, b < 9 → a ≠ b → (xf_Law a).2.1 ≠ (xf_Law b).2.1 := by decide +kernel
theorem xt_Law_ok : ∀ k, k < 9 → parseFieldDescriptor (xf_Law k).2.2.1 = some (xt_Law k) := by decide +kernel
theorem xi_Law_ok : ∀ k, k < 9 → ([149, 151, 153, 155, 157, 159, 161, 163, 165] : List Nat)[k]?.bind (fun i => lw_tbl[i]?) = some (u_lay "OnionCourt$Law" xf_Law k) := by decide +kernel
theorem xi_Law : ∀ w ∈ u_ws "OnionCourt$Law" xf_Law 9, w ∈ lw_tbl := fun w h => xv_wsin (fun k hk => xi_Law_ok k hk) w h
def xf_Case : u_T := fun k => match k with
  | 0 => ("OnionCourt$Case", "witness", "I", false)
  | 1 => ("OnionCourt$Case", "honesty", "I", false)
  | 2 => ("OnionCourt$Case", "strength", "I", false)
  | 3 => ("OnionCourt$Case", "layers", "I", false)
  | 4 => ("OnionCourt$Case", "question", "I", false)
  | 5 => ("OnionCourt$Case", "holds", "I", false)
  | 6 => ("OnionCourt$Case", "lies", "I", false)
  | _ => ("OnionCourt$Case", "week", "I", false)
def xt_Case : Nat → FieldType := fun k => match k with
  | 0 => .int
  | 1 => .int
  | 2 => .int
  | 3 => .int
  | 4 => .int
  | 5 => .int
  | 6 => .int
  | _ => .int
theorem xn_Case : ∀ a, a < 8 → ∀ b, b < 8 → a ≠ b → (xf_Case a).2.1 ≠ (xf_Case b).2.1 := by decide +kernel
theorem xt_Case_ok : ∀ k, k < 8 → parseFieldDescriptor (xf_Case k).2.2.1 = some (xt_Case k) := by decide +kernel
theorem xi_Case_ok : ∀ k, k < 8 → ([183, 185, 187, 189, 191, 193, 195, 197] : List Nat)[k]?.bind (fun i => lw_tbl[i]?) = some (u_lay "OnionCourt$Case" xf_Case k) := by decide +kernel
theorem xi_Case : ∀ w ∈ u_ws "OnionCourt$Case" xf_Case 8, w ∈ lw_tbl := fun w h => xv_wsin (fun k hk => xi_Case_ok k hk) w h
def xf_Scales : u_T := fun k => match k with
  | 0 => ("OnionCourt$Scales", "tenths", "[I", true)
  | _ => ("OnionCourt$Scales", "weights", "[J", true)
def xt_Scales : Nat → FieldType := fun k => match k with
  | 0 => .array .int
  | _ => .array .long
theorem xn_Scales : ∀ a, a < 2 → ∀ b, b < 2 → a ≠ b → (xf_Scales a).2.1 ≠ (xf_Scales b).2.1 := by decide +kernel
theorem xt_Scales_ok : ∀ k, k < 2 → parseFieldDescriptor (xf_Scales k).2.2.1 = some (xt_Scales k) := by decide +kernel
theorem xi_Scales_ok : ∀ k, k < 2 → ([208, 210] : List Nat)[k]?.bind (fun i => lw_tbl[i]?) = some (u_lay "OnionCourt$Scales" xf_Scales k) := by decide +kernel
theorem xi_Scales : ∀ w ∈ u_ws "OnionCourt$Scales" xf_Scales 2, w ∈ lw_tbl := fun w h => xv_wsin (fun k hk => xi_Scales_ok k hk) w h
def xf_Archive : u_T := fun k => match k with
  | 0 => ("OnionCourt$Archive", "witnesses", "[LOnionCourt$Witness;", true)
  | 1 => ("OnionCourt$Archive", "answers", "[LOnionCourt$Answer;", true)
  | 2 => ("OnionCourt$Archive", "said", "I", false)
  | 3 => ("OnionCourt$Archive", "week", "I", false)
  | 4 => ("OnionCourt$Archive", "drawn", "I", false)
  | 5 => ("OnionCourt$Archive", "sprouted", "I", false)
  | _ => ("OnionCourt$Archive", "gone", "I", false)
def xt_Archive : Nat → FieldType := fun k => match k with
  | 0 => .array (.object "OnionCourt$Witness")
  | 1 => .array (.object "OnionCourt$Answer")
  | 2 => .int
  | 3 => .int
  | 4 => .int
  | 5 => .int
  | _ => .int
theorem xn_Archive : ∀ a, a < 7 → ∀ b, b < 7 → a ≠ b → (xf_Archive a).2.1 ≠ (xf_Archive b).2.1 := by decide +kernel
theorem xt_Archive_ok : ∀ k, k < 7 → parseFieldDescriptor (xf_Archive k).2.2.1 = some (xt_Archive k) := by decide +kernel
theorem xi_Archive_ok : ∀ k, k < 7 → ([278, 280, 282, 284, 286, 288, 290] : List Nat)[k]?.bind (fun i => lw_tbl[i]?) = some (u_lay "OnionCourt$Archive" xf_Archive k) := by decide +kernel
theorem xi_Archive : ∀ w ∈ u_ws "OnionCourt$Archive" xf_Archive 7, w ∈ lw_tbl := fun w h => xv_wsin (fun k hk => xi_Archive_ok k hk) w h
def xf_Witness : u_T := fun k => match k with
  | 0 => ("OnionCourt$Witness", "strengths", "[I", true)
  | 1 => ("OnionCourt$Witness", "layers", "I", false)
  | 2 => ("OnionCourt$Witness", "honesty", "I", false)
  | _ => ("OnionCourt$Witness", "told", "Z", false)
def xt_Witness : Nat → FieldType := fun k => match k with
  | 0 => .array .int
  | 1 => .int
  | 2 => .int
  | _ => .boolean
theorem xn_Witness : ∀ a, a < 4 → ∀ b, b < 4 → a ≠ b → (xf_Witness a).2.1 ≠ (xf_Witness b).2.1 := by decide +kernel
theorem xt_Witness_ok : ∀ k, k < 4 → parseFieldDescriptor (xf_Witness k).2.2.1 = some (xt_Witness k) := by decide +kernel
theorem xi_Witness_ok : ∀ k, k < 4 → ([232, 234, 236, 238] : List Nat)[k]?.bind (fun i => lw_tbl[i]?) = some (u_lay "OnionCourt$Witness" xf_Witness k) := by decide +kernel
theorem xi_Witness : ∀ w ∈ u_ws "OnionCourt$Witness" xf_Witness 4, w ∈ lw_tbl := fun w h => xv_wsin (fun k hk => xi_Witness_ok k hk) w h
def xf_Answer : u_T := fun k => match k with
  | 0 => ("OnionCourt$Answer", "witness", "I", false)
  | 1 => ("OnionCourt$Answer", "question", "I", false)
  | 2 => ("OnionCourt$Answer", "yes", "Z", false)
  | 3 => ("OnionCourt$Answer", "cried", "Z", false)
  | 4 => ("OnionCourt$Answer", "strength", "I", false)
  | 5 => ("OnionCourt$Answer", "layers", "I", false)
  | 6 => ("OnionCourt$Answer", "week", "I", false)
  | _ => ("OnionCourt$Answer", "honesty", "I", false)
def xt_Answer : Nat → FieldType := fun k => match k with
  | 0 => .int
  | 1 => .int
  | 2 => .boolean
  | 3 => .boolean
  | 4 => .int
  | 5 => .int
  | 6 => .int
  | _ => .int
theorem xn_Answer : ∀ a, a < 8 → ∀ b, b < 8 → a ≠ b → (xf_Answer a).2.1 ≠ (xf_Answer b).2.1 := by decide +kernel
theorem xt_Answer_ok : ∀ k, k < 8 → parseFieldDescriptor (xf_Answer k).2.2.1 = some (xt_Answer k) := by decide +kernel
theorem xi_Answer_ok : ∀ k, k < 8 → ([254, 256, 258, 260, 262, 264, 266, 268] : List Nat)[k]?.bind (fun i => lw_tbl[i]?) = some (u_lay "OnionCourt$Answer" xf_Answer k) := by decide +kernel
theorem xi_Answer : ∀ w ∈ u_ws "OnionCourt$Answer" xf_Answer 8, w ∈ lw_tbl := fun w h => xv_wsin (fun k hk => xi_Answer_ok k hk) w h
def xf_Boxes : u_T := fun k => match k with
  | 0 => ("OnionCourt$Boxes", "sizes", "[I", true)
  | 1 => ("OnionCourt$Boxes", "row", "[I", true)
  | 2 => ("OnionCourt$Boxes", "loads", "[I", true)
  | 3 => ("OnionCourt$Boxes", "skins", "I", false)
  | _ => ("OnionCourt$Boxes", "room", "I", false)
def xt_Boxes : Nat → FieldType := fun k => match k with
  | 0 => .array .int
  | 1 => .array .int
  | 2 => .array .int
  | 3 => .int
  | _ => .int
theorem xn_Boxes : ∀ a, a < 5 → ∀ b, b < 5 → a ≠ b → (xf_Boxes a).2.1 ≠ (xf_Boxes b).2.1 := by decide +kernel
theorem xt_Boxes_ok : ∀ k, k < 5 → parseFieldDescriptor (xf_Boxes k).2.2.1 = some (xt_Boxes k) := by decide +kernel
theorem xi_Boxes_ok : ∀ k, k < 5 → ([306, 308, 310, 312, 314] : List Nat)[k]?.bind (fun i => lw_tbl[i]?) = some (u_lay "OnionCourt$Boxes" xf_Boxes k) := by decide +kernel
theorem xi_Boxes : ∀ w ∈ u_ws "OnionCourt$Boxes" xf_Boxes 5, w ∈ lw_tbl := fun w h => xv_wsin (fun k hk => xi_Boxes_ok k hk) w h
def xf_Exchange : u_T := fun k => match k with
  | 0 => ("OnionCourt$Exchange", "members", "[I", true)
  | 1 => ("OnionCourt$Exchange", "honesties", "[I", true)
  | 2 => ("OnionCourt$Exchange", "onions", "[I", true)
  | 3 => ("OnionCourt$Exchange", "row", "[I", true)
  | 4 => ("OnionCourt$Exchange", "best", "[I", true)
  | 5 => ("OnionCourt$Exchange", "size", "I", false)
  | _ => ("OnionCourt$Exchange", "most", "I", false)
def xt_Exchange : Nat → FieldType := fun k => match k with
  | 0 => .array .int
  | 1 => .array .int
  | 2 => .array .int
  | 3 => .array .int
  | 4 => .array .int
  | 5 => .int
  | _ => .int
theorem xn_Exchange : ∀ a, a < 7 → ∀ b, b < 7 → a ≠ b → (xf_Exchange a).2.1 ≠ (xf_Exchange b).2.1 := by decide +kernel
theorem xt_Exchange_ok : ∀ k, k < 7 → parseFieldDescriptor (xf_Exchange k).2.2.1 = some (xt_Exchange k) := by decide +kernel
theorem xi_Exchange_ok : ∀ k, k < 7 → ([330, 332, 334, 336, 338, 340, 342] : List Nat)[k]?.bind (fun i => lw_tbl[i]?) = some (u_lay "OnionCourt$Exchange" xf_Exchange k) := by decide +kernel
theorem xi_Exchange : ∀ w ∈ u_ws "OnionCourt$Exchange" xf_Exchange 7, w ∈ lw_tbl := fun w h => xv_wsin (fun k hk => xi_Exchange_ok k hk) w h
def xv_cl : List vw_C := [("OnionCourtModel", xf_Mo, 52), ("OnionCourt", xf_Ct, 14), ("OnionCourt$Tape", xf_Tape, 5), ("OnionCourt$Questions", xf_Questions, 2), ("OnionCourt$Law", xf_Law, 9), ("OnionCourt$Case", xf_Case, 8), ("OnionCourt$Scales", xf_Scales, 2), ("OnionCourt$Archive", xf_Archive, 7), ("OnionCourt$Witness", xf_Witness, 4), ("OnionCourt$Answer", xf_Answer, 8), ("OnionCourt$Boxes", xf_Boxes, 5), ("OnionCourt$Exchange", xf_Exchange, 7)]
/-- what a class of the list is known for -/
theorem xv_cl_ok : ∀ (ci : Nat) (q : vw_C), xv_cl[ci]? = some q → (∀ w ∈ u_ws q.1 q.2.1 q.2.2, w ∈ lw_tbl) ∧ (∃ ty : Nat → FieldType, ∀ k, k < q.2.2 → parseFieldDescriptor (q.2.1 k).2.2.1 = some (ty k)) ∧ (∀ a, a < q.2.2 → ∀ b, b < q.2.2 → a ≠ b → (q.2.1 a).2.1 ≠ (q.2.1 b).2.1) := by
  intro ci q h
  match ci, h with
  | 0, h => cases h; exact ⟨xi_Mo, ⟨xt_Mo, xt_Mo_ok⟩, xn_Mo⟩
  | 1, h => cases h; exact ⟨xi_Ct, ⟨xt_Ct, xt_Ct_ok⟩, xn_Ct⟩
  | 2, h => cases h; exact ⟨xi_Tape, ⟨xt_Tape, xt_Tape_ok⟩, xn_Tape⟩
  | 3, h => cases h; exact ⟨xi_Questions, ⟨xt_Questions, xt_Questions_ok⟩, xn_Questions⟩
  | 4, h => cases h; exact ⟨xi_Law, ⟨xt_Law, xt_Law_ok⟩, xn_Law⟩
  | 5, h => cases h; exact ⟨xi_Case, ⟨xt_Case, xt_Case_ok⟩, xn_Case⟩
  | 6, h => cases h; exact ⟨xi_Scales, ⟨xt_Scales, xt_Scales_ok⟩, xn_Scales⟩
  | 7, h => cases h; exact ⟨xi_Archive, ⟨xt_Archive, xt_Archive_ok⟩, xn_Archive⟩
  | 8, h => cases h; exact ⟨xi_Witness, ⟨xt_Witness, xt_Witness_ok⟩, xn_Witness⟩
  | 9, h => cases h; exact ⟨xi_Answer, ⟨xt_Answer, xt_Answer_ok⟩, xn_Answer⟩
  | 10, h => cases h; exact ⟨xi_Boxes, ⟨xt_Boxes, xt_Boxes_ok⟩, xn_Boxes⟩
  | 11, h => cases h; exact ⟨xi_Exchange, ⟨xt_Exchange, xt_Exchange_ok⟩, xn_Exchange⟩
  | k + 12, h => simp [xv_cl] at h
end
section
/-! A SMALL MACHINE of its own, as a function: methods as lists of resolved instructions, a world of cells by their numbers. -/
abbrev xv_C : Type := (Nat × vp_A) ⊕ (Nat × List Value)
abbrev xv_H : Type := Nat → xv_C
abbrev xv_S : Type := (Nat × Nat) × xv_H
abbrev xv_L : Type := List (Option Value)
/-- an instruction; three numbers and a value that resolve it -/
abbrev xv_Op : Type := Instr × Nat × Nat × Nat × Value
abbrev xv_B : Type := List (Nat × List xv_Op)
/-- a method: name, bytes, locals, return type; class, kind (0 static, 1 virtual, 2 constructor), arguments without the receiver; its longs' places; its blocks -/
abbrev xv_M : Type := MethodName × ByteArray × Nat × Option FieldType × (Nat × Nat × Nat) × List Nat × xv_B
abbrev xv_Ro : Type := Nat → Option (Nat × (Nat → Int32))
def xv_at : xv_B → Nat → List xv_Op
  | [], _ => []
  | (p, b) :: L, q => if p = q then b else xv_at L q
def xv_get : xv_L → Nat → Option Value
  | [], _ => none
  | a :: _, 0 => a
  | _ :: ls, n + 1 => xv_get ls n
def xv_set : xv_L → Nat → Option Value → xv_L
  | [], _, _ => []
  | _ :: ls, 0, v => v :: ls
  | a :: ls, n + 1, v => a :: xv_set ls n v
/-- is it a value of that kind: 0 int, 1 long, 2 boolean, 3 reference -/
def xv_ty : Nat → Value → Bool
  | 0, .int _ => true
  | 1, .long _ => true
  | 2, .int x => x == 0 || x == 1
  | 3, .null => true
  | 3, .ref _ => true
  | _, _ => false
def xv_i2 (f : Int32 → Int32 → Option Int32) : List Value → Option (List Value)
  | .int y :: .int x :: r => (f x y).map fun z => .int z :: r
  | _ => none
def xv_l2 (f : Int64 → Int64 → Option Value) : List Value → Option (List Value)
  | .long y :: .long x :: r => (f x y).map fun z => z :: r
  | _ => none
def xv_il (f : Int64 → Int32 → Int64) : List Value → Option (List Value)
  | .int y :: .long x :: r => some (.long (f x y) :: r)
  | _ => none
def xv_i1 (f : Int32 → Value) : List Value → Option (List Value)
  | .int x :: r => some (f x :: r)
  | _ => none
def xv_l1 (f : Int64 → Value) : List Value → Option (List Value)
  | .long x :: r => some (f x :: r)
  | _ => none
def xv_ld (t : Nat) (ls : xv_L) (k : Nat) (st : List Value) : Option (xv_L × List Value) :=
  match xv_get ls k with
  | some v => if xv_ty t v = true then some (ls, v :: st) else none
  | none => none
def xv_st (t : Nat) (ls : xv_L) (k : Nat) : List Value → Option (xv_L × List Value)
  | v :: st => if xv_ty t v = true then some (xv_set ls k (some v), st) else none
  | [] => none
def xv_stl (ls : xv_L) (k : Nat) : List Value → Option (xv_L × List Value)
  | .long x :: st => some (xv_set (xv_set ls k (some (.long x))) (k + 1) none, st)
  | _ => none
def xv_inc (ls : xv_L) (k : Nat) (v : Value) (st : List Value) : Option (xv_L × List Value) :=
  match xv_get ls k, v with
  | some (.int x), .int c => some (xv_set ls k (some (.int (x + c))), st)
  | _, _ => none
def xv_dup : List Value → Option (List Value)
  | v :: r => if v.category = 1 then some (v :: v :: r) else none
  | [] => none
def xv_dup2 : List Value → Option (List Value)
  | v :: w :: r => if v.category = 1 ∧ w.category = 1 then some (v :: w :: v :: w :: r) else none
  | _ => none
def xv_pop : List Value → Option (List Value)
  | v :: r => if v.category = 1 then some r else none
  | [] => none
/-- what touches neither heap nor place -/
def xv_loc (i : Instr) (v : Value) (ls : xv_L) (st : List Value) : Option (xv_L × List Value) :=
  match i with
  | .aconst_null => some (ls, .null :: st)
  | .iconst _ => some (ls, v :: st)
  | .bipush _ => some (ls, v :: st)
  | .sipush _ => some (ls, v :: st)
  | .lconst _ => some (ls, v :: st)
  | .ldc _ => some (ls, v :: st)
  | .ldc_w _ => some (ls, v :: st)
  | .ldc2_w _ => some (ls, v :: st)
  | .iload k => xv_ld 0 ls k st
  | .iload_n k => xv_ld 0 ls k.1 st
  | .lload k => xv_ld 1 ls k st
  | .lload_n k => xv_ld 1 ls k.1 st
  | .aload k => xv_ld 3 ls k st
  | .aload_n k => xv_ld 3 ls k.1 st
  | .istore k => xv_st 0 ls k st
  | .istore_n k => xv_st 0 ls k.1 st
  | .astore k => xv_st 3 ls k st
  | .astore_n k => xv_st 3 ls k.1 st
  | .lstore k => xv_stl ls k st
  | .lstore_n k => xv_stl ls k.1 st
  | .iinc k _ => xv_inc ls k v st
  | .dup => (xv_dup st).map fun r => (ls, r)
  | .dup2 => (xv_dup2 st).map fun r => (ls, r)
  | .pop => (xv_pop st).map fun r => (ls, r)
  | .iadd => (xv_i2 (fun x y => some (x + y)) st).map fun r => (ls, r)
  | .isub => (xv_i2 (fun x y => some (x - y)) st).map fun r => (ls, r)
  | .imul => (xv_i2 (fun x y => some (x * y)) st).map fun r => (ls, r)
  | .iand => (xv_i2 (fun x y => some (x &&& y)) st).map fun r => (ls, r)
  | .ior => (xv_i2 (fun x y => some (x ||| y)) st).map fun r => (ls, r)
  | .ixor => (xv_i2 (fun x y => some (x ^^^ y)) st).map fun r => (ls, r)
  | .ishl => (xv_i2 (fun x y => some (x <<< (y &&& 31))) st).map fun r => (ls, r)
  | .ishr => (xv_i2 (fun x y => some (x >>> (y &&& 31))) st).map fun r => (ls, r)
  | .iushr => (xv_i2 (fun x y => some (x.toUInt32 >>> (y.toUInt32 &&& Int32.toUInt32 31)).toInt32) st).map fun r => (ls, r)
  | .idiv => (xv_i2 (fun x y => if y = 0 then none else some (x / y)) st).map fun r => (ls, r)
  | .irem => (xv_i2 (fun x y => if y = 0 then none else some (x - x / y * y)) st).map fun r => (ls, r)
  | .ineg => (xv_i1 (fun x => .int (-x)) st).map fun r => (ls, r)
  | .i2l => (xv_i1 (fun x => .long x.toInt64) st).map fun r => (ls, r)
  | .i2b => (xv_i1 (fun x => .int x.toInt8.toInt32) st).map fun r => (ls, r)
  | .l2i => (xv_l1 (fun x => .int x.toInt32) st).map fun r => (ls, r)
  | .lneg => (xv_l1 (fun x => .long (-x)) st).map fun r => (ls, r)
  | .ladd => (xv_l2 (fun x y => some (.long (x + y))) st).map fun r => (ls, r)
  | .lsub => (xv_l2 (fun x y => some (.long (x - y))) st).map fun r => (ls, r)
  | .lmul => (xv_l2 (fun x y => some (.long (x * y))) st).map fun r => (ls, r)
  | .land => (xv_l2 (fun x y => some (.long (x &&& y))) st).map fun r => (ls, r)
  | .lor => (xv_l2 (fun x y => some (.long (x ||| y))) st).map fun r => (ls, r)
  | .lxor => (xv_l2 (fun x y => some (.long (x ^^^ y))) st).map fun r => (ls, r)
  | .ldiv => (xv_l2 (fun x y => if y = 0 then none else some (.long (x / y))) st).map fun r => (ls, r)
  | .lrem => (xv_l2 (fun x y => if y = 0 then none else some (.long (x - x / y * y))) st).map fun r => (ls, r)
  | .lcmp => (xv_l2 (fun x y => some (.int (lg_cmp x y))) st).map fun r => (ls, r)
  | .lshl => (xv_il (fun x y => x <<< (y.toInt64 &&& 63)) st).map fun r => (ls, r)
  | .lshr => (xv_il (fun x y => x >>> (y.toInt64 &&& 63)) st).map fun r => (ls, r)
  | _ => none
/-- where a jump goes: 'some (some a)' to a, 'some none' on -/
def xv_c2 (c : Int32 → Int32 → Bool) (a : Nat) : List Value → Option (Option Nat × List Value)
  | .int y :: .int x :: r => some (if c x y = true then some a else none, r)
  | _ => none
def xv_c1 (c : Int32 → Bool) (a : Nat) : List Value → Option (Option Nat × List Value)
  | .int x :: r => some (if c x = true then some a else none, r)
  | _ => none
def xv_nul (b : Bool) (a : Nat) : List Value → Option (Option Nat × List Value)
  | .null :: r => some (if b = true then some a else none, r)
  | .ref _ :: r => some (if b = true then none else some a, r)
  | _ => none
def xv_tab (pc : Nat) (d lo hi : Int) (os : Array Int) : List Value → Option (Option Nat × List Value)
  | .int x :: r => if x.toInt < lo ∨ hi < x.toInt then some (some ((pc : Int) + d).toNat, r) else (os[(x.toInt - lo).toNat]?).map fun o => (some ((pc : Int) + o).toNat, r)
  | _ => none
def xv_jmp (i : Instr) (a : Nat) (st : List Value) : Option (Option Nat × List Value) :=
  match i with
  | .nop => some (some a, st)
  | .goto _ => some (some a, st)
  | .if_icmp .eq _ => xv_c2 (fun x y => decide (x = y)) a st
  | .if_icmp .ne _ => xv_c2 (fun x y => decide (¬ x = y)) a st
  | .if_icmp .lt _ => xv_c2 (fun x y => decide (x < y)) a st
  | .if_icmp .ge _ => xv_c2 (fun x y => decide (y ≤ x)) a st
  | .if_icmp .gt _ => xv_c2 (fun x y => decide (y < x)) a st
  | .if_icmp .le _ => xv_c2 (fun x y => decide (x ≤ y)) a st
  | .ifCond .eq _ => xv_c1 (fun x => decide (x = 0)) a st
  | .ifCond .ne _ => xv_c1 (fun x => decide (¬ x = 0)) a st
  | .ifCond .lt _ => xv_c1 (fun x => decide (x < 0)) a st
  | .ifCond .ge _ => xv_c1 (fun x => decide (0 ≤ x)) a st
  | .ifCond .gt _ => xv_c1 (fun x => decide (0 < x)) a st
  | .ifCond .le _ => xv_c1 (fun x => decide (x ≤ 0)) a st
  | .ifnull _ => xv_nul true a st
  | .ifnonnull _ => xv_nul false a st
  | .tableswitch d lo hi os => xv_tab a d lo hi os st
  | _ => none
/-- a cell's new contents -/
def xv_up (h : xv_H) (k : Nat) (c : xv_C) : xv_H := fun j => if j = k then c else h j
def xv_in (i : Int32) (n : Nat) : Prop := 0 ≤ i.toInt ∧ i.toInt < n
def xv_inB (i : Int32) (n : Nat) : Bool := decide (0 ≤ i.toInt) && decide (i.toInt < n)
def xv_getf (k ci : Nat) (h : xv_H) : List Value → Option (List Value)
  | .ref r :: st => match h r with
    | .inr (c, fs) => if c = ci then (fs[k]?).map fun v => v :: st else none
    | _ => none
  | _ => none
def xv_putf (k ci t : Nat) (h : xv_H) : List Value → Option (List Value × xv_H)
  | v :: .ref r :: st => match h r with
    | .inr (c, fs) => if c = ci ∧ k < fs.length ∧ xv_ty t v = true then some (st, xv_up h r (.inr (c, fs.set k v))) else none
    | _ => none
  | _ => none
def xv_ildr (ro : xv_Ro) : List Value → Option (List Value)
  | .int i :: .ref r :: st => match ro r with
    | some (n, f) => if xv_inB i n = true then some (.int (f i.toNatClampNeg) :: st) else none
    | none => none
  | _ => none
def xv_ild (kd : Nat) (h : xv_H) : List Value → Option (List Value)
  | .int i :: .ref r :: st => match h r with
    | .inl (k, n, .inl f) => if k = kd ∧ xv_inB i n = true then some (.int (f i.toNatClampNeg) :: st) else none
    | _ => none
  | _ => none
def xv_lld (h : xv_H) : List Value → Option (List Value)
  | .int i :: .ref r :: st => match h r with
    | .inl (k, n, .inr (.inl f)) => if k = 1 ∧ xv_inB i n = true then some (.long (f i.toNatClampNeg) :: st) else none
    | _ => none
  | _ => none
def xv_ald (h : xv_H) : List Value → Option (List Value)
  | .int i :: .ref r :: st => match h r with
    | .inl (k, n, .inr (.inr (.inr (.inr f)))) => if (k = 3 ∨ k = 4) ∧ xv_inB i n = true then some (va_rf (f i.toNatClampNeg) :: st) else none
    | _ => none
  | _ => none
def xv_isto (kd : Nat) (g : Int32 → Int32) (h : xv_H) : List Value → Option (List Value × xv_H)
  | .int x :: .int i :: .ref r :: st => match h r with
    | .inl (k, n, .inl f) => if k = kd ∧ xv_inB i n = true then some (st, xv_up h r (.inl (k, n, .inl (upd f i.toNatClampNeg (g x))))) else none
    | _ => none
  | _ => none
def xv_lsto (h : xv_H) : List Value → Option (List Value × xv_H)
  | .long x :: .int i :: .ref r :: st => match h r with
    | .inl (k, n, .inr (.inl f)) => if k = 1 ∧ xv_inB i n = true then some (st, xv_up h r (.inl (k, n, .inr (.inl (vp_updL f i.toNatClampNeg x))))) else none
    | _ => none
  | _ => none
def xv_asto (h : xv_H) : List Value → Option (List Value × xv_H)
  | .ref v :: .int i :: .ref r :: st => match h r, h v with
    | .inl (k, n, .inr (.inr (.inr (.inr f)))), .inr (c, _) => if (k = 3 ∧ c = 8 ∨ k = 4 ∧ c = 9) ∧ xv_inB i n = true then some (st, xv_up h r (.inl (k, n, .inr (.inr (.inr (.inr (va_up f i.toNatClampNeg (some v)))))))) else none
    | _, _ => none
  | _ => none
def xv_len (h : xv_H) : List Value → Option (List Value)
  | .ref r :: st => match h r with
    | .inl (_, n, _) => some (.int (Int32.ofNat n) :: st)
    | _ => none
  | _ => none
def xv_lenr (ro : xv_Ro) : List Value → Option (List Value)
  | .ref r :: st => (ro r).map fun q => .int (Int32.ofNat q.1) :: st
  | _ => none
def xv_dfs (ci : Nat) : List Value := ((xv_cl[ci]?).map fun q => (List.range q.2.2).map fun k => if (q.2.1 k).2.2.1 = "I" ∨ (q.2.1 k).2.2.1 = "Z" then Value.int 0 else if (q.2.1 k).2.2.1 = "J" then .long 0 else .null).getD []
def xv_new (ci : Nat) (σ : xv_S) (st : List Value) : Option (List Value × xv_S) :=
  if σ.1.1 < 1000000 then some (.ref σ.1.1 :: st, ((σ.1.1 + 1, σ.1.2 + (xv_dfs ci).length), xv_up σ.2 σ.1.1 (.inr (ci, xv_dfs ci)))) else none
def xv_newa (k : Nat) (σ : xv_S) : List Value → Option (List Value × xv_S)
  | .int n :: st => if σ.1.1 < 1000000 ∧ 0 ≤ n ∧ n ≤ 100000 then some (.ref σ.1.1 :: st, ((σ.1.1 + 1, σ.1.2 + n.toNatClampNeg), xv_up σ.2 σ.1.1 (.inl (k, n.toNatClampNeg,
      if k = 1 then .inr (.inl fun _ => 0) else if k = 3 ∨ k = 4 then .inr (.inr (.inr (.inr fun _ => none))) else .inl fun _ => 0)))) else none
  | _ => none
def xv_hp (ro : xv_Ro) (i : Instr) (a b : Nat) (v : Value) (σ : xv_S) (st : List Value) : Option (List Value × xv_S) :=
  match i with
  | .getfield _ => (xv_getf a b σ.2 st).map fun r => (r, σ)
  | .putfield _ => (match v with | .int t => (xv_putf a b t.toNatClampNeg σ.2 st).map fun r => (r.1, (σ.1, r.2)) | _ => none)
  | .iaload => ((if b = 1 then xv_ildr ro st else xv_ild 0 σ.2 st)).map fun r => (r, σ)
  | .baload => (xv_ild 2 σ.2 st).map fun r => (r, σ)
  | .laload => (xv_lld σ.2 st).map fun r => (r, σ)
  | .aaload => (xv_ald σ.2 st).map fun r => (r, σ)
  | .iastore => (xv_isto 0 (fun x => x) σ.2 st).map fun r => (r.1, (σ.1, r.2))
  | .bastore => (xv_isto 2 (fun x => vp_nar .byte x) σ.2 st).map fun r => (r.1, (σ.1, r.2))
  | .lastore => (xv_lsto σ.2 st).map fun r => (r.1, (σ.1, r.2))
  | .aastore => (xv_asto σ.2 st).map fun r => (r.1, (σ.1, r.2))
  | .arraylength => ((if b = 1 then xv_lenr ro st else xv_len σ.2 st)).map fun r => (r, σ)
  | .getstatic _ => some (.ref 1000000 :: st, σ)
  | .new _ => xv_new a σ st
  | .newarray _ => xv_newa a σ st
  | .anewarray _ => xv_newa a σ st
  | _ => none
/-- a call: callee, arguments with the receiver, the rest of the stack -/
def xv_cv (a b : Nat) (v : Value) (h : xv_H) (st : List Value) : Option (Nat × List Value × List Value) :=
  match st.drop b, v with
  | .ref r :: rest, .int ci => (match h r with
    | .inr (c, _) => if c = ci.toNatClampNeg then some (a, .ref r :: (st.take b).reverse, rest) else none
    | _ => none)
  | _, _ => none
def xv_ci (a b : Nat) (st : List Value) : Option (Nat × List Value × List Value) :=
  match st.drop b with
  | .ref r :: rest => some (a, .ref r :: (st.take b).reverse, rest)
  | _ => none
def xv_ret (M : xv_M) (i : Instr) (st : List Value) : Option (Option Value) :=
  match i, st with
  | .return_, [] => some none
  | .ireturn, [.int x] => if M.2.2.2.1 = some .int then some (some (.int x)) else if M.2.2.2.1 = some .boolean ∧ (x = 0 ∨ x = 1) then some (some (.int x)) else none
  | .lreturn, [.long x] => some (some (.long x))
  | .areturn, [.null] => some (some .null)
  | .areturn, [.ref a] => some (some (.ref a))
  | _, _ => none
def xv_kd : Instr → Nat
  | .nop | .goto _ | .if_icmp _ _ | .ifCond _ _ | .ifnull _ | .ifnonnull _ | .tableswitch _ _ _ _ => 1
  | .getfield _ | .putfield _ | .iaload | .baload | .laload | .aaload | .iastore | .bastore | .lastore | .aastore | .arraylength | .getstatic _ | .new _ | .newarray _ | .anewarray _ => 2
  | .invokevirtual _ | .invokestatic _ | .invokespecial _ => 3
  | .return_ | .ireturn | .lreturn | .areturn => 4
  | _ => 0
/-- locals at a method's entry -/
def xv_flat : List Value → xv_L
  | [] => []
  | v :: vs => if v.category = 2 then some v :: none :: xv_flat vs else some v :: xv_flat vs
def xv_lgs : Nat → List Value → List Nat
  | _, [] => []
  | n, v :: vs => if v.category = 2 then n :: xv_lgs (n + 2) vs else xv_lgs (n + 1) vs
def xv_ini (M : xv_M) (as : List Value) : Option xv_L :=
  if (xv_flat as).length ≤ M.2.2.1 ∧ (xv_lgs 0 as).all (fun j => M.2.2.2.2.2.1.contains j) = true then some (xv_flat as ++ List.replicate (M.2.2.1 - (xv_flat as).length) none) else none
def xv_exec (mt : Nat → Option xv_M) (ro : xv_Ro) : Nat → Nat → xv_M → List xv_Op → xv_L → List Value → xv_S → Option (Option Value × xv_S)
  | 0, _, _, _, _, _, _ => none
  | _ + 1, _, _, [], _, _, _ => none
  | n + 1, d, M, (i, a, b, w, v) :: ops, ls, st, σ =>
    match xv_kd i with
    | 0 => (match xv_loc i v ls st with
      | some (ls', st') => xv_exec mt ro n d M ops ls' st' σ
      | none => none)
    | 1 => (match xv_jmp i a st with
      | some (some t, st') => xv_exec mt ro n d M (xv_at M.2.2.2.2.2.2 t) ls st' σ
      | some (none, st') => xv_exec mt ro n d M ops ls st' σ
      | none => none)
    | 2 => (match xv_hp ro i a b v σ st with
      | some (st', σ') => xv_exec mt ro n d M ops ls st' σ'
      | none => none)
    | 3 => (match d with
      | 0 => none
      | d' + 1 =>
        if v = .null then (match st with
          | .ref _ :: rest => if rest.length ≤ 4 then xv_exec mt ro n (d' + 1) M ops ls rest σ else none
          | _ => none)
        else (match (match i with
            | .invokevirtual _ => xv_cv a b v σ.2 st
            | .invokespecial _ => xv_ci a b st
            | _ => some (a, (st.take b).reverse, st.drop b)) with
          | some (k, as, rest) => (match mt k with
            | some M' => (match xv_ini M' as with
              | some ls0 => if rest.length ≤ 4 ∧ as.length = M'.2.2.2.2.1.2.2 + (if M'.2.2.2.2.1.2.1 = 0 then 0 else 1) then (match xv_exec mt ro n d' M' (xv_at M'.2.2.2.2.2.2 0) ls0 [] σ with
                | some (r, σ') => xv_exec mt ro n (d' + 1) M ops ls (r.toList ++ rest) σ'
                | none => none) else none
              | none => none)
            | none => none)
          | none => none))
    | _ => (match xv_ret M i st with
      | some r => some (r, σ)
      | none => none)
end
