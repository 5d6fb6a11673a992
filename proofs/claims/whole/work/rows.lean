section
-- ===== PART A: goes FIRST, ahead of the names: the tables' words, and 'selects' of the private methods out of them =====
/-- a private method of a class that the tables say can be made, by its rows of tables_1 -/
def lw_okq (q : MethodName × Nat) : Prop := (q.1.cls ≠ "java/lang/invoke/MethodHandle" ∧ q.1.cls ≠ "java/lang/invoke/VarHandle") ∧ Cond.instantiable q.1.cls q.2 ∈ tables_1 ∧ Cond.privateMethod q.1 ∈ tables_1 ∧ Cond.instanceMethod q.1 ∈ tables_1
theorem lw_p0 : lw_okq (⟨"OnionCourt$Witness", "item", "(LOnionCourt$Tape;)V"⟩, 4) := ⟨⟨by decide +kernel, by decide +kernel⟩, List.mem_of_getElem? (i := 149) (by decide +kernel), List.mem_of_getElem? (i := 526) (by decide +kernel), List.mem_of_getElem? (i := 527) (by decide +kernel)⟩
theorem lw_p1 : lw_okq (⟨"OnionCourt$Archive", "line", "(LOnionCourt$Tape;LOnionCourt$Questions;)V"⟩, 7) := ⟨⟨by decide +kernel, by decide +kernel⟩, List.mem_of_getElem? (i := 140) (by decide +kernel), List.mem_of_getElem? (i := 563) (by decide +kernel), List.mem_of_getElem? (i := 564) (by decide +kernel)⟩
theorem lw_p2 : lw_okq (⟨"OnionCourt$Archive", "whatIsWrongWith", "(I)I"⟩, 7) := ⟨⟨by decide +kernel, by decide +kernel⟩, List.mem_of_getElem? (i := 140) (by decide +kernel), List.mem_of_getElem? (i := 568) (by decide +kernel), List.mem_of_getElem? (i := 569) (by decide +kernel)⟩
theorem lw_p3 : lw_okq (⟨"OnionCourt$Archive", "live", "(ILOnionCourt$Law;LOnionCourt$Case;)V"⟩, 7) := ⟨⟨by decide +kernel, by decide +kernel⟩, List.mem_of_getElem? (i := 140) (by decide +kernel), List.mem_of_getElem? (i := 643) (by decide +kernel), List.mem_of_getElem? (i := 644) (by decide +kernel)⟩
theorem lw_p4 : lw_okq (⟨"OnionCourt$Law", "run", "(IILOnionCourt$Case;)J"⟩, 9) := ⟨⟨by decide +kernel, by decide +kernel⟩, List.mem_of_getElem? (i := 61) (by decide +kernel), List.mem_of_getElem? (i := 664) (by decide +kernel), List.mem_of_getElem? (i := 665) (by decide +kernel)⟩
theorem lw_p5 : lw_okq (⟨"OnionCourt", "canWeigh", "(I)Z"⟩, 14) := ⟨⟨by decide +kernel, by decide +kernel⟩, List.mem_of_getElem? (i := 17) (by decide +kernel), List.mem_of_getElem? (i := 745) (by decide +kernel), List.mem_of_getElem? (i := 746) (by decide +kernel)⟩
theorem lw_p6 : lw_okq (⟨"OnionCourt", "weigh", "(I)V"⟩, 14) := ⟨⟨by decide +kernel, by decide +kernel⟩, List.mem_of_getElem? (i := 17) (by decide +kernel), List.mem_of_getElem? (i := 754) (by decide +kernel), List.mem_of_getElem? (i := 755) (by decide +kernel)⟩
theorem lw_p7 : lw_okq (⟨"OnionCourt", "mostOpen", "()I"⟩, 14) := ⟨⟨by decide +kernel, by decide +kernel⟩, List.mem_of_getElem? (i := 17) (by decide +kernel), List.mem_of_getElem? (i := 833) (by decide +kernel), List.mem_of_getElem? (i := 834) (by decide +kernel)⟩
theorem lw_p8 : lw_okq (⟨"OnionCourt", "mostTrue", "(II)I"⟩, 14) := ⟨⟨by decide +kernel, by decide +kernel⟩, List.mem_of_getElem? (i := 17) (by decide +kernel), List.mem_of_getElem? (i := 894) (by decide +kernel), List.mem_of_getElem? (i := 895) (by decide +kernel)⟩
theorem lw_p9 : lw_okq (⟨"OnionCourt", "canBoth", "(III)Z"⟩, 14) := ⟨⟨by decide +kernel, by decide +kernel⟩, List.mem_of_getElem? (i := 17) (by decide +kernel), List.mem_of_getElem? (i := 898) (by decide +kernel), List.mem_of_getElem? (i := 899) (by decide +kernel)⟩
theorem lw_p10 : lw_okq (⟨"OnionCourt", "isTogether", "(II)Z"⟩, 14) := ⟨⟨by decide +kernel, by decide +kernel⟩, List.mem_of_getElem? (i := 17) (by decide +kernel), List.mem_of_getElem? (i := 909) (by decide +kernel), List.mem_of_getElem? (i := 910) (by decide +kernel)⟩
theorem lw_p11 : lw_okq (⟨"OnionCourt$Boxes", "place", "(III)Z"⟩, 5) := ⟨⟨by decide +kernel, by decide +kernel⟩, List.mem_of_getElem? (i := 222) (by decide +kernel), List.mem_of_getElem? (i := 927) (by decide +kernel), List.mem_of_getElem? (i := 928) (by decide +kernel)⟩
theorem lw_p12 : lw_okq (⟨"OnionCourt$Exchange", "give", "(III)V"⟩, 7) := ⟨⟨by decide +kernel, by decide +kernel⟩, List.mem_of_getElem? (i := 244) (by decide +kernel), List.mem_of_getElem? (i := 956) (by decide +kernel), List.mem_of_getElem? (i := 957) (by decide +kernel)⟩
theorem lw_p13 : lw_okq (⟨"OnionCourt$Exchange", "note", "(I)V"⟩, 7) := ⟨⟨by decide +kernel, by decide +kernel⟩, List.mem_of_getElem? (i := 244) (by decide +kernel), List.mem_of_getElem? (i := 960) (by decide +kernel), List.mem_of_getElem? (i := 961) (by decide +kernel)⟩
theorem lw_p14 : lw_okq (⟨"OnionCourtModel", "types", "(I)V"⟩, 52) := ⟨⟨by decide +kernel, by decide +kernel⟩, List.mem_of_getElem? (i := 1018) (by decide +kernel), List.mem_of_getElem? (i := 1197) (by decide +kernel), List.mem_of_getElem? (i := 1198) (by decide +kernel)⟩
theorem lw_p15 : lw_okq (⟨"OnionCourtModel", "beginsText", "(I)V"⟩, 52) := ⟨⟨by decide +kernel, by decide +kernel⟩, List.mem_of_getElem? (i := 1018) (by decide +kernel), List.mem_of_getElem? (i := 1205) (by decide +kernel), List.mem_of_getElem? (i := 1206) (by decide +kernel)⟩
def lw_privs_1 : List (MethodName × Nat) := [(⟨"OnionCourt$Witness", "item", "(LOnionCourt$Tape;)V"⟩, 4), (⟨"OnionCourt$Archive", "line", "(LOnionCourt$Tape;LOnionCourt$Questions;)V"⟩, 7), (⟨"OnionCourt$Archive", "whatIsWrongWith", "(I)I"⟩, 7), (⟨"OnionCourt$Archive", "live", "(ILOnionCourt$Law;LOnionCourt$Case;)V"⟩, 7), (⟨"OnionCourt$Law", "run", "(IILOnionCourt$Case;)J"⟩, 9), (⟨"OnionCourt", "canWeigh", "(I)Z"⟩, 14), (⟨"OnionCourt", "weigh", "(I)V"⟩, 14), (⟨"OnionCourt", "mostOpen", "()I"⟩, 14), (⟨"OnionCourt", "mostTrue", "(II)I"⟩, 14), (⟨"OnionCourt", "canBoth", "(III)Z"⟩, 14), (⟨"OnionCourt", "isTogether", "(II)Z"⟩, 14), (⟨"OnionCourt$Boxes", "place", "(III)Z"⟩, 5), (⟨"OnionCourt$Exchange", "give", "(III)V"⟩, 7), (⟨"OnionCourt$Exchange", "note", "(I)V"⟩, 7), (⟨"OnionCourtModel", "types", "(I)V"⟩, 52), (⟨"OnionCourtModel", "beginsText", "(I)V"⟩, 52)]
theorem lw_r1 : ∀ q ∈ lw_privs_1, lw_okq q := List.forall_mem_cons.mpr ⟨lw_p0, List.forall_mem_cons.mpr ⟨lw_p1, List.forall_mem_cons.mpr ⟨lw_p2, List.forall_mem_cons.mpr ⟨lw_p3, List.forall_mem_cons.mpr ⟨lw_p4, List.forall_mem_cons.mpr ⟨lw_p5, List.forall_mem_cons.mpr ⟨lw_p6, List.forall_mem_cons.mpr ⟨lw_p7, List.forall_mem_cons.mpr ⟨lw_p8, List.forall_mem_cons.mpr ⟨lw_p9, List.forall_mem_cons.mpr ⟨lw_p10, List.forall_mem_cons.mpr ⟨lw_p11, List.forall_mem_cons.mpr ⟨lw_p12, List.forall_mem_cons.mpr ⟨lw_p13, List.forall_mem_cons.mpr ⟨lw_p14, List.forall_mem_cons.mpr ⟨lw_p15, fun _ h => absurd h List.not_mem_nil⟩⟩⟩⟩⟩⟩⟩⟩⟩⟩⟩⟩⟩⟩⟩⟩
theorem lw_p16 : lw_okq (⟨"OnionCourtModel", "readsRule", "()Z"⟩, 52) := ⟨⟨by decide +kernel, by decide +kernel⟩, List.mem_of_getElem? (i := 1018) (by decide +kernel), List.mem_of_getElem? (i := 1209) (by decide +kernel), List.mem_of_getElem? (i := 1210) (by decide +kernel)⟩
theorem lw_p17 : lw_okq (⟨"OnionCourtModel", "here", "()I"⟩, 52) := ⟨⟨by decide +kernel, by decide +kernel⟩, List.mem_of_getElem? (i := 1018) (by decide +kernel), List.mem_of_getElem? (i := 1213) (by decide +kernel), List.mem_of_getElem? (i := 1214) (by decide +kernel)⟩
theorem lw_p18 : lw_okq (⟨"OnionCourtModel", "wrongAt", "(II)Z"⟩, 52) := ⟨⟨by decide +kernel, by decide +kernel⟩, List.mem_of_getElem? (i := 1018) (by decide +kernel), List.mem_of_getElem? (i := 1217) (by decide +kernel), List.mem_of_getElem? (i := 1218) (by decide +kernel)⟩
theorem lw_p19 : lw_okq (⟨"OnionCourtModel", "readsSum", "()Z"⟩, 52) := ⟨⟨by decide +kernel, by decide +kernel⟩, List.mem_of_getElem? (i := 1018) (by decide +kernel), List.mem_of_getElem? (i := 1221) (by decide +kernel), List.mem_of_getElem? (i := 1222) (by decide +kernel)⟩
theorem lw_p20 : lw_okq (⟨"OnionCourtModel", "readsFactor", "()Z"⟩, 52) := ⟨⟨by decide +kernel, by decide +kernel⟩, List.mem_of_getElem? (i := 1018) (by decide +kernel), List.mem_of_getElem? (i := 1225) (by decide +kernel), List.mem_of_getElem? (i := 1226) (by decide +kernel)⟩
theorem lw_p21 : lw_okq (⟨"OnionCourtModel", "opens", "(I)Z"⟩, 52) := ⟨⟨by decide +kernel, by decide +kernel⟩, List.mem_of_getElem? (i := 1018) (by decide +kernel), List.mem_of_getElem? (i := 1229) (by decide +kernel), List.mem_of_getElem? (i := 1230) (by decide +kernel)⟩
theorem lw_p22 : lw_okq (⟨"OnionCourtModel", "isDigit", "()Z"⟩, 52) := ⟨⟨by decide +kernel, by decide +kernel⟩, List.mem_of_getElem? (i := 1018) (by decide +kernel), List.mem_of_getElem? (i := 1234) (by decide +kernel), List.mem_of_getElem? (i := 1235) (by decide +kernel)⟩
theorem lw_p23 : lw_okq (⟨"OnionCourtModel", "readsNumber", "()Z"⟩, 52) := ⟨⟨by decide +kernel, by decide +kernel⟩, List.mem_of_getElem? (i := 1018) (by decide +kernel), List.mem_of_getElem? (i := 1238) (by decide +kernel), List.mem_of_getElem? (i := 1239) (by decide +kernel)⟩
theorem lw_p24 : lw_okq (⟨"OnionCourtModel", "notes", "(II)V"⟩, 52) := ⟨⟨by decide +kernel, by decide +kernel⟩, List.mem_of_getElem? (i := 1018) (by decide +kernel), List.mem_of_getElem? (i := 1242) (by decide +kernel), List.mem_of_getElem? (i := 1243) (by decide +kernel)⟩
theorem lw_p25 : lw_okq (⟨"OnionCourtModel", "closesSums", "(Z)V"⟩, 52) := ⟨⟨by decide +kernel, by decide +kernel⟩, List.mem_of_getElem? (i := 1018) (by decide +kernel), List.mem_of_getElem? (i := 1252) (by decide +kernel), List.mem_of_getElem? (i := 1253) (by decide +kernel)⟩
theorem lw_p26 : lw_okq (⟨"OnionCourtModel", "waitTop", "()I"⟩, 52) := ⟨⟨by decide +kernel, by decide +kernel⟩, List.mem_of_getElem? (i := 1018) (by decide +kernel), List.mem_of_getElem? (i := 1256) (by decide +kernel), List.mem_of_getElem? (i := 1257) (by decide +kernel)⟩
theorem lw_p27 : lw_okq (⟨"OnionCourtModel", "hasOpenSum", "(I)Z"⟩, 52) := ⟨⟨by decide +kernel, by decide +kernel⟩, List.mem_of_getElem? (i := 1018) (by decide +kernel), List.mem_of_getElem? (i := 1260) (by decide +kernel), List.mem_of_getElem? (i := 1261) (by decide +kernel)⟩
theorem lw_p28 : lw_okq (⟨"OnionCourtModel", "readsCondition", "()Z"⟩, 52) := ⟨⟨by decide +kernel, by decide +kernel⟩, List.mem_of_getElem? (i := 1018) (by decide +kernel), List.mem_of_getElem? (i := 1264) (by decide +kernel), List.mem_of_getElem? (i := 1265) (by decide +kernel)⟩
theorem lw_p29 : lw_okq (⟨"OnionCourtModel", "readsCompared", "()Z"⟩, 52) := ⟨⟨by decide +kernel, by decide +kernel⟩, List.mem_of_getElem? (i := 1018) (by decide +kernel), List.mem_of_getElem? (i := 1268) (by decide +kernel), List.mem_of_getElem? (i := 1269) (by decide +kernel)⟩
theorem lw_p30 : lw_okq (⟨"OnionCourtModel", "endsPiece", "()V"⟩, 52) := ⟨⟨by decide +kernel, by decide +kernel⟩, List.mem_of_getElem? (i := 1018) (by decide +kernel), List.mem_of_getElem? (i := 1272) (by decide +kernel), List.mem_of_getElem? (i := 1273) (by decide +kernel)⟩
theorem lw_p31 : lw_okq (⟨"OnionCourtModel", "lands", "(Z)V"⟩, 52) := ⟨⟨by decide +kernel, by decide +kernel⟩, List.mem_of_getElem? (i := 1018) (by decide +kernel), List.mem_of_getElem? (i := 1276) (by decide +kernel), List.mem_of_getElem? (i := 1277) (by decide +kernel)⟩
def lw_privs_2 : List (MethodName × Nat) := [(⟨"OnionCourtModel", "readsRule", "()Z"⟩, 52), (⟨"OnionCourtModel", "here", "()I"⟩, 52), (⟨"OnionCourtModel", "wrongAt", "(II)Z"⟩, 52), (⟨"OnionCourtModel", "readsSum", "()Z"⟩, 52), (⟨"OnionCourtModel", "readsFactor", "()Z"⟩, 52), (⟨"OnionCourtModel", "opens", "(I)Z"⟩, 52), (⟨"OnionCourtModel", "isDigit", "()Z"⟩, 52), (⟨"OnionCourtModel", "readsNumber", "()Z"⟩, 52), (⟨"OnionCourtModel", "notes", "(II)V"⟩, 52), (⟨"OnionCourtModel", "closesSums", "(Z)V"⟩, 52), (⟨"OnionCourtModel", "waitTop", "()I"⟩, 52), (⟨"OnionCourtModel", "hasOpenSum", "(I)Z"⟩, 52), (⟨"OnionCourtModel", "readsCondition", "()Z"⟩, 52), (⟨"OnionCourtModel", "readsCompared", "()Z"⟩, 52), (⟨"OnionCourtModel", "endsPiece", "()V"⟩, 52), (⟨"OnionCourtModel", "lands", "(Z)V"⟩, 52)]
theorem lw_r2 : ∀ q ∈ lw_privs_2, lw_okq q := List.forall_mem_cons.mpr ⟨lw_p16, List.forall_mem_cons.mpr ⟨lw_p17, List.forall_mem_cons.mpr ⟨lw_p18, List.forall_mem_cons.mpr ⟨lw_p19, List.forall_mem_cons.mpr ⟨lw_p20, List.forall_mem_cons.mpr ⟨lw_p21, List.forall_mem_cons.mpr ⟨lw_p22, List.forall_mem_cons.mpr ⟨lw_p23, List.forall_mem_cons.mpr ⟨lw_p24, List.forall_mem_cons.mpr ⟨lw_p25, List.forall_mem_cons.mpr ⟨lw_p26, List.forall_mem_cons.mpr ⟨lw_p27, List.forall_mem_cons.mpr ⟨lw_p28, List.forall_mem_cons.mpr ⟨lw_p29, List.forall_mem_cons.mpr ⟨lw_p30, List.forall_mem_cons.mpr ⟨lw_p31, fun _ h => absurd h List.not_mem_nil⟩⟩⟩⟩⟩⟩⟩⟩⟩⟩⟩⟩⟩⟩⟩⟩
theorem lw_p32 : lw_okq (⟨"OnionCourtModel", "jumps", "(I)V"⟩, 52) := ⟨⟨by decide +kernel, by decide +kernel⟩, List.mem_of_getElem? (i := 1018) (by decide +kernel), List.mem_of_getElem? (i := 1280) (by decide +kernel), List.mem_of_getElem? (i := 1281) (by decide +kernel)⟩
theorem lw_p33 : lw_okq (⟨"OnionCourtModel", "takes", "(I)Z"⟩, 52) := ⟨⟨by decide +kernel, by decide +kernel⟩, List.mem_of_getElem? (i := 1018) (by decide +kernel), List.mem_of_getElem? (i := 1284) (by decide +kernel), List.mem_of_getElem? (i := 1285) (by decide +kernel)⟩
theorem lw_p34 : lw_okq (⟨"OnionCourtModel", "readsTruth", "()Z"⟩, 52) := ⟨⟨by decide +kernel, by decide +kernel⟩, List.mem_of_getElem? (i := 1018) (by decide +kernel), List.mem_of_getElem? (i := 1292) (by decide +kernel), List.mem_of_getElem? (i := 1293) (by decide +kernel)⟩
theorem lw_p35 : lw_okq (⟨"OnionCourtModel", "endsTruth", "()V"⟩, 52) := ⟨⟨by decide +kernel, by decide +kernel⟩, List.mem_of_getElem? (i := 1018) (by decide +kernel), List.mem_of_getElem? (i := 1303) (by decide +kernel), List.mem_of_getElem? (i := 1304) (by decide +kernel)⟩
theorem lw_p36 : lw_okq (⟨"OnionCourtModel", "lastSign", "()I"⟩, 52) := ⟨⟨by decide +kernel, by decide +kernel⟩, List.mem_of_getElem? (i := 1018) (by decide +kernel), List.mem_of_getElem? (i := 1307) (by decide +kernel), List.mem_of_getElem? (i := 1308) (by decide +kernel)⟩
theorem lw_p37 : lw_okq (⟨"OnionCourtModel", "joinsLast", "()V"⟩, 52) := ⟨⟨by decide +kernel, by decide +kernel⟩, List.mem_of_getElem? (i := 1018) (by decide +kernel), List.mem_of_getElem? (i := 1311) (by decide +kernel), List.mem_of_getElem? (i := 1312) (by decide +kernel)⟩
theorem lw_p38 : lw_okq (⟨"OnionCourtModel", "waitsFor", "(I)V"⟩, 52) := ⟨⟨by decide +kernel, by decide +kernel⟩, List.mem_of_getElem? (i := 1018) (by decide +kernel), List.mem_of_getElem? (i := 1316) (by decide +kernel), List.mem_of_getElem? (i := 1317) (by decide +kernel)⟩
theorem lw_p39 : lw_okq (⟨"OnionCourtModel", "readsSign", "()Z"⟩, 52) := ⟨⟨by decide +kernel, by decide +kernel⟩, List.mem_of_getElem? (i := 1018) (by decide +kernel), List.mem_of_getElem? (i := 1320) (by decide +kernel), List.mem_of_getElem? (i := 1321) (by decide +kernel)⟩
theorem lw_p40 : lw_okq (⟨"OnionCourtModel", "joinsTo", "(I)V"⟩, 52) := ⟨⟨by decide +kernel, by decide +kernel⟩, List.mem_of_getElem? (i := 1018) (by decide +kernel), List.mem_of_getElem? (i := 1324) (by decide +kernel), List.mem_of_getElem? (i := 1325) (by decide +kernel)⟩
theorem lw_p41 : lw_okq (⟨"OnionCourtModel", "isWitness", "(I)Z"⟩, 52) := ⟨⟨by decide +kernel, by decide +kernel⟩, List.mem_of_getElem? (i := 1018) (by decide +kernel), List.mem_of_getElem? (i := 1335) (by decide +kernel), List.mem_of_getElem? (i := 1336) (by decide +kernel)⟩
theorem lw_p42 : lw_okq (⟨"OnionCourtModel", "readsItem", "()Z"⟩, 52) := ⟨⟨by decide +kernel, by decide +kernel⟩, List.mem_of_getElem? (i := 1018) (by decide +kernel), List.mem_of_getElem? (i := 1339) (by decide +kernel), List.mem_of_getElem? (i := 1340) (by decide +kernel)⟩
theorem lw_p43 : lw_okq (⟨"OnionCourtModel", "readsLine", "()Z"⟩, 52) := ⟨⟨by decide +kernel, by decide +kernel⟩, List.mem_of_getElem? (i := 1018) (by decide +kernel), List.mem_of_getElem? (i := 1347) (by decide +kernel), List.mem_of_getElem? (i := 1348) (by decide +kernel)⟩
theorem lw_p44 : lw_okq (⟨"OnionCourtModel", "isQuestion", "(I)Z"⟩, 52) := ⟨⟨by decide +kernel, by decide +kernel⟩, List.mem_of_getElem? (i := 1018) (by decide +kernel), List.mem_of_getElem? (i := 1351) (by decide +kernel), List.mem_of_getElem? (i := 1352) (by decide +kernel)⟩
theorem lw_p45 : lw_okq (⟨"OnionCourtModel", "answersNow", "(IIII)I"⟩, 52) := ⟨⟨by decide +kernel, by decide +kernel⟩, List.mem_of_getElem? (i := 1018) (by decide +kernel), List.mem_of_getElem? (i := 1355) (by decide +kernel), List.mem_of_getElem? (i := 1356) (by decide +kernel)⟩
theorem lw_p46 : lw_okq (⟨"OnionCourtModel", "layerOf", "(II)I"⟩, 52) := ⟨⟨by decide +kernel, by decide +kernel⟩, List.mem_of_getElem? (i := 1018) (by decide +kernel), List.mem_of_getElem? (i := 1359) (by decide +kernel), List.mem_of_getElem? (i := 1360) (by decide +kernel)⟩
theorem lw_p47 : lw_okq (⟨"OnionCourtModel", "weeksGo", "(I)V"⟩, 52) := ⟨⟨by decide +kernel, by decide +kernel⟩, List.mem_of_getElem? (i := 1018) (by decide +kernel), List.mem_of_getElem? (i := 1375) (by decide +kernel), List.mem_of_getElem? (i := 1376) (by decide +kernel)⟩
def lw_privs_3 : List (MethodName × Nat) := [(⟨"OnionCourtModel", "jumps", "(I)V"⟩, 52), (⟨"OnionCourtModel", "takes", "(I)Z"⟩, 52), (⟨"OnionCourtModel", "readsTruth", "()Z"⟩, 52), (⟨"OnionCourtModel", "endsTruth", "()V"⟩, 52), (⟨"OnionCourtModel", "lastSign", "()I"⟩, 52), (⟨"OnionCourtModel", "joinsLast", "()V"⟩, 52), (⟨"OnionCourtModel", "waitsFor", "(I)V"⟩, 52), (⟨"OnionCourtModel", "readsSign", "()Z"⟩, 52), (⟨"OnionCourtModel", "joinsTo", "(I)V"⟩, 52), (⟨"OnionCourtModel", "isWitness", "(I)Z"⟩, 52), (⟨"OnionCourtModel", "readsItem", "()Z"⟩, 52), (⟨"OnionCourtModel", "readsLine", "()Z"⟩, 52), (⟨"OnionCourtModel", "isQuestion", "(I)Z"⟩, 52), (⟨"OnionCourtModel", "answersNow", "(IIII)I"⟩, 52), (⟨"OnionCourtModel", "layerOf", "(II)I"⟩, 52), (⟨"OnionCourtModel", "weeksGo", "(I)V"⟩, 52)]
theorem lw_r3 : ∀ q ∈ lw_privs_3, lw_okq q := List.forall_mem_cons.mpr ⟨lw_p32, List.forall_mem_cons.mpr ⟨lw_p33, List.forall_mem_cons.mpr ⟨lw_p34, List.forall_mem_cons.mpr ⟨lw_p35, List.forall_mem_cons.mpr ⟨lw_p36, List.forall_mem_cons.mpr ⟨lw_p37, List.forall_mem_cons.mpr ⟨lw_p38, List.forall_mem_cons.mpr ⟨lw_p39, List.forall_mem_cons.mpr ⟨lw_p40, List.forall_mem_cons.mpr ⟨lw_p41, List.forall_mem_cons.mpr ⟨lw_p42, List.forall_mem_cons.mpr ⟨lw_p43, List.forall_mem_cons.mpr ⟨lw_p44, List.forall_mem_cons.mpr ⟨lw_p45, List.forall_mem_cons.mpr ⟨lw_p46, List.forall_mem_cons.mpr ⟨lw_p47, fun _ h => absurd h List.not_mem_nil⟩⟩⟩⟩⟩⟩⟩⟩⟩⟩⟩⟩⟩⟩⟩⟩
theorem lw_p48 : lw_okq (⟨"OnionCourtModel", "weekGoes", "()V"⟩, 52) := ⟨⟨by decide +kernel, by decide +kernel⟩, List.mem_of_getElem? (i := 1018) (by decide +kernel), List.mem_of_getElem? (i := 1379) (by decide +kernel), List.mem_of_getElem? (i := 1380) (by decide +kernel)⟩
theorem lw_p49 : lw_okq (⟨"OnionCourtModel", "grows", "(I)V"⟩, 52) := ⟨⟨by decide +kernel, by decide +kernel⟩, List.mem_of_getElem? (i := 1018) (by decide +kernel), List.mem_of_getElem? (i := 1383) (by decide +kernel), List.mem_of_getElem? (i := 1384) (by decide +kernel)⟩
theorem lw_p50 : lw_okq (⟨"OnionCourtModel", "feels", "(IIIII)V"⟩, 52) := ⟨⟨by decide +kernel, by decide +kernel⟩, List.mem_of_getElem? (i := 1018) (by decide +kernel), List.mem_of_getElem? (i := 1387) (by decide +kernel), List.mem_of_getElem? (i := 1388) (by decide +kernel)⟩
theorem lw_p51 : lw_okq (⟨"OnionCourtModel", "byLaw", "(II)I"⟩, 52) := ⟨⟨by decide +kernel, by decide +kernel⟩, List.mem_of_getElem? (i := 1018) (by decide +kernel), List.mem_of_getElem? (i := 1391) (by decide +kernel), List.mem_of_getElem? (i := 1392) (by decide +kernel)⟩
theorem lw_p52 : lw_okq (⟨"OnionCourtModel", "comesTo", "(II)I"⟩, 52) := ⟨⟨by decide +kernel, by decide +kernel⟩, List.mem_of_getElem? (i := 1018) (by decide +kernel), List.mem_of_getElem? (i := 1395) (by decide +kernel), List.mem_of_getElem? (i := 1396) (by decide +kernel)⟩
theorem lw_p53 : lw_okq (⟨"OnionCourtModel", "maySprout", "(I)V"⟩, 52) := ⟨⟨by decide +kernel, by decide +kernel⟩, List.mem_of_getElem? (i := 1018) (by decide +kernel), List.mem_of_getElem? (i := 1408) (by decide +kernel), List.mem_of_getElem? (i := 1409) (by decide +kernel)⟩
theorem lw_p54 : lw_okq (⟨"OnionCourtModel", "together", "(I)I"⟩, 52) := ⟨⟨by decide +kernel, by decide +kernel⟩, List.mem_of_getElem? (i := 1018) (by decide +kernel), List.mem_of_getElem? (i := 1420) (by decide +kernel), List.mem_of_getElem? (i := 1421) (by decide +kernel)⟩
theorem lw_p55 : lw_okq (⟨"OnionCourtModel", "tearsOf", "(II)I"⟩, 52) := ⟨⟨by decide +kernel, by decide +kernel⟩, List.mem_of_getElem? (i := 1018) (by decide +kernel), List.mem_of_getElem? (i := 1428) (by decide +kernel), List.mem_of_getElem? (i := 1429) (by decide +kernel)⟩
theorem lw_p56 : lw_okq (⟨"OnionCourtModel", "answersOf", "(I)I"⟩, 52) := ⟨⟨by decide +kernel, by decide +kernel⟩, List.mem_of_getElem? (i := 1018) (by decide +kernel), List.mem_of_getElem? (i := 1432) (by decide +kernel), List.mem_of_getElem? (i := 1433) (by decide +kernel)⟩
theorem lw_p57 : lw_okq (⟨"OnionCourtModel", "areWeighed", "(I)Z"⟩, 52) := ⟨⟨by decide +kernel, by decide +kernel⟩, List.mem_of_getElem? (i := 1018) (by decide +kernel), List.mem_of_getElem? (i := 1444) (by decide +kernel), List.mem_of_getElem? (i := 1445) (by decide +kernel)⟩
theorem lw_p58 : lw_okq (⟨"OnionCourtModel", "areAnswers", "(I)Z"⟩, 52) := ⟨⟨by decide +kernel, by decide +kernel⟩, List.mem_of_getElem? (i := 1018) (by decide +kernel), List.mem_of_getElem? (i := 1448) (by decide +kernel), List.mem_of_getElem? (i := 1449) (by decide +kernel)⟩
theorem lw_p59 : lw_okq (⟨"OnionCourtModel", "oddsOf", "(JII)J"⟩, 52) := ⟨⟨by decide +kernel, by decide +kernel⟩, List.mem_of_getElem? (i := 1018) (by decide +kernel), List.mem_of_getElem? (i := 1452) (by decide +kernel), List.mem_of_getElem? (i := 1453) (by decide +kernel)⟩
theorem lw_p60 : lw_okq (⟨"OnionCourtModel", "weighs", "(I)J"⟩, 52) := ⟨⟨by decide +kernel, by decide +kernel⟩, List.mem_of_getElem? (i := 1018) (by decide +kernel), List.mem_of_getElem? (i := 1456) (by decide +kernel), List.mem_of_getElem? (i := 1457) (by decide +kernel)⟩
theorem lw_p61 : lw_okq (⟨"OnionCourtModel", "weighsBy", "(II)J"⟩, 52) := ⟨⟨by decide +kernel, by decide +kernel⟩, List.mem_of_getElem? (i := 1018) (by decide +kernel), List.mem_of_getElem? (i := 1460) (by decide +kernel), List.mem_of_getElem? (i := 1461) (by decide +kernel)⟩
theorem lw_p62 : lw_okq (⟨"OnionCourtModel", "weightIn", "(J)J"⟩, 52) := ⟨⟨by decide +kernel, by decide +kernel⟩, List.mem_of_getElem? (i := 1018) (by decide +kernel), List.mem_of_getElem? (i := 1465) (by decide +kernel), List.mem_of_getElem? (i := 1466) (by decide +kernel)⟩
theorem lw_p63 : lw_okq (⟨"OnionCourtModel", "fitsOf", "(I)J"⟩, 52) := ⟨⟨by decide +kernel, by decide +kernel⟩, List.mem_of_getElem? (i := 1018) (by decide +kernel), List.mem_of_getElem? (i := 1476) (by decide +kernel), List.mem_of_getElem? (i := 1477) (by decide +kernel)⟩
def lw_privs_4 : List (MethodName × Nat) := [(⟨"OnionCourtModel", "weekGoes", "()V"⟩, 52), (⟨"OnionCourtModel", "grows", "(I)V"⟩, 52), (⟨"OnionCourtModel", "feels", "(IIIII)V"⟩, 52), (⟨"OnionCourtModel", "byLaw", "(II)I"⟩, 52), (⟨"OnionCourtModel", "comesTo", "(II)I"⟩, 52), (⟨"OnionCourtModel", "maySprout", "(I)V"⟩, 52), (⟨"OnionCourtModel", "together", "(I)I"⟩, 52), (⟨"OnionCourtModel", "tearsOf", "(II)I"⟩, 52), (⟨"OnionCourtModel", "answersOf", "(I)I"⟩, 52), (⟨"OnionCourtModel", "areWeighed", "(I)Z"⟩, 52), (⟨"OnionCourtModel", "areAnswers", "(I)Z"⟩, 52), (⟨"OnionCourtModel", "oddsOf", "(JII)J"⟩, 52), (⟨"OnionCourtModel", "weighs", "(I)J"⟩, 52), (⟨"OnionCourtModel", "weighsBy", "(II)J"⟩, 52), (⟨"OnionCourtModel", "weightIn", "(J)J"⟩, 52), (⟨"OnionCourtModel", "fitsOf", "(I)J"⟩, 52)]
theorem lw_r4 : ∀ q ∈ lw_privs_4, lw_okq q := List.forall_mem_cons.mpr ⟨lw_p48, List.forall_mem_cons.mpr ⟨lw_p49, List.forall_mem_cons.mpr ⟨lw_p50, List.forall_mem_cons.mpr ⟨lw_p51, List.forall_mem_cons.mpr ⟨lw_p52, List.forall_mem_cons.mpr ⟨lw_p53, List.forall_mem_cons.mpr ⟨lw_p54, List.forall_mem_cons.mpr ⟨lw_p55, List.forall_mem_cons.mpr ⟨lw_p56, List.forall_mem_cons.mpr ⟨lw_p57, List.forall_mem_cons.mpr ⟨lw_p58, List.forall_mem_cons.mpr ⟨lw_p59, List.forall_mem_cons.mpr ⟨lw_p60, List.forall_mem_cons.mpr ⟨lw_p61, List.forall_mem_cons.mpr ⟨lw_p62, List.forall_mem_cons.mpr ⟨lw_p63, fun _ h => absurd h List.not_mem_nil⟩⟩⟩⟩⟩⟩⟩⟩⟩⟩⟩⟩⟩⟩⟩⟩
theorem lw_p64 : lw_okq (⟨"OnionCourtModel", "fitsAll", "(I)J"⟩, 52) := ⟨⟨by decide +kernel, by decide +kernel⟩, List.mem_of_getElem? (i := 1018) (by decide +kernel), List.mem_of_getElem? (i := 1493) (by decide +kernel), List.mem_of_getElem? (i := 1494) (by decide +kernel)⟩
theorem lw_p65 : lw_okq (⟨"OnionCourtModel", "answersWithout", "(I)I"⟩, 52) := ⟨⟨by decide +kernel, by decide +kernel⟩, List.mem_of_getElem? (i := 1018) (by decide +kernel), List.mem_of_getElem? (i := 1501) (by decide +kernel), List.mem_of_getElem? (i := 1502) (by decide +kernel)⟩
theorem lw_p66 : lw_okq (⟨"OnionCourtModel", "lastOf", "(II)I"⟩, 52) := ⟨⟨by decide +kernel, by decide +kernel⟩, List.mem_of_getElem? (i := 1018) (by decide +kernel), List.mem_of_getElem? (i := 1517) (by decide +kernel), List.mem_of_getElem? (i := 1518) (by decide +kernel)⟩
theorem lw_p67 : lw_okq (⟨"OnionCourtModel", "areAllTrue", "(III)Z"⟩, 52) := ⟨⟨by decide +kernel, by decide +kernel⟩, List.mem_of_getElem? (i := 1018) (by decide +kernel), List.mem_of_getElem? (i := 1529) (by decide +kernel), List.mem_of_getElem? (i := 1530) (by decide +kernel)⟩
theorem lw_p68 : lw_okq (⟨"OnionCourtModel", "areTrue", "(III)Z"⟩, 52) := ⟨⟨by decide +kernel, by decide +kernel⟩, List.mem_of_getElem? (i := 1018) (by decide +kernel), List.mem_of_getElem? (i := 1533) (by decide +kernel), List.mem_of_getElem? (i := 1534) (by decide +kernel)⟩
theorem lw_p69 : lw_okq (⟨"OnionCourtModel", "skinOf", "(I)I"⟩, 52) := ⟨⟨by decide +kernel, by decide +kernel⟩, List.mem_of_getElem? (i := 1018) (by decide +kernel), List.mem_of_getElem? (i := 1544) (by decide +kernel), List.mem_of_getElem? (i := 1545) (by decide +kernel)⟩
theorem lw_p70 : lw_okq (⟨"OnionCourtModel", "laysBoxes", "(III)Z"⟩, 52) := ⟨⟨by decide +kernel, by decide +kernel⟩, List.mem_of_getElem? (i := 1018) (by decide +kernel), List.mem_of_getElem? (i := 1548) (by decide +kernel), List.mem_of_getElem? (i := 1549) (by decide +kernel)⟩
theorem lw_p71 : lw_okq (⟨"OnionCourtModel", "begunBy", "(I)I"⟩, 52) := ⟨⟨by decide +kernel, by decide +kernel⟩, List.mem_of_getElem? (i := 1018) (by decide +kernel), List.mem_of_getElem? (i := 1552) (by decide +kernel), List.mem_of_getElem? (i := 1553) (by decide +kernel)⟩
theorem lw_p72 : lw_okq (⟨"OnionCourtModel", "readsRow", "(II)Z"⟩, 52) := ⟨⟨by decide +kernel, by decide +kernel⟩, List.mem_of_getElem? (i := 1018) (by decide +kernel), List.mem_of_getElem? (i := 1560) (by decide +kernel), List.mem_of_getElem? (i := 1561) (by decide +kernel)⟩
theorem lw_p73 : lw_okq (⟨"OnionCourtModel", "worthOfRow", "(I)I"⟩, 52) := ⟨⟨by decide +kernel, by decide +kernel⟩, List.mem_of_getElem? (i := 1018) (by decide +kernel), List.mem_of_getElem? (i := 1564) (by decide +kernel), List.mem_of_getElem? (i := 1565) (by decide +kernel)⟩
def lw_privs_5 : List (MethodName × Nat) := [(⟨"OnionCourtModel", "fitsAll", "(I)J"⟩, 52), (⟨"OnionCourtModel", "answersWithout", "(I)I"⟩, 52), (⟨"OnionCourtModel", "lastOf", "(II)I"⟩, 52), (⟨"OnionCourtModel", "areAllTrue", "(III)Z"⟩, 52), (⟨"OnionCourtModel", "areTrue", "(III)Z"⟩, 52), (⟨"OnionCourtModel", "skinOf", "(I)I"⟩, 52), (⟨"OnionCourtModel", "laysBoxes", "(III)Z"⟩, 52), (⟨"OnionCourtModel", "begunBy", "(I)I"⟩, 52), (⟨"OnionCourtModel", "readsRow", "(II)Z"⟩, 52), (⟨"OnionCourtModel", "worthOfRow", "(I)I"⟩, 52)]
theorem lw_r5 : ∀ q ∈ lw_privs_5, lw_okq q := List.forall_mem_cons.mpr ⟨lw_p64, List.forall_mem_cons.mpr ⟨lw_p65, List.forall_mem_cons.mpr ⟨lw_p66, List.forall_mem_cons.mpr ⟨lw_p67, List.forall_mem_cons.mpr ⟨lw_p68, List.forall_mem_cons.mpr ⟨lw_p69, List.forall_mem_cons.mpr ⟨lw_p70, List.forall_mem_cons.mpr ⟨lw_p71, List.forall_mem_cons.mpr ⟨lw_p72, List.forall_mem_cons.mpr ⟨lw_p73, fun _ h => absurd h List.not_mem_nil⟩⟩⟩⟩⟩⟩⟩⟩⟩⟩
def lw_privs : List (MethodName × Nat) := lw_privs_1 ++ (lw_privs_2 ++ (lw_privs_3 ++ (lw_privs_4 ++ (lw_privs_5))))
def lw_tbl : List Cond := k2_sels lw_privs ++ tables_1
theorem lw_privs_ok : ∀ q ∈ lw_privs, lw_okq q := by
  show ∀ q ∈ lw_privs_1 ++ (lw_privs_2 ++ (lw_privs_3 ++ (lw_privs_4 ++ (lw_privs_5)))), lw_okq q
  exact List.forall_mem_append.mpr ⟨lw_r1, List.forall_mem_append.mpr ⟨lw_r2, List.forall_mem_append.mpr ⟨lw_r3, List.forall_mem_append.mpr ⟨lw_r4, lw_r5⟩⟩⟩⟩
-- ===== end of PART A; then your names; then what follows =====
end
section
/-! THE CLASSES: names, fields in the order of the words (declaring class, name, descriptor, final), and what the tables say of them. -/
/-- words that stay what they are while the machine warms; the others (one) are not used in the methods -/
def xv_wk : Cond → Bool
  | .arrayClass _ => true
  | .methodLinkNest _ _ _ _ => true
  | .fieldLinkNest _ _ _ _ _ _ => true
  | .privateMethod _ => true
  | .arrayOver (.object _) => true
  | w => w.onTables && w.keeps
def xv_T : List Cond := lw_tbl.map fun w => if xv_wk w = true then w else .tt
theorem xv_T_of {args : Array Value} {s : State} (h : ∀ w ∈ lw_tbl, w.before args s = true) : ∀ w ∈ xv_T, w.before args s = true := by
  intro w hw
  obtain ⟨v, hv, rfl⟩ := List.mem_map.mp hw
  by_cases hk : xv_wk v = true
  · rw [if_pos hk]; exact h v hv
  · rw [if_neg hk]; rfl
theorem xv_wsin {C : String} {T : u_T} {N : Nat} {L : List Nat} (h : ∀ k, k < N → L[k]?.bind (fun i => xv_T[i]?) = some (u_lay C T k)) : ∀ w ∈ u_ws C T N, w ∈ xv_T := by
  intro w hw
  obtain ⟨k, hk, rfl⟩ := List.mem_map.mp hw
  have h1 := h k (List.mem_range.mp hk)
  cases hL : L[k]? with
  | none => rw [hL] at h1; cases h1
  | some i => rw [hL] at h1; exact List.mem_of_getElem? h1
def xf_Mo : u_T := fun k => match k with
  | 0 => ("OnionCourtModel", "now", "[I", true)
  | 1 => ("OnionCourtModel", "aside", "[I", true)
  | 2 => ("OnionCourtModel", "kept", "[I", true)
  | 3 => ("OnionCourtModel", "prior", "[I", true)
  | 4 => ("OnionCourtModel", "holdsIn", "[J", true)
  | 5 => ("OnionCourtModel", "questionSet", "I", false)
  | 6 => ("OnionCourtModel", "tape", "[B", true)
  | 7 => ("OnionCourtModel", "taped", "I", false)
  | 8 => ("OnionCourtModel", "place0", "I", false)
  | 9 => ("OnionCourtModel", "length0", "I", false)
  | 10 => ("OnionCourtModel", "fault", "I", false)
  | 11 => ("OnionCourtModel", "number0", "I", false)
  | 12 => ("OnionCourtModel", "open", "I", false)
  | 13 => ("OnionCourtModel", "codeMany", "I", false)
  | 14 => ("OnionCourtModel", "waiting", "I", false)
  | 15 => ("OnionCourtModel", "saidMany", "I", false)
  | 16 => ("OnionCourtModel", "clauses", "I", false)
  | 17 => ("OnionCourtModel", "said", "[I", true)
  | 18 => ("OnionCourtModel", "waitsAt", "[I", true)
  | 19 => ("OnionCourtModel", "saidLetter", "[I", true)
  | 20 => ("OnionCourtModel", "saidFrom", "[I", true)
  | 21 => ("OnionCourtModel", "saidHalf", "[I", true)
  | 22 => ("OnionCourtModel", "saidTo", "[I", true)
  | 23 => ("OnionCourtModel", "codes", "[I", true)
  | 24 => ("OnionCourtModel", "clauseOf", "[I", true)
  | 25 => ("OnionCourtModel", "codeFrom", "[I", true)
  | 26 => ("OnionCourtModel", "codeHalf", "[I", true)
  | 27 => ("OnionCourtModel", "codeTo", "[I", true)
  | 28 => ("OnionCourtModel", "stack", "[I", true)
  | 29 => ("OnionCourtModel", "facts", "[I", true)
  | 30 => ("OnionCourtModel", "sign", "[I", true)
  | 31 => ("OnionCourtModel", "said0", "[J", true)
  | 32 => ("OnionCourtModel", "signs", "I", false)
  | 33 => ("OnionCourtModel", "sets", "I", false)
  | 34 => ("OnionCourtModel", "opened", "I", false)
  | 35 => ("OnionCourtModel", "isNext", "Z", false)
  | 36 => ("OnionCourtModel", "newLayer", "[I", true)
  | 37 => ("OnionCourtModel", "newMany", "I", false)
  | 38 => ("OnionCourtModel", "lineWho", "[I", true)
  | 39 => ("OnionCourtModel", "lineAsked", "[I", true)
  | 40 => ("OnionCourtModel", "lineTold", "[I", true)
  | 41 => ("OnionCourtModel", "peels", "[I", true)
  | 42 => ("OnionCourtModel", "lines", "I", false)
  | 43 => ("OnionCourtModel", "sprouts", "I", false)
  | 44 => ("OnionCourtModel", "gone", "I", false)
  | 45 => ("OnionCourtModel", "weightOf", "[J", true)
  | 46 => ("OnionCourtModel", "boxOf", "[I", true)
  | 47 => ("OnionCourtModel", "fullOf", "[I", true)
  | 48 => ("OnionCourtModel", "whoOf", "[I", true)
  | 49 => ("OnionCourtModel", "rowNow", "[I", true)
  | 50 => ("OnionCourtModel", "rowBest", "[I", true)
  | _ => ("OnionCourtModel", "isKept", "Z", false)
def xt_Mo : Nat → FieldType := fun k => match k with
  | 0 => .array .int
  | 1 => .array .int
  | 2 => .array .int
  | 3 => .array .int
  | 4 => .array .long
  | 5 => .int
  | 6 => .array .byte
  | 7 => .int
  | 8 => .int
  | 9 => .int
  | 10 => .int
  | 11 => .int
  | 12 => .int
  | 13 => .int
  | 14 => .int
  | 15 => .int
  | 16 => .int
  | 17 => .array .int
  | 18 => .array .int
  | 19 => .array .int
  | 20 => .array .int
  | 21 => .array .int
  | 22 => .array .int
  | 23 => .array .int
  | 24 => .array .int
  | 25 => .array .int
  | 26 => .array .int
  | 27 => .array .int
  | 28 => .array .int
  | 29 => .array .int
  | 30 => .array .int
  | 31 => .array .long
  | 32 => .int
  | 33 => .int
  | 34 => .int
  | 35 => .boolean
  | 36 => .array .int
  | 37 => .int
  | 38 => .array .int
  | 39 => .array .int
  | 40 => .array .int
  | 41 => .array .int
  | 42 => .int
  | 43 => .int
  | 44 => .int
  | 45 => .array .long
  | 46 => .array .int
  | 47 => .array .int
  | 48 => .array .int
  | 49 => .array .int
  | 50 => .array .int
  | _ => .boolean
theorem xn_Mo : ∀ a, a < 52 → ∀ b, b < 52 → a ≠ b → (xf_Mo a).2.1 ≠ (xf_Mo b).2.1 := by decide +kernel
theorem xt_Mo_ok : ∀ k, k < 52 → parseFieldDescriptor (xf_Mo k).2.2.1 = some (xt_Mo k) := by decide +kernel
theorem xi_Mo_ok : ∀ k, k < 52 → ([1149, 1151, 1153, 1155, 1157, 1159, 1161, 1163, 1165, 1167, 1169, 1171, 1173, 1175, 1177, 1179, 1181, 1183, 1185, 1187, 1189, 1191, 1193, 1195, 1197, 1199, 1201, 1203, 1205, 1207, 1209, 1211, 1213, 1215, 1217, 1219, 1221, 1223, 1225, 1227, 1229, 1231, 1233, 1235, 1237, 1239, 1241, 1243, 1245, 1247, 1249, 1251] : List Nat)[k]?.bind (fun i => xv_T[i]?) = some (u_lay "OnionCourtModel" xf_Mo k) := by decide +kernel
theorem xi_Mo : ∀ w ∈ u_ws "OnionCourtModel" xf_Mo 52, w ∈ xv_T := fun w h => xv_wsin (fun k hk => xi_Mo_ok k hk) w h
def xf_Ct : u_T := fun k => match k with
  | 0 => ("OnionCourt", "tape", "LOnionCourt$Tape;", true)
  | 1 => ("OnionCourt", "questions", "LOnionCourt$Questions;", true)
  | 2 => ("OnionCourt", "inForce", "LOnionCourt$Law;", true)
  | 3 => ("OnionCourt", "draft", "LOnionCourt$Law;", true)
  | 4 => ("OnionCourt", "matter", "LOnionCourt$Case;", true)
  | 5 => ("OnionCourt", "scales", "LOnionCourt$Scales;", true)
  | 6 => ("OnionCourt", "now", "LOnionCourt$Archive;", true)
  | 7 => ("OnionCourt", "kept", "LOnionCourt$Archive;", true)
  | 8 => ("OnionCourt", "trial", "LOnionCourt$Archive;", true)
  | 9 => ("OnionCourt", "isKept", "Z", false)
  | 10 => ("OnionCourt", "spare", "LOnionCourt$Witness;", true)
  | 11 => ("OnionCourt", "boxes", "LOnionCourt$Boxes;", true)
  | 12 => ("OnionCourt", "exchange", "LOnionCourt$Exchange;", true)
  | _ => ("OnionCourt", "alibis", "[I", true)
def xt_Ct : Nat → FieldType := fun k => match k with
  | 0 => .object "OnionCourt$Tape"
  | 1 => .object "OnionCourt$Questions"
  | 2 => .object "OnionCourt$Law"
  | 3 => .object "OnionCourt$Law"
  | 4 => .object "OnionCourt$Case"
  | 5 => .object "OnionCourt$Scales"
  | 6 => .object "OnionCourt$Archive"
  | 7 => .object "OnionCourt$Archive"
  | 8 => .object "OnionCourt$Archive"
  | 9 => .boolean
  | 10 => .object "OnionCourt$Witness"
  | 11 => .object "OnionCourt$Boxes"
  | 12 => .object "OnionCourt$Exchange"
  | _ => .array .int
theorem xn_Ct : ∀ a, a < 14 → ∀ b, b < 14 → a ≠ b → (xf_Ct a).2.1 ≠ (xf_Ct b).2.1 := by decide +kernel
theorem xt_Ct_ok : ∀ k, k < 14 → parseFieldDescriptor (xf_Ct k).2.2.1 = some (xt_Ct k) := by decide +kernel
theorem xi_Ct_ok : ∀ k, k < 14 → ([359, 361, 363, 365, 367, 369, 371, 373, 375, 377, 379, 381, 383, 385] : List Nat)[k]?.bind (fun i => xv_T[i]?) = some (u_lay "OnionCourt" xf_Ct k) := by decide +kernel
theorem xi_Ct : ∀ w ∈ u_ws "OnionCourt" xf_Ct 14, w ∈ xv_T := fun w h => xv_wsin (fun k hk => xi_Ct_ok k hk) w h
def xf_Tape : u_T := fun k => match k with
  | 0 => ("OnionCourt$Tape", "bytes", "[I", true)
  | 1 => ("OnionCourt$Tape", "size", "I", false)
  | 2 => ("OnionCourt$Tape", "length", "I", false)
  | 3 => ("OnionCourt$Tape", "place", "I", false)
  | _ => ("OnionCourt$Tape", "fault", "I", false)
def xt_Tape : Nat → FieldType := fun k => match k with
  | 0 => .array .int
  | 1 => .int
  | 2 => .int
  | 3 => .int
  | _ => .int
theorem xn_Tape : ∀ a, a < 5 → ∀ b, b < 5 → a ≠ b → (xf_Tape a).2.1 ≠ (xf_Tape b).2.1 := by decide +kernel
theorem xt_Tape_ok : ∀ k, k < 5 → parseFieldDescriptor (xf_Tape k).2.2.1 = some (xt_Tape k) := by decide +kernel
theorem xi_Tape_ok : ∀ k, k < 5 → ([109, 111, 113, 115, 117] : List Nat)[k]?.bind (fun i => xv_T[i]?) = some (u_lay "OnionCourt$Tape" xf_Tape k) := by decide +kernel
theorem xi_Tape : ∀ w ∈ u_ws "OnionCourt$Tape" xf_Tape 5, w ∈ xv_T := fun w h => xv_wsin (fun k hk => xi_Tape_ok k hk) w h
def xf_Questions : u_T := fun k => match k with
  | 0 => ("OnionCourt$Questions", "worlds", "[I", true)
  | _ => ("OnionCourt$Questions", "told", "I", false)
def xt_Questions : Nat → FieldType := fun k => match k with
  | 0 => .array .int
  | _ => .int
theorem xn_Questions : ∀ a, a < 2 → ∀ b, b < 2 → a ≠ b → (xf_Questions a).2.1 ≠ (xf_Questions b).2.1 := by decide +kernel
theorem xt_Questions_ok : ∀ k, k < 2 → parseFieldDescriptor (xf_Questions k).2.2.1 = some (xt_Questions k) := by decide +kernel
theorem xi_Questions_ok : ∀ k, k < 2 → ([129, 131] : List Nat)[k]?.bind (fun i => xv_T[i]?) = some (u_lay "OnionCourt$Questions" xf_Questions k) := by decide +kernel
theorem xi_Questions : ∀ w ∈ u_ws "OnionCourt$Questions" xf_Questions 2, w ∈ xv_T := fun w h => xv_wsin (fun k hk => xi_Questions_ok k hk) w h
def xf_Law : u_T := fun k => match k with
  | 0 => ("OnionCourt$Law", "steps", "[I", true)
  | 1 => ("OnionCourt$Law", "numbers", "[I", true)
  | 2 => ("OnionCourt$Law", "kinds", "[I", true)
  | 3 => ("OnionCourt$Law", "starts", "[I", true)
  | 4 => ("OnionCourt$Law", "turns", "[I", true)
  | 5 => ("OnionCourt$Law", "ends", "[I", true)
  | 6 => ("OnionCourt$Law", "stack", "[J", true)
  | 7 => ("OnionCourt$Law", "size", "I", false)
  | _ => ("OnionCourt$Law", "rules", "I", false)
def xt_Law : Nat → FieldType := fun k => match k with
  | 0 => .array .int
  | 1 => .array .int
  | 2 => .array .int
  | 3 => .array .int
  | 4 => .array .int
  | 5 => .array .int
  | 6 => .array .long
  | 7 => .int
  | _ => .int
theorem xn_Law : ∀ a, a < 9 → ∀ b, b < 9 → a ≠ b → (xf_Law a).2.1 ≠ (xf_Law b).2.1 := by decide +kernel
theorem xt_Law_ok : ∀ k, k < 9 → parseFieldDescriptor (xf_Law k).2.2.1 = some (xt_Law k) := by decide +kernel
theorem xi_Law_ok : ∀ k, k < 9 → ([149, 151, 153, 155, 157, 159, 161, 163, 165] : List Nat)[k]?.bind (fun i => xv_T[i]?) = some (u_lay "OnionCourt$Law" xf_Law k) := by decide +kernel
theorem xi_Law : ∀ w ∈ u_ws "OnionCourt$Law" xf_Law 9, w ∈ xv_T := fun w h => xv_wsin (fun k hk => xi_Law_ok k hk) w h
def xf_Case : u_T := fun k => match k with
  | 0 => ("OnionCourt$Case", "witness", "I", false)
  | 1 => ("OnionCourt$Case", "honesty", "I", false)
  | 2 => ("OnionCourt$Case", "strength", "I", false)
  | 3 => ("OnionCourt$Case", "layers", "I", false)
  | 4 => ("OnionCourt$Case", "question", "I", false)
  | 5 => ("OnionCourt$Case", "holds", "I", false)
  | 6 => ("OnionCourt$Case", "lies", "I", false)
  | _ => ("OnionCourt$Case", "week", "I", false)
def xt_Case : Nat → FieldType := fun k => match k with
  | 0 => .int
  | 1 => .int
  | 2 => .int
  | 3 => .int
  | 4 => .int
  | 5 => .int
  | 6 => .int
  | _ => .int
theorem xn_Case : ∀ a, a < 8 → ∀ b, b < 8 → a ≠ b → (xf_Case a).2.1 ≠ (xf_Case b).2.1 := by decide +kernel
theorem xt_Case_ok : ∀ k, k < 8 → parseFieldDescriptor (xf_Case k).2.2.1 = some (xt_Case k) := by decide +kernel
theorem xi_Case_ok : ∀ k, k < 8 → ([183, 185, 187, 189, 191, 193, 195, 197] : List Nat)[k]?.bind (fun i => xv_T[i]?) = some (u_lay "OnionCourt$Case" xf_Case k) := by decide +kernel
theorem xi_Case : ∀ w ∈ u_ws "OnionCourt$Case" xf_Case 8, w ∈ xv_T := fun w h => xv_wsin (fun k hk => xi_Case_ok k hk) w h
def xf_Scales : u_T := fun k => match k with
  | 0 => ("OnionCourt$Scales", "tenths", "[I", true)
  | _ => ("OnionCourt$Scales", "weights", "[J", true)
def xt_Scales : Nat → FieldType := fun k => match k with
  | 0 => .array .int
  | _ => .array .long
theorem xn_Scales : ∀ a, a < 2 → ∀ b, b < 2 → a ≠ b → (xf_Scales a).2.1 ≠ (xf_Scales b).2.1 := by decide +kernel
theorem xt_Scales_ok : ∀ k, k < 2 → parseFieldDescriptor (xf_Scales k).2.2.1 = some (xt_Scales k) := by decide +kernel
theorem xi_Scales_ok : ∀ k, k < 2 → ([208, 210] : List Nat)[k]?.bind (fun i => xv_T[i]?) = some (u_lay "OnionCourt$Scales" xf_Scales k) := by decide +kernel
theorem xi_Scales : ∀ w ∈ u_ws "OnionCourt$Scales" xf_Scales 2, w ∈ xv_T := fun w h => xv_wsin (fun k hk => xi_Scales_ok k hk) w h
def xf_Archive : u_T := fun k => match k with
  | 0 => ("OnionCourt$Archive", "witnesses", "[LOnionCourt$Witness;", true)
  | 1 => ("OnionCourt$Archive", "answers", "[LOnionCourt$Answer;", true)
  | 2 => ("OnionCourt$Archive", "said", "I", false)
  | 3 => ("OnionCourt$Archive", "week", "I", false)
  | 4 => ("OnionCourt$Archive", "drawn", "I", false)
  | 5 => ("OnionCourt$Archive", "sprouted", "I", false)
  | _ => ("OnionCourt$Archive", "gone", "I", false)
def xt_Archive : Nat → FieldType := fun k => match k with
  | 0 => .array (.object "OnionCourt$Witness")
  | 1 => .array (.object "OnionCourt$Answer")
  | 2 => .int
  | 3 => .int
  | 4 => .int
  | 5 => .int
  | _ => .int
theorem xn_Archive : ∀ a, a < 7 → ∀ b, b < 7 → a ≠ b → (xf_Archive a).2.1 ≠ (xf_Archive b).2.1 := by decide +kernel
theorem xt_Archive_ok : ∀ k, k < 7 → parseFieldDescriptor (xf_Archive k).2.2.1 = some (xt_Archive k) := by decide +kernel
theorem xi_Archive_ok : ∀ k, k < 7 → ([278, 280, 282, 284, 286, 288, 290] : List Nat)[k]?.bind (fun i => xv_T[i]?) = some (u_lay "OnionCourt$Archive" xf_Archive k) := by decide +kernel
theorem xi_Archive : ∀ w ∈ u_ws "OnionCourt$Archive" xf_Archive 7, w ∈ xv_T := fun w h => xv_wsin (fun k hk => xi_Archive_ok k hk) w h
def xf_Witness : u_T := fun k => match k with
  | 0 => ("OnionCourt$Witness", "strengths", "[I", true)
  | 1 => ("OnionCourt$Witness", "layers", "I", false)
  | 2 => ("OnionCourt$Witness", "honesty", "I", false)
  | _ => ("OnionCourt$Witness", "told", "Z", false)
def xt_Witness : Nat → FieldType := fun k => match k with
  | 0 => .array .int
  | 1 => .int
  | 2 => .int
  | _ => .boolean
theorem xn_Witness : ∀ a, a < 4 → ∀ b, b < 4 → a ≠ b → (xf_Witness a).2.1 ≠ (xf_Witness b).2.1 := by decide +kernel
theorem xt_Witness_ok : ∀ k, k < 4 → parseFieldDescriptor (xf_Witness k).2.2.1 = some (xt_Witness k) := by decide +kernel
theorem xi_Witness_ok : ∀ k, k < 4 → ([232, 234, 236, 238] : List Nat)[k]?.bind (fun i => xv_T[i]?) = some (u_lay "OnionCourt$Witness" xf_Witness k) := by decide +kernel
theorem xi_Witness : ∀ w ∈ u_ws "OnionCourt$Witness" xf_Witness 4, w ∈ xv_T := fun w h => xv_wsin (fun k hk => xi_Witness_ok k hk) w h
def xf_Answer : u_T := fun k => match k with
  | 0 => ("OnionCourt$Answer", "witness", "I", false)
  | 1 => ("OnionCourt$Answer", "question", "I", false)
  | 2 => ("OnionCourt$Answer", "yes", "Z", false)
  | 3 => ("OnionCourt$Answer", "cried", "Z", false)
  | 4 => ("OnionCourt$Answer", "strength", "I", false)
  | 5 => ("OnionCourt$Answer", "layers", "I", false)
  | 6 => ("OnionCourt$Answer", "week", "I", false)
  | _ => ("OnionCourt$Answer", "honesty", "I", false)
def xt_Answer : Nat → FieldType := fun k => match k with
  | 0 => .int
  | 1 => .int
  | 2 => .boolean
  | 3 => .boolean
  | 4 => .int
  | 5 => .int
  | 6 => .int
  | _ => .int
theorem xn_Answer : ∀ a, a < 8 → ∀ b, b < 8 → a ≠ b → (xf_Answer a).2.1 ≠ (xf_Answer b).2.1 := by decide +kernel
theorem xt_Answer_ok : ∀ k, k < 8 → parseFieldDescriptor (xf_Answer k).2.2.1 = some (xt_Answer k) := by decide +kernel
theorem xi_Answer_ok : ∀ k, k < 8 → ([254, 256, 258, 260, 262, 264, 266, 268] : List Nat)[k]?.bind (fun i => xv_T[i]?) = some (u_lay "OnionCourt$Answer" xf_Answer k) := by decide +kernel
theorem xi_Answer : ∀ w ∈ u_ws "OnionCourt$Answer" xf_Answer 8, w ∈ xv_T := fun w h => xv_wsin (fun k hk => xi_Answer_ok k hk) w h
def xf_Boxes : u_T := fun k => match k with
  | 0 => ("OnionCourt$Boxes", "sizes", "[I", true)
  | 1 => ("OnionCourt$Boxes", "row", "[I", true)
  | 2 => ("OnionCourt$Boxes", "loads", "[I", true)
  | 3 => ("OnionCourt$Boxes", "skins", "I", false)
  | _ => ("OnionCourt$Boxes", "room", "I", false)
def xt_Boxes : Nat → FieldType := fun k => match k with
  | 0 => .array .int
  | 1 => .array .int
  | 2 => .array .int
  | 3 => .int
  | _ => .int
theorem xn_Boxes : ∀ a, a < 5 → ∀ b, b < 5 → a ≠ b → (xf_Boxes a).2.1 ≠ (xf_Boxes b).2.1 := by decide +kernel
theorem xt_Boxes_ok : ∀ k, k < 5 → parseFieldDescriptor (xf_Boxes k).2.2.1 = some (xt_Boxes k) := by decide +kernel
theorem xi_Boxes_ok : ∀ k, k < 5 → ([306, 308, 310, 312, 314] : List Nat)[k]?.bind (fun i => xv_T[i]?) = some (u_lay "OnionCourt$Boxes" xf_Boxes k) := by decide +kernel
theorem xi_Boxes : ∀ w ∈ u_ws "OnionCourt$Boxes" xf_Boxes 5, w ∈ xv_T := fun w h => xv_wsin (fun k hk => xi_Boxes_ok k hk) w h
def xf_Exchange : u_T := fun k => match k with
  | 0 => ("OnionCourt$Exchange", "members", "[I", true)
  | 1 => ("OnionCourt$Exchange", "honesties", "[I", true)
  | 2 => ("OnionCourt$Exchange", "onions", "[I", true)
  | 3 => ("OnionCourt$Exchange", "row", "[I", true)
  | 4 => ("OnionCourt$Exchange", "best", "[I", true)
  | 5 => ("OnionCourt$Exchange", "size", "I", false)
  | _ => ("OnionCourt$Exchange", "most", "I", false)
def xt_Exchange : Nat → FieldType := fun k => match k with
  | 0 => .array .int
  | 1 => .array .int
  | 2 => .array .int
  | 3 => .array .int
  | 4 => .array .int
  | 5 => .int
  | _ => .int
theorem xn_Exchange : ∀ a, a < 7 → ∀ b, b < 7 → a ≠ b → (xf_Exchange a).2.1 ≠ (xf_Exchange b).2.1 := by decide +kernel
theorem xt_Exchange_ok : ∀ k, k < 7 → parseFieldDescriptor (xf_Exchange k).2.2.1 = some (xt_Exchange k) := by decide +kernel
theorem xi_Exchange_ok : ∀ k, k < 7 → ([330, 332, 334, 336, 338, 340, 342] : List Nat)[k]?.bind (fun i => xv_T[i]?) = some (u_lay "OnionCourt$Exchange" xf_Exchange k) := by decide +kernel
theorem xi_Exchange : ∀ w ∈ u_ws "OnionCourt$Exchange" xf_Exchange 7, w ∈ xv_T := fun w h => xv_wsin (fun k hk => xi_Exchange_ok k hk) w h
def xv_cl : List vw_C := [("OnionCourtModel", xf_Mo, 52), ("OnionCourt", xf_Ct, 14), ("OnionCourt$Tape", xf_Tape, 5), ("OnionCourt$Questions", xf_Questions, 2), ("OnionCourt$Law", xf_Law, 9), ("OnionCourt$Case", xf_Case, 8), ("OnionCourt$Scales", xf_Scales, 2), ("OnionCourt$Archive", xf_Archive, 7), ("OnionCourt$Witness", xf_Witness, 4), ("OnionCourt$Answer", xf_Answer, 8), ("OnionCourt$Boxes", xf_Boxes, 5), ("OnionCourt$Exchange", xf_Exchange, 7)]
/-- what a class of the list is known for -/
theorem xv_cl_ok : ∀ (ci : Nat) (q : vw_C), xv_cl[ci]? = some q → (∀ w ∈ u_ws q.1 q.2.1 q.2.2, w ∈ xv_T) ∧ (∃ ty : Nat → FieldType, ∀ k, k < q.2.2 → parseFieldDescriptor (q.2.1 k).2.2.1 = some (ty k)) ∧ (∀ a, a < q.2.2 → ∀ b, b < q.2.2 → a ≠ b → (q.2.1 a).2.1 ≠ (q.2.1 b).2.1) := by
  intro ci q h
  match ci, h with
  | 0, h => cases h; exact ⟨xi_Mo, ⟨xt_Mo, xt_Mo_ok⟩, xn_Mo⟩
  | 1, h => cases h; exact ⟨xi_Ct, ⟨xt_Ct, xt_Ct_ok⟩, xn_Ct⟩
  | 2, h => cases h; exact ⟨xi_Tape, ⟨xt_Tape, xt_Tape_ok⟩, xn_Tape⟩
  | 3, h => cases h; exact ⟨xi_Questions, ⟨xt_Questions, xt_Questions_ok⟩, xn_Questions⟩
  | 4, h => cases h; exact ⟨xi_Law, ⟨xt_Law, xt_Law_ok⟩, xn_Law⟩
  | 5, h => cases h; exact ⟨xi_Case, ⟨xt_Case, xt_Case_ok⟩, xn_Case⟩
  | 6, h => cases h; exact ⟨xi_Scales, ⟨xt_Scales, xt_Scales_ok⟩, xn_Scales⟩
  | 7, h => cases h; exact ⟨xi_Archive, ⟨xt_Archive, xt_Archive_ok⟩, xn_Archive⟩
  | 8, h => cases h; exact ⟨xi_Witness, ⟨xt_Witness, xt_Witness_ok⟩, xn_Witness⟩
  | 9, h => cases h; exact ⟨xi_Answer, ⟨xt_Answer, xt_Answer_ok⟩, xn_Answer⟩
  | 10, h => cases h; exact ⟨xi_Boxes, ⟨xt_Boxes, xt_Boxes_ok⟩, xn_Boxes⟩
  | 11, h => cases h; exact ⟨xi_Exchange, ⟨xt_Exchange, xt_Exchange_ok⟩, xn_Exchange⟩
  | k + 12, h => simp [xv_cl] at h
end
section
/-! A SMALL MACHINE of its own, as a function: methods as lists of resolved instructions, a world of cells by their numbers. -/
abbrev xv_C : Type := (Nat × vp_A) ⊕ (Nat × List Value)
abbrev xv_H : Type := Nat → xv_C
abbrev xv_S : Type := (Nat × Nat) × xv_H
abbrev xv_L : Type := List (Option Value)
/-- an instruction; three numbers and a value that resolve it -/
abbrev xv_Op : Type := Instr × Nat × Nat × Nat × Value
abbrev xv_B : Type := List (Nat × List xv_Op)
/-- a method: name, bytes, locals, return type; class, kind (0 static, 1 virtual, 2 constructor), arguments without the receiver; its longs' places; its blocks -/
abbrev xv_M : Type := MethodName × ByteArray × Nat × Option FieldType × (Nat × Nat × Nat) × List Nat × xv_B
abbrev xv_Ro : Type := Nat → Option (Nat × (Nat → Int32))
def xv_at : xv_B → Nat → List xv_Op
  | [], _ => []
  | (p, b) :: L, q => if p = q then b else xv_at L q
def xv_get : xv_L → Nat → Option Value
  | [], _ => none
  | a :: _, 0 => a
  | _ :: ls, n + 1 => xv_get ls n
def xv_set : xv_L → Nat → Option Value → xv_L
  | [], _, _ => []
  | _ :: ls, 0, v => v :: ls
  | a :: ls, n + 1, v => a :: xv_set ls n v
/-- is it a value of that kind: 0 int, 1 long, 2 boolean, 3 reference -/
def xv_ty : Nat → Value → Bool
  | 0, .int _ => true
  | 1, .long _ => true
  | 2, .int x => x == 0 || x == 1
  | 3, .null => true
  | 3, .ref _ => true
  | _, _ => false
def xv_i2 (f : Int32 → Int32 → Option Int32) : List Value → Option (List Value)
  | .int y :: .int x :: r => (f x y).map fun z => .int z :: r
  | _ => none
def xv_l2 (f : Int64 → Int64 → Option Value) : List Value → Option (List Value)
  | .long y :: .long x :: r => (f x y).map fun z => z :: r
  | _ => none
def xv_il (f : Int64 → Int32 → Int64) : List Value → Option (List Value)
  | .int y :: .long x :: r => some (.long (f x y) :: r)
  | _ => none
def xv_i1 (f : Int32 → Value) : List Value → Option (List Value)
  | .int x :: r => some (f x :: r)
  | _ => none
def xv_l1 (f : Int64 → Value) : List Value → Option (List Value)
  | .long x :: r => some (f x :: r)
  | _ => none
def xv_ld (t : Nat) (ls : xv_L) (k : Nat) (st : List Value) : Option (xv_L × List Value) :=
  match xv_get ls k with
  | some v => if xv_ty t v = true then some (ls, v :: st) else none
  | none => none
def xv_st (t : Nat) (ls : xv_L) (k : Nat) : List Value → Option (xv_L × List Value)
  | v :: st => if xv_ty t v = true then some (xv_set ls k (some v), st) else none
  | [] => none
def xv_stl (ls : xv_L) (k : Nat) : List Value → Option (xv_L × List Value)
  | .long x :: st => some (xv_set (xv_set ls k (some (.long x))) (k + 1) none, st)
  | _ => none
def xv_inc (ls : xv_L) (k : Nat) (v : Value) (st : List Value) : Option (xv_L × List Value) :=
  match xv_get ls k, v with
  | some (.int x), .int c => some (xv_set ls k (some (.int (x + c))), st)
  | _, _ => none
def xv_dup : List Value → Option (List Value)
  | v :: r => if v.category = 1 then some (v :: v :: r) else none
  | [] => none
def xv_dup2 : List Value → Option (List Value)
  | v :: w :: r => if v.category = 1 ∧ w.category = 1 then some (v :: w :: v :: w :: r) else none
  | _ => none
def xv_pop : List Value → Option (List Value)
  | v :: r => if v.category = 1 then some r else none
  | [] => none
/-- what touches neither heap nor place -/
def xv_loc (i : Instr) (v : Value) (ls : xv_L) (st : List Value) : Option (xv_L × List Value) :=
  match i with
  | .aconst_null => some (ls, .null :: st)
  | .iconst _ => some (ls, v :: st)
  | .bipush _ => some (ls, v :: st)
  | .sipush _ => some (ls, v :: st)
  | .lconst _ => some (ls, v :: st)
  | .ldc _ => some (ls, v :: st)
  | .ldc_w _ => some (ls, v :: st)
  | .ldc2_w _ => some (ls, v :: st)
  | .iload k => xv_ld 0 ls k st
  | .iload_n k => xv_ld 0 ls k.1 st
  | .lload k => xv_ld 1 ls k st
  | .lload_n k => xv_ld 1 ls k.1 st
  | .aload k => xv_ld 3 ls k st
  | .aload_n k => xv_ld 3 ls k.1 st
  | .istore k => xv_st 0 ls k st
  | .istore_n k => xv_st 0 ls k.1 st
  | .astore k => xv_st 3 ls k st
  | .astore_n k => xv_st 3 ls k.1 st
  | .lstore k => xv_stl ls k st
  | .lstore_n k => xv_stl ls k.1 st
  | .iinc k _ => xv_inc ls k v st
  | .dup => (xv_dup st).map fun r => (ls, r)
  | .dup2 => (xv_dup2 st).map fun r => (ls, r)
  | .pop => (xv_pop st).map fun r => (ls, r)
  | .iadd => (xv_i2 (fun x y => some (x + y)) st).map fun r => (ls, r)
  | .isub => (xv_i2 (fun x y => some (x - y)) st).map fun r => (ls, r)
  | .imul => (xv_i2 (fun x y => some (x * y)) st).map fun r => (ls, r)
  | .iand => (xv_i2 (fun x y => some (x &&& y)) st).map fun r => (ls, r)
  | .ior => (xv_i2 (fun x y => some (x ||| y)) st).map fun r => (ls, r)
  | .ixor => (xv_i2 (fun x y => some (x ^^^ y)) st).map fun r => (ls, r)
  | .ishl => (xv_i2 (fun x y => some (x <<< (y &&& 31))) st).map fun r => (ls, r)
  | .ishr => (xv_i2 (fun x y => some (x >>> (y &&& 31))) st).map fun r => (ls, r)
  | .iushr => (xv_i2 (fun x y => some (x.toUInt32 >>> (y.toUInt32 &&& Int32.toUInt32 31)).toInt32) st).map fun r => (ls, r)
  | .idiv => (xv_i2 (fun x y => if y = 0 then none else some (x / y)) st).map fun r => (ls, r)
  | .irem => (xv_i2 (fun x y => if y = 0 then none else some (x - x / y * y)) st).map fun r => (ls, r)
  | .ineg => (xv_i1 (fun x => .int (-x)) st).map fun r => (ls, r)
  | .i2l => (xv_i1 (fun x => .long x.toInt64) st).map fun r => (ls, r)
  | .i2b => (xv_i1 (fun x => .int x.toInt8.toInt32) st).map fun r => (ls, r)
  | .l2i => (xv_l1 (fun x => .int x.toInt32) st).map fun r => (ls, r)
  | .lneg => (xv_l1 (fun x => .long (-x)) st).map fun r => (ls, r)
  | .ladd => (xv_l2 (fun x y => some (.long (x + y))) st).map fun r => (ls, r)
  | .lsub => (xv_l2 (fun x y => some (.long (x - y))) st).map fun r => (ls, r)
  | .lmul => (xv_l2 (fun x y => some (.long (x * y))) st).map fun r => (ls, r)
  | .land => (xv_l2 (fun x y => some (.long (x &&& y))) st).map fun r => (ls, r)
  | .lor => (xv_l2 (fun x y => some (.long (x ||| y))) st).map fun r => (ls, r)
  | .lxor => (xv_l2 (fun x y => some (.long (x ^^^ y))) st).map fun r => (ls, r)
  | .ldiv => (xv_l2 (fun x y => if y = 0 then none else some (.long (x / y))) st).map fun r => (ls, r)
  | .lrem => (xv_l2 (fun x y => if y = 0 then none else some (.long (x - x / y * y))) st).map fun r => (ls, r)
  | .lcmp => (xv_l2 (fun x y => some (.int (lg_cmp x y))) st).map fun r => (ls, r)
  | .lshl => (xv_il (fun x y => x <<< (y.toInt64 &&& 63)) st).map fun r => (ls, r)
  | .lshr => (xv_il (fun x y => x >>> (y.toInt64 &&& 63)) st).map fun r => (ls, r)
  | _ => none
/-- where a jump goes: 'some (some a)' to a, 'some none' on -/
def xv_c2 (c : Int32 → Int32 → Bool) (a : Nat) : List Value → Option (Option Nat × List Value)
  | .int y :: .int x :: r => some (if c x y = true then some a else none, r)
  | _ => none
def xv_c1 (c : Int32 → Bool) (a : Nat) : List Value → Option (Option Nat × List Value)
  | .int x :: r => some (if c x = true then some a else none, r)
  | _ => none
def xv_nul (b : Bool) (a : Nat) : List Value → Option (Option Nat × List Value)
  | .null :: r => some (if b = true then some a else none, r)
  | .ref _ :: r => some (if b = true then none else some a, r)
  | _ => none
def xv_tab (pc : Nat) (d lo hi : Int) (os : Array Int) : List Value → Option (Option Nat × List Value)
  | .int x :: r => if x.toInt < lo ∨ hi < x.toInt then some (some ((pc : Int) + d).toNat, r) else (os[(x.toInt - lo).toNat]?).map fun o => (some ((pc : Int) + o).toNat, r)
  | _ => none
def xv_jmp (i : Instr) (a : Nat) (st : List Value) : Option (Option Nat × List Value) :=
  match i with
  | .nop => some (some a, st)
  | .goto _ => some (some a, st)
  | .if_icmp .eq _ => xv_c2 (fun x y => decide (x = y)) a st
  | .if_icmp .ne _ => xv_c2 (fun x y => decide (¬ x = y)) a st
  | .if_icmp .lt _ => xv_c2 (fun x y => decide (x < y)) a st
  | .if_icmp .ge _ => xv_c2 (fun x y => decide (y ≤ x)) a st
  | .if_icmp .gt _ => xv_c2 (fun x y => decide (y < x)) a st
  | .if_icmp .le _ => xv_c2 (fun x y => decide (x ≤ y)) a st
  | .ifCond .eq _ => xv_c1 (fun x => decide (x = 0)) a st
  | .ifCond .ne _ => xv_c1 (fun x => decide (¬ x = 0)) a st
  | .ifCond .lt _ => xv_c1 (fun x => decide (x < 0)) a st
  | .ifCond .ge _ => xv_c1 (fun x => decide (0 ≤ x)) a st
  | .ifCond .gt _ => xv_c1 (fun x => decide (0 < x)) a st
  | .ifCond .le _ => xv_c1 (fun x => decide (x ≤ 0)) a st
  | .ifnull _ => xv_nul true a st
  | .ifnonnull _ => xv_nul false a st
  | .tableswitch d lo hi os => xv_tab a d lo hi os st
  | _ => none
/-- a cell's new contents -/
def xv_up (h : xv_H) (k : Nat) (c : xv_C) : xv_H := fun j => if j = k then c else h j
def xv_in (i : Int32) (n : Nat) : Prop := 0 ≤ i.toInt ∧ i.toInt < n
def xv_inB (i : Int32) (n : Nat) : Bool := decide (0 ≤ i.toInt) && decide (i.toInt < n)
def xv_getf (k ci : Nat) (h : xv_H) : List Value → Option (List Value)
  | .ref r :: st => match h r with
    | .inr (c, fs) => if c = ci then (fs[k]?).map fun v => v :: st else none
    | _ => none
  | _ => none
def xv_putf (k ci t : Nat) (h : xv_H) : List Value → Option (List Value × xv_H)
  | v :: .ref r :: st => match h r with
    | .inr (c, fs) => if c = ci ∧ k < fs.length ∧ xv_ty t v = true then some (st, xv_up h r (.inr (c, fs.set k v))) else none
    | _ => none
  | _ => none
def xv_ildr (ro : xv_Ro) : List Value → Option (List Value)
  | .int i :: .ref r :: st => match ro r with
    | some (n, f) => if xv_inB i n = true then some (.int (f i.toNatClampNeg) :: st) else none
    | none => none
  | _ => none
def xv_ild (kd : Nat) (h : xv_H) : List Value → Option (List Value)
  | .int i :: .ref r :: st => match h r with
    | .inl (k, n, .inl f) => if k = kd ∧ xv_inB i n = true then some (.int (f i.toNatClampNeg) :: st) else none
    | _ => none
  | _ => none
def xv_lld (h : xv_H) : List Value → Option (List Value)
  | .int i :: .ref r :: st => match h r with
    | .inl (k, n, .inr (.inl f)) => if k = 1 ∧ xv_inB i n = true then some (.long (f i.toNatClampNeg) :: st) else none
    | _ => none
  | _ => none
def xv_ald (h : xv_H) : List Value → Option (List Value)
  | .int i :: .ref r :: st => match h r with
    | .inl (k, n, .inr (.inr (.inr (.inr f)))) => if (k = 3 ∨ k = 4) ∧ xv_inB i n = true then some (va_rf (f i.toNatClampNeg) :: st) else none
    | _ => none
  | _ => none
def xv_isto (kd : Nat) (g : Int32 → Int32) (h : xv_H) : List Value → Option (List Value × xv_H)
  | .int x :: .int i :: .ref r :: st => match h r with
    | .inl (k, n, .inl f) => if k = kd ∧ xv_inB i n = true then some (st, xv_up h r (.inl (k, n, .inl (upd f i.toNatClampNeg (g x))))) else none
    | _ => none
  | _ => none
def xv_lsto (h : xv_H) : List Value → Option (List Value × xv_H)
  | .long x :: .int i :: .ref r :: st => match h r with
    | .inl (k, n, .inr (.inl f)) => if k = 1 ∧ xv_inB i n = true then some (st, xv_up h r (.inl (k, n, .inr (.inl (vp_updL f i.toNatClampNeg x))))) else none
    | _ => none
  | _ => none
def xv_asto (h : xv_H) : List Value → Option (List Value × xv_H)
  | .ref v :: .int i :: .ref r :: st => match h r, h v with
    | .inl (k, n, .inr (.inr (.inr (.inr f)))), .inr (c, _) => if (k = 3 ∧ c = 8 ∨ k = 4 ∧ c = 9) ∧ xv_inB i n = true then some (st, xv_up h r (.inl (k, n, .inr (.inr (.inr (.inr (va_up f i.toNatClampNeg (some v)))))))) else none
    | _, _ => none
  | _ => none
def xv_len (h : xv_H) : List Value → Option (List Value)
  | .ref r :: st => match h r with
    | .inl (k, n, _) => if k < 5 then some (.int (Int32.ofNat n) :: st) else none
    | _ => none
  | _ => none
def xv_lenr (ro : xv_Ro) : List Value → Option (List Value)
  | .ref r :: st => (ro r).map fun q => .int (Int32.ofNat q.1) :: st
  | _ => none
def xv_dfs (ci : Nat) : List Value := ((xv_cl[ci]?).map fun q => (List.range q.2.2).map fun k => if (q.2.1 k).2.2.1 = "I" ∨ (q.2.1 k).2.2.1 = "Z" then Value.int 0 else if (q.2.1 k).2.2.1 = "J" then .long 0 else .null).getD []
def xv_new (ci : Nat) (σ : xv_S) (st : List Value) : Option (List Value × xv_S) :=
  if σ.1.1 < 1000000 then some (.ref σ.1.1 :: st, ((σ.1.1 + 1, σ.1.2 + (xv_dfs ci).length), xv_up σ.2 σ.1.1 (.inr (ci, xv_dfs ci)))) else none
def xv_newa (k : Nat) (σ : xv_S) : List Value → Option (List Value × xv_S)
  | .int n :: st => if σ.1.1 < 1000000 ∧ 0 ≤ n ∧ n ≤ 100000 then some (.ref σ.1.1 :: st, ((σ.1.1 + 1, σ.1.2 + n.toNatClampNeg), xv_up σ.2 σ.1.1 (.inl (k, n.toNatClampNeg,
      if k = 1 then .inr (.inl fun _ => 0) else if k = 3 ∨ k = 4 then .inr (.inr (.inr (.inr fun _ => none))) else .inl fun _ => 0)))) else none
  | _ => none
def xv_hp (ro : xv_Ro) (i : Instr) (a b : Nat) (v : Value) (σ : xv_S) (st : List Value) : Option (List Value × xv_S) :=
  match i with
  | .getfield _ => (xv_getf a b σ.2 st).map fun r => (r, σ)
  | .putfield _ => (match v with | .int t => (xv_putf a b t.toNatClampNeg σ.2 st).map fun r => (r.1, (σ.1, r.2)) | _ => none)
  | .iaload => ((if b = 1 then xv_ildr ro st else xv_ild 0 σ.2 st)).map fun r => (r, σ)
  | .baload => (xv_ild 2 σ.2 st).map fun r => (r, σ)
  | .laload => (xv_lld σ.2 st).map fun r => (r, σ)
  | .aaload => (xv_ald σ.2 st).map fun r => (r, σ)
  | .iastore => (xv_isto 0 (fun x => x) σ.2 st).map fun r => (r.1, (σ.1, r.2))
  | .bastore => (xv_isto 2 (fun x => vp_nar .byte x) σ.2 st).map fun r => (r.1, (σ.1, r.2))
  | .lastore => (xv_lsto σ.2 st).map fun r => (r.1, (σ.1, r.2))
  | .aastore => (xv_asto σ.2 st).map fun r => (r.1, (σ.1, r.2))
  | .arraylength => ((if b = 1 then xv_lenr ro st else xv_len σ.2 st)).map fun r => (r, σ)
  | .getstatic _ => some (.ref 1000000 :: st, σ)
  | .new _ => xv_new a σ st
  | .newarray _ => xv_newa a σ st
  | .anewarray _ => xv_newa a σ st
  | _ => none
/-- a call: callee, arguments with the receiver, the rest of the stack -/
def xv_cv (a b : Nat) (v : Value) (h : xv_H) (st : List Value) : Option (Nat × List Value × List Value) :=
  match st.drop b, v with
  | .ref r :: rest, .int ci => (match h r with
    | .inr (c, _) => if c = ci.toNatClampNeg then some (a, .ref r :: (st.take b).reverse, rest) else none
    | _ => none)
  | _, _ => none
def xv_ci (a b : Nat) (st : List Value) : Option (Nat × List Value × List Value) :=
  match st.drop b with
  | .ref r :: rest => some (a, .ref r :: (st.take b).reverse, rest)
  | _ => none
def xv_ret (M : xv_M) (i : Instr) (st : List Value) : Option (Option Value) :=
  match i, st with
  | .return_, [] => some none
  | .ireturn, [.int x] => if M.2.2.2.1 = some .int then some (some (.int x)) else if M.2.2.2.1 = some .boolean ∧ (x = 0 ∨ x = 1) then some (some (.int x)) else none
  | .lreturn, [.long x] => some (some (.long x))
  | .areturn, [.null] => some (some .null)
  | .areturn, [.ref a] => some (some (.ref a))
  | _, _ => none
def xv_kd : Instr → Nat
  | .nop | .goto _ | .if_icmp _ _ | .ifCond _ _ | .ifnull _ | .ifnonnull _ | .tableswitch _ _ _ _ => 1
  | .getfield _ | .putfield _ | .iaload | .baload | .laload | .aaload | .iastore | .bastore | .lastore | .aastore | .arraylength | .getstatic _ | .new _ | .newarray _ | .anewarray _ => 2
  | .invokevirtual _ | .invokestatic _ | .invokespecial _ => 3
  | .return_ | .ireturn | .lreturn | .areturn => 4
  | _ => 0
/-- what is known without its code: java.lang.Math's, and Object's constructor -/
def xv_math : Nat → List Value → Option (List Value × List Value)
  | 0, .int x :: r => some (.int (if 0 ≤ x then x else 0 - x) :: r, r)
  | 1, .long x :: r => some (.long (if 0 < x then x else -x) :: r, r)
  | 2, .int y :: .int x :: r => some (.int (if x < y then y else x) :: r, r)
  | 3, .long y :: .long x :: r => some (.long (if y < x then x else y) :: r, r)
  | 4, .int y :: .int x :: r => some (.int (if y < x then y else x) :: r, r)
  | 5, .long y :: .long x :: r => some (.long (if y < x then y else x) :: r, r)
  | _, _ => none
def xv_spc (i : Instr) (a : Nat) (st : List Value) : Option (List Value × List Value) :=
  match i with
  | .invokestatic _ => xv_math a st
  | _ => (match st with
    | .ref _ :: r => some (r, r)
    | _ => none)
/-- locals at a method's entry -/
def xv_flat : List Value → xv_L
  | [] => []
  | v :: vs => if v.category = 2 then some v :: none :: xv_flat vs else some v :: xv_flat vs
def xv_lgs : Nat → List Value → List Nat
  | _, [] => []
  | n, v :: vs => if v.category = 2 then n :: xv_lgs (n + 2) vs else xv_lgs (n + 1) vs
def xv_ini (M : xv_M) (as : List Value) : Option xv_L :=
  if (xv_flat as).length ≤ M.2.2.1 ∧ (xv_lgs 0 as).all (fun j => M.2.2.2.2.2.1.contains j) = true then some (xv_flat as ++ List.replicate (M.2.2.1 - (xv_flat as).length) none) else none
def xv_exec (mt : Nat → Option xv_M) (ro : xv_Ro) : Nat → Nat → xv_M → List xv_Op → xv_L → List Value → xv_S → Option (Option Value × xv_S)
  | 0, _, _, _, _, _, _ => none
  | _ + 1, _, _, [], _, _, _ => none
  | n + 1, d, M, (i, a, b, w, v) :: ops, ls, st, σ =>
    match xv_kd i with
    | 0 => (match xv_loc i v ls st with
      | some (ls', st') => xv_exec mt ro n d M ops ls' st' σ
      | none => none)
    | 1 => (match xv_jmp i a st with
      | some (some t, st') => xv_exec mt ro n d M (xv_at M.2.2.2.2.2.2 t) ls st' σ
      | some (none, st') => xv_exec mt ro n d M ops ls st' σ
      | none => none)
    | 2 => (match xv_hp ro i a b v σ st with
      | some (st', σ') => xv_exec mt ro n d M ops ls st' σ'
      | none => none)
    | 3 => (match d with
      | 0 => none
      | d' + 1 =>
        if v = .null then (match xv_spc i a st with
          | some (st', rest) => if rest.length ≤ 4 then xv_exec mt ro n (d' + 1) M ops ls st' σ else none
          | none => none)
        else (match (match i with
            | .invokevirtual _ => xv_cv a b v σ.2 st
            | .invokespecial _ => xv_ci a b st
            | _ => some (a, (st.take b).reverse, st.drop b)) with
          | some (k, as, rest) => (match mt k with
            | some M' => (match xv_ini M' as with
              | some ls0 => if rest.length ≤ 4 ∧ as.length = M'.2.2.2.2.1.2.2 + (if M'.2.2.2.2.1.2.1 = 0 then 0 else 1) then (match xv_exec mt ro n d' M' (xv_at M'.2.2.2.2.2.2 0) ls0 [] σ with
                | some (r, σ') => xv_exec mt ro n (d' + 1) M ops ls (r.toList ++ rest) σ'
                | none => none) else none
              | none => none)
            | none => none)
          | none => none))
    | _ => (match xv_ret M i st with
      | some r => some (r, σ)
      | none => none)
end
section
/-! THE SMALL MACHINE AND THE JVM: values, locals, and what touches neither heap nor place -/
def xv_sh (ad : Nat → Nat) : Value → Value
  | .ref a => .ref (ad a)
  | v => v
theorem xv_sh_cat (ad : Nat → Nat) (v : Value) : (xv_sh ad v).category = v.category := by cases v <;> rfl
def xv_lv (ad : Nat → Nat) : Nat → xv_L → List (Nat × Value)
  | _, [] => []
  | n, none :: ls => xv_lv ad (n + 1) ls
  | n, some v :: ls => (n, xv_sh ad v) :: xv_lv ad (n + 1) ls
theorem xv_lv_mem {ad : Nat → Nat} : ∀ {ls : xv_L} {n j : Nat} {w : Value}, (j, w) ∈ xv_lv ad n ls ↔ ∃ k v, j = n + k ∧ xv_get ls k = some v ∧ w = xv_sh ad v := by
  intro ls
  induction ls with
  | nil => intro n j w; simp [xv_lv, xv_get]
  | cons a ls ih =>
    intro n j w
    constructor
    · intro h
      cases a with
      | none =>
        obtain ⟨k, v, h1, h2, h3⟩ := ih.mp h
        exact ⟨k + 1, v, by omega, h2, h3⟩
      | some u =>
        rcases List.mem_cons.mp h with h | h
        · cases h; exact ⟨0, u, rfl, rfl, rfl⟩
        · obtain ⟨k, v, h1, h2, h3⟩ := ih.mp h
          exact ⟨k + 1, v, by omega, h2, h3⟩
    · rintro ⟨k, v, h1, h2, h3⟩
      cases k with
      | zero =>
        have h2 : a = some v := h2
        subst h2; subst h1; subst h3
        exact List.mem_cons_self
      | succ k =>
        have := ih.mpr ⟨k, v, (by omega : j = n + 1 + k), h2, h3⟩
        cases a with
        | none => exact this
        | some u => exact List.mem_cons_of_mem _ this
theorem xv_get_set {ls : xv_L} : ∀ {k j : Nat} {o : Option Value} {v : Value}, xv_get (xv_set ls k o) j = some v → (j = k ∧ o = some v) ∨ (j ≠ k ∧ xv_get ls j = some v) := by
  induction ls with
  | nil => intro k j o v h; simp [xv_set, xv_get] at h
  | cons a ls ih =>
    intro k j o v h
    cases k with
    | zero =>
      cases j with
      | zero => exact Or.inl ⟨rfl, h⟩
      | succ j => exact Or.inr ⟨by omega, h⟩
    | succ k =>
      cases j with
      | zero => exact Or.inr ⟨by omega, h⟩
      | succ j =>
        rcases ih (k := k) (j := j) h with ⟨h1, h2⟩ | ⟨h1, h2⟩
        · exact Or.inl ⟨by omega, h2⟩
        · exact Or.inr ⟨by omega, h2⟩
/-- only the longs' places hold longs -/
def xv_lg (longs : List Nat) (ls : xv_L) : Prop := ∀ j v, xv_get ls j = some v → v.category = 2 → j ∈ longs
theorem xv_has_get {ad : Nat → Nat} {LS : Array Slot} {nL k : Nat} {ls : xv_L} {v : Value} (h : lv_has LS nL (xv_lv ad 0 ls)) (hg : xv_get ls k = some v) : LS[k]? = some (.val (xv_sh ad v)) :=
  h.2.2 (k, xv_sh ad v) (xv_lv_mem.mpr ⟨k, v, by omega, hg, rfl⟩)
theorem xv_has_set1 {ad : Nat → Nat} {LS : Array Slot} {nL k : Nat} {ls : xv_L} {v : Value} {longs : List Nat} (hg : xv_lg longs ls) (hk : k = 0 ∨ k - 1 ∉ longs)
    (h : lv_has LS nL ((k, xv_sh ad v) :: (xv_lv ad 0 ls).filter (fun q => !(q.1 == k) && !(q.1 + 1 == k && q.2.category == 2)))) : lv_has LS nL (xv_lv ad 0 (xv_set ls k (some v))) := by
  refine ⟨h.1, h.2.1, fun q hq => ?_⟩
  obtain ⟨j, w⟩ := q
  obtain ⟨j', u, h1, h2, h3⟩ := xv_lv_mem.mp hq
  rw [Nat.zero_add] at h1
  subst h1; subst h3
  rcases xv_get_set h2 with ⟨rfl, h4⟩ | ⟨h4, h5⟩
  · cases h4
    exact h.2.2 _ List.mem_cons_self
  · refine h.2.2 _ (List.mem_cons_of_mem _ (List.mem_filter.mpr ⟨xv_lv_mem.mpr ⟨j, u, by omega, h5, rfl⟩, ?_⟩))
    simp only [Bool.and_eq_true, Bool.not_eq_true', beq_eq_false_iff_ne, ne_eq, Bool.and_eq_false_iff]
    refine ⟨h4, ?_⟩
    by_cases hc : j + 1 = k
    · refine Or.inr fun hcat => ?_
      rw [xv_sh_cat] at hcat
      rcases hk with hk | hk
      · omega
      · exact hk (by rw [← hc]; exact hg j u h5 hcat)
    · exact Or.inl hc
theorem xv_has_set2 {ad : Nat → Nat} {LS : Array Slot} {nL k : Nat} {ls : xv_L} {x : Int64} {longs : List Nat} (hg : xv_lg longs ls) (hk : k = 0 ∨ k - 1 ∉ longs)
    (h : lv_has LS nL ((k, Value.long x) :: (xv_lv ad 0 ls).filter (fun q => !(q.1 == k) && (!(q.1 == k + 1) && !(q.1 + 1 == k && q.2.category == 2))))) : lv_has LS nL (xv_lv ad 0 (xv_set (xv_set ls k (some (.long x))) (k + 1) none)) := by
  refine ⟨h.1, h.2.1, fun q hq => ?_⟩
  obtain ⟨j, w⟩ := q
  obtain ⟨j', u, h1, h2, h3⟩ := xv_lv_mem.mp hq
  rw [Nat.zero_add] at h1
  subst h1; subst h3
  rcases xv_get_set h2 with ⟨rfl, h4⟩ | ⟨h6, h7⟩
  · cases h4
  · rcases xv_get_set h7 with ⟨rfl, h4⟩ | ⟨h4, h5⟩
    · cases h4
      exact h.2.2 _ List.mem_cons_self
    · refine h.2.2 _ (List.mem_cons_of_mem _ (List.mem_filter.mpr ⟨xv_lv_mem.mpr ⟨j, u, by omega, h5, rfl⟩, ?_⟩))
      simp only [Bool.and_eq_true, Bool.not_eq_true', beq_eq_false_iff_ne, ne_eq, Bool.and_eq_false_iff]
      refine ⟨h4, h6, ?_⟩
      by_cases hc : j + 1 = k
      · refine Or.inr fun hcat => ?_
        rw [xv_sh_cat] at hcat
        rcases hk with hk | hk
        · omega
        · exact hk (by rw [← hc]; exact hg j u h5 hcat)
      · exact Or.inl hc
theorem xv_lg_set1 {k : Nat} {ls : xv_L} {v : Value} {longs : List Nat} (hg : xv_lg longs ls) (hv : v.category = 1) : xv_lg longs (xv_set ls k (some v)) := by
  intro j w h hc
  rcases xv_get_set h with ⟨rfl, h4⟩ | ⟨h4, h5⟩
  · cases h4; omega
  · exact hg j w h5 hc
theorem xv_lg_set2 {k : Nat} {ls : xv_L} {x : Int64} {longs : List Nat} (hg : xv_lg longs ls) (hk : k ∈ longs) : xv_lg longs (xv_set (xv_set ls k (some (.long x))) (k + 1) none) := by
  intro j w h hc
  rcases xv_get_set h with ⟨rfl, h4⟩ | ⟨h6, h7⟩
  · cases h4
  · rcases xv_get_set h7 with ⟨rfl, h4⟩ | ⟨h4, h5⟩
    · exact hk
    · exact hg j w h5 hc
/-- an instruction's length -/
def xv_nx : Instr → Nat
  | .bipush _ | .ldc _ | .iload _ | .lload _ | .aload _ | .istore _ | .lstore _ | .astore _ | .newarray _ => 2
  | .sipush _ | .ldc_w _ | .ldc2_w _ | .iinc _ _ | .goto _ | .if_icmp _ _ | .ifCond _ _ | .ifnull _ | .ifnonnull _ | .getfield _ | .putfield _ | .getstatic _ | .new _ | .anewarray _ | .invokevirtual _ | .invokespecial _ | .invokestatic _ => 3
  | _ => 1
def xv_sok (k nL : Nat) (longs : List Nat) : Bool := decide (k < nL) && (k == 0 || !longs.contains (k - 1))
def xv_sok2 (k nL : Nat) (longs : List Nat) : Bool := decide (k + 1 < nL) && (k == 0 || !longs.contains (k - 1)) && longs.contains k
/-- what must hold of a local instruction's numbers -/
def xv_lok (own : String) (nL : Nat) (longs : List Nat) (i : Instr) (w : Nat) (v : Value) : Bool :=
  match i with
  | .iconst n => decide (v = .int (Int32.ofInt n))
  | .bipush n => decide (v = .int (Int8.ofInt n).toInt32)
  | .sipush n => decide (v = .int (Int16.ofInt n).toInt32)
  | .lconst n => decide (v = .long (Int64.ofNat n.1))
  | .ldc k => (match v with | .int x => decide (xv_T[w]? = some (.constant own k x)) | _ => false)
  | .ldc_w k => (match v with | .int x => decide (xv_T[w]? = some (.constant own k x)) | _ => false)
  | .ldc2_w k => (match v with | .long x => decide (xv_T[w]? = some (.constantLong own k x)) | _ => false)
  | .istore k => xv_sok k nL longs
  | .istore_n k => xv_sok k.1 nL longs
  | .astore k => xv_sok k nL longs
  | .astore_n k => xv_sok k.1 nL longs
  | .lstore k => xv_sok2 k nL longs
  | .lstore_n k => xv_sok2 k.1 nL longs
  | .iinc k n => xv_sok k nL longs && decide (v = .int (Int32.ofInt n))
  | _ => true
theorem xv_sok_use {k nL : Nat} {longs : List Nat} (h : xv_sok k nL longs = true) : k < nL ∧ (k = 0 ∨ k - 1 ∉ longs) := by
  simp only [xv_sok, Bool.and_eq_true, decide_eq_true_eq, Bool.or_eq_true, beq_iff_eq, Bool.not_eq_true', List.contains_eq_mem, decide_eq_false_iff_not] at h
  exact h
theorem xv_sok2_use {k nL : Nat} {longs : List Nat} (h : xv_sok2 k nL longs = true) : k + 1 < nL ∧ (k = 0 ∨ k - 1 ∉ longs) ∧ k ∈ longs := by
  simp only [xv_sok2, Bool.and_eq_true, decide_eq_true_eq, Bool.or_eq_true, beq_iff_eq, Bool.not_eq_true', List.contains_eq_mem, decide_eq_false_iff_not] at h
  exact ⟨h.1.1, h.1.2, h.2⟩
section XVL
variable {p : Program} {l : Launch} {e : Env} {R : Room} {s : State} {m : MethodId} {args : Array Value} {below : List Frame} {meth : Method} {c : Code} {H : Heap} {locs : List Loc} {cells slots : Nat} {Q : State → Prop}
variable {cc : ByteArray} {pc : Nat} {LS : Array Slot} {ad : Nat → Nat}
theorem xv_i2_use {f : Int32 → Int32 → Option Int32} {ls ls' : xv_L} {st st' : List Value} (h : ((xv_i2 f st).map fun r => (ls, r)) = some (ls', st')) : ls' = ls ∧ ∃ x y z r, st = .int y :: .int x :: r ∧ f x y = some z ∧ st' = .int z :: r := by
  unfold xv_i2 at h
  split at h
  · rename_i y x r
    cases hz : f x y with
    | none => rw [hz] at h; simp at h
    | some z => rw [hz] at h; simp at h; exact ⟨h.1.symm, x, y, z, r, rfl, hz, h.2.symm⟩
  · simp at h
theorem xv_l2_use {f : Int64 → Int64 → Option Value} {ls ls' : xv_L} {st st' : List Value} (h : ((xv_l2 f st).map fun r => (ls, r)) = some (ls', st')) : ls' = ls ∧ ∃ x y z r, st = .long y :: .long x :: r ∧ f x y = some z ∧ st' = z :: r := by
  unfold xv_l2 at h
  split at h
  · rename_i y x r
    cases hz : f x y with
    | none => rw [hz] at h; simp at h
    | some z => rw [hz] at h; simp at h; exact ⟨h.1.symm, x, y, z, r, rfl, hz, h.2.symm⟩
  · simp at h
theorem xv_loc_ok {own : String} {nL w : Nat} {longs : List Nat} {i : Instr} {v : Value} {ls ls' : xv_L} {st st' : List Value} (hx : p.tables.exec = Jvm.exec) (hb : c.code = cc) (hown : s.vm.findClass own = some m.cls) (hts : ∀ w ∈ xv_T, w.before args s = true)
    (hl : lv_has LS nL (xv_lv ad 0 ls)) (hg : xv_lg longs ls) (hd : decode cc pc = .ok (i, xv_nx i)) (hok : xv_lok own nL longs i w v = true) (hs : xv_loc i v ls st = some (ls', st'))
    (kk : ∀ LS', lv_has LS' nL (xv_lv ad 0 ls') → xv_lg longs ls' → W p l e R s m args below meth c H locs cells slots Q (F0 m (pc + xv_nx i) LS' (st'.map (xv_sh ad)))) : W p l e R s m args below meth c H locs cells slots Q (F0 m pc LS (st.map (xv_sh ad))) := by
  cases i with
  | aconst_null =>
    cases hs
    exact lv_null hx hb hd (kk LS hl hg)
  | iconst n =>
    cases hs
    have hv := of_decide_eq_true hok
    subst hv
    exact lv_iconst hx hb hd rfl (kk LS hl hg)
  | bipush n =>
    cases hs
    have hv := of_decide_eq_true hok
    subst hv
    exact lv_bipush hx hb hd rfl (kk LS hl hg)
  | sipush n =>
    cases hs
    have hv := of_decide_eq_true hok
    subst hv
    exact lv_sipush hx hb hd rfl (kk LS hl hg)
  | lconst n =>
    cases hs
    have hv := of_decide_eq_true hok
    subst hv
    exact lv_lconst hx hb hd rfl (kk LS hl hg)
  | ldc k =>
    cases hs
    cases v with
    | int x => exact lv_ldc hx hb hown (hts _ (List.mem_of_getElem? (of_decide_eq_true hok))) hd (kk LS hl hg)
    | _ => cases hok
  | ldc_w k =>
    cases hs
    cases v with
    | int x => exact lv_ldcw hx hb hown (hts _ (List.mem_of_getElem? (of_decide_eq_true hok))) hd (kk LS hl hg)
    | _ => cases hok
  | ldc2_w k =>
    cases hs
    cases v with
    | long x => exact lv_ldc2 hx hb hown (hts _ (List.mem_of_getElem? (of_decide_eq_true hok))) hd (kk LS hl hg)
    | _ => cases hok
  | iload k =>
    change xv_ld 0 ls k st = _ at hs
    unfold xv_ld at hs
    cases hgk : xv_get ls k with
    | none => rw [hgk] at hs; cases hs
    | some u =>
      rw [hgk] at hs
      dsimp only at hs
      cases u with
      | int x => cases hs; exact lv_iload hx hb hd (xv_has_get hl hgk) (kk LS hl hg)
      | _ => cases hs
  | iload_n k =>
    change xv_ld 0 ls k.1 st = _ at hs
    unfold xv_ld at hs
    cases hgk : xv_get ls k.1 with
    | none => rw [hgk] at hs; cases hs
    | some u =>
      rw [hgk] at hs
      dsimp only at hs
      cases u with
      | int x => cases hs; exact lv_iload_n hx hb hd rfl (xv_has_get hl hgk) (kk LS hl hg)
      | _ => cases hs
  | lload k =>
    change xv_ld 1 ls k st = _ at hs
    unfold xv_ld at hs
    cases hgk : xv_get ls k with
    | none => rw [hgk] at hs; cases hs
    | some u =>
      rw [hgk] at hs
      dsimp only at hs
      cases u with
      | long x => cases hs; exact lv_lload hx hb hd (xv_has_get hl hgk) (kk LS hl hg)
      | _ => cases hs
  | lload_n k =>
    change xv_ld 1 ls k.1 st = _ at hs
    unfold xv_ld at hs
    cases hgk : xv_get ls k.1 with
    | none => rw [hgk] at hs; cases hs
    | some u =>
      rw [hgk] at hs
      dsimp only at hs
      cases u with
      | long x => cases hs; exact lv_lload_n hx hb hd rfl (xv_has_get hl hgk) (kk LS hl hg)
      | _ => cases hs
  | aload k =>
    change xv_ld 3 ls k st = _ at hs
    unfold xv_ld at hs
    cases hgk : xv_get ls k with
    | none => rw [hgk] at hs; cases hs
    | some u =>
      rw [hgk] at hs
      dsimp only at hs
      cases u with
      | ref x => cases hs; exact lv_aload hx hb hd (xv_has_get hl hgk) (kk LS hl hg)
      | null => cases hs; exact lv_aloadN hx hb hd (xv_has_get hl hgk) (kk LS hl hg)
      | _ => cases hs
  | aload_n k =>
    change xv_ld 3 ls k.1 st = _ at hs
    unfold xv_ld at hs
    cases hgk : xv_get ls k.1 with
    | none => rw [hgk] at hs; cases hs
    | some u =>
      rw [hgk] at hs
      dsimp only at hs
      cases u with
      | ref x => cases hs; exact lv_aload_n hx hb hd rfl (xv_has_get hl hgk) (kk LS hl hg)
      | null => cases hs; exact lv_aload_nN hx hb hd rfl (xv_has_get hl hgk) (kk LS hl hg)
      | _ => cases hs
  | istore k =>
    change xv_st 0 ls k st = _ at hs
    obtain ⟨h1, h2⟩ := xv_sok_use hok
    cases st with
    | nil => cases hs
    | cons u r =>
      cases u with
      | int x => cases hs; exact lv_istore hx hb hd hl h1 rfl (fun LS' h => kk LS' (xv_has_set1 hg h2 h) (xv_lg_set1 hg rfl))
      | _ => cases hs
  | istore_n k =>
    change xv_st 0 ls k.1 st = _ at hs
    obtain ⟨h1, h2⟩ := xv_sok_use hok
    cases st with
    | nil => cases hs
    | cons u r =>
      cases u with
      | int x => cases hs; exact lv_istore_n hx hb hd rfl hl h1 rfl (fun LS' h => kk LS' (xv_has_set1 hg h2 h) (xv_lg_set1 hg rfl))
      | _ => cases hs
  | astore k =>
    change xv_st 3 ls k st = _ at hs
    obtain ⟨h1, h2⟩ := xv_sok_use hok
    cases st with
    | nil => cases hs
    | cons u r =>
      cases u with
      | ref x => cases hs; exact lv_astore hx hb hd hl h1 rfl (fun LS' h => kk LS' (xv_has_set1 hg h2 h) (xv_lg_set1 hg rfl))
      | null => cases hs; exact lv_astoreN hx hb hd hl h1 rfl (fun LS' h => kk LS' (xv_has_set1 hg h2 h) (xv_lg_set1 hg rfl))
      | _ => cases hs
  | astore_n k =>
    change xv_st 3 ls k.1 st = _ at hs
    obtain ⟨h1, h2⟩ := xv_sok_use hok
    cases st with
    | nil => cases hs
    | cons u r =>
      cases u with
      | ref x => cases hs; exact lv_astore_n hx hb hd rfl hl h1 rfl (fun LS' h => kk LS' (xv_has_set1 hg h2 h) (xv_lg_set1 hg rfl))
      | null => cases hs; exact lv_astore_nN hx hb hd rfl hl h1 rfl (fun LS' h => kk LS' (xv_has_set1 hg h2 h) (xv_lg_set1 hg rfl))
      | _ => cases hs
  | lstore k =>
    change xv_stl ls k st = _ at hs
    obtain ⟨h1, h2, h3⟩ := xv_sok2_use hok
    cases st with
    | nil => cases hs
    | cons u r =>
      cases u with
      | long x => cases hs; exact lv_lstore hx hb hd hl h1 rfl (fun LS' h => kk LS' (xv_has_set2 hg h2 h) (xv_lg_set2 hg h3))
      | _ => cases hs
  | lstore_n k =>
    change xv_stl ls k.1 st = _ at hs
    obtain ⟨h1, h2, h3⟩ := xv_sok2_use hok
    cases st with
    | nil => cases hs
    | cons u r =>
      cases u with
      | long x => cases hs; exact lv_lstore_n hx hb hd rfl hl h1 rfl (fun LS' h => kk LS' (xv_has_set2 hg h2 h) (xv_lg_set2 hg h3))
      | _ => cases hs
  | iinc k n =>
    change xv_inc ls k v st = _ at hs
    change (xv_sok k nL longs && decide (v = .int (Int32.ofInt n))) = true at hok
    rw [Bool.and_eq_true] at hok
    obtain ⟨h1, h2⟩ := xv_sok_use hok.1
    have hv := of_decide_eq_true hok.2
    subst hv
    unfold xv_inc at hs
    cases hgk : xv_get ls k with
    | none => rw [hgk] at hs; cases hs
    | some u =>
      rw [hgk] at hs
      cases u with
      | int x =>
        cases hs
        obtain ⟨q, hq⟩ := List.getElem?_of_mem (xv_lv_mem.mpr ⟨k, .int x, (Nat.zero_add k).symm, hgk, rfl⟩ : (k, xv_sh ad (.int x)) ∈ xv_lv ad 0 ls)
        exact lv_iinc hx hb hd hl hq rfl h1 rfl (fun LS' h => kk LS' (xv_has_set1 hg h2 h) (xv_lg_set1 hg rfl))
      | _ => cases hs
  | dup =>
    cases st with
    | nil => cases hs
    | cons u r =>
      change ((if u.category = 1 then some (u :: u :: r) else none).map fun r => (ls, r)) = _ at hs
      by_cases hc : u.category = 1
      · rw [if_pos hc] at hs; cases hs; exact lv_dup hx hb hd (by rw [xv_sh_cat]; exact hc) (kk LS hl hg)
      · rw [if_neg hc] at hs; cases hs
  | pop =>
    cases st with
    | nil => cases hs
    | cons u r =>
      change ((if u.category = 1 then some r else none).map fun r => (ls, r)) = _ at hs
      by_cases hc : u.category = 1
      · rw [if_pos hc] at hs; cases hs; exact lv_pop hx hb hd (by rw [xv_sh_cat]; exact hc) (kk LS hl hg)
      · rw [if_neg hc] at hs; cases hs
  | dup2 =>
    match st, hs with
    | u :: z :: r, hs =>
      change ((if u.category = 1 ∧ z.category = 1 then some (u :: z :: u :: z :: r) else none).map fun r => (ls, r)) = _ at hs
      by_cases hc : u.category = 1 ∧ z.category = 1
      · rw [if_pos hc] at hs; cases hs; exact lv_dup2_11 hx hb hd (by rw [xv_sh_cat]; exact hc.1) (by rw [xv_sh_cat]; exact hc.2) (kk LS hl hg)
      · rw [if_neg hc] at hs; cases hs
    | [], hs => cases hs
    | [_], hs => cases hs
  | iadd =>
    obtain ⟨rfl, x, y, z, r, rfl, hf, rfl⟩ := xv_i2_use hs
    cases hf
    exact lv_iadd hx hb hd (kk LS hl hg)
  | isub =>
    obtain ⟨rfl, x, y, z, r, rfl, hf, rfl⟩ := xv_i2_use hs
    cases hf
    exact lv_isub hx hb hd (kk LS hl hg)
  | imul =>
    obtain ⟨rfl, x, y, z, r, rfl, hf, rfl⟩ := xv_i2_use hs
    cases hf
    exact lv_imul hx hb hd (kk LS hl hg)
  | iand =>
    obtain ⟨rfl, x, y, z, r, rfl, hf, rfl⟩ := xv_i2_use hs
    cases hf
    exact lv_iand hx hb hd (kk LS hl hg)
  | ior =>
    obtain ⟨rfl, x, y, z, r, rfl, hf, rfl⟩ := xv_i2_use hs
    cases hf
    exact lv_ior hx hb hd (kk LS hl hg)
  | ixor =>
    obtain ⟨rfl, x, y, z, r, rfl, hf, rfl⟩ := xv_i2_use hs
    cases hf
    exact lv_ixor hx hb hd (kk LS hl hg)
  | ishl =>
    obtain ⟨rfl, x, y, z, r, rfl, hf, rfl⟩ := xv_i2_use hs
    cases hf
    exact lv_ishl hx hb hd (kk LS hl hg)
  | ishr =>
    obtain ⟨rfl, x, y, z, r, rfl, hf, rfl⟩ := xv_i2_use hs
    cases hf
    exact lv_ishr hx hb hd (kk LS hl hg)
  | iushr =>
    obtain ⟨rfl, x, y, z, r, rfl, hf, rfl⟩ := xv_i2_use hs
    cases hf
    exact lv_iushr hx hb hd rfl (kk LS hl hg)
  | idiv =>
    obtain ⟨rfl, x, y, z, r, rfl, hf, rfl⟩ := xv_i2_use hs
    by_cases hy : y = 0
    · rw [if_pos hy] at hf; cases hf
    · rw [if_neg hy] at hf; cases hf; exact lv_idiv hx hb hd hy (kk LS hl hg)
  | irem =>
    obtain ⟨rfl, x, y, z, r, rfl, hf, rfl⟩ := xv_i2_use hs
    by_cases hy : y = 0
    · rw [if_pos hy] at hf; cases hf
    · rw [if_neg hy] at hf; cases hf; exact lv_irem hx hb hd hy (kk LS hl hg)
  | ladd =>
    obtain ⟨rfl, x, y, z, r, rfl, hf, rfl⟩ := xv_l2_use hs
    cases hf
    exact lv_ladd hx hb hd (kk LS hl hg)
  | lsub =>
    obtain ⟨rfl, x, y, z, r, rfl, hf, rfl⟩ := xv_l2_use hs
    cases hf
    exact lv_lsub hx hb hd (kk LS hl hg)
  | lmul =>
    obtain ⟨rfl, x, y, z, r, rfl, hf, rfl⟩ := xv_l2_use hs
    cases hf
    exact lv_lmul hx hb hd (kk LS hl hg)
  | land =>
    obtain ⟨rfl, x, y, z, r, rfl, hf, rfl⟩ := xv_l2_use hs
    cases hf
    exact lv_land hx hb hd (kk LS hl hg)
  | lor =>
    obtain ⟨rfl, x, y, z, r, rfl, hf, rfl⟩ := xv_l2_use hs
    cases hf
    exact lv_lor hx hb hd (kk LS hl hg)
  | lxor =>
    obtain ⟨rfl, x, y, z, r, rfl, hf, rfl⟩ := xv_l2_use hs
    cases hf
    exact lv_lxor hx hb hd (kk LS hl hg)
  | ldiv =>
    obtain ⟨rfl, x, y, z, r, rfl, hf, rfl⟩ := xv_l2_use hs
    by_cases hy : y = 0
    · rw [if_pos hy] at hf; cases hf
    · rw [if_neg hy] at hf; cases hf; exact lv_ldiv hx hb hd hy (kk LS hl hg)
  | lrem =>
    obtain ⟨rfl, x, y, z, r, rfl, hf, rfl⟩ := xv_l2_use hs
    by_cases hy : y = 0
    · rw [if_pos hy] at hf; cases hf
    · rw [if_neg hy] at hf; cases hf; exact lv_lrem hx hb hd hy (kk LS hl hg)
  | lcmp =>
    obtain ⟨rfl, x, y, z, r, rfl, hf, rfl⟩ := xv_l2_use hs
    cases hf
    exact W.lcmp hx hb hd (kk LS hl hg)
  | lshl =>
    match st, hs with
    | .int y :: .long x :: r, hs => cases hs; exact lv_lshl hx hb hd rfl (kk LS hl hg)
  | lshr =>
    match st, hs with
    | .int y :: .long x :: r, hs => cases hs; exact lv_lshr hx hb hd rfl (kk LS hl hg)
  | ineg =>
    match st, hs with
    | .int x :: r, hs => cases hs; exact lv_ineg hx hb hd (kk LS hl hg)
  | i2l =>
    match st, hs with
    | .int x :: r, hs => cases hs; exact lv_i2l hx hb hd rfl (kk LS hl hg)
  | i2b =>
    match st, hs with
    | .int x :: r, hs => cases hs; exact lv_i2b hx hb hd rfl (kk LS hl hg)
  | l2i =>
    match st, hs with
    | .long x :: r, hs => cases hs; exact lv_l2i hx hb hd rfl (kk LS hl hg)
  | lneg =>
    match st, hs with
    | .long x :: r, hs => cases hs; exact lv_lneg hx hb hd (kk LS hl hg)
  | _ => cases hs
end XVL
end
section
/-! jumps -/
def xv_jok (pc : Nat) (i : Instr) (a : Nat) : Bool :=
  match i with
  | .goto off | .if_icmp _ off | .ifCond _ off | .ifnull off | .ifnonnull off => decide ((pc : Int) + off = (a : Int))
  | .tableswitch d lo hi os => decide (a = pc) && decide (0 ≤ (pc : Int) + d) && os.all (fun o => decide (0 ≤ (pc : Int) + o))
  | _ => true
section XVJ
variable {p : Program} {l : Launch} {e : Env} {R : Room} {s : State} {m : MethodId} {args : Array Value} {below : List Frame} {meth : Method} {c : Code} {H : Heap} {locs : List Loc} {cells slots : Nat} {Q : State → Prop}
variable {cc : ByteArray} {pc len : Nat} {LS : Array Slot} {ad : Nat → Nat}
theorem xv_c2_use {f : Int32 → Int32 → Bool} {a : Nat} {t : Option Nat} {st st' : List Value} (h : xv_c2 f a st = some (t, st')) : ∃ x y, st = .int y :: .int x :: st' ∧ (if f x y = true then some a else none) = t := by
  unfold xv_c2 at h
  split at h
  · rename_i y x r
    have h := Option.some.inj h
    cases h
    exact ⟨x, y, rfl, rfl⟩
  · cases h
theorem xv_c1_use {f : Int32 → Bool} {a : Nat} {t : Option Nat} {st st' : List Value} (h : xv_c1 f a st = some (t, st')) : ∃ x, st = .int x :: st' ∧ (if f x = true then some a else none) = t := by
  unfold xv_c1 at h
  split at h
  · rename_i x r
    have h := Option.some.inj h
    cases h
    exact ⟨x, rfl, rfl⟩
  · cases h
theorem xv_jmp_ok {i : Instr} {a : Nat} {t : Option Nat} {st st' : List Value} (hx : p.tables.exec = Jvm.exec) (hb : c.code = cc) (hnop : i ≠ .nop)
    (hd : decode cc pc = .ok (i, len)) (hlen : len = xv_nx i ∨ ∃ d lo hi os, i = .tableswitch d lo hi os) (hok : xv_jok pc i a = true) (hs : xv_jmp i a st = some (t, st'))
    (kt : ∀ b, t = some b → W p l e R s m args below meth c H locs cells slots Q (F0 m b LS (st'.map (xv_sh ad))))
    (kf : t = none → W p l e R s m args below meth c H locs cells slots Q (F0 m (pc + xv_nx i) LS (st'.map (xv_sh ad)))) : W p l e R s m args below meth c H locs cells slots Q (F0 m pc LS (st.map (xv_sh ad))) := by
  cases i with
  | nop => exact absurd rfl hnop
  | goto off =>
    rcases hlen with rfl | ⟨_, _, _, _, h⟩
    · cases hs
      exact lv_goto hx hb hd (of_decide_eq_true hok) (kt a rfl)
    · cases h
  | if_icmp cd off =>
    rcases hlen with rfl | ⟨_, _, _, _, h⟩
    · have ht := of_decide_eq_true hok
      cases cd with
      | eq => obtain ⟨x, y, rfl, rfl⟩ := xv_c2_use hs; exact lv_icmp_eq hx hb hd ht (fun q => kt a (by simp [q])) (fun q => kf (by simp [q]))
      | ne => obtain ⟨x, y, rfl, rfl⟩ := xv_c2_use hs; exact lv_icmp_ne hx hb hd ht (fun q => kt a (by simpa using q)) (fun q => kf (by simpa using q))
      | lt => obtain ⟨x, y, rfl, rfl⟩ := xv_c2_use hs; exact lv_icmp_lt hx hb hd ht (fun q => kt a (by simp [q])) (fun q => kf (by simp [q]))
      | ge => obtain ⟨x, y, rfl, rfl⟩ := xv_c2_use hs; exact lv_icmp_ge hx hb hd ht (fun q => kt a (by simp [q])) (fun q => kf (by simp [q]))
      | gt => obtain ⟨x, y, rfl, rfl⟩ := xv_c2_use hs; exact lv_icmp_gt hx hb hd ht (fun q => kt a (by simp [q])) (fun q => kf (by simp [q]))
      | le => obtain ⟨x, y, rfl, rfl⟩ := xv_c2_use hs; exact lv_icmp_le hx hb hd ht (fun q => kt a (by simp [q])) (fun q => kf (by simp [q]))
    · cases h
  | ifCond cd off =>
    rcases hlen with rfl | ⟨_, _, _, _, h⟩
    · have ht := of_decide_eq_true hok
      cases cd with
      | eq => obtain ⟨x, rfl, rfl⟩ := xv_c1_use hs; exact lv_if_eq hx hb hd ht (fun q => kt a (by simp [q])) (fun q => kf (by simp [q]))
      | ne => obtain ⟨x, rfl, rfl⟩ := xv_c1_use hs; exact lv_if_ne hx hb hd ht (fun q => kt a (by simpa using q)) (fun q => kf (by simpa using q))
      | lt => obtain ⟨x, rfl, rfl⟩ := xv_c1_use hs; exact lv_if_lt hx hb hd ht (fun q => kt a (by simp [q])) (fun q => kf (by simp [q]))
      | ge => obtain ⟨x, rfl, rfl⟩ := xv_c1_use hs; exact lv_if_ge hx hb hd ht (fun q => kt a (by simp [q])) (fun q => kf (by simp [q]))
      | gt => obtain ⟨x, rfl, rfl⟩ := xv_c1_use hs; exact lv_if_gt hx hb hd ht (fun q => kt a (by simp [q])) (fun q => kf (by simp [q]))
      | le => obtain ⟨x, rfl, rfl⟩ := xv_c1_use hs; exact lv_if_le hx hb hd ht (fun q => kt a (by simp [q])) (fun q => kf (by simp [q]))
    · cases h
  | ifnull off =>
    rcases hlen with rfl | ⟨_, _, _, _, h⟩
    · have ht := of_decide_eq_true hok
      match st, hs with
      | .null :: r, hs => cases hs; exact lv_ifnullN hx hb hd ht (kt a rfl)
      | .ref q :: r, hs => cases hs; exact lv_ifnull hx hb hd (kf rfl)
    · cases h
  | ifnonnull off =>
    rcases hlen with rfl | ⟨_, _, _, _, h⟩
    · have ht := of_decide_eq_true hok
      match st, hs with
      | .null :: r, hs => cases hs; exact lv_ifnonnullN hx hb hd (kf rfl)
      | .ref q :: r, hs => cases hs; exact lv_ifnonnull hx hb hd ht (kt a rfl)
    · cases h
  | tableswitch d lo hi os =>
    match st, hs with
    | .int x :: r, hs =>
      change (decide (a = pc) && decide (0 ≤ (pc : Int) + d) && os.all (fun o => decide (0 ≤ (pc : Int) + o))) = true at hok
      simp only [Bool.and_eq_true, decide_eq_true_eq] at hok
      obtain ⟨⟨rfl, h2⟩, h3⟩ := hok
      change (if x.toInt < lo ∨ hi < x.toInt then some (some ((a : Int) + d).toNat, r) else (os[(x.toInt - lo).toNat]?).map fun o => (some ((a : Int) + o).toNat, r)) = _ at hs
      by_cases hc : x.toInt < lo ∨ hi < x.toInt
      · rw [if_pos hc] at hs
        cases hs
        exact lv_tableOut hx hb hd hc (by omega) (kt _ rfl)
      · rw [if_neg hc] at hs
        cases ho : os[(x.toInt - lo).toNat]? with
        | none => rw [ho] at hs; cases hs
        | some o =>
          rw [ho] at hs
          cases hs
          have h4 : 0 ≤ (a : Int) + o := by
            rw [Array.all_eq_true] at h3
            obtain ⟨hlt, he⟩ := Array.getElem?_eq_some_iff.mp ho
            have := h3 _ hlt
            rw [he] at this
            exact of_decide_eq_true this
          exact lv_tableIn hx hb hd (fun q => hc (Or.inl q)) (fun q => hc (Or.inr q)) ho (by omega) (kt _ rfl)
  | _ => cases hs
end XVJ
end
section
/-! the heap: the world of numbered cells, and the instructions that touch it -/
def xv_cA (ad : Nat → Nat) : ((Nat → Int32) ⊕ (Nat → Int64) ⊕ (Nat → UInt32) ⊕ (Nat → UInt64) ⊕ (Nat → Option Nat)) → ((Nat → Int32) ⊕ (Nat → Int64) ⊕ (Nat → UInt32) ⊕ (Nat → UInt64) ⊕ (Nat → Option Nat))
  | .inr (.inr (.inr (.inr f))) => .inr (.inr (.inr (.inr fun j => (f j).map ad)))
  | y => y
def xv_ce (aC : Nat → ClassId) (ad : Nat → Nat) : xv_C → va_E
  | .inl (k, n, y) => .inl (aC k, n, xv_cA ad y)
  | .inr (ci, fs) => .inr (ci, fs.map (xv_sh ad))
def xv_w (aC : Nat → ClassId) (ad : Nat → Nat) (σ : xv_S) : va_W := (List.range σ.1.1).map fun k => (ad k, xv_ce aC ad (σ.2 k))
def xv_tys (aC : Nat → ClassId) : List (ClassId × FieldType) := [(aC 0, .int), (aC 1, .long), (aC 2, .byte), (aC 3, .object "OnionCourt$Witness"), (aC 4, .object "OnionCourt$Answer")]
def xv_dead (σ : xv_S) : Prop := σ.1.1 ≤ 1000000 ∧ ∀ k, σ.1.1 ≤ k → σ.2 k = .inr (1000, [])
def xv_ad (base : Nat) (ad : Nat → Nat) : Prop := ∀ k, k < 1000000 → ad k = base + k
abbrev xv_A (base : Nat) : Nat → Prop := fun q => base ≤ q
def xv_Wd (base : Nat) (aC : Nat → ClassId) (ad : Nat → Nat) (D : va_G) (H0 H : Heap) (locs : List Loc) (σ : xv_S) : Prop := H.size = base + σ.1.1 ∧ va_P D xv_cl (xv_w aC ad σ) H ∧ va_S (xv_A base) H0 H locs ∧ xv_dead σ
theorem xv_w_at {aC : Nat → ClassId} {ad : Nat → Nat} {σ : xv_S} {k : Nat} (h : k < σ.1.1) : (xv_w aC ad σ)[k]? = some (ad k, xv_ce aC ad (σ.2 k)) := by
  simp [xv_w, h]
theorem xv_w_set {aC : Nat → ClassId} {ad : Nat → Nat} {σ : xv_S} {k : Nat} (c : xv_C) : (xv_w aC ad σ).set k (ad k, xv_ce aC ad c) = xv_w aC ad (σ.1, xv_up σ.2 k c) := by
  apply List.ext_getElem?
  intro j
  by_cases hj : j < σ.1.1
  · rw [xv_w_at (σ := (σ.1, xv_up σ.2 k c)) hj, List.getElem?_set]
    by_cases hk : k = j
    · subst hk
      simp [xv_w, hj, xv_up]
    · have hk' : ¬ j = k := fun h => hk h.symm
      rw [if_neg hk, xv_w_at hj]
      simp [xv_up, hk']
  · have h1 : ((xv_w aC ad σ).set k (ad k, xv_ce aC ad c)).length ≤ j := by simp [xv_w]; omega
    have h2 : (xv_w aC ad (σ.1, xv_up σ.2 k c)).length ≤ j := by simp [xv_w]; omega
    rw [List.getElem?_eq_none h1, List.getElem?_eq_none h2]
theorem xv_w_push {aC : Nat → ClassId} {ad : Nat → Nat} {σ : xv_S} {n : Nat} (c : xv_C) : xv_w aC ad σ ++ [(ad σ.1.1, xv_ce aC ad c)] = xv_w aC ad ((σ.1.1 + 1, n), xv_up σ.2 σ.1.1 c) := by
  unfold xv_w
  rw [List.range_succ, List.map_append]
  congr 1
  · apply List.map_congr_left
    intro k hk
    have : k < σ.1.1 := List.mem_range.mp hk
    have h2 : ¬ k = σ.1.1 := by omega
    simp [xv_up, h2]
  · simp [xv_up]
theorem xv_wD {base : Nat} {aC : Nat → ClassId} {ad : Nat → Nat} {σ : xv_S} (ha : xv_ad base ad) (hd : xv_dead σ) : va_D (xv_A base) (xv_w aC ad σ) := by
  have key : ∀ (i : Nat) (p : Nat × va_E), (xv_w aC ad σ)[i]? = some p → i < σ.1.1 ∧ p.1 = base + i := by
    intro i p h
    have hi : i < (xv_w aC ad σ).length := (List.getElem?_eq_some_iff.mp h).1
    have hi2 : i < σ.1.1 := by simpa [xv_w] using hi
    rw [xv_w_at hi2] at h
    cases h
    exact ⟨hi2, ha i (by have := hd.1; omega)⟩
  refine ⟨fun i j p q hp hq hpq => ?_, fun k q h => ?_⟩
  · have h1 := (key i p hp).2
    have h2 := (key j q hq).2
    omega
  · have h1 := (key k q h).2
    show base ≤ q.1
    omega
theorem xv_liveL {σ : xv_S} {r : Nat} {y : Nat × vp_A} (hd : xv_dead σ) (h : σ.2 r = .inl y) : r < σ.1.1 := by
  rcases Nat.lt_or_ge r σ.1.1 with q | q
  · exact q
  · rw [hd.2 r q] at h; cases h
theorem xv_liveR {σ : xv_S} {r ci : Nat} {q : vw_C} {fs : List Value} (hd : xv_dead σ) (h : σ.2 r = .inr (ci, fs)) (hc : xv_cl[ci]? = some q) : r < σ.1.1 := by
  rcases Nat.lt_or_ge r σ.1.1 with z | z
  · exact z
  · rw [hd.2 r z] at h; cases h; simp [xv_cl] at hc
theorem xv_dead_up {σ : xv_S} {r : Nat} (c : xv_C) (hd : xv_dead σ) (h : r < σ.1.1) : xv_dead (σ.1, xv_up σ.2 r c) := by
  refine ⟨hd.1, fun k hk => ?_⟩
  have h2 : ¬ k = r := by have : σ.1.1 ≤ k := hk; omega
  simp only [xv_up, if_neg h2]
  exact hd.2 k hk
theorem xv_inB_use {i : Int32} {n : Nat} (h : xv_inB i n = true) : vp_in i n := by
  simp only [xv_inB, Bool.and_eq_true, decide_eq_true_eq] at h
  exact vp_in_iff.mpr h
/-- behind a store -/
theorem xv_Wd_set {base : Nat} {aC : Nat → ClassId} {ad : Nat → Nat} {D : va_G} {H0 H1 : Heap} {locs1 : List Loc} {σ : xv_S} {r : Nat} (c : xv_C) (hd : xv_dead σ) (hr : r < σ.1.1) (hz : H1.size = base + σ.1.1)
    (hP : va_P D xv_cl ((xv_w aC ad σ).set r (ad r, xv_ce aC ad c)) H1) (hS : va_S (xv_A base) H0 H1 locs1) : xv_Wd base aC ad D H0 H1 locs1 (σ.1, xv_up σ.2 r c) := by
  rw [xv_w_set] at hP
  exact ⟨hz, hP, hS, xv_dead_up c hd hr⟩
/-- a new cell -/
theorem xv_Wd_push {base : Nat} {aC : Nat → ClassId} {ad : Nat → Nat} {D : va_G} {H0 H H1 : Heap} {locs : List Loc} {σ : xv_S} (c : xv_C) (n : Nat) (ha : xv_ad base ad) (hw : xv_Wd base aC ad D H0 H locs σ) (hlim : σ.1.1 < 1000000) (hz : H1.size = H.size + 1)
    (ho : ∀ q, q < H.size → H1[q]? = H[q]?) (hat : va_at D xv_cl (H.size, xv_ce aC ad c) H1) : xv_Wd base aC ad D H0 H1 locs ((σ.1.1 + 1, n), xv_up σ.2 σ.1.1 c) := by
  obtain ⟨h1, h2, h3, h4⟩ := hw
  have hk : ∀ (k : Nat) (q : Nat × va_E), (xv_w aC ad σ)[k]? = some q → H1[q.1]? = H[q.1]? := fun k q hq => ho q.1 ((h2 k q hq).lt)
  refine ⟨by rw [hz, h1]; show _ = base + (σ.1.1 + 1); omega, ?_, ⟨Nat.le_trans h3.1 (by omega), fun q g1 g2 => (ho q (Nat.lt_of_lt_of_le g1 h3.1)).trans (h3.2.1 q g1 g2), h3.2.2⟩, ⟨by show σ.1.1 + 1 ≤ _; omega, fun k hk2 => ?_⟩⟩
  · rw [← xv_w_push]
    refine (h2.kept hk).app (fun k q hq => ?_)
    have hz : k < 1 := (List.getElem?_eq_some_iff.mp hq).1
    rw [show k = 0 by omega] at hq
    cases hq
    rw [ha _ hlim, ← h1]
    exact hat
  · have hk2 : σ.1.1 + 1 ≤ k := hk2
    have h5 : ¬ k = σ.1.1 := by omega
    show xv_up σ.2 σ.1.1 c k = _
    simp only [xv_up, if_neg h5]
    exact h4.2 k (by omega)
def xv_tyd : Nat → FieldType → Bool
  | 0, .int => true
  | 1, .long => true
  | 2, .boolean => true
  | 3, .object _ => true
  | 3, .array _ => true
  | _, _ => false
theorem xv_ty_use {ad : Nat → Nat} {t : Nat} {ty : FieldType} {v : Value} (h : xv_ty t v = true) (ht : xv_tyd t ty = true) : narrow ty (xv_sh ad v) = xv_sh ad v ∧ fits ty (xv_sh ad v) = true := by
  match t, ty, v, h, ht with
  | 0, .int, .int x, _, _ => exact ⟨rfl, rfl⟩
  | 1, .long, .long x, _, _ => exact ⟨rfl, rfl⟩
  | 2, .boolean, .int x, h, _ =>
    simp only [xv_ty, Bool.or_eq_true, beq_iff_eq] at h
    rcases h with rfl | rfl <;> exact ⟨rfl, rfl⟩
  | 3, .object _, .null, _, _ => exact ⟨rfl, rfl⟩
  | 3, .object _, .ref _, _, _ => exact ⟨rfl, rfl⟩
  | 3, .array _, .null, _, _ => exact ⟨rfl, rfl⟩
  | 3, .array _, .ref _, _, _ => exact ⟨rfl, rfl⟩
/-- what must hold of a heap instruction's numbers -/
def xv_hok (own mname : String) (i : Instr) (a b w : Nat) (v : Value) : Bool :=
  match i with
  | .getfield k => (match xv_cl[b]? with
    | some q => decide (a < q.2.2) && decide ((q.2.1 a).1 = q.1) && decide (xv_T[w]? = some (.fieldLink own k q.1 (q.2.1 a).2.1 (q.2.1 a).2.2.1))
    | none => false)
  | .putfield k => (match xv_cl[b]?, v with
    | some q, .int t => decide (a < q.2.2) && decide ((q.2.1 a).1 = q.1) && decide (xv_T[w]? = some (.fieldLink own k q.1 (q.2.1 a).2.1 (q.2.1 a).2.2.1))
      && (match parseFieldDescriptor (q.2.1 a).2.2.1 with | some ty => xv_tyd t.toNatClampNeg ty | none => false) && (decide ((q.2.1 a).2.2.2 = false) || decide (mname = "<init>") && decide ((q.2.1 a).1 = own))
    | _, _ => false)
  | .getstatic k => decide (xv_T[w]? = some (.fieldLinkNest own k "OnionCourt" "WORLDS_OF_FACT" "[I" "OnionCourt"))
  | .new k => (match xv_cl[a]?, v with
    | some q, .int wi => decide (xv_T[w]? = some (.classLink own k q.1)) && decide (xv_T[b]? = some (.instantiable q.1 q.2.2)) && decide (xv_T[wi.toNatClampNeg]? = some (.initialized q.1))
      && (List.range q.2.2).all (fun j => match parseFieldDescriptor (q.2.1 j).2.2.1 with | some ty => decide (defaultValue ty = vp_V (xv_dfs a) j) | none => false) && decide ((xv_dfs a).length = q.2.2)
    | _, _ => false)
  | .newarray t => (decide (t = .int ∧ a = 0) || decide (t = .long ∧ a = 1) || decide (t = .byte ∧ a = 2)) && decide (xv_T[w]? = some (.arrayClass (newarray.typeOf t)))
  | .anewarray k => (decide (a = 3) && decide (xv_T[w]? = some (.classLink own k "OnionCourt$Witness")) && decide (xv_T[b]? = some (.arrayOver (.object "OnionCourt$Witness"))))
      || (decide (a = 4) && decide (xv_T[w]? = some (.classLink own k "OnionCourt$Answer")) && decide (xv_T[b]? = some (.arrayOver (.object "OnionCourt$Answer"))))
  | _ => true
section XVP
variable {p : Program} {l : Launch} {e : Env} {R : Room} {s : State} {m : MethodId} {args : Array Value} {below : List Frame} {meth : Method} {c : Code} {H : Heap} {locs : List Loc} {cells slots : Nat} {Q : State → Prop}
variable {cc : ByteArray} {pc : Nat} {ls : Array Slot} {rest : List Value} {D : va_G} {cl : List vw_C} {ws : va_W} {tys : List (ClassId × FieldType)} {a : Nat}
/-- a field is put; final ones in their class's constructor -/
theorem xv_put (hexec : p.tables.exec = Jvm.exec) (hb : c.code = cc) {own : String} {q : vw_C} {ci index : Nat} (hts : ∀ w ∈ xv_T, w.before args s = true) (hin : ∀ w ∈ u_ws q.1 q.2.1 q.2.2, w ∈ xv_T) (ty0 : Nat → FieldType) (hty : ∀ k, k < q.2.2 → parseFieldDescriptor (q.2.1 k).2.2.1 = some (ty0 k))
    (hnm : ∀ a, a < q.2.2 → ∀ b, b < q.2.2 → a ≠ b → (q.2.1 a).2.1 ≠ (q.2.1 b).2.1) (hown : s.vm.findClass own = some m.cls) (hK : va_K D cl tys s) (hP : va_P D cl ws H) (q0 : Nat) {fs : List Value} (he : ws[q0]? = some (a, .inr (ci, fs))) (hc : cl[ci]? = some q) (k : Nat) (hk : k < q.2.2)
    (hlink : (Cond.fieldLink own index q.1 (q.2.1 k).2.1 (q.2.1 k).2.2.1).before args s = true) (hsame : (q.2.1 k).1 = q.1) (hfin : (q.2.1 k).2.2.2 = false ∨ (meth.name = "<init>" ∧ (q.2.1 k).1 = own)) {ty : FieldType} {v : Value} (hd : parseFieldDescriptor (q.2.1 k).2.2.1 = some ty) (hn : narrow ty v = v) (hfit : fits ty v = true) (hl : k < fs.length)
    (hdg : decode cc pc = .ok (.putfield index, 3)) (kk : ∀ (H1 : Heap) (n : Nat), H1.size = H.size → (∀ q : Nat, q ≠ a → H1[q]? = H[q]?) → va_at D cl (a, .inr (ci, fs.set k v)) H1 → W p l e R s m args below meth c H1 (locs ++ [⟨a, n⟩]) cells slots Q (F0 m (pc + 3) ls rest)) : W p l e R s m args below meth c H locs cells slots Q (F0 m pc ls (v :: .ref a :: rest)) := by
  obtain ⟨C, T, N⟩ := q
  have hap := va_apart (own := own) hts hin ty0 hty hnm hK hc
  obtain ⟨r, h1, cell, q1, q2, q3, q4⟩ := hP q0 _ he
  have hr : r = (C, T, N) := Option.some.inj (h1.symm.trans hc)
  subst hr
  obtain ⟨hS, hfc, kC, hkC, hkind⟩ := hK.1 ci _ hc
  obtain ⟨cf, kf, fi, f, hi, hsl⟩ := hS k hk
  have hi2 := hi
  dsimp only at hsame hlink hd hk hfin hty
  rw [hsame] at hi2
  have hlay := hts _ (hin _ (u_in_lay hk))
  have hst := (u_facts hfc hkC (u_lays hts hin hk) hi).1
  unfold u_lay at hlay
  by_cases hfb : (T k).2.2.2 = true
  · rw [if_pos hfb] at hlay
    obtain ⟨hin2, hdecl⟩ : meth.name = "<init>" ∧ (T k).1 = own := by
      rcases hfin with h | h
      · rw [hfb] at h; cases h
      · exact h
    have hcf : m.cls = cf := by
      obtain ⟨_, _, c', _, _, _, -, -, hf', -, -, -, hown2, -⟩ := Cond.laysFinal_spec hlay
      have e1 : c' = cf := by have := hi.symm.trans hf'; simp at this; exact this.1.symm
      rw [hdecl] at hown2
      rw [← e1]; exact Option.some.inj (hown.symm.trans hown2)
    have h6 := u_fits hfc hkC hkind (Or.inr hlay) hi hd hn hfit
    refine W.putFinK hexec hb hown hlink hi2 hst hcf hin2 (by rw [q2]; exact h6) q1 q3 (by rw [hsl]; exact k2_hasslot (q4 k hk)) rfl rfl hdg fun H' e1 e2 e3 => ?_
    rw [hsl] at e1 ⊢
    exact kk H' _ e2 e3 ⟨_, hc, t_OB.to (V := updV (vp_V fs) k v) ⟨_, e1, q2, q3, t_set q4 hap hk v⟩ (fun j _ => vp_updV_set hl v j)⟩
  · rw [if_neg hfb] at hlay
    have h6 := u_store hfc hkC hkind hlay hi hd hn hfit
    refine W.putK hexec hb (f := f) ⟨hown, hlink, ⟨_, _, _, hi2⟩, hst⟩ (by rw [q2]; exact h6) q1 q3 (by rw [hsl]; exact k2_hasslot (q4 k hk)) rfl rfl hdg fun H' e1 e2 e3 => ?_
    rw [hsl] at e1 ⊢
    exact kk H' _ e2 e3 ⟨_, hc, t_OB.to (V := updV (vp_V fs) k v) ⟨_, e1, q2, q3, t_set q4 hap hk v⟩ (fun j _ => vp_updV_set hl v j)⟩
end XVP
theorem xv_Wd_put {base : Nat} {aC : Nat → ClassId} {ad : Nat → Nat} {D : va_G} {H0 H H1 : Heap} {locs : List Loc} {σ : xv_S} {r : Nat} (c : xv_C) (n : Nat) (ha : xv_ad base ad) (hw : xv_Wd base aC ad D H0 H locs σ) (hr : r < σ.1.1) (hz : H1.size = H.size)
    (oq : ∀ q : Nat, q ≠ ad r → H1[q]? = H[q]?) (hat : va_at D xv_cl (ad r, xv_ce aC ad c) H1) : xv_Wd base aC ad D H0 H1 (locs ++ [⟨ad r, n⟩]) (σ.1, xv_up σ.2 r c) := by
  have hD := xv_wD (aC := aC) ha hw.2.2.2
  refine xv_Wd_set c hw.2.2.2 hr (hz.trans hw.1) (hw.2.1.set hD (xv_w_at hr) hat oq) (hw.2.2.1.put hz oq ?_)
  show base ≤ ad r
  rw [ha r (by have := hw.2.2.2.1; omega)]
  omega
section XVH
variable {p : Program} {l : Launch} {e : Env} {R : Room} {s : State} {m : MethodId} {args : Array Value} {below : List Frame} {meth : Method} {c : Code} {H : Heap} {locs : List Loc} {cells slots : Nat} {Q : State → Prop}
variable {cc : ByteArray} {pc : Nat} {LS : Array Slot} {ad : Nat → Nat} {base : Nat} {aC : Nat → ClassId} {D : va_G} {ro : xv_Ro}
theorem xv_fget {fs : List Value} {k : Nat} {v : Value} (h : fs[k]? = some v) : (fs.map (xv_sh ad))[k]? = some (xv_sh ad v) := by rw [List.getElem?_map, h]; rfl
theorem xv_opt_use {α β γ : Type} {o : Option α} {f : α → β × γ} {x : β} {y : γ} (h : o.map f = some (x, y)) : ∃ z, o = some z ∧ f z = (x, y) := by
  cases o with
  | none => cases h
  | some z => exact ⟨z, rfl, Option.some.inj h⟩
theorem xv_rf_sh (r : Option Nat) : xv_sh ad (va_rf r) = va_rf (r.map ad) := by cases r <;> rfl
theorem xv_hp_ok {own : String} {c0 l0 a b w : Nat} {i : Instr} {v : Value} {st st' : List Value} {σ σ' : xv_S} (hx : p.tables.exec = Jvm.exec) (hb : c.code = cc) (hown : s.vm.findClass own = some m.cls) (hts : ∀ w ∈ xv_T, w.before args s = true)
    (ha : xv_ad base ad) (hK : va_K D xv_cl (xv_tys aC) s) (hro : ∀ k L f, ro k = some (L, f) → va_T .int (ad k) L (fun j => .int (f j)) (xv_A base) s s.heap) (hZ : va_Z "OnionCourt" "WORLDS_OF_FACT" "[I" (.ref (ad 1000000)) (xv_A base) s s.heap) (hbs : base ≤ s.heap.size)
    (hw : xv_Wd base aC ad D s.heap H locs σ) (hd : decode cc pc = .ok (i, xv_nx i)) (hok : xv_hok own meth.name i a b w v = true) (hs : xv_hp ro i a b v σ st = some (st', σ'))
    (hc0 : cells + c0 = σ.1.1) (hl0 : slots + l0 = σ.1.2) (hRc : σ'.1.1 ≤ R.cells + c0) (hRs : σ'.1.2 ≤ R.slots + l0)
    (kk : ∀ (H1 : Heap) (locs1 : List Loc) (cells1 slots1 : Nat), xv_Wd base aC ad D s.heap H1 locs1 σ' → cells1 + c0 = σ'.1.1 → slots1 + l0 = σ'.1.2 → W p l e R s m args below meth c H1 locs1 cells1 slots1 Q (F0 m (pc + xv_nx i) LS (st'.map (xv_sh ad)))) : W p l e R s m args below meth c H locs cells slots Q (F0 m pc LS (st.map (xv_sh ad))) := by
  have hD := xv_wD (aC := aC) ha hw.2.2.2
  have hz := hw.1
  have hP := hw.2.1
  have hS := hw.2.2.1
  have hdd := hw.2.2.2
  cases i with
  | getfield k =>
    obtain ⟨z, hs0, hz2⟩ := xv_opt_use hs
    clear hs
    cases hz2
    match st, hs0 with
    | .ref r :: st, hs1 =>
      dsimp only [xv_getf] at hs1
      cases hr : σ.2 r with
      | inl y => rw [hr] at hs1; cases hs1
      | inr y =>
        obtain ⟨ci, fs⟩ := y
        rw [hr] at hs1
        dsimp only at hs1
        by_cases hc : ci = b
        · subst hc
          rw [if_pos rfl] at hs1
          cases hv : fs[a]? with
          | none => rw [hv] at hs1; cases hs1
          | some u =>
            rw [hv] at hs1
            cases hs1
            dsimp only [xv_hok] at hok
            cases hq : xv_cl[ci]? with
            | none => rw [hq] at hok; cases hok
            | some q =>
              rw [hq] at hok
              simp only [Bool.and_eq_true, decide_eq_true_eq] at hok
              obtain ⟨⟨h1, h2⟩, h3⟩ := hok
              have hlt := xv_liveR hdd hr hq
              have hat : (xv_w aC ad σ)[r]? = some (ad r, .inr (ci, fs.map (xv_sh ad))) := by rw [xv_w_at hlt, hr]; rfl
              exact va_get hx hb hts (xv_cl_ok ci q hq).1 hown hK hP r hat hq a h1 (hts _ (List.mem_of_getElem? h3)) (fun x hx => by rw [h2] at hx; exact hx) (xv_fget hv) hd (kk H locs cells slots hw hc0 hl0)
        · rw [if_neg hc] at hs1; cases hs1
  | putfield k =>
    cases v with
    | int t =>
      obtain ⟨z, hs0, hz2⟩ := xv_opt_use hs
      clear hs
      cases hz2
      match st, hs0 with
      | u :: .ref r :: st, hs1 =>
        dsimp only [xv_putf] at hs1
        cases hr : σ.2 r with
        | inl y => rw [hr] at hs1; cases hs1
        | inr y =>
          obtain ⟨ci, fs⟩ := y
          rw [hr] at hs1
          dsimp only at hs1
          by_cases hc : ci = b ∧ a < fs.length ∧ xv_ty t.toNatClampNeg u = true
          · rw [if_pos hc] at hs1
            obtain ⟨rfl, hlen, hty⟩ := hc
            cases hs1
            dsimp only [xv_hok] at hok
            cases hq : xv_cl[ci]? with
            | none => rw [hq] at hok; cases hok
            | some q =>
              rw [hq] at hok
              cases hpd : parseFieldDescriptor (q.2.1 a).2.2.1 with
              | none => simp only [hpd, Bool.and_eq_true, Bool.false_eq_true, false_and, and_false] at hok
              | some ty =>
                simp only [hpd, Bool.and_eq_true, decide_eq_true_eq, Bool.or_eq_true] at hok
                obtain ⟨⟨⟨⟨h1, h2⟩, h3⟩, h4⟩, h5⟩ := hok
                have hlt := xv_liveR hdd hr hq
                have hat : (xv_w aC ad σ)[r]? = some (ad r, .inr (ci, fs.map (xv_sh ad))) := by rw [xv_w_at hlt, hr]; rfl
                obtain ⟨hin, ⟨ty0, hty0⟩, hnm⟩ := xv_cl_ok ci q hq
                obtain ⟨hn, hf⟩ := xv_ty_use (ad := ad) hty h4
                refine xv_put hx hb hts hin ty0 hty0 hnm hown hK hP r hat hq a h1 (hts _ (List.mem_of_getElem? h3)) h2 h5 hpd hn hf (by rw [List.length_map]; exact hlen) hd (fun H1 n z1 o1 at1 => ?_)
                refine kk H1 _ cells slots (xv_Wd_put (.inr (ci, fs.set a u)) n ha hw hlt z1 o1 ?_) hc0 hl0
                show va_at D xv_cl (ad r, .inr (ci, (fs.set a u).map (xv_sh ad))) H1
                rw [List.map_set]
                exact at1
          · rw [if_neg hc] at hs1; cases hs1
    | _ => cases hs
  | getstatic k => 
    cases hs
    exact va_getsN hx hb hZ hS hown (hts _ (List.mem_of_getElem? (of_decide_eq_true hok))) (fun x h => h) hd (kk H locs cells slots hw hc0 hl0)
  | iaload =>
    obtain ⟨z, hs0, hz2⟩ := xv_opt_use hs
    clear hs
    cases hz2
    by_cases hb1 : b = 1
    · rw [if_pos hb1] at hs0
      match st, hs0 with
      | .int j :: .ref r :: st, hs1 =>
        unfold xv_ildr at hs1
        dsimp only at hs1
        cases hr : ro r with
        | none => rw [hr] at hs1; cases hs1
        | some y =>
          obtain ⟨n, f⟩ := y
          rw [hr] at hs1
          dsimp only at hs1
          by_cases hc : xv_inB j n = true
          · rw [if_pos hc] at hs1
            cases hs1
            exact va_ti hx hb (hro r n f hr) hS (xv_inB_use hc) rfl hd (kk H locs cells slots hw hc0 hl0)
          · rw [if_neg hc] at hs1; cases hs1
    · rw [if_neg hb1] at hs0
      match st, hs0 with
      | .int j :: .ref r :: st, hs1 =>
        unfold xv_ild at hs1
        dsimp only at hs1
        cases hr : σ.2 r with
        | inr y => rw [hr] at hs1; cases hs1
        | inl y =>
          obtain ⟨k, n, f | f | f | f | f⟩ := y
          · rw [hr] at hs1
            dsimp only at hs1
            by_cases hc : k = 0 ∧ xv_inB j n = true
            · rw [if_pos hc] at hs1
              cases hs1
              obtain ⟨hk, hin⟩ := hc
              have hlt := xv_liveL hdd hr
              have hat := xv_w_at (aC := aC) (ad := ad) hlt
              rw [hr] at hat
              subst hk
              exact va_iald hx hb hK hP r 0 hat rfl (xv_inB_use hin) hd (kk H locs cells slots hw hc0 hl0)
            · rw [if_neg hc] at hs1; cases hs1
          · rw [hr] at hs1; cases hs1
          · rw [hr] at hs1; cases hs1
          · rw [hr] at hs1; cases hs1
          · rw [hr] at hs1; cases hs1
  | baload =>
    obtain ⟨z, hs0, hz2⟩ := xv_opt_use hs
    clear hs
    cases hz2
    match st, hs0 with
    | .int j :: .ref r :: st, hs1 =>
      unfold xv_ild at hs1
      dsimp only at hs1
      cases hr : σ.2 r with
      | inr y => rw [hr] at hs1; cases hs1
      | inl y =>
        obtain ⟨k, n, f | f | f | f | f⟩ := y
        · rw [hr] at hs1
          dsimp only at hs1
          by_cases hc : k = 2 ∧ xv_inB j n = true
          · rw [if_pos hc] at hs1
            cases hs1
            obtain ⟨hk, hin⟩ := hc
            have hlt := xv_liveL hdd hr
            have hat := xv_w_at (aC := aC) (ad := ad) hlt
            rw [hr] at hat
            subst hk
            exact va_bald hx hb hK hP r 2 hat rfl (xv_inB_use hin) hd (kk H locs cells slots hw hc0 hl0)
          · rw [if_neg hc] at hs1; cases hs1
        · rw [hr] at hs1; cases hs1
        · rw [hr] at hs1; cases hs1
        · rw [hr] at hs1; cases hs1
        · rw [hr] at hs1; cases hs1
  | laload =>
    obtain ⟨z, hs0, hz2⟩ := xv_opt_use hs
    clear hs
    cases hz2
    match st, hs0 with
    | .int j :: .ref r :: st, hs1 =>
      unfold xv_lld at hs1
      dsimp only at hs1
      cases hr : σ.2 r with
      | inr y => rw [hr] at hs1; cases hs1
      | inl y =>
        obtain ⟨k, n, f | f | f | f | f⟩ := y
        · rw [hr] at hs1; cases hs1
        · rw [hr] at hs1
          dsimp only at hs1
          by_cases hc : k = 1 ∧ xv_inB j n = true
          · rw [if_pos hc] at hs1
            cases hs1
            obtain ⟨hk, hin⟩ := hc
            have hlt := xv_liveL hdd hr
            have hat := xv_w_at (aC := aC) (ad := ad) hlt
            rw [hr] at hat
            subst hk
            exact va_lald hx hb hK hP r 1 hat rfl (xv_inB_use hin) hd (kk H locs cells slots hw hc0 hl0)
          · rw [if_neg hc] at hs1; cases hs1
        · rw [hr] at hs1; cases hs1
        · rw [hr] at hs1; cases hs1
        · rw [hr] at hs1; cases hs1
  | aaload =>
    obtain ⟨z, hs0, hz2⟩ := xv_opt_use hs
    clear hs
    cases hz2
    match st, hs0 with
    | .int j :: .ref r :: st, hs1 =>
      unfold xv_ald at hs1
      dsimp only at hs1
      cases hr : σ.2 r with
      | inr y => rw [hr] at hs1; cases hs1
      | inl y =>
        obtain ⟨k, n, f | f | f | f | f⟩ := y
        · rw [hr] at hs1; cases hs1
        · rw [hr] at hs1; cases hs1
        · rw [hr] at hs1; cases hs1
        · rw [hr] at hs1; cases hs1
        · rw [hr] at hs1
          dsimp only at hs1
          by_cases hc : (k = 3 ∨ k = 4) ∧ xv_inB j n = true
          · rw [if_pos hc] at hs1
            cases hs1
            obtain ⟨hk, hin⟩ := hc
            have hlt := xv_liveL hdd hr
            have hat := xv_w_at (aC := aC) (ad := ad) hlt
            rw [hr] at hat
            have kk2 := kk H locs cells slots hw hc0 hl0
            rw [List.map_cons, xv_rf_sh] at kk2
            rcases hk with rfl | rfl
            · exact va_aldq hx hb hK hP r 3 hat rfl (xv_inB_use hin) hd kk2
            · exact va_aldq hx hb hK hP r 4 hat rfl (xv_inB_use hin) hd kk2
          · rw [if_neg hc] at hs1; cases hs1
  | iastore =>
    obtain ⟨z, hs0, hz2⟩ := xv_opt_use hs
    clear hs
    cases hz2
    match st, hs0 with
    | .int u :: .int j :: .ref r :: st, hs1 =>
      unfold xv_isto at hs1
      dsimp only at hs1
      cases hr : σ.2 r with
      | inr y => rw [hr] at hs1; cases hs1
      | inl y =>
        obtain ⟨k, n, f | f | f | f | f⟩ := y
        · rw [hr] at hs1
          dsimp only at hs1
          by_cases hc : k = 0 ∧ xv_inB j n = true
          · rw [if_pos hc] at hs1
            cases hs1
            obtain ⟨hk, hin⟩ := hc
            have hlt := xv_liveL hdd hr
            have hat := xv_w_at (aC := aC) (ad := ad) hlt
            rw [hr] at hat
            subst hk
            have hvin := xv_inB_use hin
            refine W.iast hx hb (hP r _ hat) ((hK.2 0 _ rfl).1 n (fun j => .int (f j))) (fun q => by cases q) (by show ¬ (j < 0 ∨ (arrV _ _ _).slots.size ≤ _); rw [arrV_size]; exact hvin) rfl rfl hd fun H1 e z oq => ?_
            refine kk H1 _ cells slots (xv_Wd_put _ j.toNatClampNeg ha hw hlt z oq ?_) hc0 hl0
            show H1[ad r]? = some (vp_cell _ _)
            rw [e]
            show some ((vp_cell (aC 0) (n, .inl f)).setSlot j.toNatClampNeg (.int u)) = some (vp_cell (aC 0) (n, .inl (upd f j.toNatClampNeg u)))
            rw [vp_cell_i, vp_cell_i, arrV_store]
            congr 2
            funext q
            by_cases hq : q = j.toNatClampNeg
            · subst hq; simp [updV, upd]
            · simp [updV, upd, hq]
          · rw [if_neg hc] at hs1; cases hs1
        · rw [hr] at hs1; cases hs1
        · rw [hr] at hs1; cases hs1
        · rw [hr] at hs1; cases hs1
        · rw [hr] at hs1; cases hs1
  | bastore =>
    obtain ⟨z, hs0, hz2⟩ := xv_opt_use hs
    clear hs
    cases hz2
    match st, hs0 with
    | .int u :: .int j :: .ref r :: st, hs1 =>
      unfold xv_isto at hs1
      dsimp only at hs1
      cases hr : σ.2 r with
      | inr y => rw [hr] at hs1; cases hs1
      | inl y =>
        obtain ⟨k, n, f | f | f | f | f⟩ := y
        · rw [hr] at hs1
          dsimp only at hs1
          by_cases hc : k = 2 ∧ xv_inB j n = true
          · rw [if_pos hc] at hs1
            cases hs1
            obtain ⟨hk, hin⟩ := hc
            have hlt := xv_liveL hdd hr
            have hat := xv_w_at (aC := aC) (ad := ad) hlt
            rw [hr] at hat
            subst hk
            have hvin := xv_inB_use hin
            refine W.bast hx hb (hP r _ hat) ((hK.2 2 _ rfl).1 n (fun j => .int (f j))) (fun q => by cases q) (by show ¬ (j < 0 ∨ (arrV _ _ _).slots.size ≤ _); rw [arrV_size]; exact hvin) rfl rfl hd fun H1 e z oq => ?_
            refine kk H1 _ cells slots (xv_Wd_put _ j.toNatClampNeg ha hw hlt z oq ?_) hc0 hl0
            show H1[ad r]? = some (vp_cell _ _)
            rw [e]
            show some ((vp_cell (aC 2) (n, .inl f)).setSlot j.toNatClampNeg _) = some (vp_cell (aC 2) (n, .inl (upd f j.toNatClampNeg (vp_nar .byte u))))
            rw [vp_cell_i, vp_cell_i, arrV_store]
            congr 2
            funext q
            by_cases hq : q = j.toNatClampNeg
            · subst hq; simp [updV, upd, vp_nar]; try rfl
            · simp [updV, upd, vp_nar, hq]
          · rw [if_neg hc] at hs1; cases hs1
        · rw [hr] at hs1; cases hs1
        · rw [hr] at hs1; cases hs1
        · rw [hr] at hs1; cases hs1
        · rw [hr] at hs1; cases hs1
  | lastore =>
    obtain ⟨z, hs0, hz2⟩ := xv_opt_use hs
    clear hs
    cases hz2
    match st, hs0 with
    | .long u :: .int j :: .ref r :: st, hs1 =>
      unfold xv_lsto at hs1
      dsimp only at hs1
      cases hr : σ.2 r with
      | inr y => rw [hr] at hs1; cases hs1
      | inl y =>
        obtain ⟨k, n, f | f | f | f | f⟩ := y
        · rw [hr] at hs1; cases hs1
        · rw [hr] at hs1
          dsimp only at hs1
          by_cases hc : k = 1 ∧ xv_inB j n = true
          · rw [if_pos hc] at hs1
            cases hs1
            obtain ⟨hk, hin⟩ := hc
            have hlt := xv_liveL hdd hr
            have hat := xv_w_at (aC := aC) (ad := ad) hlt
            rw [hr] at hat
            subst hk
            have hvin := xv_inB_use hin
            refine W.last hx hb (hP r _ hat) ((hK.2 1 _ rfl).1 n (fun j => .long (f j))) (fun q => by cases q) (by show ¬ (j < 0 ∨ (arrV _ _ _).slots.size ≤ _); rw [arrV_size]; exact hvin) rfl rfl hd fun H1 e z oq => ?_
            refine kk H1 _ cells slots (xv_Wd_put _ j.toNatClampNeg ha hw hlt z oq ?_) hc0 hl0
            show H1[ad r]? = some (vp_cell _ _)
            rw [e]
            show some ((vp_cell (aC 1) (n, .inr (.inl f))).setSlot j.toNatClampNeg (.long u)) = some (vp_cell (aC 1) (n, .inr (.inl (vp_updL f j.toNatClampNeg u))))
            rw [vp_cell_l, vp_cell_l, arrV_store]
            congr 2
            funext q
            by_cases hq : q = j.toNatClampNeg
            · subst hq; simp [updV, vp_updL]
            · simp [updV, vp_updL, hq]
          · rw [if_neg hc] at hs1; cases hs1
        · rw [hr] at hs1; cases hs1
        · rw [hr] at hs1; cases hs1
        · rw [hr] at hs1; cases hs1
  | arraylength =>
    obtain ⟨z, hs0, hz2⟩ := xv_opt_use hs
    clear hs
    cases hz2
    by_cases hb1 : b = 1
    · rw [if_pos hb1] at hs0
      match st, hs0 with
      | .ref r :: st, hs1 =>
        unfold xv_lenr at hs1
        dsimp only at hs1
        cases hr : ro r with
        | none => rw [hr] at hs1; cases hs1
        | some y =>
          obtain ⟨n, f⟩ := y
          rw [hr] at hs1
          cases hs1
          exact va_tlen hx hb (hro r n f hr) hS rfl hd (kk H locs cells slots hw hc0 hl0)
    · rw [if_neg hb1] at hs0
      match st, hs0 with
      | .ref r :: st, hs1 =>
        unfold xv_len at hs1
        dsimp only at hs1
        cases hr : σ.2 r with
        | inr y => rw [hr] at hs1; cases hs1
        | inl y =>
          obtain ⟨k, n, f⟩ := y
          rw [hr] at hs1
          dsimp only at hs1
          by_cases hc : k < 5
          · rw [if_pos hc] at hs1
            cases hs1
            have hlt := xv_liveL hdd hr
            have hat := xv_w_at (aC := aC) (ad := ad) hlt
            rw [hr] at hat
            have kk2 := kk H locs cells slots hw hc0 hl0
            match k, hc, hr, hat with
            | 0, _, hr, hat => exact va_alen hx hb hK hP r 0 hat (by rfl) rfl hd kk2
            | 1, _, hr, hat => exact va_alen hx hb hK hP r 1 hat (by rfl) rfl hd kk2
            | 2, _, hr, hat => exact va_alen hx hb hK hP r 2 hat (by rfl) rfl hd kk2
            | 3, _, hr, hat => exact va_alen hx hb hK hP r 3 hat (by rfl) rfl hd kk2
            | 4, _, hr, hat => exact va_alen hx hb hK hP r 4 hat (by rfl) rfl hd kk2
          · rw [if_neg hc] at hs1; cases hs1
  | aastore =>
    obtain ⟨z, hs0, hz2⟩ := xv_opt_use hs
    clear hs
    cases hz2
    match st, hs0 with
    | .ref v :: .int j :: .ref r :: st, hs1 =>
      unfold xv_asto at hs1
      dsimp only at hs1
      cases hr : σ.2 r with
      | inr y => rw [hr] at hs1; cases hs1
      | inl y =>
        obtain ⟨k, n, f | f | f | f | f⟩ := y
        · rw [hr] at hs1; cases hs1
        · rw [hr] at hs1; cases hs1
        · rw [hr] at hs1; cases hs1
        · rw [hr] at hs1; cases hs1
        · cases hv : σ.2 v with
          | inl y => rw [hr, hv] at hs1; cases hs1
          | inr y =>
            obtain ⟨cv, vs⟩ := y
            rw [hr, hv] at hs1
            dsimp only at hs1
            by_cases hc : (k = 3 ∧ cv = 8 ∨ k = 4 ∧ cv = 9) ∧ xv_inB j n = true
            · rw [if_pos hc] at hs1
              cases hs1
              obtain ⟨hk, hin⟩ := hc
              have hlt := xv_liveL hdd hr
              have hat := xv_w_at (aC := aC) (ad := ad) hlt
              rw [hr] at hat
              have hvin := xv_inB_use hin
              have key : ∀ t0 ci (q : vw_C), k = t0 → cv = ci → xv_cl[ci]? = some q → (xv_tys aC)[t0]? = some (aC t0, .object q.1) → W p l e R s m args below meth c H locs cells slots Q (F0 m pc LS ((.ref v :: .int j :: .ref r :: st).map (xv_sh ad))) := by
                intro t0 ci q e1 e2 hq ht
                subst e1; subst e2
                have hlv := xv_liveR hdd hv hq
                have hav := xv_w_at (aC := aC) (ad := ad) hlv
                rw [hv] at hav
                obtain ⟨r', hr', cellV, g1, g2, g3, -⟩ := hP v _ hav
                have hcls := (hK.1 cv q hq).2
                obtain ⟨kA, comp, k1, k2, k3, -⟩ := (hK.2 k _ ht).2
                have hcomp : comp = D.1 cv := Option.some.inj (k3.symm.trans hcls.1)
                subst hcomp
                obtain ⟨kC, hkC, -⟩ := hcls.2
                have hlt2 : j.toNatClampNeg < n := Nat.not_le.mp fun q => hvin (Or.inr q)
                have h0 : ¬ j < 0 := fun q => hvin (Or.inl q)
                refine W.aast hx hb (hP r _ hat) (fun q h => by cases h) (fun h => by cases h) k1 k2 rfl hkC ⟨h0, by show _ < (arrV _ _ _).slots.size; rw [arrV_size]; exact hlt2⟩ g1 (fun q h => by rw [g3] at h; cases h) (by rw [g2]; exact hkC) (by rw [g2]; exact va_assign hcls) rfl rfl hd fun H1 e z oq => ?_
                refine kk H1 _ cells slots (xv_Wd_put _ j.toNatClampNeg ha hw hlt z oq ?_) hc0 hl0
                show H1[ad r]? = some (vp_cell _ _)
                rw [e]
                show some ((vp_cell (aC k) (n, .inr (.inr (.inr (.inr fun j => (f j).map ad))))).setSlot j.toNatClampNeg (.ref (ad v))) = some (vp_cell (aC k) (n, .inr (.inr (.inr (.inr fun i => (va_up f j.toNatClampNeg (some v) i).map ad)))))
                rw [vp_cell_q, vp_cell_q, arrV_store]
                congr 2
                funext q
                by_cases hq : q = j.toNatClampNeg
                · subst hq
                  simp [updV, va_up, va_rf]
                · simp [updV, va_up, hq]
              rcases hk with ⟨h1, h2⟩ | ⟨h1, h2⟩
              · exact key 3 8 _ h1 h2 rfl rfl
              · exact key 4 9 _ h1 h2 rfl rfl
            · rw [if_neg hc] at hs1; cases hs1
  | new k =>
    change xv_new a σ st = _ at hs
    unfold xv_new at hs
    by_cases hlim : σ.1.1 < 1000000
    · rw [if_pos hlim] at hs
      cases hs
      cases v with
      | int wi =>
        dsimp only [xv_hok] at hok
        cases hq : xv_cl[a]? with
        | none => rw [hq] at hok; cases hok
        | some q =>
          rw [hq] at hok
          simp only [Bool.and_eq_true, decide_eq_true_eq, List.all_eq_true, List.mem_range] at hok
          obtain ⟨⟨⟨⟨h1, h2⟩, h3⟩, h4⟩, h5⟩ := hok
          have hKn := hK.1 a q hq
          obtain ⟨hin, ⟨ty0, hty0⟩, hnm⟩ := xv_cl_ok a q hq
          rw [h5] at hRs kk
          have hRc1 : σ.1.1 + 1 ≤ R.cells + c0 := hRc
          have hRs1 : σ.1.2 + q.2.2 ≤ R.slots + l0 := hRs
          refine W.newcK hx hb hown (hts _ (List.mem_of_getElem? h1)) (hts _ (List.mem_of_getElem? h2)) (hts _ (List.mem_of_getElem? h3)) rfl hd (by omega) (by omega) hKn.2.1 rfl fun H1 kC hkC e1 z1 o1 => ?_
          have hadr : ad σ.1.1 = H.size := by rw [ha _ hlim, hz]
          have kk2 := kk H1 locs (cells + 1) (slots + q.2.2) (xv_Wd_push (.inr (a, xv_dfs a)) _ ha hw hlim z1 o1 ?_) (by show cells + 1 + c0 = σ.1.1 + 1; omega) (by show slots + q.2.2 + l0 = σ.1.2 + q.2.2; omega)
          · rw [List.map_cons] at kk2
            change W p l e R s m args below meth c H1 locs (cells + 1) (slots + q.2.2) Q (F0 m (pc + 3) LS (.ref (ad σ.1.1) :: st.map (xv_sh ad))) at kk2
            rw [hadr] at kk2
            exact kk2
          · have hfs : (xv_dfs a).map (xv_sh ad) = xv_dfs a := by
              unfold xv_dfs
              rw [hq]
              show ((List.range q.2.2).map _).map _ = (List.range q.2.2).map _
              rw [List.map_map]
              apply List.map_congr_left
              intro j _
              simp only [Function.comp]
              split
              · rfl
              · split <;> rfl
            show va_at D xv_cl (H.size, .inr (a, (xv_dfs a).map (xv_sh ad))) H1
            rw [hfs]
            refine ⟨q, hq, (u_born ty0 hts hin hKn hkC e1 hty0).to (fun j hj => ?_)⟩
            have h6 := h4 j hj
            rw [hty0 j hj] at h6
            exact of_decide_eq_true h6
      | _ => dsimp only [xv_hok] at hok; cases hq : xv_cl[a]? <;> rw [hq] at hok <;> cases hok
    · rw [if_neg hlim] at hs; cases hs
  | newarray t =>
    change xv_newa a σ st = _ at hs
    match st, hs with
    | .int n :: st, hs1 =>
      unfold xv_newa at hs1
      dsimp only at hs1
      by_cases hlim : σ.1.1 < 1000000 ∧ 0 ≤ n ∧ n ≤ 100000
      · rw [if_pos hlim] at hs1
        cases hs1
        obtain ⟨hlim, hn0, hn1⟩ := hlim
        have hnn : ¬ n < 0 := by rw [Int32.lt_iff_toInt_lt]; rw [Int32.le_iff_toInt_le] at hn0; omega
        have hnt : n.toNatClampNeg ≤ 100000 := by
          rw [Int32.le_iff_toInt_le] at hn1
          have h9 : (100000 : Int32).toInt = 100000 := by decide
          rw [h9] at hn1
          show n.toInt.toNat ≤ 100000
          omega
        have hRc1 : σ.1.1 + 1 ≤ R.cells + c0 := hRc
        have hRs1 : σ.1.2 + n.toNatClampNeg ≤ R.slots + l0 := hRs
        have hadr : ad σ.1.1 = H.size := by rw [ha _ hlim, hz]
        dsimp only [xv_hok] at hok
        simp only [Bool.and_eq_true, decide_eq_true_eq, Bool.or_eq_true] at hok
        obtain ⟨h1, h2⟩ := hok
        have hbytes : n.toNatClampNeg * componentBytes (newarray.typeOf t) ≤ 536870912 := by
          have : componentBytes (newarray.typeOf t) ≤ 8 := by cases t <;> decide
          have := Nat.mul_le_mul hnt this
          omega
        refine va_newaK hx hb (hts _ (List.mem_of_getElem? h2)) rfl hd rfl hnn rfl hbytes (by omega) (by omega) rfl fun H1 cA e1 z1 o1 hAr hNm => ?_
        have kk2 := kk H1 locs (cells + 1) (slots + n.toNatClampNeg) (xv_Wd_push _ _ ha hw hlim z1 o1 ?_) (by show cells + 1 + c0 = σ.1.1 + 1; omega) (by show slots + n.toNatClampNeg + l0 = σ.1.2 + n.toNatClampNeg; omega)
        · change W p l e R s m args below meth c H1 locs (cells + 1) (slots + n.toNatClampNeg) Q (F0 m (pc + 2) LS (.ref (ad σ.1.1) :: st.map (xv_sh ad))) at kk2
          rw [hadr] at kk2
          exact kk2
        · rcases h1 with (⟨rfl, rfl⟩ | ⟨rfl, rfl⟩) | ⟨rfl, rfl⟩
          · have hcA : cA = aC 0 := Option.some.inj (hNm.symm.trans (hK.2 0 _ rfl).2)
            subst hcA
            exact e1
          · have hcA : cA = aC 1 := Option.some.inj (hNm.symm.trans (hK.2 1 _ rfl).2)
            subst hcA
            exact e1
          · have hcA : cA = aC 2 := Option.some.inj (hNm.symm.trans (hK.2 2 _ rfl).2)
            subst hcA
            exact e1
      · rw [if_neg hlim] at hs1; cases hs1
  | anewarray t =>
    change xv_newa a σ st = _ at hs
    match st, hs with
    | .int n :: st, hs1 =>
      unfold xv_newa at hs1
      dsimp only at hs1
      by_cases hlim : σ.1.1 < 1000000 ∧ 0 ≤ n ∧ n ≤ 100000
      · rw [if_pos hlim] at hs1
        cases hs1
        obtain ⟨hlim, hn0, hn1⟩ := hlim
        have hnn : ¬ n < 0 := by rw [Int32.lt_iff_toInt_lt]; rw [Int32.le_iff_toInt_le] at hn0; omega
        have hnt : n.toNatClampNeg ≤ 100000 := by
          rw [Int32.le_iff_toInt_le] at hn1
          have h9 : (100000 : Int32).toInt = 100000 := by decide
          rw [h9] at hn1
          show n.toInt.toNat ≤ 100000
          omega
        have hRc1 : σ.1.1 + 1 ≤ R.cells + c0 := hRc
        have hRs1 : σ.1.2 + n.toNatClampNeg ≤ R.slots + l0 := hRs
        have hadr : ad σ.1.1 = H.size := by rw [ha _ hlim, hz]
        dsimp only [xv_hok] at hok
        simp only [Bool.and_eq_true, decide_eq_true_eq, Bool.or_eq_true] at hok
        have key : ∀ C : String, a = 3 ∨ a = 4 → (xv_tys aC)[a]? = some (aC a, .object C) → xv_T[w]? = some (.classLink own t C) → xv_T[b]? = some (.arrayOver (.object C)) → W p l e R s m args below meth c H locs cells slots Q (F0 m pc LS ((.int n :: st).map (xv_sh ad))) := by
          intro C ha34 hty h2 h3
          refine W.anew hx hb hown (hts _ (List.mem_of_getElem? h2)) (va_AO.use (hts _ (List.mem_of_getElem? h3))) rfl hd rfl hnn (by omega) (by omega) (by omega) fun cA kA comp f1 f2 f3 f4 => ?_
          generalize hH1 : H.push ({ cls := cA, slots := Array.replicate n.toNatClampNeg .null, vm := .none } : Cell) = H1
          have z1 : H1.size = H.size + 1 := by rw [← hH1, Array.size_push]
          have e1 : H1[H.size]? = some (arrV cA n.toNatClampNeg (fun _ => .null)) := by rw [← hH1, Array.getElem?_push_size, ← arrV_new]
          have o1 : ∀ q : Nat, q < H.size → H1[q]? = H[q]? := fun q hq => by rw [← hH1, Array.getElem?_push, if_neg (Nat.ne_of_lt hq)]
          have kk2 := kk H1 locs (cells + 1) (slots + n.toNatClampNeg) (xv_Wd_push _ _ ha hw hlim z1 o1 ?_) (by show cells + 1 + c0 = σ.1.1 + 1; omega) (by show slots + n.toNatClampNeg + l0 = σ.1.2 + n.toNatClampNeg; omega)
          · change W p l e R s m args below meth c H1 locs (cells + 1) (slots + n.toNatClampNeg) Q (F0 m (pc + 3) LS (.ref (ad σ.1.1) :: st.map (xv_sh ad))) at kk2
            rw [hadr] at kk2
            exact kk2
          · obtain ⟨_, _, -, -, -, hNm⟩ := (hK.2 a _ hty).2
            have hcA : cA = aC a := Option.some.inj (f1.symm.trans hNm)
            subst hcA
            rcases ha34 with rfl | rfl
            · exact e1
            · exact e1
        rcases hok with ⟨⟨rfl, h2⟩, h3⟩ | ⟨⟨rfl, h2⟩, h3⟩
        · exact key _ (Or.inl rfl) rfl h2 h3
        · exact key _ (Or.inr rfl) rfl h2 h3
      · rw [if_neg hlim] at hs1; cases hs1
  | _ => cases hs
end XVH
end
section
/-! SOUNDNESS: what the small machine does, the JVM does -/
def xv_rok (ret : Option FieldType) (i : Instr) : Bool :=
  match i, ret with
  | .return_, none => true
  | .return_, _ => false
  | .ireturn, some .int => true
  | .ireturn, some .boolean => true
  | .ireturn, _ => false
  | .lreturn, some .long => true
  | .lreturn, _ => false
  | .areturn, some (.object _) => true
  | .areturn, some (.array _) => true
  | .areturn, _ => false
  | _, _ => true
def xv_mname : Nat → MethodName
  | 0 => Lib.Math.abs.name
  | 1 => Lib.MathLoose.abs_long.x
  | 2 => Lib.Math.max.name
  | 3 => Lib.MathLoose.max_long.x
  | 4 => Lib.Math.min.name
  | _ => Lib.MathLoose.min_long.x
def xv_cok (mt : Nat → Option xv_M) (own : String) (i : Instr) (a b w : Nat) (v : Value) : Bool :=
  match i with
  | .invokevirtual k => (match mt a, v with
    | some M, .int ci => decide (M.2.2.2.2.1 = (ci.toNatClampNeg, 1, b)) && decide (xv_T[w]? = some (.methodLink own k M.1))
    | _, _ => false)
  | .invokestatic k => if v = .null then decide (xv_T[w]? = some (.methodLink own k (xv_mname a))) else (match mt a with
    | some M => decide (M.2.2.2.2.1.2 = (0, b)) && decide (xv_T[w]? = some (.methodLink own k M.1))
    | none => false)
  | .invokespecial k => if v = .null then decide (xv_T[w]? = some (.methodLink own k Lib.objectInit)) else (match mt a with
    | some M => decide (M.2.2.2.2.1.2 = (2, b)) && (decide (v = .int 0) && decide (xv_T[w]? = some (.methodLink own k M.1)) || decide (v = .int 1) && decide (xv_T[w]? = some (.methodLinkNest own k M.1 "OnionCourt")))
    | none => false)
  | _ => true
def xv_tsw : Instr → Bool
  | .tableswitch _ _ _ _ => true
  | _ => false
def xv_bok (mt : Nat → Option xv_M) (M : xv_M) : List xv_Op → Nat → Bool
  | [], _ => true
  | (i, a, b, w, v) :: ops, pc => if i = .nop then decide (a = pc) else
    match decode M.2.1 pc with
    | .ok (j, len) => decide (j = i) && (decide (len = xv_nx i) || xv_tsw i) && xv_lok M.1.cls M.2.2.1 M.2.2.2.2.2.1 i w v && xv_jok pc i a && xv_hok M.1.cls M.1.name i a b w v && xv_cok mt M.1.cls i a b w v && xv_rok M.2.2.2.1 i && xv_bok mt M ops (pc + xv_nx i)
    | .error _ => false
def xv_mok (mt : Nat → Option xv_M) (M : xv_M) : Prop :=
  (Cond.code M.1 M.2.1 M.2.2.1 M.2.2.2.1 ∈ xv_T ∧ Cond.initialized M.1.cls ∈ xv_T ∧ plainName M.1.cls = true) ∧
  (M.1.cls ≠ "java/lang/invoke/MethodHandle" ∧ M.1.cls ≠ "java/lang/invoke/VarHandle" ∧ (parseMethodDescriptor M.1.desc).map (fun d => d.parameters.length) = some M.2.2.2.2.1.2.2) ∧ M.2.2.1 ≤ 40 ∧
  (M.2.2.2.2.1.2.1 = 0 → Cond.static M.1 ∈ xv_T) ∧
  (M.2.2.2.2.1.2.1 = 1 → Cond.instanceMethod M.1 ∈ xv_T ∧ Cond.selects M.1.cls M.1 M.1 ∈ xv_T ∧ ∃ q : vw_C, xv_cl[M.2.2.2.2.1.1]? = some q ∧ q.1 = M.1.cls) ∧
  (M.2.2.2.2.1.2.1 = 2 → Cond.instanceMethod M.1 ∈ xv_T ∧ M.1.name = "<init>" ∧ M.2.2.2.1 = none) ∧
  ∀ pc, xv_bok mt M (xv_at M.2.2.2.2.2.2 pc) pc = true
def xv_rm (d mc ms : Nat) : Room := { frames := d, cells := mc, slots := ms, locals := 64 * d }
def xv_Kn (base : Nat) (aC : Nat → ClassId) (ad : Nat → Nat) (D : va_G) (ro : xv_Ro) (U : State) : Prop :=
  va_K D xv_cl (xv_tys aC) U ∧ (∀ k L f, ro k = some (L, f) → va_T .int (ad k) L (fun j => .int (f j)) (xv_A base) U U.heap) ∧ va_Z "OnionCourt" "WORLDS_OF_FACT" "[I" (.ref (ad 1000000)) (xv_A base) U U.heap ∧ ∀ w ∈ xv_T, w.before #[] U = true
def xv_Pc (base : Nat) (aC : Nat → ClassId) (ad : Nat → Nat) (D : va_G) (ro : xv_Ro) (σ : xv_S) (as : List Value) : Array Value → State → Prop := fun v U =>
  v = (as.map (xv_sh ad)).toArray ∧ U.heap.size = base + σ.1.1 ∧ va_P D xv_cl (xv_w aC ad σ) U.heap ∧ xv_dead σ ∧ xv_Kn base aC ad D ro U
def xv_Qc (base : Nat) (aC : Nat → ClassId) (ad : Nat → Nat) (D : va_G) (σ : xv_S) (r : Option Value) : Array Value → State → Outcome → State → Prop := fun _ st o t =>
  (o = .returned (r.map (xv_sh ad)) ∧ t.heap.size = base + σ.1.1 ∧ va_P D xv_cl (xv_w aC ad σ) t.heap ∧ xv_dead σ) ∧ va_F (xv_A base) st t
theorem xv_good1 : xv_T.all xv_wk = true := by decide +kernel
/-- the words stay what they are while the machine warms -/
theorem xv_warm {w : Cond} (hk : xv_wk w = true) {s U : State} {A A' : Array Value} (hW : s.WarmedH U.vm) (h : w.before A s = true) : w.before A' U = true := by
  have gen : (w.onTables && w.keeps) = true → w.before A' U = true := fun h1 => word_at hW (Or.inl h1) h
  cases w with
  | arrayClass ty => exact word_at hW (Or.inr ⟨ty, rfl⟩) h
  | methodLinkNest a i x d => exact va_Nw.use rfl (va_Nw.warmM hW (va_Nw.of rfl h))
  | fieldLinkNest a i b n d x => exact va_Nw.use rfl (va_Nw.warmF hW (va_Nw.of rfl h))
  | privateMethod x => exact va_tabs rfl (rfl : (s.setVm U.vm).vm = U.vm) (by rw [Cond.privateMethod_setVm hW.alike]; exact h)
  | arrayOver ty =>
    cases ty with
    | object C => exact va_AO.use (va_AO.moved hW.alike (va_AO.of h))
    | _ => exact gen hk
  | _ => exact gen hk
theorem xv_warmT {s U : State} {A A' : Array Value} (hW : s.WarmedH U.vm) (h : ∀ w ∈ xv_T, w.before A s = true) : ∀ w ∈ xv_T, w.before A' U = true := fun w hw => xv_warm (List.all_eq_true.mp xv_good1 w hw) hW (h w hw)
theorem xv_goodIn (y : MethodName) (b : ByteArray) (n : Nat) (r : Option FieldType) (hw : Cond.code y b n r ∈ xv_T) : GoodIn xv_T [Cond.code y b n r] := by
  intro v hv
  rcases List.mem_singleton.mp hv with rfl
  refine ⟨hw, Or.inl ?_⟩
  first | rfl | simp [Cond.onTables, Cond.keeps, Cond.steady]
/-- from a method's start to a point of its body -/
theorem xv_Kn_moved {base : Nat} {aC : Nat → ClassId} {ad : Nat → Nat} {D : va_G} {ro : xv_Ro} {u U : State} {H : Heap} {locs : List Loc} (hW : u.WarmedH U.vm) (hH : U.heap = H) (hS : va_S (xv_A base) u.heap H locs) (h : xv_Kn base aC ad D ro u) : xv_Kn base aC ad D ro U := by
  obtain ⟨h1, h2, h3, h4⟩ := h
  subst hH
  refine ⟨h1.moved hW.alike, fun k L f hk => ?_, ?_, xv_warmT hW h4⟩
  · exact ((h2 k L f hk).kept (fun a h1 h2 => hS.2.1 a h1 h2)).moved hW.alike
  · have h5 := h3.moved (U := U) hW.alike
    obtain ⟨cf, kf, fi, f, a, cell, e1, e2, e3, e4, e5, e6, e7, e8⟩ := h5
    exact ⟨cf, kf, fi, f, a, cell, e1, e2, e3, e4, (hS.2.1 a (Array.getElem?_eq_some_iff.mp e5).1 e8).trans e5, e6, e7, e8⟩
theorem xv_Pc_blind {base : Nat} {aC : Nat → ClassId} {ad : Nat → Nat} {D : va_G} {ro : xv_Ro} {σ : xv_S} {as : List Value} : FrameBlind (xv_Pc base aC ad D ro σ as) := by
  intro a U g mk h
  obtain ⟨h1, h2, h3, h4, h5⟩ := h
  exact ⟨h1, h2, h3, h4, xv_Kn_moved (u := U) (U := U.calling g mk a) (State.WarmedH.refl U) rfl va_S.rf h5⟩
theorem xv_mini : Cond.initialized "java/lang/Math" ∈ xv_T := List.mem_of_getElem? (i := 89) (by decide +kernel)
theorem xv_m0 : Cond.static Lib.Math.abs.name ∈ xv_T ∧ Cond.code Lib.Math.abs.name Lib.Math.abs.code 1 (some .int) ∈ xv_T := ⟨List.mem_of_getElem? (i := 980) (by decide +kernel), List.mem_of_getElem? (i := 981) (by decide +kernel)⟩
theorem xv_m1 : Cond.static Lib.MathLoose.abs_long.x ∈ xv_T ∧ Cond.code Lib.MathLoose.abs_long.x Lib.MathLoose.abs_long.code 2 (some .long) ∈ xv_T := ⟨List.mem_of_getElem? (i := 913) (by decide +kernel), List.mem_of_getElem? (i := 914) (by decide +kernel)⟩
theorem xv_m2 : Cond.static Lib.Math.max.name ∈ xv_T ∧ Cond.code Lib.Math.max.name Lib.Math.max.code 2 (some .int) ∈ xv_T := ⟨List.mem_of_getElem? (i := 679) (by decide +kernel), List.mem_of_getElem? (i := 680) (by decide +kernel)⟩
theorem xv_m3 : Cond.static Lib.MathLoose.max_long.x ∈ xv_T ∧ Cond.code Lib.MathLoose.max_long.x Lib.MathLoose.max_long.code 4 (some .long) ∈ xv_T := ⟨List.mem_of_getElem? (i := 755) (by decide +kernel), List.mem_of_getElem? (i := 756) (by decide +kernel)⟩
theorem xv_m4 : Cond.static Lib.Math.min.name ∈ xv_T ∧ Cond.code Lib.Math.min.name Lib.Math.min.code 2 (some .int) ∈ xv_T := ⟨List.mem_of_getElem? (i := 758) (by decide +kernel), List.mem_of_getElem? (i := 759) (by decide +kernel)⟩
theorem xv_m5 : Cond.static Lib.MathLoose.min_long.x ∈ xv_T ∧ Cond.code Lib.MathLoose.min_long.x Lib.MathLoose.min_long.code 4 (some .long) ∈ xv_T := ⟨List.mem_of_getElem? (i := 752) (by decide +kernel), List.mem_of_getElem? (i := 753) (by decide +kernel)⟩
theorem xv_objinit : Cond.instanceMethod Lib.objectInit ∈ xv_T ∧ Cond.code Lib.objectInit ⟨#[0xb1]⟩ 1 none ∈ xv_T := ⟨by decide +kernel, by decide +kernel⟩
/-- the locals at the entry -/
theorem xv_lv_args {ad : Nat → Nat} {k : Nat} : ∀ (as : List Value) (n : Nat) (q : Nat × Value), q ∈ xv_lv ad n (xv_flat as ++ List.replicate k none) → q ∈ lv_args n (as.map (xv_sh ad)) := by
  intro as
  induction as with
  | nil =>
    intro n q h
    exfalso
    obtain ⟨j, w⟩ := q
    obtain ⟨i, v, -, h2, -⟩ := xv_lv_mem.mp h
    have : ∀ (m i : Nat) (v : Value), xv_get (List.replicate m none) i = some v → False := by
      intro m
      induction m with
      | zero => intro i v h; cases h
      | succ m ih =>
        intro i v h
        cases i with
        | zero => cases h
        | succ i => exact ih i v h
    exact this k i v h2
  | cons v vs ih =>
    intro n q h
    by_cases hc : v.category = 2
    · have hf : xv_flat (v :: vs) = some v :: none :: xv_flat vs := by simp [xv_flat, hc]
      rw [hf] at h
      have hc2 : (xv_sh ad v).category = 2 := by rw [xv_sh_cat]; exact hc
      show q ∈ (n, xv_sh ad v) :: lv_args (if (xv_sh ad v).category = 2 then n + 2 else n + 1) (vs.map (xv_sh ad))
      rw [if_pos hc2]
      rcases List.mem_cons.mp h with h | h
      · rw [h]; exact List.mem_cons_self
      · exact List.mem_cons_of_mem _ (ih (n + 2) q h)
    · have hf : xv_flat (v :: vs) = some v :: xv_flat vs := by simp [xv_flat, hc]
      rw [hf] at h
      have hc2 : ¬ (xv_sh ad v).category = 2 := by rw [xv_sh_cat]; exact hc
      show q ∈ (n, xv_sh ad v) :: lv_args (if (xv_sh ad v).category = 2 then n + 2 else n + 1) (vs.map (xv_sh ad))
      rw [if_neg hc2]
      rcases List.mem_cons.mp h with h | h
      · rw [h]; exact List.mem_cons_self
      · exact List.mem_cons_of_mem _ (ih (n + 1) q h)
theorem xv_flat_len {ad : Nat → Nat} (as : List Value) : (lg_sl (as.map (xv_sh ad))).length = (xv_flat as).length := by
  induction as with
  | nil => rfl
  | cons v vs ih =>
    have h1 : lg_sl ((v :: vs).map (xv_sh ad)) = (if (xv_sh ad v).category = 2 then [.val (xv_sh ad v), .second] else [.val (xv_sh ad v)]) ++ lg_sl (vs.map (xv_sh ad)) := by simp [lg_sl]
    rw [h1, List.length_append, ih, xv_sh_cat]
    by_cases hc : v.category = 2
    · simp [xv_flat, hc]; omega
    · simp [xv_flat, hc]; omega
theorem xv_ini_lg {M : xv_M} {as : List Value} {ls : xv_L} (h : xv_ini M as = some ls) : xv_lg M.2.2.2.2.2.1 ls ∧ (xv_flat as).length ≤ M.2.2.1 ∧ ls = xv_flat as ++ List.replicate (M.2.2.1 - (xv_flat as).length) none := by
  unfold xv_ini at h
  by_cases hc : (xv_flat as).length ≤ M.2.2.1 ∧ (xv_lgs 0 as).all (fun j => M.2.2.2.2.2.1.contains j) = true
  · rw [if_pos hc] at h
    cases h
    refine ⟨fun j v hj hv => ?_, hc.1, rfl⟩
    have key : ∀ (as : List Value) (n k j : Nat) (v : Value), xv_get (xv_flat as ++ List.replicate k none) j = some v → v.category = 2 → n + j ∈ xv_lgs n as := by
      intro as
      induction as with
      | nil =>
        intro n k j v h hv
        exfalso
        have : ∀ (m i : Nat) (v : Value), xv_get (List.replicate m none) i = some v → False := by
          intro m
          induction m with
          | zero => intro i v h; cases h
          | succ m ih =>
            intro i v h
            cases i with
            | zero => cases h
            | succ i => exact ih i v h
        exact this k j v h
      | cons u us ih =>
        intro n k j v h hv
        by_cases hu : u.category = 2
        · have hf : xv_flat (u :: us) = some u :: none :: xv_flat us := by simp [xv_flat, hu]
          have hg : xv_lgs n (u :: us) = n :: xv_lgs (n + 2) us := by simp [xv_lgs, hu]
          rw [hf] at h
          rw [hg]
          match j, h with
          | 0, h => exact List.mem_cons_self
          | 1, h => cases h
          | j + 2, h =>
            have := ih (n + 2) k j v h hv
            exact List.mem_cons_of_mem _ (by rw [show n + (j + 2) = n + 2 + j by omega]; exact this)
        · have hf : xv_flat (u :: us) = some u :: xv_flat us := by simp [xv_flat, hu]
          have hg : xv_lgs n (u :: us) = xv_lgs (n + 1) us := by simp [xv_lgs, hu]
          rw [hf] at h
          rw [hg]
          match j, h with
          | 0, h => 
            have h : some u = some v := h
            cases h
            exact absurd hv hu
          | j + 1, h =>
            have := ih (n + 1) k j v h hv
            rw [show n + (j + 1) = n + 1 + j by omega]; exact this
    have h1 := key as 0 _ j v hj hv
    rw [Nat.zero_add] at h1
    have h2 := List.all_eq_true.mp hc.2 j h1
    simpa using h2
  · rw [if_neg hc] at h; cases h
section XVS
variable {p : Program} {l : Launch} {e : Env} {R : Room} {s : State} {m : MethodId} {args : Array Value} {below : List Frame} {meth : Method} {c : Code} {H : Heap} {locs : List Loc} {cells slots : Nat} {Q : State → Prop}
variable {cc : ByteArray} {pc : Nat} {LS : Array Slot} {ad : Nat → Nat} {base : Nat} {aC : Nat → ClassId} {D : va_G} {ro : xv_Ro}
theorem xv_ret_ok {M : xv_M} {i : Instr} {st : List Value} {r : Option Value} {Qc : Array Value → State → Outcome → State → Prop} {free : Addr → Prop} (hx : p.tables.exec = Jvm.exec) (hb : c.code = cc) (hr : meth.sig.returnType = M.2.2.2.1) (hlocks : meth.locks = false)
    (hd : decode cc pc = .ok (i, 1)) (hok : xv_rok M.2.2.2.1 i = true) (hs : xv_ret M i st = some r) (hq : ∀ t : State, t.heap = H → s.WarmedH t.vm → Qc args s (.returned (r.map (xv_sh ad))) t) (hf : ∀ q ∈ locs, free q.base) :
    W p l e R s m args below meth c H locs cells slots (MQ below Qc args s cells slots free) (F0 m pc LS (st.map (xv_sh ad))) := by
  cases i with
  | return_ =>
    match st, hs with
    | [], hs =>
      cases hs
      cases hrt : M.2.2.2.1 with
      | none => exact W.vret hx hb (hr.trans hrt) hq hf hd hlocks
      | some ty => rw [hrt] at hok; cases hok
  | ireturn =>
    match st, hs with
    | [.int x], hs =>
      change (if M.2.2.2.1 = some FieldType.int then some (some (Value.int x)) else if M.2.2.2.1 = some FieldType.boolean ∧ (x = 0 ∨ x = 1) then some (some (Value.int x)) else none) = _ at hs
      by_cases h1 : M.2.2.2.1 = some .int
      · rw [if_pos h1] at hs
        cases hs
        exact W.iret hx hb (hr.trans h1) hq hf hd hlocks
      · rw [if_neg h1] at hs
        by_cases h2 : M.2.2.2.1 = some .boolean ∧ (x = 0 ∨ x = 1)
        · rw [if_pos h2] at hs
          cases hs
          exact W.zret hx hb (hr.trans h2.1) (by rcases h2.2 with rfl | rfl <;> rfl) hq hf hd hlocks
        · rw [if_neg h2] at hs; cases hs
  | lreturn =>
    match st, hs with
    | [.long x], hs =>
      cases hs
      match hrt : M.2.2.2.1, hok with
      | some .long, _ => exact W.lret hx hb (hr.trans hrt) hq hf hd hlocks
  | areturn =>
    have hrt : (∃ n, M.2.2.2.1 = some (.object n)) ∨ ∃ t, M.2.2.2.1 = some (.array t) := by
      match hrt : M.2.2.2.1, hok with
      | some (.object n), _ => exact Or.inl ⟨n, rfl⟩
      | some (.array n), _ => exact Or.inr ⟨n, rfl⟩
    match st, hs with
    | [.null], hs =>
      cases hs
      rcases hrt with ⟨n, hrt⟩ | ⟨n, hrt⟩
      · exact W.aret hx hb (hr.trans hrt) (Or.inl ⟨n, rfl⟩) (Or.inl rfl) hq hf hd hlocks
      · exact W.aret hx hb (hr.trans hrt) (Or.inr ⟨n, rfl⟩) (Or.inl rfl) hq hf hd hlocks
    | [.ref a], hs =>
      cases hs
      rcases hrt with ⟨n, hrt⟩ | ⟨n, hrt⟩
      · exact W.aret hx hb (hr.trans hrt) (Or.inl ⟨n, rfl⟩) (Or.inr ⟨_, rfl⟩) hq hf hd hlocks
      · exact W.aret hx hb (hr.trans hrt) (Or.inr ⟨n, rfl⟩) (Or.inr ⟨_, rfl⟩) hq hf hd hlocks
  | _ => cases hs
theorem xv_callk {σ' : xv_S} {r : Option Value} {rest st0 : List Value} {mc ms : Nat} {a : Array Value} (hr : va_Run p l e R s m args below meth c H locs cells slots mc ms (F0 m pc LS st0) (rest.map (xv_sh ad)) (xv_Qc base aC ad D σ' r a) (xv_A base)) (hS : va_S (xv_A base) s.heap H locs)
    (kk : ∀ (H1 : Heap) (locs1 : List Loc), xv_Wd base aC ad D s.heap H1 locs1 σ' → W p l e R s m args below meth c H1 locs1 (cells + mc) (slots + ms) Q (F0 m (pc + 3) LS ((r.toList ++ rest).map (xv_sh ad)))) : W p l e R s m args below meth c H locs cells slots Q (F0 m pc LS st0) := by
  intro T hT X
  obtain ⟨v, st₀, t, T', L, h0, X', hL, e1, e2, ⟨⟨hv, g1, g2, g3⟩, hz, hk⟩, st⟩ := hr T hT X
  cases hv
  rw [h0] at hz hk
  obtain ⟨t2, a1, b1⟩ := kk T'.heap (locs ++ L) ⟨by rw [e1]; exact g1, by rw [e1]; exact g2, ⟨Nat.le_trans hS.1 (by rw [e1]; exact hz), fun q h1 h2 => by rw [e1, hk q (Nat.lt_of_lt_of_le h1 hS.1) h2]; exact hS.2.1 q h1 h2, fun q hq => by
      rcases List.mem_append.mp hq with h | h
      · exact hS.2.2 q h
      · exact hL q h⟩, g3⟩ T' rfl X'
  refine ⟨t2, st t2 ?_, b1⟩
  have he : (r.map (xv_sh ad)).toList ++ rest.map (xv_sh ad) = (r.toList ++ rest).map (xv_sh ad) := by cases r <;> simp
  rw [he]
  exact a1
end XVS
end
section
theorem xv_hp_mono {ro : xv_Ro} {i : Instr} {a b : Nat} {v : Value} {σ σ' : xv_S} {st st' : List Value} (h : xv_hp ro i a b v σ st = some (st', σ')) : σ.1.1 ≤ σ'.1.1 ∧ σ.1.2 ≤ σ'.1.2 := by
  cases i with
  | getfield k => obtain ⟨z, -, hz⟩ := xv_opt_use h; cases hz; exact ⟨Nat.le_refl _, Nat.le_refl _⟩
  | putfield k =>
    cases v with
    | int t => obtain ⟨z, -, hz⟩ := xv_opt_use h; cases hz; exact ⟨Nat.le_refl _, Nat.le_refl _⟩
    | _ => cases h
  | iaload => obtain ⟨z, -, hz⟩ := xv_opt_use h; cases hz; exact ⟨Nat.le_refl _, Nat.le_refl _⟩
  | baload => obtain ⟨z, -, hz⟩ := xv_opt_use h; cases hz; exact ⟨Nat.le_refl _, Nat.le_refl _⟩
  | laload => obtain ⟨z, -, hz⟩ := xv_opt_use h; cases hz; exact ⟨Nat.le_refl _, Nat.le_refl _⟩
  | aaload => obtain ⟨z, -, hz⟩ := xv_opt_use h; cases hz; exact ⟨Nat.le_refl _, Nat.le_refl _⟩
  | iastore => obtain ⟨z, -, hz⟩ := xv_opt_use h; cases hz; exact ⟨Nat.le_refl _, Nat.le_refl _⟩
  | bastore => obtain ⟨z, -, hz⟩ := xv_opt_use h; cases hz; exact ⟨Nat.le_refl _, Nat.le_refl _⟩
  | lastore => obtain ⟨z, -, hz⟩ := xv_opt_use h; cases hz; exact ⟨Nat.le_refl _, Nat.le_refl _⟩
  | aastore => obtain ⟨z, -, hz⟩ := xv_opt_use h; cases hz; exact ⟨Nat.le_refl _, Nat.le_refl _⟩
  | arraylength => obtain ⟨z, -, hz⟩ := xv_opt_use h; cases hz; exact ⟨Nat.le_refl _, Nat.le_refl _⟩
  | getstatic k => cases h; exact ⟨Nat.le_refl _, Nat.le_refl _⟩
  | new k =>
    change xv_new a σ st = _ at h
    unfold xv_new at h
    by_cases hc : σ.1.1 < 1000000
    · rw [if_pos hc] at h; cases h; exact ⟨Nat.le_succ _, Nat.le_add_right _ _⟩
    · rw [if_neg hc] at h; cases h
  | newarray k =>
    change xv_newa a σ st = _ at h
    match st, h with
    | .int n :: st, h1 =>
      unfold xv_newa at h1
      by_cases hc : σ.1.1 < 1000000 ∧ 0 ≤ n ∧ n ≤ 100000
      · dsimp only at h1; rw [if_pos hc] at h1; cases h1; exact ⟨Nat.le_succ _, Nat.le_add_right _ _⟩
      · dsimp only at h1; rw [if_neg hc] at h1; cases h1
  | anewarray k =>
    change xv_newa a σ st = _ at h
    match st, h with
    | .int n :: st, h1 =>
      unfold xv_newa at h1
      by_cases hc : σ.1.1 < 1000000 ∧ 0 ≤ n ∧ n ≤ 100000
      · dsimp only at h1; rw [if_pos hc] at h1; cases h1; exact ⟨Nat.le_succ _, Nat.le_add_right _ _⟩
      · dsimp only at h1; rw [if_neg hc] at h1; cases h1
  | _ => cases h
/-- the call of an instruction: callee, arguments, rest -/
def xv_call (i : Instr) (a b : Nat) (v : Value) (h : xv_H) (st : List Value) : Option (Nat × List Value × List Value) :=
  match i with
  | .invokevirtual _ => xv_cv a b v h st
  | .invokespecial _ => xv_ci a b st
  | _ => some (a, (st.take b).reverse, st.drop b)
/-- one step, by the kind of its instruction -/
theorem xv_exec_0 {mt : Nat → Option xv_M} {ro : xv_Ro} {n d : Nat} {M : xv_M} {i : Instr} {a b w : Nat} {v : Value} {ops : List xv_Op} {ls : xv_L} {st : List Value} {σ : xv_S} {res : Option Value × xv_S} (hk : xv_kd i = 0) (h : xv_exec mt ro (n + 1) d M ((i, a, b, w, v) :: ops) ls st σ = some res) :
    ∃ ls' st', xv_loc i v ls st = some (ls', st') ∧ xv_exec mt ro n d M ops ls' st' σ = some res := by
  unfold xv_exec at h
  rw [hk] at h
  cases hl : xv_loc i v ls st with
  | none => rw [hl] at h; cases h
  | some q => rw [hl] at h; exact ⟨q.1, q.2, rfl, h⟩
theorem xv_exec_1 {mt : Nat → Option xv_M} {ro : xv_Ro} {n d : Nat} {M : xv_M} {i : Instr} {a b w : Nat} {v : Value} {ops : List xv_Op} {ls : xv_L} {st : List Value} {σ : xv_S} {res : Option Value × xv_S} (hk : xv_kd i = 1) (h : xv_exec mt ro (n + 1) d M ((i, a, b, w, v) :: ops) ls st σ = some res) :
    ∃ t st', xv_jmp i a st = some (t, st') ∧ (∀ c, t = some c → xv_exec mt ro n d M (xv_at M.2.2.2.2.2.2 c) ls st' σ = some res) ∧ (t = none → xv_exec mt ro n d M ops ls st' σ = some res) := by
  unfold xv_exec at h
  rw [hk] at h
  cases hl : xv_jmp i a st with
  | none => rw [hl] at h; cases h
  | some q =>
    rw [hl] at h
    obtain ⟨t, st'⟩ := q
    cases t with
    | none => exact ⟨none, st', rfl, fun c hc => (by cases hc), fun _ => h⟩
    | some c => exact ⟨some c, st', rfl, fun c2 hc => (by cases hc; exact h), fun hc => by cases hc⟩
theorem xv_exec_2 {mt : Nat → Option xv_M} {ro : xv_Ro} {n d : Nat} {M : xv_M} {i : Instr} {a b w : Nat} {v : Value} {ops : List xv_Op} {ls : xv_L} {st : List Value} {σ : xv_S} {res : Option Value × xv_S} (hk : xv_kd i = 2) (h : xv_exec mt ro (n + 1) d M ((i, a, b, w, v) :: ops) ls st σ = some res) :
    ∃ st' σ', xv_hp ro i a b v σ st = some (st', σ') ∧ xv_exec mt ro n d M ops ls st' σ' = some res := by
  unfold xv_exec at h
  rw [hk] at h
  cases hl : xv_hp ro i a b v σ st with
  | none => rw [hl] at h; cases h
  | some q => rw [hl] at h; exact ⟨q.1, q.2, rfl, h⟩
theorem xv_exec_3 {mt : Nat → Option xv_M} {ro : xv_Ro} {n d : Nat} {M : xv_M} {i : Instr} {a b w : Nat} {v : Value} {ops : List xv_Op} {ls : xv_L} {st : List Value} {σ : xv_S} {res : Option Value × xv_S} (hk : xv_kd i = 3) (h : xv_exec mt ro (n + 1) d M ((i, a, b, w, v) :: ops) ls st σ = some res) :
    ∃ d', d = d' + 1 ∧ ((v = .null ∧ ∃ st' rest, xv_spc i a st = some (st', rest) ∧ rest.length ≤ 4 ∧ xv_exec mt ro n d M ops ls st' σ = some res) ∨
      (¬ v = .null ∧ ∃ k as rest M' ls0 r σ', xv_call i a b v σ.2 st = some (k, as, rest) ∧ mt k = some M' ∧ xv_ini M' as = some ls0 ∧ rest.length ≤ 4 ∧ as.length = M'.2.2.2.2.1.2.2 + (if M'.2.2.2.2.1.2.1 = 0 then 0 else 1) ∧
        xv_exec mt ro n d' M' (xv_at M'.2.2.2.2.2.2 0) ls0 [] σ = some (r, σ') ∧ xv_exec mt ro n d M ops ls (r.toList ++ rest) σ' = some res)) := by
  unfold xv_exec at h
  rw [hk] at h
  cases d with
  | zero => cases h
  | succ d' =>
    refine ⟨d', rfl, ?_⟩
    dsimp only at h
    by_cases hv : v = .null
    · rw [if_pos hv] at h
      refine Or.inl ⟨hv, ?_⟩
      cases hq : xv_spc i a st with
      | none => rw [hq] at h; cases h
      | some q =>
        obtain ⟨st', rest⟩ := q
        rw [hq] at h
        dsimp only at h
        by_cases hr : rest.length ≤ 4
        · rw [if_pos hr] at h; exact ⟨st', rest, rfl, hr, h⟩
        · rw [if_neg hr] at h; cases h
    · rw [if_neg hv] at h
      refine Or.inr ⟨hv, ?_⟩
      change (match xv_call i a b v σ.2 st with
          | some (k, as, rest) => _
          | none => none) = _ at h
      cases hc : xv_call i a b v σ.2 st with
      | none => rw [hc] at h; cases h
      | some q =>
        obtain ⟨k, as, rest⟩ := q
        rw [hc] at h
        dsimp only at h
        cases hm : mt k with
        | none => rw [hm] at h; cases h
        | some M' =>
          rw [hm] at h
          dsimp only at h
          cases hi : xv_ini M' as with
          | none => rw [hi] at h; cases h
          | some ls0 =>
            rw [hi] at h
            dsimp only at h
            by_cases hr : rest.length ≤ 4 ∧ as.length = M'.2.2.2.2.1.2.2 + (if M'.2.2.2.2.1.2.1 = 0 then 0 else 1)
            · rw [if_pos hr] at h
              cases he : xv_exec mt ro n d' M' (xv_at M'.2.2.2.2.2.2 0) ls0 [] σ with
              | none => rw [he] at h; cases h
              | some q =>
                rw [he] at h
                exact ⟨k, as, rest, M', ls0, q.1, q.2, rfl, hm, hi, hr.1, hr.2, he, h⟩
            · rw [if_neg hr] at h; cases h
theorem xv_exec_4 {mt : Nat → Option xv_M} {ro : xv_Ro} {n d : Nat} {M : xv_M} {i : Instr} {a b w : Nat} {v : Value} {ops : List xv_Op} {ls : xv_L} {st : List Value} {σ : xv_S} {res : Option Value × xv_S} (hk : xv_kd i = 4) (h : xv_exec mt ro (n + 1) d M ((i, a, b, w, v) :: ops) ls st σ = some res) :
    ∃ r, xv_ret M i st = some r ∧ res = (r, σ) := by
  unfold xv_exec at h
  rw [hk] at h
  cases hl : xv_ret M i st with
  | none => rw [hl] at h; cases h
  | some r => rw [hl] at h; cases h; exact ⟨r, rfl, rfl⟩
theorem xv_kd_lt (i : Instr) : xv_kd i = 0 ∨ xv_kd i = 1 ∨ xv_kd i = 2 ∨ xv_kd i = 3 ∨ xv_kd i = 4 := by
  unfold xv_kd
  split <;> simp
theorem xv_mono {mt : Nat → Option xv_M} {ro : xv_Ro} : ∀ (n d : Nat) (M : xv_M) (ops : List xv_Op) (ls : xv_L) (st : List Value) (σ : xv_S) (r : Option Value) (σ' : xv_S), xv_exec mt ro n d M ops ls st σ = some (r, σ') → σ.1.1 ≤ σ'.1.1 ∧ σ.1.2 ≤ σ'.1.2 := by
  intro n
  induction n with
  | zero => intro d M ops ls st σ r σ' h; unfold xv_exec at h; cases h
  | succ n ih =>
    intro d M ops ls st σ r σ' h
    cases ops with
    | nil => unfold xv_exec at h; cases h
    | cons op ops =>
      obtain ⟨i, a, b, w, v⟩ := op
      rcases xv_kd_lt i with hk | hk | hk | hk | hk
      · obtain ⟨ls', st', -, h2⟩ := xv_exec_0 hk h
        exact ih _ _ _ _ _ _ _ _ h2
      · obtain ⟨t, st', -, h2, h3⟩ := xv_exec_1 hk h
        cases t with
        | none => exact ih _ _ _ _ _ _ _ _ (h3 rfl)
        | some c => exact ih _ _ _ _ _ _ _ _ (h2 c rfl)
      · obtain ⟨st', σ1, h1, h2⟩ := xv_exec_2 hk h
        have g1 := xv_hp_mono h1
        have g2 := ih _ _ _ _ _ _ _ _ h2
        exact ⟨Nat.le_trans g1.1 g2.1, Nat.le_trans g1.2 g2.2⟩
      · obtain ⟨d', -, h2 | h2⟩ := xv_exec_3 hk h
        · obtain ⟨-, st', rest, -, -, h3⟩ := h2
          exact ih _ _ _ _ _ _ _ _ h3
        · obtain ⟨-, k, as, rest, M', ls0, r1, σ1, -, -, -, -, -, h3, h4⟩ := h2
          have g1 := ih _ _ _ _ _ _ _ _ h3
          have g2 := ih _ _ _ _ _ _ _ _ h4
          exact ⟨Nat.le_trans g1.1 g2.1, Nat.le_trans g1.2 g2.2⟩
      · obtain ⟨r1, -, h2⟩ := xv_exec_4 hk h
        cases h2
        exact ⟨Nat.le_refl _, Nat.le_refl _⟩
end
section
theorem xv_room4 {ad : Nat → Nat} {rest : List Value} (h : rest.length ≤ 4) : ((rest.map (xv_sh ad)).map fun v => v.category).sum ≤ 8 := by
  have key : ∀ l : List Value, ((l.map (xv_sh ad)).map fun v => v.category).sum ≤ 2 * l.length := by
    intro l
    induction l with
    | nil => simp
    | cons v vs ih =>
      have h1 : (xv_sh ad v).category ≤ 2 := by rw [xv_sh_cat]; cases v <;> simp [Value.category]
      simp only [List.map_cons, List.sum_cons, List.length_cons]
      omega
  have := key rest
  omega
theorem xv_bok_use {mt : Nat → Option xv_M} {M : xv_M} {i : Instr} {a b w pc : Nat} {v : Value} {ops : List xv_Op} (hn : ¬ i = .nop) (h : xv_bok mt M ((i, a, b, w, v) :: ops) pc = true) :
    ∃ len, decode M.2.1 pc = .ok (i, len) ∧ (len = xv_nx i ∨ xv_tsw i = true) ∧ xv_lok M.1.cls M.2.2.1 M.2.2.2.2.2.1 i w v = true ∧ xv_jok pc i a = true ∧ xv_hok M.1.cls M.1.name i a b w v = true ∧ xv_cok mt M.1.cls i a b w v = true ∧ xv_rok M.2.2.2.1 i = true ∧ xv_bok mt M ops (pc + xv_nx i) = true := by
  unfold xv_bok at h
  rw [if_neg hn] at h
  cases hd : decode M.2.1 pc with
  | error e => rw [hd] at h; cases h
  | ok q =>
    obtain ⟨j, len⟩ := q
    rw [hd] at h
    simp only [Bool.and_eq_true, decide_eq_true_eq, Bool.or_eq_true] at h
    obtain ⟨⟨⟨⟨⟨⟨⟨h1, h2⟩, h3⟩, h4⟩, h5⟩, h6⟩, h7⟩, h8⟩ := h
    subst h1
    exact ⟨len, rfl, h2, h3, h4, h5, h6, h7, h8⟩
def xv_Body (l : Launch) (base : Nat) (aC : Nat → ClassId) (ad : Nat → Nat) (D : va_G) (mt : Nat → Option xv_M) (ro : xv_Ro) (n : Nat) : Prop :=
  ∀ (d : Nat) (M : xv_M) (ops : List xv_Op) (pc : Nat) (ls : xv_L) (st : List Value) (σ : xv_S) (r : Option Value) (σ' : xv_S), (∀ q, xv_bok mt M (xv_at M.2.2.2.2.2.2 q) q = true) → xv_bok mt M ops pc = true → xv_exec mt ro n d M ops ls st σ = some (r, σ') →
  ∀ (p : Program) (e : Env) (R : Room) (s : State) (m : MethodId) (args : Array Value) (below : List Frame) (meth : Method) (c : Code) (H : Heap) (locs : List Loc) (cells slots : Nat) (LS : Array Slot) (Q : State → Prop) (c0 l0 : Nat),
    p.tables.exec = Jvm.exec → c.code = M.2.1 → c.maxLocals = M.2.2.1 → s.vm.findClass M.1.cls = some m.cls → meth.name = M.1.name → xv_Kn base aC ad D ro s → base ≤ s.heap.size → xv_Wd base aC ad D s.heap H locs σ →
    lv_has LS M.2.2.1 (xv_lv ad 0 ls) → xv_lg M.2.2.2.2.2.1 ls → cells + c0 = σ.1.1 → slots + l0 = σ.1.2 → σ'.1.1 ≤ R.cells + c0 → σ'.1.2 ≤ R.slots + l0 → d ≤ R.frames → 64 * d ≤ R.locals →
    (∀ (H1 : Heap) (locs1 : List Loc) (cells1 slots1 pc1 : Nat) (LS1 : Array Slot) (i : Instr) (st1 : List Value), xv_Wd base aC ad D s.heap H1 locs1 σ' → cells1 + c0 = σ'.1.1 → slots1 + l0 = σ'.1.2 → decode M.2.1 pc1 = .ok (i, 1) → xv_rok M.2.2.2.1 i = true → xv_ret M i st1 = some r →
      W p l e R s m args below meth c H1 locs1 cells1 slots1 Q (F0 m pc1 LS1 (st1.map (xv_sh ad)))) →
    W p l e R s m args below meth c H locs cells slots Q (F0 m pc LS (st.map (xv_sh ad)))
def xv_Meth (l : Launch) (base : Nat) (aC : Nat → ClassId) (ad : Nat → Nat) (D : va_G) (mt : Nat → Option xv_M) (ro : xv_Ro) (n : Nat) : Prop :=
  ∀ (d : Nat) (M : xv_M) (as : List Value) (ls0 : xv_L) (σ : xv_S) (r : Option Value) (σ' : xv_S), xv_mok mt M → xv_ini M as = some ls0 → xv_exec mt ro n d M (xv_at M.2.2.2.2.2.2 0) ls0 [] σ = some (r, σ') →
    Met l M.1 [Cond.code M.1 M.2.1 M.2.2.1 M.2.2.2.1] (xv_rm d (σ'.1.1 - σ.1.1) (σ'.1.2 - σ.1.2)) (xv_Pc base aC ad D ro σ as) (xv_Qc base aC ad D σ' r) (σ'.1.1 - σ.1.1) (σ'.1.2 - σ.1.2) (xv_A base)
theorem xv_meth_of {l : Launch} {base : Nat} {aC : Nat → ClassId} {ad : Nat → Nat} {D : va_G} {mt : Nat → Option xv_M} {ro : xv_Ro} {n : Nat} (hB : xv_Body l base aC ad D mt ro n) : xv_Meth l base aC ad D mt ro n := by
  intro d M as ls0 σ r σ' hM hini hex
  have hmono := xv_mono _ _ _ _ _ _ _ _ _ hex
  refine Met.ofW (cc := M.2.1) (maxL := M.2.2.1) (ret := M.2.2.2.1) hM.1.2.2 rfl ?_
  intro p e s m args below meth c s₁ B hml hPc
  obtain ⟨rfl, hsz, hP, hdead, hKn⟩ := hPc
  obtain ⟨hlg, hfl, rfl⟩ := xv_ini_lg hini
  rw [lg_entry_eq]
  have hlen : (lg_sl (as.map (xv_sh ad))).length ≤ M.2.2.1 := by rw [xv_flat_len]; exact hfl
  have hl := lv_entry (as.map (xv_sh ad)) (n := M.2.2.1) hlen
  have hl2 : lv_has ((lg_sl (as.map (xv_sh ad)) ++ List.replicate (M.2.2.1 - (lg_sl (as.map (xv_sh ad))).length) Slot.unset).toArray) M.2.2.1 (xv_lv ad 0 (xv_flat as ++ List.replicate (M.2.2.1 - (xv_flat as).length) none)) :=
    ⟨hl.1, hl.2.1, fun q hq => hl.2.2 q (xv_lv_args as 0 q hq)⟩
  refine hB d M _ 0 _ [] σ r σ' hM.2.2.2.2.2.2 (hM.2.2.2.2.2.2 0) hex p e _ s m _ below meth c s.heap [] 0 0 _ _ σ.1.1 σ.1.2 B.exec B.bytes hml (findClass_of_methodNamed B.named) (name_of_methodNamed B.named B.method).1 hKn (by rw [hsz]; omega) ⟨hsz, hP, va_S.rf, hdead⟩ hl2 hlg (by omega) (by omega)
    (by show σ'.1.1 ≤ (σ'.1.1 - σ.1.1) + σ.1.1; omega) (by show σ'.1.2 ≤ (σ'.1.2 - σ.1.2) + σ.1.2; omega) (Nat.le_refl d) (Nat.le_refl _) ?_
  intro H1 locs1 cells1 slots1 pc1 LS1 i st1 hw hc hs hd hok hr
  have e1 : cells1 = σ'.1.1 - σ.1.1 := by omega
  have e2 : slots1 = σ'.1.2 - σ.1.2 := by omega
  subst e1; subst e2
  exact xv_ret_ok B.exec B.bytes B.returns B.notSynchronized hd hok hr (fun t ht _ => ⟨⟨rfl, by rw [ht]; exact hw.1, by rw [ht]; exact hw.2.1, hw.2.2.2⟩, hw.2.2.1.F ht⟩) hw.2.2.1.2.2
theorem xv_body_of {l : Launch} {base : Nat} {aC : Nat → ClassId} {ad : Nat → Nat} {D : va_G} {mt : Nat → Option xv_M} {ro : xv_Ro} {n : Nat} (ha : xv_ad base ad) (hmt : ∀ k M, mt k = some M → xv_mok mt M) (hB : xv_Body l base aC ad D mt ro n) (hMe : xv_Meth l base aC ad D mt ro n) : xv_Body l base aC ad D mt ro (n + 1) := by
  intro d M ops pc ls st σ r σ' hM hbok hex p e R s m args below meth c H locs cells slots LS Q c0 l0 hx hb hml hown hname hKn hbs hw hl hlg hc0 hl0 hRc hRs hRf hRl hQ
  have hts : ∀ w ∈ xv_T, w.before args s = true := xv_warmT (State.WarmedH.refl s) hKn.2.2.2
  cases ops with
  | nil => unfold xv_exec at hex; cases hex
  | cons op ops =>
    obtain ⟨i, a, b, w, v⟩ := op
    by_cases hnop : i = .nop
    · subst hnop
      obtain ⟨t, st', h1, h2, -⟩ := xv_exec_1 rfl hex
      cases h1
      have hpc : a = pc := by
        have h3 : decide (a = pc) = true := hbok
        exact of_decide_eq_true h3
      have h4 := h2 a rfl
      exact hB d M _ pc ls st σ r σ' hM (by rw [← hpc]; exact hM a) h4 p e R s m args below meth c H locs cells slots LS Q c0 l0 hx hb hml hown hname hKn hbs hw hl hlg hc0 hl0 hRc hRs hRf hRl hQ
    · obtain ⟨len, hd, hlen, hlok, hjok, hhok, hcok, hrok, hbk⟩ := xv_bok_use hnop hbok
      rcases xv_kd_lt i with hk | hk | hk | hk | hk
      · obtain ⟨ls', st', h1, h2⟩ := xv_exec_0 hk hex
        have hln : len = xv_nx i := by
          rcases hlen with h | h
          · exact h
          · cases i <;> first | (cases h; done) | (cases hk; done)
        subst hln
        exact xv_loc_ok hx hb hown hts hl hlg hd hlok h1 (fun LS' hl' hlg' => hB d M ops _ ls' st' σ r σ' hM hbk h2 p e R s m args below meth c H locs cells slots LS' Q c0 l0 hx hb hml hown hname hKn hbs hw hl' hlg' hc0 hl0 hRc hRs hRf hRl hQ)
      · obtain ⟨t, st', h1, h2, h3⟩ := xv_exec_1 hk hex
        have hln : len = xv_nx i ∨ ∃ d lo hi os, i = .tableswitch d lo hi os := by
          rcases hlen with h | h
          · exact Or.inl h
          · cases i <;> first | (cases h; done) | exact Or.inr ⟨_, _, _, _, rfl⟩
        refine xv_jmp_ok hx hb hnop hd hln hjok h1 (fun q hq => ?_) (fun hq => ?_)
        · exact hB d M _ q ls st' σ r σ' hM (hM q) (h2 q hq) p e R s m args below meth c H locs cells slots LS Q c0 l0 hx hb hml hown hname hKn hbs hw hl hlg hc0 hl0 hRc hRs hRf hRl hQ
        · exact hB d M ops _ ls st' σ r σ' hM hbk (h3 hq) p e R s m args below meth c H locs cells slots LS Q c0 l0 hx hb hml hown hname hKn hbs hw hl hlg hc0 hl0 hRc hRs hRf hRl hQ
      · obtain ⟨st', σ1, h1, h2⟩ := xv_exec_2 hk hex
        have hln : len = xv_nx i := by
          rcases hlen with h | h
          · exact h
          · cases i <;> first | (cases h; done) | (cases hk; done)
        subst hln
        have hm2 := xv_mono _ _ _ _ _ _ _ _ _ h2
        refine xv_hp_ok hx hb hown hts ha hKn.1 hKn.2.1 hKn.2.2.1 hbs hw hd (by rw [hname]; exact hhok) h1 hc0 hl0 (by omega) (by omega) (fun H1 locs1 cells1 slots1 hw1 hc1 hl1 => ?_)
        exact hB d M ops _ ls st' σ1 r σ' hM hbk h2 p e R s m args below meth c H1 locs1 cells1 slots1 LS Q c0 l0 hx hb hml hown hname hKn hbs hw1 hl hlg hc1 hl1 hRc hRs hRf hRl hQ
      · have hln : len = xv_nx i := by
          rcases hlen with h | h
          · exact h
          · cases i <;> first | (cases h; done) | (cases hk; done)
        subst hln
        obtain ⟨d', rfl, h2 | h2⟩ := xv_exec_3 hk hex
        · obtain ⟨rfl, st', rest, hsp, hr4, h3⟩ := h2
          have hbk2 : xv_nx i = 3 := by cases i <;> first | rfl | (cases hk; done)
          rw [hbk2] at hbk
          have hcont : W p l e R s m args below meth c H locs cells slots Q (F0 m (pc + 3) LS (st'.map (xv_sh ad))) := hB (d' + 1) M ops _ ls st' σ r σ' hM hbk h3 p e R s m args below meth c H locs cells slots LS Q c0 l0 hx hb hml hown hname hKn hbs hw hl hlg hc0 hl0 hRc hRs hRf hRl hQ
          have hmo := xv_mono _ _ _ _ _ _ _ _ _ h3
          have hsum := xv_room4 (ad := ad) hr4
          cases i with
          | invokespecial k =>
            match st, hsp with
            | .ref q :: rest', hsp =>
              have e1 : rest' = st' := (congrArg Prod.fst (Option.some.inj hsp))
              have e2 : rest' = rest := (congrArg Prod.snd (Option.some.inj hsp))
              subst e1
              rw [← e2] at hsum
              have hlink : xv_T[w]? = some (.methodLink M.1.cls k Lib.objectInit) := of_decide_eq_true hcok
              have hroom := lv_room (m := m) (pc := pc) (ls := LS) (rest := (Value.ref q :: rest').map (xv_sh ad)) hsum
              exact W.objInit hx hb hown (hts _ (List.mem_of_getElem? hlink)) (hts _ xv_objinit.1) (hts _ xv_objinit.2) rfl (hl.1.trans hml.symm) rfl hd (by omega) (by omega) hcont
          | invokevirtual k => exfalso; dsimp only [xv_cok] at hcok; cases hq : mt a <;> rw [hq] at hcok <;> cases hcok
          | invokestatic k =>
            have hlink : xv_T[w]? = some (.methodLink M.1.cls k (xv_mname a)) := of_decide_eq_true hcok
            have hlk := hts _ (List.mem_of_getElem? hlink)
            have hmls : c.maxLocals = LS.size := hml.trans hl.1.symm
            have hin := hts _ xv_mini
            have hsp2 : xv_math a st = some (st', rest) := hsp
            match a, st, hsp2, hlk with
            | 0, .int x :: r, hsp2, hlk => cases hsp2; exact va_mabs hx hb hmls hown hlk (hts _ xv_m0.1) hin (hts _ xv_m0.2) (by omega) (by omega) (by omega) (by omega) hd hcont
            | 1, .long x :: r, hsp2, hlk => cases hsp2; exact va_mabs_long hx hb hmls hown hlk (hts _ xv_m1.1) hin (hts _ xv_m1.2) (by omega) (by omega) (by omega) (by omega) hd hcont
            | 2, .int y :: .int x :: r, hsp2, hlk => cases hsp2; exact va_mmax hx hb hmls hown hlk (hts _ xv_m2.1) hin (hts _ xv_m2.2) (by omega) (by omega) (by omega) (by omega) hd hcont
            | 3, .long y :: .long x :: r, hsp2, hlk => cases hsp2; exact va_mmax_long hx hb hmls hown hlk (hts _ xv_m3.1) hin (hts _ xv_m3.2) (by omega) (by omega) (by omega) (by omega) hd hcont
            | 4, .int y :: .int x :: r, hsp2, hlk => cases hsp2; exact va_mmin hx hb hmls hown hlk (hts _ xv_m4.1) hin (hts _ xv_m4.2) (by omega) (by omega) (by omega) (by omega) hd hcont
            | 5, .long y :: .long x :: r, hsp2, hlk => cases hsp2; exact va_mmin_long hx hb hmls hown hlk (hts _ xv_m5.1) hin (hts _ xv_m5.2) (by omega) (by omega) (by omega) (by omega) hd hcont
          | _ => cases hk
        · obtain ⟨hv, k, as, rest, M', ls0, r1, σ1, hcall, hm', hini, hr4, hal, h3, h4⟩ := h2
          have hM' := hmt k M' hm'
          have hMet := hMe d' M' as ls0 σ r1 σ1 hM' hini h3
          have hm1 := xv_mono _ _ _ _ _ _ _ _ _ h3
          have hm2 := xv_mono _ _ _ _ _ _ _ _ _ h4
          have hKU : ∀ U : State, U.heap = H → s.WarmedH U.vm → xv_Pc base aC ad D ro σ as (as.map (xv_sh ad)).toArray U := fun U hU hW => ⟨rfl, by rw [hU]; exact hw.1, by rw [hU]; exact hw.2.1, hw.2.2.2, xv_Kn_moved hW hU hw.2.2.1 hKn⟩
          have hf : cells + (σ1.1.1 - σ.1.1) ≤ R.cells ∧ slots + (σ1.1.2 - σ.1.2) ≤ R.slots := ⟨by omega, by omega⟩
          have hR : (xv_rm d' (σ1.1.1 - σ.1.1) (σ1.1.2 - σ.1.2)).frames + 1 ≤ R.frames ∧ 8 + (M'.2.2.1 + 11) + (xv_rm d' (σ1.1.1 - σ.1.1) (σ1.1.2 - σ.1.2)).locals ≤ R.locals := by
            have := hM'.2.2.1
            refine ⟨hRf, ?_⟩
            show 8 + (M'.2.2.1 + 11) + 64 * d' ≤ R.locals
            omega
          have hgood := xv_goodIn M'.1 M'.2.1 M'.2.2.1 M'.2.2.2.1 hM'.1.1
          have hinit := hts _ hM'.1.2.1
          have hcont : ∀ (H1 : Heap) (locs1 : List Loc), xv_Wd base aC ad D s.heap H1 locs1 σ1 → W p l e R s m args below meth c H1 locs1 (cells + (σ1.1.1 - σ.1.1)) (slots + (σ1.1.2 - σ.1.2)) Q (F0 m (pc + 3) LS ((r1.toList ++ rest).map (xv_sh ad))) := by
            intro H1 locs1 hw1
            have hnx : xv_nx i = 3 := by cases i <;> first | rfl | (cases hk; done)
            rw [hnx] at hbk
            exact hB (d' + 1) M ops _ ls _ σ1 r σ' hM hbk h4 p e R s m args below meth c H1 locs1 _ _ LS Q c0 l0 hx hb hml hown hname hKn hbs hw1 hl hlg (by omega) (by omega) hRc hRs hRf hRl hQ
          have hsz : LS.size = M.2.2.1 := hl.1
          have hroom := lv_room (m := m) (pc := pc) (ls := LS) (rest := st.map (xv_sh ad)) (xv_room4 (ad := ad) hr4)
          cases i with
          | invokevirtual idx =>
            dsimp only [xv_call, xv_cv] at hcall
            match hdr : st.drop b, v, hcall, hv, hcok with
            | .ref q :: rest', .int ci, hcall, _, hcok =>
              dsimp only at hcall
              cases hq : σ.2 q with
              | inl y => rw [hq] at hcall; cases hcall
              | inr y =>
                obtain ⟨cq, fs⟩ := y
                rw [hq] at hcall
                dsimp only at hcall
                by_cases hcc : cq = ci.toNatClampNeg
                · rw [if_pos hcc] at hcall
                  cases hcall
                  dsimp only [xv_cok] at hcok
                  rw [hm'] at hcok
                  simp only [Bool.and_eq_true, decide_eq_true_eq] at hcok
                  obtain ⟨g1, g2⟩ := hcok
                  have gk : M'.2.2.2.2.1.2.1 = 1 := by rw [g1]
                  have gn : M'.2.2.2.2.1.2.2 = b := by rw [g1]
                  have gc : M'.2.2.2.2.1.1 = ci.toNatClampNeg := by rw [g1]
                  obtain ⟨w1, w2, qc, w3, w4⟩ := hM'.2.2.2.2.1 gk
                  rw [gc, ← hcc] at w3
                  rw [gk, gn] at hal
                  have hlt := xv_liveR hw.2.2.2 hq w3
                  have hat := xv_w_at (aC := aC) (ad := ad) hlt
                  rw [hq] at hat
                  have hsplit : st.map (xv_sh ad) = (((st.take b).reverse).map (xv_sh ad)).reverse ++ .ref (ad q) :: rest.map (xv_sh ad) := by
                    conv => lhs; rw [← List.take_append_drop b st, hdr]
                    simp [xv_sh]
                  have hrun := va_runV (l := l) (e := e) (below := below) (meth := meth) (As := ((st.take b).reverse).map (xv_sh ad)) (rest := rest.map (xv_sh ad)) (g := F0 m pc LS (st.map (xv_sh ad))) (C := M'.1.cls) (index := idx) (n := b) (cells := cells) (slots := slots) (locs := locs) (b := ad q) ⟨hx, hb, hml, hown, hts⟩ hMet
                    ⟨callB_of b hts hgood rfl rfl rfl hinit (hts _ (List.mem_of_getElem? g2)) (by have := hM'.2.1; rw [gn] at this; exact this) hR, hts _ w1, hts _ w2⟩
                    ⟨xv_Pc_blind, by have := va_recv hKn.1 hw.2.1 w3 hat; rw [w4] at this; exact this, fun U hU hW => hKU U hU hW⟩ rfl (by simp at hal ⊢; omega) hsz hsplit hroom hd hf
                  exact xv_callk hrun hw.2.2.1 hcont
                · rw [if_neg hcc] at hcall; cases hcall
          | invokestatic idx =>
            cases hcall
            dsimp only [xv_cok] at hcok
            rw [if_neg hv, hm'] at hcok
            simp only [Bool.and_eq_true, decide_eq_true_eq] at hcok
            obtain ⟨g1, g2⟩ := hcok
            have gk : M'.2.2.2.2.1.2.1 = 0 := by rw [g1]
            have gn : M'.2.2.2.2.1.2.2 = b := by rw [g1]
            rw [gk, gn] at hal
            have hsplit : st.map (xv_sh ad) = (((st.take b).reverse).map (xv_sh ad)).reverse ++ (st.drop b).map (xv_sh ad) := by
              conv => lhs; rw [← List.take_append_drop b st]
              simp
            have hrun := va_runS (l := l) (e := e) (below := below) (meth := meth) (As := ((st.take b).reverse).map (xv_sh ad)) (rest := (st.drop b).map (xv_sh ad)) (g := F0 m pc LS (st.map (xv_sh ad))) (index := idx) (n := b) (cells := cells) (slots := slots) (locs := locs) ⟨hx, hb, hml, hown, hts⟩ hMet
              ⟨callB_of b hts hgood rfl rfl rfl hinit (hts _ (List.mem_of_getElem? g2)) (by have := hM'.2.1; rw [gn] at this; exact this) hR, hts _ (hM'.2.2.2.1 gk)⟩
              ⟨xv_Pc_blind, fun U hU hW => hKU U hU hW⟩ rfl (by simp at hal ⊢; omega) hsz hsplit hroom hd hf
            exact xv_callk hrun hw.2.2.1 hcont
          | invokespecial idx =>
            dsimp only [xv_call, xv_ci] at hcall
            match hdr : st.drop b, hcall with
            | .ref q :: rest', hcall =>
              cases hcall
              dsimp only [xv_cok] at hcok
              rw [if_neg hv, hm'] at hcok
              simp only [Bool.and_eq_true, decide_eq_true_eq, Bool.or_eq_true] at hcok
              obtain ⟨g1, g2⟩ := hcok
              have gk : M'.2.2.2.2.1.2.1 = 2 := by rw [g1]
              have gn : M'.2.2.2.2.1.2.2 = b := by rw [g1]
              obtain ⟨w1, w2, w3⟩ := hM'.2.2.2.2.2.1 gk
              rw [gk, gn] at hal
              rw [w3] at hMet hgood
              have hsplit : st.map (xv_sh ad) = (((st.take b).reverse).map (xv_sh ad)).reverse ++ .ref (ad q) :: rest.map (xv_sh ad) := by
                conv => lhs; rw [← List.take_append_drop b st, hdr]
                simp [xv_sh]
              rcases g2 with ⟨-, g2⟩ | ⟨-, g2⟩
              · have hrun := va_runI (l := l) (e := e) (below := below) (meth := meth) (As := ((st.take b).reverse).map (xv_sh ad)) (rest := rest.map (xv_sh ad)) (g := F0 m pc LS (st.map (xv_sh ad))) (index := idx) (n := b) (cells := cells) (slots := slots) (locs := locs) (b := ad q) ⟨hx, hb, hml, hown, hts⟩ hMet
                  ⟨callB_of b hts hgood rfl rfl rfl hinit (hts _ (List.mem_of_getElem? g2)) (by have := hM'.2.1; rw [gn] at this; exact this) hR, w2, hts _ w1⟩
                  ⟨xv_Pc_blind, fun U hU hW => hKU U hU hW⟩ rfl (by simp at hal ⊢; omega) hsz hsplit hroom hd hf
                exact xv_callk hrun hw.2.2.1 hcont
              · have hrun := va_runIN (l := l) (e := e) (below := below) (meth := meth) (As := ((st.take b).reverse).map (xv_sh ad)) (rest := rest.map (xv_sh ad)) (g := F0 m pc LS (st.map (xv_sh ad))) (index := idx) (n := b) (cells := cells) (slots := slots) (locs := locs) (b := ad q) ⟨hx, hb, hml, hown, hts⟩ hMet
                  ⟨va_cnB b hts hgood rfl rfl rfl (va_Nw.of rfl (hts _ (List.mem_of_getElem? g2))) hinit (by have := hM'.2.1; rw [gn] at this; exact this) hR, w2, hts _ w1⟩
                  ⟨xv_Pc_blind, fun U hU hW => hKU U hU hW⟩ rfl (by simp at hal ⊢; omega) hsz hsplit hroom hd hf
                exact xv_callk hrun hw.2.2.1 hcont
          | _ => cases hk
      · obtain ⟨r1, h1, h2⟩ := xv_exec_4 hk hex
        cases h2
        have hln : len = 1 := by
          rcases hlen with h | h
          · rw [h]; cases i <;> first | rfl | (cases hk; done)
          · cases i <;> first | (cases h; done) | (cases hk; done)
        subst hln
        exact hQ H locs cells slots pc LS i st hw hc0 hl0 hd hrok h1
theorem xv_sound {l : Launch} {base : Nat} {aC : Nat → ClassId} {ad : Nat → Nat} {D : va_G} {mt : Nat → Option xv_M} {ro : xv_Ro} (ha : xv_ad base ad) (hmt : ∀ k M, mt k = some M → xv_mok mt M) : ∀ n, xv_Body l base aC ad D mt ro n := by
  intro n
  induction n with
  | zero =>
    intro d M ops pc ls st σ r σ' hM hbok hex
    unfold xv_exec at hex
    cases hex
  | succ n ih => exact xv_body_of ha hmt ih (xv_meth_of ih)
end
