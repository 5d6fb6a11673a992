section
-- ===== PART A: goes FIRST, ahead of the names: the tables' words, and 'selects' of the private methods out of them =====
/-- a private method of a class that the tables say can be made, by its rows of tables_1 -/
def lw_okq (q : MethodName × Nat) : Prop := (q.1.cls ≠ "java/lang/invoke/MethodHandle" ∧ q.1.cls ≠ "java/lang/invoke/VarHandle") ∧ Cond.instantiable q.1.cls q.2 ∈ tables_1 ∧ Cond.privateMethod q.1 ∈ tables_1 ∧ Cond.instanceMethod q.1 ∈ tables_1
theorem lw_p0 : lw_okq (⟨"OnionCourt$Witness", "item", "(LOnionCourt$Tape;)V"⟩, 4) := ⟨⟨by decide +kernel, by decide +kernel⟩, List.mem_of_getElem? (i := 149) (by decide +kernel), List.mem_of_getElem? (i := 526) (by decide +kernel), List.mem_of_getElem? (i := 527) (by decide +kernel)⟩
theorem lw_p1 : lw_okq (⟨"OnionCourt$Archive", "line", "(LOnionCourt$Tape;LOnionCourt$Questions;)V"⟩, 7) := ⟨⟨by decide +kernel, by decide +kernel⟩, List.mem_of_getElem? (i := 140) (by decide +kernel), List.mem_of_getElem? (i := 563) (by decide +kernel), List.mem_of_getElem? (i := 564) (by decide +kernel)⟩
theorem lw_p2 : lw_okq (⟨"OnionCourt$Archive", "whatIsWrongWith", "(I)I"⟩, 7) := ⟨⟨by decide +kernel, by decide +kernel⟩, List.mem_of_getElem? (i := 140) (by decide +kernel), List.mem_of_getElem? (i := 568) (by decide +kernel), List.mem_of_getElem? (i := 569) (by decide +kernel)⟩
theorem lw_p3 : lw_okq (⟨"OnionCourt$Archive", "live", "(ILOnionCourt$Law;LOnionCourt$Case;)V"⟩, 7) := ⟨⟨by decide +kernel, by decide +kernel⟩, List.mem_of_getElem? (i := 140) (by decide +kernel), List.mem_of_getElem? (i := 643) (by decide +kernel), List.mem_of_getElem? (i := 644) (by decide +kernel)⟩
theorem lw_p4 : lw_okq (⟨"OnionCourt$Law", "run", "(IILOnionCourt$Case;)J"⟩, 9) := ⟨⟨by decide +kernel, by decide +kernel⟩, List.mem_of_getElem? (i := 61) (by decide +kernel), List.mem_of_getElem? (i := 664) (by decide +kernel), List.mem_of_getElem? (i := 665) (by decide +kernel)⟩
theorem lw_p5 : lw_okq (⟨"OnionCourt", "canWeigh", "(I)Z"⟩, 14) := ⟨⟨by decide +kernel, by decide +kernel⟩, List.mem_of_getElem? (i := 17) (by decide +kernel), List.mem_of_getElem? (i := 745) (by decide +kernel), List.mem_of_getElem? (i := 746) (by decide +kernel)⟩
theorem lw_p6 : lw_okq (⟨"OnionCourt", "weigh", "(I)V"⟩, 14) := ⟨⟨by decide +kernel, by decide +kernel⟩, List.mem_of_getElem? (i := 17) (by decide +kernel), List.mem_of_getElem? (i := 754) (by decide +kernel), List.mem_of_getElem? (i := 755) (by decide +kernel)⟩
theorem lw_p7 : lw_okq (⟨"OnionCourt", "mostOpen", "()I"⟩, 14) := ⟨⟨by decide +kernel, by decide +kernel⟩, List.mem_of_getElem? (i := 17) (by decide +kernel), List.mem_of_getElem? (i := 833) (by decide +kernel), List.mem_of_getElem? (i := 834) (by decide +kernel)⟩
theorem lw_p8 : lw_okq (⟨"OnionCourt", "mostTrue", "(II)I"⟩, 14) := ⟨⟨by decide +kernel, by decide +kernel⟩, List.mem_of_getElem? (i := 17) (by decide +kernel), List.mem_of_getElem? (i := 894) (by decide +kernel), List.mem_of_getElem? (i := 895) (by decide +kernel)⟩
theorem lw_p9 : lw_okq (⟨"OnionCourt", "canBoth", "(III)Z"⟩, 14) := ⟨⟨by decide +kernel, by decide +kernel⟩, List.mem_of_getElem? (i := 17) (by decide +kernel), List.mem_of_getElem? (i := 898) (by decide +kernel), List.mem_of_getElem? (i := 899) (by decide +kernel)⟩
theorem lw_p10 : lw_okq (⟨"OnionCourt", "isTogether", "(II)Z"⟩, 14) := ⟨⟨by decide +kernel, by decide +kernel⟩, List.mem_of_getElem? (i := 17) (by decide +kernel), List.mem_of_getElem? (i := 909) (by decide +kernel), List.mem_of_getElem? (i := 910) (by decide +kernel)⟩
theorem lw_p11 : lw_okq (⟨"OnionCourt$Boxes", "place", "(III)Z"⟩, 5) := ⟨⟨by decide +kernel, by decide +kernel⟩, List.mem_of_getElem? (i := 222) (by decide +kernel), List.mem_of_getElem? (i := 927) (by decide +kernel), List.mem_of_getElem? (i := 928) (by decide +kernel)⟩
theorem lw_p12 : lw_okq (⟨"OnionCourt$Exchange", "give", "(III)V"⟩, 7) := ⟨⟨by decide +kernel, by decide +kernel⟩, List.mem_of_getElem? (i := 244) (by decide +kernel), List.mem_of_getElem? (i := 956) (by decide +kernel), List.mem_of_getElem? (i := 957) (by decide +kernel)⟩
theorem lw_p13 : lw_okq (⟨"OnionCourt$Exchange", "note", "(I)V"⟩, 7) := ⟨⟨by decide +kernel, by decide +kernel⟩, List.mem_of_getElem? (i := 244) (by decide +kernel), List.mem_of_getElem? (i := 960) (by decide +kernel), List.mem_of_getElem? (i := 961) (by decide +kernel)⟩
theorem lw_p14 : lw_okq (⟨"OnionCourtModel", "types", "(I)V"⟩, 52) := ⟨⟨by decide +kernel, by decide +kernel⟩, List.mem_of_getElem? (i := 1018) (by decide +kernel), List.mem_of_getElem? (i := 1197) (by decide +kernel), List.mem_of_getElem? (i := 1198) (by decide +kernel)⟩
theorem lw_p15 : lw_okq (⟨"OnionCourtModel", "beginsText", "(I)V"⟩, 52) := ⟨⟨by decide +kernel, by decide +kernel⟩, List.mem_of_getElem? (i := 1018) (by decide +kernel), List.mem_of_getElem? (i := 1205) (by decide +kernel), List.mem_of_getElem? (i := 1206) (by decide +kernel)⟩
def lw_privs_1 : List (MethodName × Nat) := [(⟨"OnionCourt$Witness", "item", "(LOnionCourt$Tape;)V"⟩, 4), (⟨"OnionCourt$Archive", "line", "(LOnionCourt$Tape;LOnionCourt$Questions;)V"⟩, 7), (⟨"OnionCourt$Archive", "whatIsWrongWith", "(I)I"⟩, 7), (⟨"OnionCourt$Archive", "live", "(ILOnionCourt$Law;LOnionCourt$Case;)V"⟩, 7), (⟨"OnionCourt$Law", "run", "(IILOnionCourt$Case;)J"⟩, 9), (⟨"OnionCourt", "canWeigh", "(I)Z"⟩, 14), (⟨"OnionCourt", "weigh", "(I)V"⟩, 14), (⟨"OnionCourt", "mostOpen", "()I"⟩, 14), (⟨"OnionCourt", "mostTrue", "(II)I"⟩, 14), (⟨"OnionCourt", "canBoth", "(III)Z"⟩, 14), (⟨"OnionCourt", "isTogether", "(II)Z"⟩, 14), (⟨"OnionCourt$Boxes", "place", "(III)Z"⟩, 5), (⟨"OnionCourt$Exchange", "give", "(III)V"⟩, 7), (⟨"OnionCourt$Exchange", "note", "(I)V"⟩, 7), (⟨"OnionCourtModel", "types", "(I)V"⟩, 52), (⟨"OnionCourtModel", "beginsText", "(I)V"⟩, 52)]
theorem lw_r1 : ∀ q ∈ lw_privs_1, lw_okq q := List.forall_mem_cons.mpr ⟨lw_p0, List.forall_mem_cons.mpr ⟨lw_p1, List.forall_mem_cons.mpr ⟨lw_p2, List.forall_mem_cons.mpr ⟨lw_p3, List.forall_mem_cons.mpr ⟨lw_p4, List.forall_mem_cons.mpr ⟨lw_p5, List.forall_mem_cons.mpr ⟨lw_p6, List.forall_mem_cons.mpr ⟨lw_p7, List.forall_mem_cons.mpr ⟨lw_p8, List.forall_mem_cons.mpr ⟨lw_p9, List.forall_mem_cons.mpr ⟨lw_p10, List.forall_mem_cons.mpr ⟨lw_p11, List.forall_mem_cons.mpr ⟨lw_p12, List.forall_mem_cons.mpr ⟨lw_p13, List.forall_mem_cons.mpr ⟨lw_p14, List.forall_mem_cons.mpr ⟨lw_p15, fun _ h => absurd h List.not_mem_nil⟩⟩⟩⟩⟩⟩⟩⟩⟩⟩⟩⟩⟩⟩⟩⟩
theorem lw_p16 : lw_okq (⟨"OnionCourtModel", "readsRule", "()Z"⟩, 52) := ⟨⟨by decide +kernel, by decide +kernel⟩, List.mem_of_getElem? (i := 1018) (by decide +kernel), List.mem_of_getElem? (i := 1209) (by decide +kernel), List.mem_of_getElem? (i := 1210) (by decide +kernel)⟩
theorem lw_p17 : lw_okq (⟨"OnionCourtModel", "here", "()I"⟩, 52) := ⟨⟨by decide +kernel, by decide +kernel⟩, List.mem_of_getElem? (i := 1018) (by decide +kernel), List.mem_of_getElem? (i := 1213) (by decide +kernel), List.mem_of_getElem? (i := 1214) (by decide +kernel)⟩
theorem lw_p18 : lw_okq (⟨"OnionCourtModel", "wrongAt", "(II)Z"⟩, 52) := ⟨⟨by decide +kernel, by decide +kernel⟩, List.mem_of_getElem? (i := 1018) (by decide +kernel), List.mem_of_getElem? (i := 1217) (by decide +kernel), List.mem_of_getElem? (i := 1218) (by decide +kernel)⟩
theorem lw_p19 : lw_okq (⟨"OnionCourtModel", "readsSum", "()Z"⟩, 52) := ⟨⟨by decide +kernel, by decide +kernel⟩, List.mem_of_getElem? (i := 1018) (by decide +kernel), List.mem_of_getElem? (i := 1221) (by decide +kernel), List.mem_of_getElem? (i := 1222) (by decide +kernel)⟩
theorem lw_p20 : lw_okq (⟨"OnionCourtModel", "readsFactor", "()Z"⟩, 52) := ⟨⟨by decide +kernel, by decide +kernel⟩, List.mem_of_getElem? (i := 1018) (by decide +kernel), List.mem_of_getElem? (i := 1225) (by decide +kernel), List.mem_of_getElem? (i := 1226) (by decide +kernel)⟩
theorem lw_p21 : lw_okq (⟨"OnionCourtModel", "opens", "(I)Z"⟩, 52) := ⟨⟨by decide +kernel, by decide +kernel⟩, List.mem_of_getElem? (i := 1018) (by decide +kernel), List.mem_of_getElem? (i := 1229) (by decide +kernel), List.mem_of_getElem? (i := 1230) (by decide +kernel)⟩
theorem lw_p22 : lw_okq (⟨"OnionCourtModel", "isDigit", "()Z"⟩, 52) := ⟨⟨by decide +kernel, by decide +kernel⟩, List.mem_of_getElem? (i := 1018) (by decide +kernel), List.mem_of_getElem? (i := 1234) (by decide +kernel), List.mem_of_getElem? (i := 1235) (by decide +kernel)⟩
theorem lw_p23 : lw_okq (⟨"OnionCourtModel", "readsNumber", "()Z"⟩, 52) := ⟨⟨by decide +kernel, by decide +kernel⟩, List.mem_of_getElem? (i := 1018) (by decide +kernel), List.mem_of_getElem? (i := 1238) (by decide +kernel), List.mem_of_getElem? (i := 1239) (by decide +kernel)⟩
theorem lw_p24 : lw_okq (⟨"OnionCourtModel", "notes", "(II)V"⟩, 52) := ⟨⟨by decide +kernel, by decide +kernel⟩, List.mem_of_getElem? (i := 1018) (by decide +kernel), List.mem_of_getElem? (i := 1242) (by decide +kernel), List.mem_of_getElem? (i := 1243) (by decide +kernel)⟩
theorem lw_p25 : lw_okq (⟨"OnionCourtModel", "closesSums", "(Z)V"⟩, 52) := ⟨⟨by decide +kernel, by decide +kernel⟩, List.mem_of_getElem? (i := 1018) (by decide +kernel), List.mem_of_getElem? (i := 1252) (by decide +kernel), List.mem_of_getElem? (i := 1253) (by decide +kernel)⟩
theorem lw_p26 : lw_okq (⟨"OnionCourtModel", "waitTop", "()I"⟩, 52) := ⟨⟨by decide +kernel, by decide +kernel⟩, List.mem_of_getElem? (i := 1018) (by decide +kernel), List.mem_of_getElem? (i := 1256) (by decide +kernel), List.mem_of_getElem? (i := 1257) (by decide +kernel)⟩
theorem lw_p27 : lw_okq (⟨"OnionCourtModel", "hasOpenSum", "(I)Z"⟩, 52) := ⟨⟨by decide +kernel, by decide +kernel⟩, List.mem_of_getElem? (i := 1018) (by decide +kernel), List.mem_of_getElem? (i := 1260) (by decide +kernel), List.mem_of_getElem? (i := 1261) (by decide +kernel)⟩
theorem lw_p28 : lw_okq (⟨"OnionCourtModel", "readsCondition", "()Z"⟩, 52) := ⟨⟨by decide +kernel, by decide +kernel⟩, List.mem_of_getElem? (i := 1018) (by decide +kernel), List.mem_of_getElem? (i := 1264) (by decide +kernel), List.mem_of_getElem? (i := 1265) (by decide +kernel)⟩
theorem lw_p29 : lw_okq (⟨"OnionCourtModel", "readsCompared", "()Z"⟩, 52) := ⟨⟨by decide +kernel, by decide +kernel⟩, List.mem_of_getElem? (i := 1018) (by decide +kernel), List.mem_of_getElem? (i := 1268) (by decide +kernel), List.mem_of_getElem? (i := 1269) (by decide +kernel)⟩
theorem lw_p30 : lw_okq (⟨"OnionCourtModel", "endsPiece", "()V"⟩, 52) := ⟨⟨by decide +kernel, by decide +kernel⟩, List.mem_of_getElem? (i := 1018) (by decide +kernel), List.mem_of_getElem? (i := 1272) (by decide +kernel), List.mem_of_getElem? (i := 1273) (by decide +kernel)⟩
theorem lw_p31 : lw_okq (⟨"OnionCourtModel", "lands", "(Z)V"⟩, 52) := ⟨⟨by decide +kernel, by decide +kernel⟩, List.mem_of_getElem? (i := 1018) (by decide +kernel), List.mem_of_getElem? (i := 1276) (by decide +kernel), List.mem_of_getElem? (i := 1277) (by decide +kernel)⟩
def lw_privs_2 : List (MethodName × Nat) := [(⟨"OnionCourtModel", "readsRule", "()Z"⟩, 52), (⟨"OnionCourtModel", "here", "()I"⟩, 52), (⟨"OnionCourtModel", "wrongAt", "(II)Z"⟩, 52), (⟨"OnionCourtModel", "readsSum", "()Z"⟩, 52), (⟨"OnionCourtModel", "readsFactor", "()Z"⟩, 52), (⟨"OnionCourtModel", "opens", "(I)Z"⟩, 52), (⟨"OnionCourtModel", "isDigit", "()Z"⟩, 52), (⟨"OnionCourtModel", "readsNumber", "()Z"⟩, 52), (⟨"OnionCourtModel", "notes", "(II)V"⟩, 52), (⟨"OnionCourtModel", "closesSums", "(Z)V"⟩, 52), (⟨"OnionCourtModel", "waitTop", "()I"⟩, 52), (⟨"OnionCourtModel", "hasOpenSum", "(I)Z"⟩, 52), (⟨"OnionCourtModel", "readsCondition", "()Z"⟩, 52), (⟨"OnionCourtModel", "readsCompared", "()Z"⟩, 52), (⟨"OnionCourtModel", "endsPiece", "()V"⟩, 52), (⟨"OnionCourtModel", "lands", "(Z)V"⟩, 52)]
theorem lw_r2 : ∀ q ∈ lw_privs_2, lw_okq q := List.forall_mem_cons.mpr ⟨lw_p16, List.forall_mem_cons.mpr ⟨lw_p17, List.forall_mem_cons.mpr ⟨lw_p18, List.forall_mem_cons.mpr ⟨lw_p19, List.forall_mem_cons.mpr ⟨lw_p20, List.forall_mem_cons.mpr ⟨lw_p21, List.forall_mem_cons.mpr ⟨lw_p22, List.forall_mem_cons.mpr ⟨lw_p23, List.forall_mem_cons.mpr ⟨lw_p24, List.forall_mem_cons.mpr ⟨lw_p25, List.forall_mem_cons.mpr ⟨lw_p26, List.forall_mem_cons.mpr ⟨lw_p27, List.forall_mem_cons.mpr ⟨lw_p28, List.forall_mem_cons.mpr ⟨lw_p29, List.forall_mem_cons.mpr ⟨lw_p30, List.forall_mem_cons.mpr ⟨lw_p31, fun _ h => absurd h List.not_mem_nil⟩⟩⟩⟩⟩⟩⟩⟩⟩⟩⟩⟩⟩⟩⟩⟩
theorem lw_p32 : lw_okq (⟨"OnionCourtModel", "jumps", "(I)V"⟩, 52) := ⟨⟨by decide +kernel, by decide +kernel⟩, List.mem_of_getElem? (i := 1018) (by decide +kernel), List.mem_of_getElem? (i := 1280) (by decide +kernel), List.mem_of_getElem? (i := 1281) (by decide +kernel)⟩
theorem lw_p33 : lw_okq (⟨"OnionCourtModel", "takes", "(I)Z"⟩, 52) := ⟨⟨by decide +kernel, by decide +kernel⟩, List.mem_of_getElem? (i := 1018) (by decide +kernel), List.mem_of_getElem? (i := 1284) (by decide +kernel), List.mem_of_getElem? (i := 1285) (by decide +kernel)⟩
theorem lw_p34 : lw_okq (⟨"OnionCourtModel", "readsTruth", "()Z"⟩, 52) := ⟨⟨by decide +kernel, by decide +kernel⟩, List.mem_of_getElem? (i := 1018) (by decide +kernel), List.mem_of_getElem? (i := 1292) (by decide +kernel), List.mem_of_getElem? (i := 1293) (by decide +kernel)⟩
theorem lw_p35 : lw_okq (⟨"OnionCourtModel", "endsTruth", "()V"⟩, 52) := ⟨⟨by decide +kernel, by decide +kernel⟩, List.mem_of_getElem? (i := 1018) (by decide +kernel), List.mem_of_getElem? (i := 1303) (by decide +kernel), List.mem_of_getElem? (i := 1304) (by decide +kernel)⟩
theorem lw_p36 : lw_okq (⟨"OnionCourtModel", "lastSign", "()I"⟩, 52) := ⟨⟨by decide +kernel, by decide +kernel⟩, List.mem_of_getElem? (i := 1018) (by decide +kernel), List.mem_of_getElem? (i := 1307) (by decide +kernel), List.mem_of_getElem? (i := 1308) (by decide +kernel)⟩
theorem lw_p37 : lw_okq (⟨"OnionCourtModel", "joinsLast", "()V"⟩, 52) := ⟨⟨by decide +kernel, by decide +kernel⟩, List.mem_of_getElem? (i := 1018) (by decide +kernel), List.mem_of_getElem? (i := 1311) (by decide +kernel), List.mem_of_getElem? (i := 1312) (by decide +kernel)⟩
theorem lw_p38 : lw_okq (⟨"OnionCourtModel", "waitsFor", "(I)V"⟩, 52) := ⟨⟨by decide +kernel, by decide +kernel⟩, List.mem_of_getElem? (i := 1018) (by decide +kernel), List.mem_of_getElem? (i := 1316) (by decide +kernel), List.mem_of_getElem? (i := 1317) (by decide +kernel)⟩
theorem lw_p39 : lw_okq (⟨"OnionCourtModel", "readsSign", "()Z"⟩, 52) := ⟨⟨by decide +kernel, by decide +kernel⟩, List.mem_of_getElem? (i := 1018) (by decide +kernel), List.mem_of_getElem? (i := 1320) (by decide +kernel), List.mem_of_getElem? (i := 1321) (by decide +kernel)⟩
theorem lw_p40 : lw_okq (⟨"OnionCourtModel", "joinsTo", "(I)V"⟩, 52) := ⟨⟨by decide +kernel, by decide +kernel⟩, List.mem_of_getElem? (i := 1018) (by decide +kernel), List.mem_of_getElem? (i := 1324) (by decide +kernel), List.mem_of_getElem? (i := 1325) (by decide +kernel)⟩
theorem lw_p41 : lw_okq (⟨"OnionCourtModel", "isWitness", "(I)Z"⟩, 52) := ⟨⟨by decide +kernel, by decide +kernel⟩, List.mem_of_getElem? (i := 1018) (by decide +kernel), List.mem_of_getElem? (i := 1335) (by decide +kernel), List.mem_of_getElem? (i := 1336) (by decide +kernel)⟩
theorem lw_p42 : lw_okq (⟨"OnionCourtModel", "readsItem", "()Z"⟩, 52) := ⟨⟨by decide +kernel, by decide +kernel⟩, List.mem_of_getElem? (i := 1018) (by decide +kernel), List.mem_of_getElem? (i := 1339) (by decide +kernel), List.mem_of_getElem? (i := 1340) (by decide +kernel)⟩
theorem lw_p43 : lw_okq (⟨"OnionCourtModel", "readsLine", "()Z"⟩, 52) := ⟨⟨by decide +kernel, by decide +kernel⟩, List.mem_of_getElem? (i := 1018) (by decide +kernel), List.mem_of_getElem? (i := 1347) (by decide +kernel), List.mem_of_getElem? (i := 1348) (by decide +kernel)⟩
theorem lw_p44 : lw_okq (⟨"OnionCourtModel", "isQuestion", "(I)Z"⟩, 52) := ⟨⟨by decide +kernel, by decide +kernel⟩, List.mem_of_getElem? (i := 1018) (by decide +kernel), List.mem_of_getElem? (i := 1351) (by decide +kernel), List.mem_of_getElem? (i := 1352) (by decide +kernel)⟩
theorem lw_p45 : lw_okq (⟨"OnionCourtModel", "answersNow", "(IIII)I"⟩, 52) := ⟨⟨by decide +kernel, by decide +kernel⟩, List.mem_of_getElem? (i := 1018) (by decide +kernel), List.mem_of_getElem? (i := 1355) (by decide +kernel), List.mem_of_getElem? (i := 1356) (by decide +kernel)⟩
theorem lw_p46 : lw_okq (⟨"OnionCourtModel", "layerOf", "(II)I"⟩, 52) := ⟨⟨by decide +kernel, by decide +kernel⟩, List.mem_of_getElem? (i := 1018) (by decide +kernel), List.mem_of_getElem? (i := 1359) (by decide +kernel), List.mem_of_getElem? (i := 1360) (by decide +kernel)⟩
theorem lw_p47 : lw_okq (⟨"OnionCourtModel", "weeksGo", "(I)V"⟩, 52) := ⟨⟨by decide +kernel, by decide +kernel⟩, List.mem_of_getElem? (i := 1018) (by decide +kernel), List.mem_of_getElem? (i := 1375) (by decide +kernel), List.mem_of_getElem? (i := 1376) (by decide +kernel)⟩
def lw_privs_3 : List (MethodName × Nat) := [(⟨"OnionCourtModel", "jumps", "(I)V"⟩, 52), (⟨"OnionCourtModel", "takes", "(I)Z"⟩, 52), (⟨"OnionCourtModel", "readsTruth", "()Z"⟩, 52), (⟨"OnionCourtModel", "endsTruth", "()V"⟩, 52), (⟨"OnionCourtModel", "lastSign", "()I"⟩, 52), (⟨"OnionCourtModel", "joinsLast", "()V"⟩, 52), (⟨"OnionCourtModel", "waitsFor", "(I)V"⟩, 52), (⟨"OnionCourtModel", "readsSign", "()Z"⟩, 52), (⟨"OnionCourtModel", "joinsTo", "(I)V"⟩, 52), (⟨"OnionCourtModel", "isWitness", "(I)Z"⟩, 52), (⟨"OnionCourtModel", "readsItem", "()Z"⟩, 52), (⟨"OnionCourtModel", "readsLine", "()Z"⟩, 52), (⟨"OnionCourtModel", "isQuestion", "(I)Z"⟩, 52), (⟨"OnionCourtModel", "answersNow", "(IIII)I"⟩, 52), (⟨"OnionCourtModel", "layerOf", "(II)I"⟩, 52), (⟨"OnionCourtModel", "weeksGo", "(I)V"⟩, 52)]
theorem lw_r3 : ∀ q ∈ lw_privs_3, lw_okq q := List.forall_mem_cons.mpr ⟨lw_p32, List.forall_mem_cons.mpr ⟨lw_p33, List.forall_mem_cons.mpr ⟨lw_p34, List.forall_mem_cons.mpr ⟨lw_p35, List.forall_mem_cons.mpr ⟨lw_p36, List.forall_mem_cons.mpr ⟨lw_p37, List.forall_mem_cons.mpr ⟨lw_p38, List.forall_mem_cons.mpr ⟨lw_p39, List.forall_mem_cons.mpr ⟨lw_p40, List.forall_mem_cons.mpr ⟨lw_p41, List.forall_mem_cons.mpr ⟨lw_p42, List.forall_mem_cons.mpr ⟨lw_p43, List.forall_mem_cons.mpr ⟨lw_p44, List.forall_mem_cons.mpr ⟨lw_p45, List.forall_mem_cons.mpr ⟨lw_p46, List.forall_mem_cons.mpr ⟨lw_p47, fun _ h => absurd h List.not_mem_nil⟩⟩⟩⟩⟩⟩⟩⟩⟩⟩⟩⟩⟩⟩⟩⟩
theorem lw_p48 : lw_okq (⟨"OnionCourtModel", "weekGoes", "()V"⟩, 52) := ⟨⟨by decide +kernel, by decide +kernel⟩, List.mem_of_getElem? (i := 1018) (by decide +kernel), List.mem_of_getElem? (i := 1379) (by decide +kernel), List.mem_of_getElem? (i := 1380) (by decide +kernel)⟩
theorem lw_p49 : lw_okq (⟨"OnionCourtModel", "grows", "(I)V"⟩, 52) := ⟨⟨by decide +kernel, by decide +kernel⟩, List.mem_of_getElem? (i := 1018) (by decide +kernel), List.mem_of_getElem? (i := 1383) (by decide +kernel), List.mem_of_getElem? (i := 1384) (by decide +kernel)⟩
theorem lw_p50 : lw_okq (⟨"OnionCourtModel", "feels", "(IIIII)V"⟩, 52) := ⟨⟨by decide +kernel, by decide +kernel⟩, List.mem_of_getElem? (i := 1018) (by decide +kernel), List.mem_of_getElem? (i := 1387) (by decide +kernel), List.mem_of_getElem? (i := 1388) (by decide +kernel)⟩
theorem lw_p51 : lw_okq (⟨"OnionCourtModel", "byLaw", "(II)I"⟩, 52) := ⟨⟨by decide +kernel, by decide +kernel⟩, List.mem_of_getElem? (i := 1018) (by decide +kernel), List.mem_of_getElem? (i := 1391) (by decide +kernel), List.mem_of_getElem? (i := 1392) (by decide +kernel)⟩
theorem lw_p52 : lw_okq (⟨"OnionCourtModel", "comesTo", "(II)I"⟩, 52) := ⟨⟨by decide +kernel, by decide +kernel⟩, List.mem_of_getElem? (i := 1018) (by decide +kernel), List.mem_of_getElem? (i := 1395) (by decide +kernel), List.mem_of_getElem? (i := 1396) (by decide +kernel)⟩
theorem lw_p53 : lw_okq (⟨"OnionCourtModel", "maySprout", "(I)V"⟩, 52) := ⟨⟨by decide +kernel, by decide +kernel⟩, List.mem_of_getElem? (i := 1018) (by decide +kernel), List.mem_of_getElem? (i := 1408) (by decide +kernel), List.mem_of_getElem? (i := 1409) (by decide +kernel)⟩
theorem lw_p54 : lw_okq (⟨"OnionCourtModel", "together", "(I)I"⟩, 52) := ⟨⟨by decide +kernel, by decide +kernel⟩, List.mem_of_getElem? (i := 1018) (by decide +kernel), List.mem_of_getElem? (i := 1420) (by decide +kernel), List.mem_of_getElem? (i := 1421) (by decide +kernel)⟩
theorem lw_p55 : lw_okq (⟨"OnionCourtModel", "tearsOf", "(II)I"⟩, 52) := ⟨⟨by decide +kernel, by decide +kernel⟩, List.mem_of_getElem? (i := 1018) (by decide +kernel), List.mem_of_getElem? (i := 1428) (by decide +kernel), List.mem_of_getElem? (i := 1429) (by decide +kernel)⟩
theorem lw_p56 : lw_okq (⟨"OnionCourtModel", "answersOf", "(I)I"⟩, 52) := ⟨⟨by decide +kernel, by decide +kernel⟩, List.mem_of_getElem? (i := 1018) (by decide +kernel), List.mem_of_getElem? (i := 1432) (by decide +kernel), List.mem_of_getElem? (i := 1433) (by decide +kernel)⟩
theorem lw_p57 : lw_okq (⟨"OnionCourtModel", "areWeighed", "(I)Z"⟩, 52) := ⟨⟨by decide +kernel, by decide +kernel⟩, List.mem_of_getElem? (i := 1018) (by decide +kernel), List.mem_of_getElem? (i := 1444) (by decide +kernel), List.mem_of_getElem? (i := 1445) (by decide +kernel)⟩
theorem lw_p58 : lw_okq (⟨"OnionCourtModel", "areAnswers", "(I)Z"⟩, 52) := ⟨⟨by decide +kernel, by decide +kernel⟩, List.mem_of_getElem? (i := 1018) (by decide +kernel), List.mem_of_getElem? (i := 1448) (by decide +kernel), List.mem_of_getElem? (i := 1449) (by decide +kernel)⟩
theorem lw_p59 : lw_okq (⟨"OnionCourtModel", "oddsOf", "(JII)J"⟩, 52) := ⟨⟨by decide +kernel, by decide +kernel⟩, List.mem_of_getElem? (i := 1018) (by decide +kernel), List.mem_of_getElem? (i := 1452) (by decide +kernel), List.mem_of_getElem? (i := 1453) (by decide +kernel)⟩
theorem lw_p60 : lw_okq (⟨"OnionCourtModel", "weighs", "(I)J"⟩, 52) := ⟨⟨by decide +kernel, by decide +kernel⟩, List.mem_of_getElem? (i := 1018) (by decide +kernel), List.mem_of_getElem? (i := 1456) (by decide +kernel), List.mem_of_getElem? (i := 1457) (by decide +kernel)⟩
theorem lw_p61 : lw_okq (⟨"OnionCourtModel", "weighsBy", "(II)J"⟩, 52) := ⟨⟨by decide +kernel, by decide +kernel⟩, List.mem_of_getElem? (i := 1018) (by decide +kernel), List.mem_of_getElem? (i := 1460) (by decide +kernel), List.mem_of_getElem? (i := 1461) (by decide +kernel)⟩
theorem lw_p62 : lw_okq (⟨"OnionCourtModel", "weightIn", "(J)J"⟩, 52) := ⟨⟨by decide +kernel, by decide +kernel⟩, List.mem_of_getElem? (i := 1018) (by decide +kernel), List.mem_of_getElem? (i := 1465) (by decide +kernel), List.mem_of_getElem? (i := 1466) (by decide +kernel)⟩
theorem lw_p63 : lw_okq (⟨"OnionCourtModel", "fitsOf", "(I)J"⟩, 52) := ⟨⟨by decide +kernel, by decide +kernel⟩, List.mem_of_getElem? (i := 1018) (by decide +kernel), List.mem_of_getElem? (i := 1476) (by decide +kernel), List.mem_of_getElem? (i := 1477) (by decide +kernel)⟩
def lw_privs_4 : List (MethodName × Nat) := [(⟨"OnionCourtModel", "weekGoes", "()V"⟩, 52), (⟨"OnionCourtModel", "grows", "(I)V"⟩, 52), (⟨"OnionCourtModel", "feels", "(IIIII)V"⟩, 52), (⟨"OnionCourtModel", "byLaw", "(II)I"⟩, 52), (⟨"OnionCourtModel", "comesTo", "(II)I"⟩, 52), (⟨"OnionCourtModel", "maySprout", "(I)V"⟩, 52), (⟨"OnionCourtModel", "together", "(I)I"⟩, 52), (⟨"OnionCourtModel", "tearsOf", "(II)I"⟩, 52), (⟨"OnionCourtModel", "answersOf", "(I)I"⟩, 52), (⟨"OnionCourtModel", "areWeighed", "(I)Z"⟩, 52), (⟨"OnionCourtModel", "areAnswers", "(I)Z"⟩, 52), (⟨"OnionCourtModel", "oddsOf", "(JII)J"⟩, 52), (⟨"OnionCourtModel", "weighs", "(I)J"⟩, 52), (⟨"OnionCourtModel", "weighsBy", "(II)J"⟩, 52), (⟨"OnionCourtModel", "weightIn", "(J)J"⟩, 52), (⟨"OnionCourtModel", "fitsOf", "(I)J"⟩, 52)]
theorem lw_r4 : ∀ q ∈ lw_privs_4, lw_okq q := List.forall_mem_cons.mpr ⟨lw_p48, List.forall_mem_cons.mpr ⟨lw_p49, List.forall_mem_cons.mpr ⟨lw_p50, List.forall_mem_cons.mpr ⟨lw_p51, List.forall_mem_cons.mpr ⟨lw_p52, List.forall_mem_cons.mpr ⟨lw_p53, List.forall_mem_cons.mpr ⟨lw_p54, List.forall_mem_cons.mpr ⟨lw_p55, List.forall_mem_cons.mpr ⟨lw_p56, List.forall_mem_cons.mpr ⟨lw_p57, List.forall_mem_cons.mpr ⟨lw_p58, List.forall_mem_cons.mpr ⟨lw_p59, List.forall_mem_cons.mpr ⟨lw_p60, List.forall_mem_cons.mpr ⟨lw_p61, List.forall_mem_cons.mpr ⟨lw_p62, List.forall_mem_cons.mpr ⟨lw_p63, fun _ h => absurd h List.not_mem_nil⟩⟩⟩⟩⟩⟩⟩⟩⟩⟩⟩⟩⟩⟩⟩⟩
theorem lw_p64 : lw_okq (⟨"OnionCourtModel", "fitsAll", "(I)J"⟩, 52) := ⟨⟨by decide +kernel, by decide +kernel⟩, List.mem_of_getElem? (i := 1018) (by decide +kernel), List.mem_of_getElem? (i := 1493) (by decide +kernel), List.mem_of_getElem? (i := 1494) (by decide +kernel)⟩
theorem lw_p65 : lw_okq (⟨"OnionCourtModel", "answersWithout", "(I)I"⟩, 52) := ⟨⟨by decide +kernel, by decide +kernel⟩, List.mem_of_getElem? (i := 1018) (by decide +kernel), List.mem_of_getElem? (i := 1501) (by decide +kernel), List.mem_of_getElem? (i := 1502) (by decide +kernel)⟩
theorem lw_p66 : lw_okq (⟨"OnionCourtModel", "lastOf", "(II)I"⟩, 52) := ⟨⟨by decide +kernel, by decide +kernel⟩, List.mem_of_getElem? (i := 1018) (by decide +kernel), List.mem_of_getElem? (i := 1517) (by decide +kernel), List.mem_of_getElem? (i := 1518) (by decide +kernel)⟩
theorem lw_p67 : lw_okq (⟨"OnionCourtModel", "areAllTrue", "(III)Z"⟩, 52) := ⟨⟨by decide +kernel, by decide +kernel⟩, List.mem_of_getElem? (i := 1018) (by decide +kernel), List.mem_of_getElem? (i := 1529) (by decide +kernel), List.mem_of_getElem? (i := 1530) (by decide +kernel)⟩
theorem lw_p68 : lw_okq (⟨"OnionCourtModel", "areTrue", "(III)Z"⟩, 52) := ⟨⟨by decide +kernel, by decide +kernel⟩, List.mem_of_getElem? (i := 1018) (by decide +kernel), List.mem_of_getElem? (i := 1533) (by decide +kernel), List.mem_of_getElem? (i := 1534) (by decide +kernel)⟩
theorem lw_p69 : lw_okq (⟨"OnionCourtModel", "skinOf", "(I)I"⟩, 52) := ⟨⟨by decide +kernel, by decide +kernel⟩, List.mem_of_getElem? (i := 1018) (by decide +kernel), List.mem_of_getElem? (i := 1544) (by decide +kernel), List.mem_of_getElem? (i := 1545) (by decide +kernel)⟩
theorem lw_p70 : lw_okq (⟨"OnionCourtModel", "laysBoxes", "(III)Z"⟩, 52) := ⟨⟨by decide +kernel, by decide +kernel⟩, List.mem_of_getElem? (i := 1018) (by decide +kernel), List.mem_of_getElem? (i := 1548) (by decide +kernel), List.mem_of_getElem? (i := 1549) (by decide +kernel)⟩
theorem lw_p71 : lw_okq (⟨"OnionCourtModel", "begunBy", "(I)I"⟩, 52) := ⟨⟨by decide +kernel, by decide +kernel⟩, List.mem_of_getElem? (i := 1018) (by decide +kernel), List.mem_of_getElem? (i := 1552) (by decide +kernel), List.mem_of_getElem? (i := 1553) (by decide +kernel)⟩
theorem lw_p72 : lw_okq (⟨"OnionCourtModel", "readsRow", "(II)Z"⟩, 52) := ⟨⟨by decide +kernel, by decide +kernel⟩, List.mem_of_getElem? (i := 1018) (by decide +kernel), List.mem_of_getElem? (i := 1560) (by decide +kernel), List.mem_of_getElem? (i := 1561) (by decide +kernel)⟩
theorem lw_p73 : lw_okq (⟨"OnionCourtModel", "worthOfRow", "(I)I"⟩, 52) := ⟨⟨by decide +kernel, by decide +kernel⟩, List.mem_of_getElem? (i := 1018) (by decide +kernel), List.mem_of_getElem? (i := 1564) (by decide +kernel), List.mem_of_getElem? (i := 1565) (by decide +kernel)⟩
def lw_privs_5 : List (MethodName × Nat) := [(⟨"OnionCourtModel", "fitsAll", "(I)J"⟩, 52), (⟨"OnionCourtModel", "answersWithout", "(I)I"⟩, 52), (⟨"OnionCourtModel", "lastOf", "(II)I"⟩, 52), (⟨"OnionCourtModel", "areAllTrue", "(III)Z"⟩, 52), (⟨"OnionCourtModel", "areTrue", "(III)Z"⟩, 52), (⟨"OnionCourtModel", "skinOf", "(I)I"⟩, 52), (⟨"OnionCourtModel", "laysBoxes", "(III)Z"⟩, 52), (⟨"OnionCourtModel", "begunBy", "(I)I"⟩, 52), (⟨"OnionCourtModel", "readsRow", "(II)Z"⟩, 52), (⟨"OnionCourtModel", "worthOfRow", "(I)I"⟩, 52)]
theorem lw_r5 : ∀ q ∈ lw_privs_5, lw_okq q := List.forall_mem_cons.mpr ⟨lw_p64, List.forall_mem_cons.mpr ⟨lw_p65, List.forall_mem_cons.mpr ⟨lw_p66, List.forall_mem_cons.mpr ⟨lw_p67, List.forall_mem_cons.mpr ⟨lw_p68, List.forall_mem_cons.mpr ⟨lw_p69, List.forall_mem_cons.mpr ⟨lw_p70, List.forall_mem_cons.mpr ⟨lw_p71, List.forall_mem_cons.mpr ⟨lw_p72, List.forall_mem_cons.mpr ⟨lw_p73, fun _ h => absurd h List.not_mem_nil⟩⟩⟩⟩⟩⟩⟩⟩⟩⟩
def lw_privs : List (MethodName × Nat) := lw_privs_1 ++ (lw_privs_2 ++ (lw_privs_3 ++ (lw_privs_4 ++ (lw_privs_5))))
def lw_tbl : List Cond := k2_sels lw_privs ++ tables_1
theorem lw_privs_ok : ∀ q ∈ lw_privs, lw_okq q := by
  show ∀ q ∈ lw_privs_1 ++ (lw_privs_2 ++ (lw_privs_3 ++ (lw_privs_4 ++ (lw_privs_5)))), lw_okq q
  exact List.forall_mem_append.mpr ⟨lw_r1, List.forall_mem_append.mpr ⟨lw_r2, List.forall_mem_append.mpr ⟨lw_r3, List.forall_mem_append.mpr ⟨lw_r4, lw_r5⟩⟩⟩⟩
-- ===== end of PART A; then your names; then what follows =====
end
section
/-! THE CLASSES: names, fields in the order of the words (declaring class, name, descriptor, final), and what the tables say of them. -/
/-- words that stay what they are while the machine warms; the others (one) are not used in the methods -/
def xv_wk : Cond → Bool
  | .arrayClass _ => true
  | .methodLinkNest _ _ _ _ => true
  | .fieldLinkNest _ _ _ _ _ _ => true
  | .privateMethod _ => true
  | .arrayOver (.object _) => true
  | w => w.onTables && w.keeps
def xv_T : List Cond := lw_tbl.map fun w => if xv_wk w = true then w else .tt
theorem xv_T_of {args : Array Value} {s : State} (h : ∀ w ∈ lw_tbl, w.before args s = true) : ∀ w ∈ xv_T, w.before args s = true := by
  intro w hw
  obtain ⟨v, hv, rfl⟩ := List.mem_map.mp hw
  by_cases hk : xv_wk v = true
  · rw [if_pos hk]; exact h v hv
  · rw [if_neg hk]; rfl
theorem xv_wsin {C : String} {T : u_T} {N : Nat} {L : List Nat} (h : ∀ k, k < N → L[k]?.bind (fun i => xv_T[i]?) = some (u_lay C T k)) : ∀ w ∈ u_ws C T N, w ∈ xv_T := by
  intro w hw
  obtain ⟨k, hk, rfl⟩ := List.mem_map.mp hw
  have h1 := h k (List.mem_range.mp hk)
  cases hL : L[k]? with
  | none => rw [hL] at h1; cases h1
  | some i => rw [hL] at h1; exact List.mem_of_getElem? h1
def xf_Mo : u_T := fun k => match k with
  | 0 => ("OnionCourtModel", "now", "[I", true)
  | 1 => ("OnionCourtModel", "aside", "[I", true)
  | 2 => ("OnionCourtModel", "kept", "[I", true)
  | 3 => ("OnionCourtModel", "prior", "[I", true)
  | 4 => ("OnionCourtModel", "holdsIn", "[J", true)
  | 5 => ("OnionCourtModel", "questionSet", "I", false)
  | 6 => ("OnionCourtModel", "tape", "[B", true)
  | 7 => ("OnionCourtModel", "taped", "I", false)
  | 8 => ("OnionCourtModel", "place0", "I", false)
  | 9 => ("OnionCourtModel", "length0", "I", false)
  | 10 => ("OnionCourtModel", "fault", "I", false)
  | 11 => ("OnionCourtModel", "number0", "I", false)
  | 12 => ("OnionCourtModel", "open", "I", false)
  | 13 => ("OnionCourtModel", "codeMany", "I", false)
  | 14 => ("OnionCourtModel", "waiting", "I", false)
  | 15 => ("OnionCourtModel", "saidMany", "I", false)
  | 16 => ("OnionCourtModel", "clauses", "I", false)
  | 17 => ("OnionCourtModel", "said", "[I", true)
  | 18 => ("OnionCourtModel", "waitsAt", "[I", true)
  | 19 => ("OnionCourtModel", "saidLetter", "[I", true)
  | 20 => ("OnionCourtModel", "saidFrom", "[I", true)
  | 21 => ("OnionCourtModel", "saidHalf", "[I", true)
  | 22 => ("OnionCourtModel", "saidTo", "[I", true)
  | 23 => ("OnionCourtModel", "codes", "[I", true)
  | 24 => ("OnionCourtModel", "clauseOf", "[I", true)
  | 25 => ("OnionCourtModel", "codeFrom", "[I", true)
  | 26 => ("OnionCourtModel", "codeHalf", "[I", true)
  | 27 => ("OnionCourtModel", "codeTo", "[I", true)
  | 28 => ("OnionCourtModel", "stack", "[I", true)
  | 29 => ("OnionCourtModel", "facts", "[I", true)
  | 30 => ("OnionCourtModel", "sign", "[I", true)
  | 31 => ("OnionCourtModel", "said0", "[J", true)
  | 32 => ("OnionCourtModel", "signs", "I", false)
  | 33 => ("OnionCourtModel", "sets", "I", false)
  | 34 => ("OnionCourtModel", "opened", "I", false)
  | 35 => ("OnionCourtModel", "isNext", "Z", false)
  | 36 => ("OnionCourtModel", "newLayer", "[I", true)
  | 37 => ("OnionCourtModel", "newMany", "I", false)
  | 38 => ("OnionCourtModel", "lineWho", "[I", true)
  | 39 => ("OnionCourtModel", "lineAsked", "[I", true)
  | 40 => ("OnionCourtModel", "lineTold", "[I", true)
  | 41 => ("OnionCourtModel", "peels", "[I", true)
  | 42 => ("OnionCourtModel", "lines", "I", false)
  | 43 => ("OnionCourtModel", "sprouts", "I", false)
  | 44 => ("OnionCourtModel", "gone", "I", false)
  | 45 => ("OnionCourtModel", "weightOf", "[J", true)
  | 46 => ("OnionCourtModel", "boxOf", "[I", true)
  | 47 => ("OnionCourtModel", "fullOf", "[I", true)
  | 48 => ("OnionCourtModel", "whoOf", "[I", true)
  | 49 => ("OnionCourtModel", "rowNow", "[I", true)
  | 50 => ("OnionCourtModel", "rowBest", "[I", true)
  | _ => ("OnionCourtModel", "isKept", "Z", false)
def xt_Mo : Nat → FieldType := fun k => match k with
  | 0 => .array .int
  | 1 => .array .int
  | 2 => .array .int
  | 3 => .array .int
  | 4 => .array .long
  | 5 => .int
  | 6 => .array .byte
  | 7 => .int
  | 8 => .int
  | 9 => .int
  | 10 => .int
  | 11 => .int
  | 12 => .int
  | 13 => .int
  | 14 => .int
  | 15 => .int
  | 16 => .int
  | 17 => .array .int
  | 18 => .array .int
  | 19 => .array .int
  | 20 => .array .int
  | 21 => .array .int
  | 22 => .array .int
  | 23 => .array .int
  | 24 => .array .int
  | 25 => .array .int
  | 26 => .array .int
  | 27 => .array .int
  | 28 => .array .int
  | 29 => .array .int
  | 30 => .array .int
  | 31 => .array .long
  | 32 => .int
  | 33 => .int
  | 34 => .int
  | 35 => .boolean
  | 36 => .array .int
  | 37 => .int
  | 38 => .array .int
  | 39 => .array .int
  | 40 => .array .int
  | 41 => .array .int
  | 42 => .int
  | 43 => .int
  | 44 => .int
  | 45 => .array .long
  | 46 => .array .int
  | 47 => .array .int
  | 48 => .array .int
  | 49 => .array .int
  | 50 => .array .int
  | _ => .boolean
theorem xn_Mo : ∀ a, a < 52 → ∀ b, b < 52 → a ≠ b → (xf_Mo a).2.1 ≠ (xf_Mo b).2.1 := by decide +kernel
theorem xt_Mo_ok : ∀ k, k < 52 → parseFieldDescriptor (xf_Mo k).2.2.1 = some (xt_Mo k) := by decide +kernel
theorem xi_Mo_ok : ∀ k, k < 52 → ([1149, 1151, 1153, 1155, 1157, 1159, 1161, 1163, 1165, 1167, 1169, 1171, 1173, 1175, 1177, 1179, 1181, 1183, 1185, 1187, 1189, 1191, 1193, 1195, 1197, 1199, 1201, 1203, 1205, 1207, 1209, 1211, 1213, 1215, 1217, 1219, 1221, 1223, 1225, 1227, 1229, 1231, 1233, 1235, 1237, 1239, 1241, 1243, 1245, 1247, 1249, 1251] : List Nat)[k]?.bind (fun i => xv_T[i]?) = some (u_lay "OnionCourtModel" xf_Mo k) := by decide +kernel
theorem xi_Mo : ∀ w ∈ u_ws "OnionCourtModel" xf_Mo 52, w ∈ xv_T := fun w h => xv_wsin (fun k hk => xi_Mo_ok k hk) w h
def xf_Ct : u_T := fun k => match k with
  | 0 => ("OnionCourt", "tape", "LOnionCourt$Tape;", true)
  | 1 => ("OnionCourt", "questions", "LOnionCourt$Questions;", true)
  | 2 => ("OnionCourt", "inForce", "LOnionCourt$Law;", true)
  | 3 => ("OnionCourt", "draft", "LOnionCourt$Law;", true)
  | 4 => ("OnionCourt", "matter", "LOnionCourt$Case;", true)
  | 5 => ("OnionCourt", "scales", "LOnionCourt$Scales;", true)
  | 6 => ("OnionCourt", "now", "LOnionCourt$Archive;", true)
  | 7 => ("OnionCourt", "kept", "LOnionCourt$Archive;", true)
  | 8 => ("OnionCourt", "trial", "LOnionCourt$Archive;", true)
  | 9 => ("OnionCourt", "isKept", "Z", false)
  | 10 => ("OnionCourt", "spare", "LOnionCourt$Witness;", true)
  | 11 => ("OnionCourt", "boxes", "LOnionCourt$Boxes;", true)
  | 12 => ("OnionCourt", "exchange", "LOnionCourt$Exchange;", true)
  | _ => ("OnionCourt", "alibis", "[I", true)
def xt_Ct : Nat → FieldType := fun k => match k with
  | 0 => .object "OnionCourt$Tape"
  | 1 => .object "OnionCourt$Questions"
  | 2 => .object "OnionCourt$Law"
  | 3 => .object "OnionCourt$Law"
  | 4 => .object "OnionCourt$Case"
  | 5 => .object "OnionCourt$Scales"
  | 6 => .object "OnionCourt$Archive"
  | 7 => .object "OnionCourt$Archive"
  | 8 => .object "OnionCourt$Archive"
  | 9 => .boolean
  | 10 => .object "OnionCourt$Witness"
  | 11 => .object "OnionCourt$Boxes"
  | 12 => .object "OnionCourt$Exchange"
  | _ => .array .int
theorem xn_Ct : ∀ a, a < 14 → ∀ b, b < 14 → a ≠ b → (xf_Ct a).2.1 ≠ (xf_Ct b).2.1 := by decide +kernel
theorem xt_Ct_ok : ∀ k, k < 14 → parseFieldDescriptor (xf_Ct k).2.2.1 = some (xt_Ct k) := by decide +kernel
theorem xi_Ct_ok : ∀ k, k < 14 → ([359, 361, 363, 365, 367, 369, 371, 373, 375, 377, 379, 381, 383, 385] : List Nat)[k]?.bind (fun i => xv_T[i]?) = some (u_lay "OnionCourt" xf_Ct k) := by decide +kernel
theorem xi_Ct : ∀ w ∈ u_ws "OnionCourt" xf_Ct 14, w ∈ xv_T := fun w h => xv_wsin (fun k hk => xi_Ct_ok k hk) w h
def xf_Tape : u_T := fun k => match k with
  | 0 => ("OnionCourt$Tape", "bytes", "[I", true)
  | 1 => ("OnionCourt$Tape", "size", "I", false)
  | 2 => ("OnionCourt$Tape", "length", "I", false)
  | 3 => ("OnionCourt$Tape", "place", "I", false)
  | _ => ("OnionCourt$Tape", "fault", "I", false)
def xt_Tape : Nat → FieldType := fun k => match k with
  | 0 => .array .int
  | 1 => .int
  | 2 => .int
  | 3 => .int
  | _ => .int
theorem xn_Tape : ∀ a, a < 5 → ∀ b, b < 5 → a ≠ b → (xf_Tape a).2.1 ≠ (xf_Tape b).2.1 := by decide +kernel
theorem xt_Tape_ok : ∀ k, k < 5 → parseFieldDescriptor (xf_Tape k).2.2.1 = some (xt_Tape k) := by decide +kernel
theorem xi_Tape_ok : ∀ k, k < 5 → ([109, 111, 113, 115, 117] : List Nat)[k]?.bind (fun i => xv_T[i]?) = some (u_lay "OnionCourt$Tape" xf_Tape k) := by decide +kernel
theorem xi_Tape : ∀ w ∈ u_ws "OnionCourt$Tape" xf_Tape 5, w ∈ xv_T := fun w h => xv_wsin (fun k hk => xi_Tape_ok k hk) w h
def xf_Questions : u_T := fun k => match k with
  | 0 => ("OnionCourt$Questions", "worlds", "[I", true)
  | _ => ("OnionCourt$Questions", "told", "I", false)
def xt_Questions : Nat → FieldType := fun k => match k with
  | 0 => .array .int
  | _ => .int
theorem xn_Questions : ∀ a, a < 2 → ∀ b, b < 2 → a ≠ b → (xf_Questions a).2.1 ≠ (xf_Questions b).2.1 := by decide +kernel
theorem xt_Questions_ok : ∀ k, k < 2 → parseFieldDescriptor (xf_Questions k).2.2.1 = some (xt_Questions k) := by decide +kernel
theorem xi_Questions_ok : ∀ k, k < 2 → ([129, 131] : List Nat)[k]?.bind (fun i => xv_T[i]?) = some (u_lay "OnionCourt$Questions" xf_Questions k) := by decide +kernel
theorem xi_Questions : ∀ w ∈ u_ws "OnionCourt$Questions" xf_Questions 2, w ∈ xv_T := fun w h => xv_wsin (fun k hk => xi_Questions_ok k hk) w h
def xf_Law : u_T := fun k => match k with
  | 0 => ("OnionCourt$Law", "steps", "[I", true)
  | 1 => ("OnionCourt$Law", "numbers", "[I", true)
  | 2 => ("OnionCourt$Law", "kinds", "[I", true)
  | 3 => ("OnionCourt$Law", "starts", "[I", true)
  | 4 => ("OnionCourt$Law", "turns", "[I", true)
  | 5 => ("OnionCourt$Law", "ends", "[I", true)
  | 6 => ("OnionCourt$Law", "stack", "[J", true)
  | 7 => ("OnionCourt$Law", "size", "I", false)
  | _ => ("OnionCourt$Law", "rules", "I", false)
def xt_Law : Nat → FieldType := fun k => match k with
  | 0 => .array .int
  | 1 => .array .int
  | 2 => .array .int
  | 3 => .array .int
  | 4 => .array .int
  | 5 => .array .int
  | 6 => .array .long
  | 7 => .int
  | _ => .int
theorem xn_Law : ∀ a, a < 9 → ∀ b, b < 9 → a ≠ b → (xf_Law a).2.1 ≠ (xf_Law b).2.1 := by decide +kernel
theorem xt_Law_ok : ∀ k, k < 9 → parseFieldDescriptor (xf_Law k).2.2.1 = some (xt_Law k) := by decide +kernel
theorem xi_Law_ok : ∀ k, k < 9 → ([149, 151, 153, 155, 157, 159, 161, 163, 165] : List Nat)[k]?.bind (fun i => xv_T[i]?) = some (u_lay "OnionCourt$Law" xf_Law k) := by decide +kernel
theorem xi_Law : ∀ w ∈ u_ws "OnionCourt$Law" xf_Law 9, w ∈ xv_T := fun w h => xv_wsin (fun k hk => xi_Law_ok k hk) w h
def xf_Case : u_T := fun k => match k with
  | 0 => ("OnionCourt$Case", "witness", "I", false)
  | 1 => ("OnionCourt$Case", "honesty", "I", false)
  | 2 => ("OnionCourt$Case", "strength", "I", false)
  | 3 => ("OnionCourt$Case", "layers", "I", false)
  | 4 => ("OnionCourt$Case", "question", "I", false)
  | 5 => ("OnionCourt$Case", "holds", "I", false)
  | 6 => ("OnionCourt$Case", "lies", "I", false)
  | _ => ("OnionCourt$Case", "week", "I", false)
def xt_Case : Nat → FieldType := fun k => match k with
  | 0 => .int
  | 1 => .int
  | 2 => .int
  | 3 => .int
  | 4 => .int
  | 5 => .int
  | 6 => .int
  | _ => .int
theorem xn_Case : ∀ a, a < 8 → ∀ b, b < 8 → a ≠ b → (xf_Case a).2.1 ≠ (xf_Case b).2.1 := by decide +kernel
theorem xt_Case_ok : ∀ k, k < 8 → parseFieldDescriptor (xf_Case k).2.2.1 = some (xt_Case k) := by decide +kernel
theorem xi_Case_ok : ∀ k, k < 8 → ([183, 185, 187, 189, 191, 193, 195, 197] : List Nat)[k]?.bind (fun i => xv_T[i]?) = some (u_lay "OnionCourt$Case" xf_Case k) := by decide +kernel
theorem xi_Case : ∀ w ∈ u_ws "OnionCourt$Case" xf_Case 8, w ∈ xv_T := fun w h => xv_wsin (fun k hk => xi_Case_ok k hk) w h
def xf_Scales : u_T := fun k => match k with
  | 0 => ("OnionCourt$Scales", "tenths", "[I", true)
  | _ => ("OnionCourt$Scales", "weights", "[J", true)
def xt_Scales : Nat → FieldType := fun k => match k with
  | 0 => .array .int
  | _ => .array .long
theorem xn_Scales : ∀ a, a < 2 → ∀ b, b < 2 → a ≠ b → (xf_Scales a).2.1 ≠ (xf_Scales b).2.1 := by decide +kernel
theorem xt_Scales_ok : ∀ k, k < 2 → parseFieldDescriptor (xf_Scales k).2.2.1 = some (xt_Scales k) := by decide +kernel
theorem xi_Scales_ok : ∀ k, k < 2 → ([208, 210] : List Nat)[k]?.bind (fun i => xv_T[i]?) = some (u_lay "OnionCourt$Scales" xf_Scales k) := by decide +kernel
theorem xi_Scales : ∀ w ∈ u_ws "OnionCourt$Scales" xf_Scales 2, w ∈ xv_T := fun w h => xv_wsin (fun k hk => xi_Scales_ok k hk) w h
def xf_Archive : u_T := fun k => match k with
  | 0 => ("OnionCourt$Archive", "witnesses", "[LOnionCourt$Witness;", true)
  | 1 => ("OnionCourt$Archive", "answers", "[LOnionCourt$Answer;", true)
  | 2 => ("OnionCourt$Archive", "said", "I", false)
  | 3 => ("OnionCourt$Archive", "week", "I", false)
  | 4 => ("OnionCourt$Archive", "drawn", "I", false)
  | 5 => ("OnionCourt$Archive", "sprouted", "I", false)
  | _ => ("OnionCourt$Archive", "gone", "I", false)
def xt_Archive : Nat → FieldType := fun k => match k with
  | 0 => .array (.object "OnionCourt$Witness")
  | 1 => .array (.object "OnionCourt$Answer")
  | 2 => .int
  | 3 => .int
  | 4 => .int
  | 5 => .int
  | _ => .int
theorem xn_Archive : ∀ a, a < 7 → ∀ b, b < 7 → a ≠ b → (xf_Archive a).2.1 ≠ (xf_Archive b).2.1 := by decide +kernel
theorem xt_Archive_ok : ∀ k, k < 7 → parseFieldDescriptor (xf_Archive k).2.2.1 = some (xt_Archive k) := by decide +kernel
theorem xi_Archive_ok : ∀ k, k < 7 → ([278, 280, 282, 284, 286, 288, 290] : List Nat)[k]?.bind (fun i => xv_T[i]?) = some (u_lay "OnionCourt$Archive" xf_Archive k) := by decide +kernel
theorem xi_Archive : ∀ w ∈ u_ws "OnionCourt$Archive" xf_Archive 7, w ∈ xv_T := fun w h => xv_wsin (fun k hk => xi_Archive_ok k hk) w h
def xf_Witness : u_T := fun k => match k with
  | 0 => ("OnionCourt$Witness", "strengths", "[I", true)
  | 1 => ("OnionCourt$Witness", "layers", "I", false)
  | 2 => ("OnionCourt$Witness", "honesty", "I", false)
  | _ => ("OnionCourt$Witness", "told", "Z", false)
def xt_Witness : Nat → FieldType := fun k => match k with
  | 0 => .array .int
  | 1 => .int
  | 2 => .int
  | _ => .boolean
theorem xn_Witness : ∀ a, a < 4 → ∀ b, b < 4 → a ≠ b → (xf_Witness a).2.1 ≠ (xf_Witness b).2.1 := by decide +kernel
theorem xt_Witness_ok : ∀ k, k < 4 → parseFieldDescriptor (xf_Witness k).2.2.1 = some (xt_Witness k) := by decide +kernel
theorem xi_Witness_ok : ∀ k, k < 4 → ([232, 234, 236, 238] : List Nat)[k]?.bind (fun i => xv_T[i]?) = some (u_lay "OnionCourt$Witness" xf_Witness k) := by decide +kernel
theorem xi_Witness : ∀ w ∈ u_ws "OnionCourt$Witness" xf_Witness 4, w ∈ xv_T := fun w h => xv_wsin (fun k hk => xi_Witness_ok k hk) w h
def xf_Answer : u_T := fun k => match k with
  | 0 => ("OnionCourt$Answer", "witness", "I", false)
  | 1 => ("OnionCourt$Answer", "question", "I", false)
  | 2 => ("OnionCourt$Answer", "yes", "Z", false)
  | 3 => ("OnionCourt$Answer", "cried", "Z", false)
  | 4 => ("OnionCourt$Answer", "strength", "I", false)
  | 5 => ("OnionCourt$Answer", "layers", "I", false)
  | 6 => ("OnionCourt$Answer", "week", "I", false)
  | _ => ("OnionCourt$Answer", "honesty", "I", false)
def xt_Answer : Nat → FieldType := fun k => match k with
  | 0 => .int
  | 1 => .int
  | 2 => .boolean
  | 3 => .boolean
  | 4 => .int
  | 5 => .int
  | 6 => .int
  | _ => .int
theorem xn_Answer : ∀ a, a < 8 → ∀ b, b < 8 → a ≠ b → (xf_Answer a).2.1 ≠ (xf_Answer b).2.1 := by decide +kernel
theorem xt_Answer_ok : ∀ k, k < 8 → parseFieldDescriptor (xf_Answer k).2.2.1 = some (xt_Answer k) := by decide +kernel
theorem xi_Answer_ok : ∀ k, k < 8 → ([254, 256, 258, 260, 262, 264, 266, 268] : List Nat)[k]?.bind (fun i => xv_T[i]?) = some (u_lay "OnionCourt$Answer" xf_Answer k) := by decide +kernel
theorem xi_Answer : ∀ w ∈ u_ws "OnionCourt$Answer" xf_Answer 8, w ∈ xv_T := fun w h => xv_wsin (fun k hk => xi_Answer_ok k hk) w h
def xf_Boxes : u_T := fun k => match k with
  | 0 => ("OnionCourt$Boxes", "sizes", "[I", true)
  | 1 => ("OnionCourt$Boxes", "row", "[I", true)
  | 2 => ("OnionCourt$Boxes", "loads", "[I", true)
  | 3 => ("OnionCourt$Boxes", "skins", "I", false)
  | _ => ("OnionCourt$Boxes", "room", "I", false)
def xt_Boxes : Nat → FieldType := fun k => match k with
  | 0 => .array .int
  | 1 => .array .int
  | 2 => .array .int
  | 3 => .int
  | _ => .int
theorem xn_Boxes : ∀ a, a < 5 → ∀ b, b < 5 → a ≠ b → (xf_Boxes a).2.1 ≠ (xf_Boxes b).2.1 := by decide +kernel
theorem xt_Boxes_ok : ∀ k, k < 5 → parseFieldDescriptor (xf_Boxes k).2.2.1 = some (xt_Boxes k) := by decide +kernel
theorem xi_Boxes_ok : ∀ k, k < 5 → ([306, 308, 310, 312, 314] : List Nat)[k]?.bind (fun i => xv_T[i]?) = some (u_lay "OnionCourt$Boxes" xf_Boxes k) := by decide +kernel
theorem xi_Boxes : ∀ w ∈ u_ws "OnionCourt$Boxes" xf_Boxes 5, w ∈ xv_T := fun w h => xv_wsin (fun k hk => xi_Boxes_ok k hk) w h
def xf_Exchange : u_T := fun k => match k with
  | 0 => ("OnionCourt$Exchange", "members", "[I", true)
  | 1 => ("OnionCourt$Exchange", "honesties", "[I", true)
  | 2 => ("OnionCourt$Exchange", "onions", "[I", true)
  | 3 => ("OnionCourt$Exchange", "row", "[I", true)
  | 4 => ("OnionCourt$Exchange", "best", "[I", true)
  | 5 => ("OnionCourt$Exchange", "size", "I", false)
  | _ => ("OnionCourt$Exchange", "most", "I", false)
def xt_Exchange : Nat → FieldType := fun k => match k with
  | 0 => .array .int
  | 1 => .array .int
  | 2 => .array .int
  | 3 => .array .int
  | 4 => .array .int
  | 5 => .int
  | _ => .int
theorem xn_Exchange : ∀ a, a < 7 → ∀ b, b < 7 → a ≠ b → (xf_Exchange a).2.1 ≠ (xf_Exchange b).2.1 := by decide +kernel
theorem xt_Exchange_ok : ∀ k, k < 7 → parseFieldDescriptor (xf_Exchange k).2.2.1 = some (xt_Exchange k) := by decide +kernel
theorem xi_Exchange_ok : ∀ k, k < 7 → ([330, 332, 334, 336, 338, 340, 342] : List Nat)[k]?.bind (fun i => xv_T[i]?) = some (u_lay "OnionCourt$Exchange" xf_Exchange k) := by decide +kernel
theorem xi_Exchange : ∀ w ∈ u_ws "OnionCourt$Exchange" xf_Exchange 7, w ∈ xv_T := fun w h => xv_wsin (fun k hk => xi_Exchange_ok k hk) w h
def xv_cl : List vw_C := [("OnionCourtModel", xf_Mo, 52), ("OnionCourt", xf_Ct, 14), ("OnionCourt$Tape", xf_Tape, 5), ("OnionCourt$Questions", xf_Questions, 2), ("OnionCourt$Law", xf_Law, 9), ("OnionCourt$Case", xf_Case, 8), ("OnionCourt$Scales", xf_Scales, 2), ("OnionCourt$Archive", xf_Archive, 7), ("OnionCourt$Witness", xf_Witness, 4), ("OnionCourt$Answer", xf_Answer, 8), ("OnionCourt$Boxes", xf_Boxes, 5), ("OnionCourt$Exchange", xf_Exchange, 7)]
/-- what a class of the list is known for -/
theorem xv_cl_ok : ∀ (ci : Nat) (q : vw_C), xv_cl[ci]? = some q → (∀ w ∈ u_ws q.1 q.2.1 q.2.2, w ∈ xv_T) ∧ (∃ ty : Nat → FieldType, ∀ k, k < q.2.2 → parseFieldDescriptor (q.2.1 k).2.2.1 = some (ty k)) ∧ (∀ a, a < q.2.2 → ∀ b, b < q.2.2 → a ≠ b → (q.2.1 a).2.1 ≠ (q.2.1 b).2.1) := by
  intro ci q h
  match ci, h with
  | 0, h => cases h; exact ⟨xi_Mo, ⟨xt_Mo, xt_Mo_ok⟩, xn_Mo⟩
  | 1, h => cases h; exact ⟨xi_Ct, ⟨xt_Ct, xt_Ct_ok⟩, xn_Ct⟩
  | 2, h => cases h; exact ⟨xi_Tape, ⟨xt_Tape, xt_Tape_ok⟩, xn_Tape⟩
  | 3, h => cases h; exact ⟨xi_Questions, ⟨xt_Questions, xt_Questions_ok⟩, xn_Questions⟩
  | 4, h => cases h; exact ⟨xi_Law, ⟨xt_Law, xt_Law_ok⟩, xn_Law⟩
  | 5, h => cases h; exact ⟨xi_Case, ⟨xt_Case, xt_Case_ok⟩, xn_Case⟩
  | 6, h => cases h; exact ⟨xi_Scales, ⟨xt_Scales, xt_Scales_ok⟩, xn_Scales⟩
  | 7, h => cases h; exact ⟨xi_Archive, ⟨xt_Archive, xt_Archive_ok⟩, xn_Archive⟩
  | 8, h => cases h; exact ⟨xi_Witness, ⟨xt_Witness, xt_Witness_ok⟩, xn_Witness⟩
  | 9, h => cases h; exact ⟨xi_Answer, ⟨xt_Answer, xt_Answer_ok⟩, xn_Answer⟩
  | 10, h => cases h; exact ⟨xi_Boxes, ⟨xt_Boxes, xt_Boxes_ok⟩, xn_Boxes⟩
  | 11, h => cases h; exact ⟨xi_Exchange, ⟨xt_Exchange, xt_Exchange_ok⟩, xn_Exchange⟩
  | k + 12, h => simp [xv_cl] at h
end
section
/-! A SMALL MACHINE of its own, as a function: methods as lists of resolved instructions, a world of cells by their numbers. -/
abbrev xv_C : Type := (Nat × vp_A) ⊕ (Nat × List Value)
abbrev xv_H : Type := Nat → xv_C
abbrev xv_S : Type := (Nat × Nat) × xv_H
abbrev xv_L : Type := List (Option Value)
/-- an instruction; three numbers and a value that resolve it -/
abbrev xv_Op : Type := Instr × Nat × Nat × Nat × Value
abbrev xv_B : Type := List (Nat × List xv_Op)
/-- a method: name, bytes, locals, return type; class, kind (0 static, 1 virtual, 2 constructor), arguments without the receiver; its longs' places; its blocks -/
abbrev xv_M : Type := MethodName × ByteArray × Nat × Option FieldType × (Nat × Nat × Nat) × List Nat × xv_B
abbrev xv_Ro : Type := Nat → Option (Nat × (Nat → Int32))
def xv_at : xv_B → Nat → List xv_Op
  | [], _ => []
  | (p, b) :: L, q => if p = q then b else xv_at L q
def xv_get : xv_L → Nat → Option Value
  | [], _ => none
  | a :: _, 0 => a
  | _ :: ls, n + 1 => xv_get ls n
def xv_set : xv_L → Nat → Option Value → xv_L
  | [], _, _ => []
  | _ :: ls, 0, v => v :: ls
  | a :: ls, n + 1, v => a :: xv_set ls n v
/-- is it a value of that kind: 0 int, 1 long, 2 boolean, 3 reference -/
def xv_ty : Nat → Value → Bool
  | 0, .int _ => true
  | 1, .long _ => true
  | 2, .int x => x == 0 || x == 1
  | 3, .null => true
  | 3, .ref _ => true
  | _, _ => false
def xv_i2 (f : Int32 → Int32 → Option Int32) : List Value → Option (List Value)
  | .int y :: .int x :: r => (f x y).map fun z => .int z :: r
  | _ => none
def xv_l2 (f : Int64 → Int64 → Option Value) : List Value → Option (List Value)
  | .long y :: .long x :: r => (f x y).map fun z => z :: r
  | _ => none
def xv_il (f : Int64 → Int32 → Int64) : List Value → Option (List Value)
  | .int y :: .long x :: r => some (.long (f x y) :: r)
  | _ => none
def xv_i1 (f : Int32 → Value) : List Value → Option (List Value)
  | .int x :: r => some (f x :: r)
  | _ => none
def xv_l1 (f : Int64 → Value) : List Value → Option (List Value)
  | .long x :: r => some (f x :: r)
  | _ => none
def xv_ld (t : Nat) (ls : xv_L) (k : Nat) (st : List Value) : Option (xv_L × List Value) :=
  match xv_get ls k with
  | some v => if xv_ty t v = true then some (ls, v :: st) else none
  | none => none
def xv_st (t : Nat) (ls : xv_L) (k : Nat) : List Value → Option (xv_L × List Value)
  | v :: st => if xv_ty t v = true then some (xv_set ls k (some v), st) else none
  | [] => none
def xv_stl (ls : xv_L) (k : Nat) : List Value → Option (xv_L × List Value)
  | .long x :: st => some (xv_set (xv_set ls k (some (.long x))) (k + 1) none, st)
  | _ => none
def xv_inc (ls : xv_L) (k : Nat) (v : Value) (st : List Value) : Option (xv_L × List Value) :=
  match xv_get ls k, v with
  | some (.int x), .int c => some (xv_set ls k (some (.int (x + c))), st)
  | _, _ => none
def xv_dup : List Value → Option (List Value)
  | v :: r => if v.category = 1 then some (v :: v :: r) else none
  | [] => none
def xv_dup2 : List Value → Option (List Value)
  | v :: w :: r => if v.category = 1 ∧ w.category = 1 then some (v :: w :: v :: w :: r) else none
  | _ => none
def xv_pop : List Value → Option (List Value)
  | v :: r => if v.category = 1 then some r else none
  | [] => none
/-- what touches neither heap nor place -/
def xv_loc (i : Instr) (v : Value) (ls : xv_L) (st : List Value) : Option (xv_L × List Value) :=
  match i with
  | .aconst_null => some (ls, .null :: st)
  | .iconst _ => some (ls, v :: st)
  | .bipush _ => some (ls, v :: st)
  | .sipush _ => some (ls, v :: st)
  | .lconst _ => some (ls, v :: st)
  | .ldc _ => some (ls, v :: st)
  | .ldc_w _ => some (ls, v :: st)
  | .ldc2_w _ => some (ls, v :: st)
  | .iload k => xv_ld 0 ls k st
  | .iload_n k => xv_ld 0 ls k.1 st
  | .lload k => xv_ld 1 ls k st
  | .lload_n k => xv_ld 1 ls k.1 st
  | .aload k => xv_ld 3 ls k st
  | .aload_n k => xv_ld 3 ls k.1 st
  | .istore k => xv_st 0 ls k st
  | .istore_n k => xv_st 0 ls k.1 st
  | .astore k => xv_st 3 ls k st
  | .astore_n k => xv_st 3 ls k.1 st
  | .lstore k => xv_stl ls k st
  | .lstore_n k => xv_stl ls k.1 st
  | .iinc k _ => xv_inc ls k v st
  | .dup => (xv_dup st).map fun r => (ls, r)
  | .dup2 => (xv_dup2 st).map fun r => (ls, r)
  | .pop => (xv_pop st).map fun r => (ls, r)
  | .iadd => (xv_i2 (fun x y => some (x + y)) st).map fun r => (ls, r)
  | .isub => (xv_i2 (fun x y => some (x - y)) st).map fun r => (ls, r)
  | .imul => (xv_i2 (fun x y => some (x * y)) st).map fun r => (ls, r)
  | .iand => (xv_i2 (fun x y => some (x &&& y)) st).map fun r => (ls, r)
  | .ior => (xv_i2 (fun x y => some (x ||| y)) st).map fun r => (ls, r)
  | .ixor => (xv_i2 (fun x y => some (x ^^^ y)) st).map fun r => (ls, r)
  | .ishl => (xv_i2 (fun x y => some (x <<< (y &&& 31))) st).map fun r => (ls, r)
  | .ishr => (xv_i2 (fun x y => some (x >>> (y &&& 31))) st).map fun r => (ls, r)
  | .iushr => (xv_i2 (fun x y => some (x.toUInt32 >>> (y.toUInt32 &&& Int32.toUInt32 31)).toInt32) st).map fun r => (ls, r)
  | .idiv => (xv_i2 (fun x y => if y = 0 then none else some (x / y)) st).map fun r => (ls, r)
  | .irem => (xv_i2 (fun x y => if y = 0 then none else some (x - x / y * y)) st).map fun r => (ls, r)
  | .ineg => (xv_i1 (fun x => .int (-x)) st).map fun r => (ls, r)
  | .i2l => (xv_i1 (fun x => .long x.toInt64) st).map fun r => (ls, r)
  | .i2b => (xv_i1 (fun x => .int x.toInt8.toInt32) st).map fun r => (ls, r)
  | .l2i => (xv_l1 (fun x => .int x.toInt32) st).map fun r => (ls, r)
  | .lneg => (xv_l1 (fun x => .long (-x)) st).map fun r => (ls, r)
  | .ladd => (xv_l2 (fun x y => some (.long (x + y))) st).map fun r => (ls, r)
  | .lsub => (xv_l2 (fun x y => some (.long (x - y))) st).map fun r => (ls, r)
  | .lmul => (xv_l2 (fun x y => some (.long (x * y))) st).map fun r => (ls, r)
  | .land => (xv_l2 (fun x y => some (.long (x &&& y))) st).map fun r => (ls, r)
  | .lor => (xv_l2 (fun x y => some (.long (x ||| y))) st).map fun r => (ls, r)
  | .lxor => (xv_l2 (fun x y => some (.long (x ^^^ y))) st).map fun r => (ls, r)
  | .ldiv => (xv_l2 (fun x y => if y = 0 then none else some (.long (x / y))) st).map fun r => (ls, r)
  | .lrem => (xv_l2 (fun x y => if y = 0 then none else some (.long (x - x / y * y))) st).map fun r => (ls, r)
  | .lcmp => (xv_l2 (fun x y => some (.int (lg_cmp x y))) st).map fun r => (ls, r)
  | .lshl => (xv_il (fun x y => x <<< (y.toInt64 &&& 63)) st).map fun r => (ls, r)
  | .lshr => (xv_il (fun x y => x >>> (y.toInt64 &&& 63)) st).map fun r => (ls, r)
  | _ => none
/-- where a jump goes: 'some (some a)' to a, 'some none' on -/
def xv_c2 (c : Int32 → Int32 → Bool) (a : Nat) : List Value → Option (Option Nat × List Value)
  | .int y :: .int x :: r => some (if c x y = true then some a else none, r)
  | _ => none
def xv_c1 (c : Int32 → Bool) (a : Nat) : List Value → Option (Option Nat × List Value)
  | .int x :: r => some (if c x = true then some a else none, r)
  | _ => none
def xv_nul (b : Bool) (a : Nat) : List Value → Option (Option Nat × List Value)
  | .null :: r => some (if b = true then some a else none, r)
  | .ref _ :: r => some (if b = true then none else some a, r)
  | _ => none
def xv_tab (pc : Nat) (d lo hi : Int) (os : Array Int) : List Value → Option (Option Nat × List Value)
  | .int x :: r => if x.toInt < lo ∨ hi < x.toInt then some (some ((pc : Int) + d).toNat, r) else (os[(x.toInt - lo).toNat]?).map fun o => (some ((pc : Int) + o).toNat, r)
  | _ => none
def xv_jmp (i : Instr) (a : Nat) (st : List Value) : Option (Option Nat × List Value) :=
  match i with
  | .nop => some (some a, st)
  | .goto _ => some (some a, st)
  | .if_icmp .eq _ => xv_c2 (fun x y => decide (x = y)) a st
  | .if_icmp .ne _ => xv_c2 (fun x y => decide (¬ x = y)) a st
  | .if_icmp .lt _ => xv_c2 (fun x y => decide (x < y)) a st
  | .if_icmp .ge _ => xv_c2 (fun x y => decide (y ≤ x)) a st
  | .if_icmp .gt _ => xv_c2 (fun x y => decide (y < x)) a st
  | .if_icmp .le _ => xv_c2 (fun x y => decide (x ≤ y)) a st
  | .ifCond .eq _ => xv_c1 (fun x => decide (x = 0)) a st
  | .ifCond .ne _ => xv_c1 (fun x => decide (¬ x = 0)) a st
  | .ifCond .lt _ => xv_c1 (fun x => decide (x < 0)) a st
  | .ifCond .ge _ => xv_c1 (fun x => decide (0 ≤ x)) a st
  | .ifCond .gt _ => xv_c1 (fun x => decide (0 < x)) a st
  | .ifCond .le _ => xv_c1 (fun x => decide (x ≤ 0)) a st
  | .ifnull _ => xv_nul true a st
  | .ifnonnull _ => xv_nul false a st
  | .tableswitch d lo hi os => xv_tab a d lo hi os st
  | _ => none
/-- a cell's new contents -/
def xv_up (h : xv_H) (k : Nat) (c : xv_C) : xv_H := fun j => if j = k then c else h j
def xv_in (i : Int32) (n : Nat) : Prop := 0 ≤ i.toInt ∧ i.toInt < n
def xv_inB (i : Int32) (n : Nat) : Bool := decide (0 ≤ i.toInt) && decide (i.toInt < n)
def xv_getf (k ci : Nat) (h : xv_H) : List Value → Option (List Value)
  | .ref r :: st => match h r with
    | .inr (c, fs) => if c = ci then (fs[k]?).map fun v => v :: st else none
    | _ => none
  | _ => none
def xv_putf (k ci t : Nat) (h : xv_H) : List Value → Option (List Value × xv_H)
  | v :: .ref r :: st => match h r with
    | .inr (c, fs) => if c = ci ∧ k < fs.length ∧ xv_ty t v = true then some (st, xv_up h r (.inr (c, fs.set k v))) else none
    | _ => none
  | _ => none
def xv_ildr (ro : xv_Ro) : List Value → Option (List Value)
  | .int i :: .ref r :: st => match ro r with
    | some (n, f) => if xv_inB i n = true then some (.int (f i.toNatClampNeg) :: st) else none
    | none => none
  | _ => none
def xv_ild (kd : Nat) (h : xv_H) : List Value → Option (List Value)
  | .int i :: .ref r :: st => match h r with
    | .inl (k, n, .inl f) => if k = kd ∧ xv_inB i n = true then some (.int (f i.toNatClampNeg) :: st) else none
    | _ => none
  | _ => none
def xv_lld (h : xv_H) : List Value → Option (List Value)
  | .int i :: .ref r :: st => match h r with
    | .inl (k, n, .inr (.inl f)) => if k = 1 ∧ xv_inB i n = true then some (.long (f i.toNatClampNeg) :: st) else none
    | _ => none
  | _ => none
def xv_ald (h : xv_H) : List Value → Option (List Value)
  | .int i :: .ref r :: st => match h r with
    | .inl (k, n, .inr (.inr (.inr (.inr f)))) => if (k = 3 ∨ k = 4) ∧ xv_inB i n = true then some (va_rf (f i.toNatClampNeg) :: st) else none
    | _ => none
  | _ => none
def xv_isto (kd : Nat) (g : Int32 → Int32) (h : xv_H) : List Value → Option (List Value × xv_H)
  | .int x :: .int i :: .ref r :: st => match h r with
    | .inl (k, n, .inl f) => if k = kd ∧ xv_inB i n = true then some (st, xv_up h r (.inl (k, n, .inl (upd f i.toNatClampNeg (g x))))) else none
    | _ => none
  | _ => none
def xv_lsto (h : xv_H) : List Value → Option (List Value × xv_H)
  | .long x :: .int i :: .ref r :: st => match h r with
    | .inl (k, n, .inr (.inl f)) => if k = 1 ∧ xv_inB i n = true then some (st, xv_up h r (.inl (k, n, .inr (.inl (vp_updL f i.toNatClampNeg x))))) else none
    | _ => none
  | _ => none
def xv_asto (h : xv_H) : List Value → Option (List Value × xv_H)
  | .ref v :: .int i :: .ref r :: st => match h r, h v with
    | .inl (k, n, .inr (.inr (.inr (.inr f)))), .inr (c, _) => if (k = 3 ∧ c = 8 ∨ k = 4 ∧ c = 9) ∧ xv_inB i n = true then some (st, xv_up h r (.inl (k, n, .inr (.inr (.inr (.inr (va_up f i.toNatClampNeg (some v)))))))) else none
    | _, _ => none
  | _ => none
def xv_len (h : xv_H) : List Value → Option (List Value)
  | .ref r :: st => match h r with
    | .inl (k, n, _) => if k < 5 then some (.int (Int32.ofNat n) :: st) else none
    | _ => none
  | _ => none
def xv_lenr (ro : xv_Ro) : List Value → Option (List Value)
  | .ref r :: st => (ro r).map fun q => .int (Int32.ofNat q.1) :: st
  | _ => none
def xv_dfs (ci : Nat) : List Value := ((xv_cl[ci]?).map fun q => (List.range q.2.2).map fun k => if (q.2.1 k).2.2.1 = "I" ∨ (q.2.1 k).2.2.1 = "Z" then Value.int 0 else if (q.2.1 k).2.2.1 = "J" then .long 0 else .null).getD []
def xv_new (ci : Nat) (σ : xv_S) (st : List Value) : Option (List Value × xv_S) :=
  if σ.1.1 < 1000000 then some (.ref σ.1.1 :: st, ((σ.1.1 + 1, σ.1.2 + (xv_dfs ci).length), xv_up σ.2 σ.1.1 (.inr (ci, xv_dfs ci)))) else none
def xv_newa (k : Nat) (σ : xv_S) : List Value → Option (List Value × xv_S)
  | .int n :: st => if σ.1.1 < 1000000 ∧ 0 ≤ n ∧ n ≤ 100000 then some (.ref σ.1.1 :: st, ((σ.1.1 + 1, σ.1.2 + n.toNatClampNeg), xv_up σ.2 σ.1.1 (.inl (k, n.toNatClampNeg,
      if k = 1 then .inr (.inl fun _ => 0) else if k = 3 ∨ k = 4 then .inr (.inr (.inr (.inr fun _ => none))) else .inl fun _ => 0)))) else none
  | _ => none
def xv_hp (ro : xv_Ro) (i : Instr) (a b : Nat) (v : Value) (σ : xv_S) (st : List Value) : Option (List Value × xv_S) :=
  match i with
  | .getfield _ => (xv_getf a b σ.2 st).map fun r => (r, σ)
  | .putfield _ => (match v with | .int t => (xv_putf a b t.toNatClampNeg σ.2 st).map fun r => (r.1, (σ.1, r.2)) | _ => none)
  | .iaload => ((if b = 1 then xv_ildr ro st else xv_ild 0 σ.2 st)).map fun r => (r, σ)
  | .baload => (xv_ild 2 σ.2 st).map fun r => (r, σ)
  | .laload => (xv_lld σ.2 st).map fun r => (r, σ)
  | .aaload => (xv_ald σ.2 st).map fun r => (r, σ)
  | .iastore => (xv_isto 0 (fun x => x) σ.2 st).map fun r => (r.1, (σ.1, r.2))
  | .bastore => (xv_isto 2 (fun x => vp_nar .byte x) σ.2 st).map fun r => (r.1, (σ.1, r.2))
  | .lastore => (xv_lsto σ.2 st).map fun r => (r.1, (σ.1, r.2))
  | .aastore => (xv_asto σ.2 st).map fun r => (r.1, (σ.1, r.2))
  | .arraylength => ((if b = 1 then xv_lenr ro st else xv_len σ.2 st)).map fun r => (r, σ)
  | .getstatic _ => some (.ref 1000000 :: st, σ)
  | .new _ => xv_new a σ st
  | .newarray _ => xv_newa a σ st
  | .anewarray _ => xv_newa a σ st
  | _ => none
/-- a call: callee, arguments with the receiver, the rest of the stack -/
def xv_cv (a b : Nat) (v : Value) (h : xv_H) (st : List Value) : Option (Nat × List Value × List Value) :=
  match st.drop b, v with
  | .ref r :: rest, .int ci => (match h r with
    | .inr (c, _) => if c = ci.toNatClampNeg then some (a, .ref r :: (st.take b).reverse, rest) else none
    | _ => none)
  | _, _ => none
def xv_ci (a b : Nat) (st : List Value) : Option (Nat × List Value × List Value) :=
  match st.drop b with
  | .ref r :: rest => some (a, .ref r :: (st.take b).reverse, rest)
  | _ => none
def xv_ret (M : xv_M) (i : Instr) (st : List Value) : Option (Option Value) :=
  match i, st with
  | .return_, [] => some none
  | .ireturn, [.int x] => if M.2.2.2.1 = some .int then some (some (.int x)) else if M.2.2.2.1 = some .boolean ∧ (x = 0 ∨ x = 1) then some (some (.int x)) else none
  | .lreturn, [.long x] => some (some (.long x))
  | .areturn, [.null] => some (some .null)
  | .areturn, [.ref a] => some (some (.ref a))
  | _, _ => none
def xv_kd : Instr → Nat
  | .nop | .goto _ | .if_icmp _ _ | .ifCond _ _ | .ifnull _ | .ifnonnull _ | .tableswitch _ _ _ _ => 1
  | .getfield _ | .putfield _ | .iaload | .baload | .laload | .aaload | .iastore | .bastore | .lastore | .aastore | .arraylength | .getstatic _ | .new _ | .newarray _ | .anewarray _ => 2
  | .invokevirtual _ | .invokestatic _ | .invokespecial _ => 3
  | .return_ | .ireturn | .lreturn | .areturn => 4
  | _ => 0
/-- what is known without its code: java.lang.Math's, and Object's constructor -/
def xv_math : Nat → List Value → Option (List Value × List Value)
  | 0, .int x :: r => some (.int (if 0 ≤ x then x else 0 - x) :: r, r)
  | 1, .long x :: r => some (.long (if 0 < x then x else -x) :: r, r)
  | 2, .int y :: .int x :: r => some (.int (if x < y then y else x) :: r, r)
  | 3, .long y :: .long x :: r => some (.long (if y < x then x else y) :: r, r)
  | 4, .int y :: .int x :: r => some (.int (if y < x then y else x) :: r, r)
  | 5, .long y :: .long x :: r => some (.long (if y < x then y else x) :: r, r)
  | _, _ => none
def xv_spc (i : Instr) (a : Nat) (st : List Value) : Option (List Value × List Value) :=
  match i with
  | .invokestatic _ => xv_math a st
  | _ => (match st with
    | .ref _ :: r => some (r, r)
    | _ => none)
/-- locals at a method's entry -/
def xv_flat : List Value → xv_L
  | [] => []
  | v :: vs => if v.category = 2 then some v :: none :: xv_flat vs else some v :: xv_flat vs
def xv_lgs : Nat → List Value → List Nat
  | _, [] => []
  | n, v :: vs => if v.category = 2 then n :: xv_lgs (n + 2) vs else xv_lgs (n + 1) vs
def xv_ini (M : xv_M) (as : List Value) : Option xv_L :=
  if (xv_flat as).length ≤ M.2.2.1 ∧ (xv_lgs 0 as).all (fun j => M.2.2.2.2.2.1.contains j) = true then some (xv_flat as ++ List.replicate (M.2.2.1 - (xv_flat as).length) none) else none
def xv_exec (mt : Nat → Option xv_M) (ro : xv_Ro) : Nat → Nat → xv_M → List xv_Op → xv_L → List Value → xv_S → Option (Option Value × xv_S)
  | 0, _, _, _, _, _, _ => none
  | _ + 1, _, _, [], _, _, _ => none
  | n + 1, d, M, (i, a, b, w, v) :: ops, ls, st, σ =>
    match xv_kd i with
    | 0 => (match xv_loc i v ls st with
      | some (ls', st') => xv_exec mt ro n d M ops ls' st' σ
      | none => none)
    | 1 => (match xv_jmp i a st with
      | some (some t, st') => xv_exec mt ro n d M (xv_at M.2.2.2.2.2.2 t) ls st' σ
      | some (none, st') => xv_exec mt ro n d M ops ls st' σ
      | none => none)
    | 2 => (match xv_hp ro i a b v σ st with
      | some (st', σ') => xv_exec mt ro n d M ops ls st' σ'
      | none => none)
    | 3 => (match d with
      | 0 => none
      | d' + 1 =>
        if v = .null then (match xv_spc i a st with
          | some (st', rest) => if rest.length ≤ 4 then xv_exec mt ro n (d' + 1) M ops ls st' σ else none
          | none => none)
        else (match (match i with
            | .invokevirtual _ => xv_cv a b v σ.2 st
            | .invokespecial _ => xv_ci a b st
            | _ => some (a, (st.take b).reverse, st.drop b)) with
          | some (k, as, rest) => (match mt k with
            | some M' => (match xv_ini M' as with
              | some ls0 => if rest.length ≤ 4 ∧ as.length = M'.2.2.2.2.1.2.2 + (if M'.2.2.2.2.1.2.1 = 0 then 0 else 1) then (match xv_exec mt ro n d' M' (xv_at M'.2.2.2.2.2.2 0) ls0 [] σ with
                | some (r, σ') => xv_exec mt ro n (d' + 1) M ops ls (r.toList ++ rest) σ'
                | none => none) else none
              | none => none)
            | none => none)
          | none => none))
    | _ => (match xv_ret M i st with
      | some r => some (r, σ)
      | none => none)
end
section
/-! THE SMALL MACHINE AND THE JVM: values, locals, and what touches neither heap nor place -/
def xv_sh (ad : Nat → Nat) : Value → Value
  | .ref a => .ref (ad a)
  | v => v
theorem xv_sh_cat (ad : Nat → Nat) (v : Value) : (xv_sh ad v).category = v.category := by cases v <;> rfl
def xv_lv (ad : Nat → Nat) : Nat → xv_L → List (Nat × Value)
  | _, [] => []
  | n, none :: ls => xv_lv ad (n + 1) ls
  | n, some v :: ls => (n, xv_sh ad v) :: xv_lv ad (n + 1) ls
theorem xv_lv_mem {ad : Nat → Nat} : ∀ {ls : xv_L} {n j : Nat} {w : Value}, (j, w) ∈ xv_lv ad n ls ↔ ∃ k v, j = n + k ∧ xv_get ls k = some v ∧ w = xv_sh ad v := by
  intro ls
  induction ls with
  | nil => intro n j w; simp [xv_lv, xv_get]
  | cons a ls ih =>
    intro n j w
    constructor
    · intro h
      cases a with
      | none =>
        obtain ⟨k, v, h1, h2, h3⟩ := ih.mp h
        exact ⟨k + 1, v, by omega, h2, h3⟩
      | some u =>
        rcases List.mem_cons.mp h with h | h
        · cases h; exact ⟨0, u, rfl, rfl, rfl⟩
        · obtain ⟨k, v, h1, h2, h3⟩ := ih.mp h
          exact ⟨k + 1, v, by omega, h2, h3⟩
    · rintro ⟨k, v, h1, h2, h3⟩
      cases k with
      | zero =>
        have h2 : a = some v := h2
        subst h2; subst h1; subst h3
        exact List.mem_cons_self
      | succ k =>
        have := ih.mpr ⟨k, v, (by omega : j = n + 1 + k), h2, h3⟩
        cases a with
        | none => exact this
        | some u => exact List.mem_cons_of_mem _ this
theorem xv_get_set {ls : xv_L} : ∀ {k j : Nat} {o : Option Value} {v : Value}, xv_get (xv_set ls k o) j = some v → (j = k ∧ o = some v) ∨ (j ≠ k ∧ xv_get ls j = some v) := by
  induction ls with
  | nil => intro k j o v h; simp [xv_set, xv_get] at h
  | cons a ls ih =>
    intro k j o v h
    cases k with
    | zero =>
      cases j with
      | zero => exact Or.inl ⟨rfl, h⟩
      | succ j => exact Or.inr ⟨by omega, h⟩
    | succ k =>
      cases j with
      | zero => exact Or.inr ⟨by omega, h⟩
      | succ j =>
        rcases ih (k := k) (j := j) h with ⟨h1, h2⟩ | ⟨h1, h2⟩
        · exact Or.inl ⟨by omega, h2⟩
        · exact Or.inr ⟨by omega, h2⟩
/-- only the longs' places hold longs -/
def xv_lg (longs : List Nat) (ls : xv_L) : Prop := ∀ j v, xv_get ls j = some v → v.category = 2 → j ∈ longs
theorem xv_has_get {ad : Nat → Nat} {LS : Array Slot} {nL k : Nat} {ls : xv_L} {v : Value} (h : lv_has LS nL (xv_lv ad 0 ls)) (hg : xv_get ls k = some v) : LS[k]? = some (.val (xv_sh ad v)) :=
  h.2.2 (k, xv_sh ad v) (xv_lv_mem.mpr ⟨k, v, by omega, hg, rfl⟩)
theorem xv_has_set1 {ad : Nat → Nat} {LS : Array Slot} {nL k : Nat} {ls : xv_L} {v : Value} {longs : List Nat} (hg : xv_lg longs ls) (hk : k = 0 ∨ k - 1 ∉ longs)
    (h : lv_has LS nL ((k, xv_sh ad v) :: (xv_lv ad 0 ls).filter (fun q => !(q.1 == k) && !(q.1 + 1 == k && q.2.category == 2)))) : lv_has LS nL (xv_lv ad 0 (xv_set ls k (some v))) := by
  refine ⟨h.1, h.2.1, fun q hq => ?_⟩
  obtain ⟨j, w⟩ := q
  obtain ⟨j', u, h1, h2, h3⟩ := xv_lv_mem.mp hq
  rw [Nat.zero_add] at h1
  subst h1; subst h3
  rcases xv_get_set h2 with ⟨rfl, h4⟩ | ⟨h4, h5⟩
  · cases h4
    exact h.2.2 _ List.mem_cons_self
  · refine h.2.2 _ (List.mem_cons_of_mem _ (List.mem_filter.mpr ⟨xv_lv_mem.mpr ⟨j, u, by omega, h5, rfl⟩, ?_⟩))
    simp only [Bool.and_eq_true, Bool.not_eq_true', beq_eq_false_iff_ne, ne_eq, Bool.and_eq_false_iff]
    refine ⟨h4, ?_⟩
    by_cases hc : j + 1 = k
    · refine Or.inr fun hcat => ?_
      rw [xv_sh_cat] at hcat
      rcases hk with hk | hk
      · omega
      · exact hk (by rw [← hc]; exact hg j u h5 hcat)
    · exact Or.inl hc
theorem xv_has_set2 {ad : Nat → Nat} {LS : Array Slot} {nL k : Nat} {ls : xv_L} {x : Int64} {longs : List Nat} (hg : xv_lg longs ls) (hk : k = 0 ∨ k - 1 ∉ longs)
    (h : lv_has LS nL ((k, Value.long x) :: (xv_lv ad 0 ls).filter (fun q => !(q.1 == k) && (!(q.1 == k + 1) && !(q.1 + 1 == k && q.2.category == 2))))) : lv_has LS nL (xv_lv ad 0 (xv_set (xv_set ls k (some (.long x))) (k + 1) none)) := by
  refine ⟨h.1, h.2.1, fun q hq => ?_⟩
  obtain ⟨j, w⟩ := q
  obtain ⟨j', u, h1, h2, h3⟩ := xv_lv_mem.mp hq
  rw [Nat.zero_add] at h1
  subst h1; subst h3
  rcases xv_get_set h2 with ⟨rfl, h4⟩ | ⟨h6, h7⟩
  · cases h4
  · rcases xv_get_set h7 with ⟨rfl, h4⟩ | ⟨h4, h5⟩
    · cases h4
      exact h.2.2 _ List.mem_cons_self
    · refine h.2.2 _ (List.mem_cons_of_mem _ (List.mem_filter.mpr ⟨xv_lv_mem.mpr ⟨j, u, by omega, h5, rfl⟩, ?_⟩))
      simp only [Bool.and_eq_true, Bool.not_eq_true', beq_eq_false_iff_ne, ne_eq, Bool.and_eq_false_iff]
      refine ⟨h4, h6, ?_⟩
      by_cases hc : j + 1 = k
      · refine Or.inr fun hcat => ?_
        rw [xv_sh_cat] at hcat
        rcases hk with hk | hk
        · omega
        · exact hk (by rw [← hc]; exact hg j u h5 hcat)
      · exact Or.inl hc
theorem xv_lg_set1 {k : Nat} {ls : xv_L} {v : Value} {longs : List Nat} (hg : xv_lg longs ls) (hv : v.category = 1) : xv_lg longs (xv_set ls k (some v)) := by
  intro j w h hc
  rcases xv_get_set h with ⟨rfl, h4⟩ | ⟨h4, h5⟩
  · cases h4; omega
  · exact hg j w h5 hc
theorem xv_lg_set2 {k : Nat} {ls : xv_L} {x : Int64} {longs : List Nat} (hg : xv_lg longs ls) (hk : k ∈ longs) : xv_lg longs (xv_set (xv_set ls k (some (.long x))) (k + 1) none) := by
  intro j w h hc
  rcases xv_get_set h with ⟨rfl, h4⟩ | ⟨h6, h7⟩
  · cases h4
  · rcases xv_get_set h7 with ⟨rfl, h4⟩ | ⟨h4, h5⟩
    · exact hk
    · exact hg j w h5 hc
/-- an instruction's length -/
def xv_nx : Instr → Nat
  | .bipush _ | .ldc _ | .iload _ | .lload _ | .aload _ | .istore _ | .lstore _ | .astore _ | .newarray _ => 2
  | .sipush _ | .ldc_w _ | .ldc2_w _ | .iinc _ _ | .goto _ | .if_icmp _ _ | .ifCond _ _ | .ifnull _ | .ifnonnull _ | .getfield _ | .putfield _ | .getstatic _ | .new _ | .anewarray _ | .invokevirtual _ | .invokespecial _ | .invokestatic _ => 3
  | _ => 1
def xv_sok (k nL : Nat) (longs : List Nat) : Bool := decide (k < nL) && (k == 0 || !longs.contains (k - 1))
def xv_sok2 (k nL : Nat) (longs : List Nat) : Bool := decide (k + 1 < nL) && (k == 0 || !longs.contains (k - 1)) && longs.contains k
/-- what must hold of a local instruction's numbers -/
def xv_lok (own : String) (nL : Nat) (longs : List Nat) (i : Instr) (w : Nat) (v : Value) : Bool :=
  match i with
  | .iconst n => decide (v = .int (Int32.ofInt n))
  | .bipush n => decide (v = .int (Int8.ofInt n).toInt32)
  | .sipush n => decide (v = .int (Int16.ofInt n).toInt32)
  | .lconst n => decide (v = .long (Int64.ofNat n.1))
  | .ldc k => (match v with | .int x => decide (xv_T[w]? = some (.constant own k x)) | _ => false)
  | .ldc_w k => (match v with | .int x => decide (xv_T[w]? = some (.constant own k x)) | _ => false)
  | .ldc2_w k => (match v with | .long x => decide (xv_T[w]? = some (.constantLong own k x)) | _ => false)
  | .istore k => xv_sok k nL longs
  | .istore_n k => xv_sok k.1 nL longs
  | .astore k => xv_sok k nL longs
  | .astore_n k => xv_sok k.1 nL longs
  | .lstore k => xv_sok2 k nL longs
  | .lstore_n k => xv_sok2 k.1 nL longs
  | .iinc k n => xv_sok k nL longs && decide (v = .int (Int32.ofInt n))
  | _ => true
theorem xv_sok_use {k nL : Nat} {longs : List Nat} (h : xv_sok k nL longs = true) : k < nL ∧ (k = 0 ∨ k - 1 ∉ longs) := by
  simp only [xv_sok, Bool.and_eq_true, decide_eq_true_eq, Bool.or_eq_true, beq_iff_eq, Bool.not_eq_true', List.contains_eq_mem, decide_eq_false_iff_not] at h
  exact h
theorem xv_sok2_use {k nL : Nat} {longs : List Nat} (h : xv_sok2 k nL longs = true) : k + 1 < nL ∧ (k = 0 ∨ k - 1 ∉ longs) ∧ k ∈ longs := by
  simp only [xv_sok2, Bool.and_eq_true, decide_eq_true_eq, Bool.or_eq_true, beq_iff_eq, Bool.not_eq_true', List.contains_eq_mem, decide_eq_false_iff_not] at h
  exact ⟨h.1.1, h.1.2, h.2⟩
section XVL
variable {p : Program} {l : Launch} {e : Env} {R : Room} {s : State} {m : MethodId} {args : Array Value} {below : List Frame} {meth : Method} {c : Code} {H : Heap} {locs : List Loc} {cells slots : Nat} {Q : State → Prop}
variable {cc : ByteArray} {pc : Nat} {LS : Array Slot} {ad : Nat → Nat}
theorem xv_i2_use {f : Int32 → Int32 → Option Int32} {ls ls' : xv_L} {st st' : List Value} (h : ((xv_i2 f st).map fun r => (ls, r)) = some (ls', st')) : ls' = ls ∧ ∃ x y z r, st = .int y :: .int x :: r ∧ f x y = some z ∧ st' = .int z :: r := by
  unfold xv_i2 at h
  split at h
  · rename_i y x r
    cases hz : f x y with
    | none => rw [hz] at h; simp at h
    | some z => rw [hz] at h; simp at h; exact ⟨h.1.symm, x, y, z, r, rfl, hz, h.2.symm⟩
  · simp at h
theorem xv_l2_use {f : Int64 → Int64 → Option Value} {ls ls' : xv_L} {st st' : List Value} (h : ((xv_l2 f st).map fun r => (ls, r)) = some (ls', st')) : ls' = ls ∧ ∃ x y z r, st = .long y :: .long x :: r ∧ f x y = some z ∧ st' = z :: r := by
  unfold xv_l2 at h
  split at h
  · rename_i y x r
    cases hz : f x y with
    | none => rw [hz] at h; simp at h
    | some z => rw [hz] at h; simp at h; exact ⟨h.1.symm, x, y, z, r, rfl, hz, h.2.symm⟩
  · simp at h
theorem xv_loc_ok {own : String} {nL w : Nat} {longs : List Nat} {i : Instr} {v : Value} {ls ls' : xv_L} {st st' : List Value} (hx : p.tables.exec = Jvm.exec) (hb : c.code = cc) (hown : s.vm.findClass own = some m.cls) (hts : ∀ w ∈ xv_T, w.before args s = true)
    (hl : lv_has LS nL (xv_lv ad 0 ls)) (hg : xv_lg longs ls) (hd : decode cc pc = .ok (i, xv_nx i)) (hok : xv_lok own nL longs i w v = true) (hs : xv_loc i v ls st = some (ls', st'))
    (kk : ∀ LS', lv_has LS' nL (xv_lv ad 0 ls') → xv_lg longs ls' → W p l e R s m args below meth c H locs cells slots Q (F0 m (pc + xv_nx i) LS' (st'.map (xv_sh ad)))) : W p l e R s m args below meth c H locs cells slots Q (F0 m pc LS (st.map (xv_sh ad))) := by
  cases i with
  | aconst_null =>
    cases hs
    exact lv_null hx hb hd (kk LS hl hg)
  | iconst n =>
    cases hs
    have hv := of_decide_eq_true hok
    subst hv
    exact lv_iconst hx hb hd rfl (kk LS hl hg)
  | bipush n =>
    cases hs
    have hv := of_decide_eq_true hok
    subst hv
    exact lv_bipush hx hb hd rfl (kk LS hl hg)
  | sipush n =>
    cases hs
    have hv := of_decide_eq_true hok
    subst hv
    exact lv_sipush hx hb hd rfl (kk LS hl hg)
  | lconst n =>
    cases hs
    have hv := of_decide_eq_true hok
    subst hv
    exact lv_lconst hx hb hd rfl (kk LS hl hg)
  | ldc k =>
    cases hs
    cases v with
    | int x => exact lv_ldc hx hb hown (hts _ (List.mem_of_getElem? (of_decide_eq_true hok))) hd (kk LS hl hg)
    | _ => cases hok
  | ldc_w k =>
    cases hs
    cases v with
    | int x => exact lv_ldcw hx hb hown (hts _ (List.mem_of_getElem? (of_decide_eq_true hok))) hd (kk LS hl hg)
    | _ => cases hok
  | ldc2_w k =>
    cases hs
    cases v with
    | long x => exact lv_ldc2 hx hb hown (hts _ (List.mem_of_getElem? (of_decide_eq_true hok))) hd (kk LS hl hg)
    | _ => cases hok
  | iload k =>
    change xv_ld 0 ls k st = _ at hs
    unfold xv_ld at hs
    cases hgk : xv_get ls k with
    | none => rw [hgk] at hs; cases hs
    | some u =>
      rw [hgk] at hs
      dsimp only at hs
      cases u with
      | int x => cases hs; exact lv_iload hx hb hd (xv_has_get hl hgk) (kk LS hl hg)
      | _ => cases hs
  | iload_n k =>
    change xv_ld 0 ls k.1 st = _ at hs
    unfold xv_ld at hs
    cases hgk : xv_get ls k.1 with
    | none => rw [hgk] at hs; cases hs
    | some u =>
      rw [hgk] at hs
      dsimp only at hs
      cases u with
      | int x => cases hs; exact lv_iload_n hx hb hd rfl (xv_has_get hl hgk) (kk LS hl hg)
      | _ => cases hs
  | lload k =>
    change xv_ld 1 ls k st = _ at hs
    unfold xv_ld at hs
    cases hgk : xv_get ls k with
    | none => rw [hgk] at hs; cases hs
    | some u =>
      rw [hgk] at hs
      dsimp only at hs
      cases u with
      | long x => cases hs; exact lv_lload hx hb hd (xv_has_get hl hgk) (kk LS hl hg)
      | _ => cases hs
  | lload_n k =>
    change xv_ld 1 ls k.1 st = _ at hs
    unfold xv_ld at hs
    cases hgk : xv_get ls k.1 with
    | none => rw [hgk] at hs; cases hs
    | some u =>
      rw [hgk] at hs
      dsimp only at hs
      cases u with
      | long x => cases hs; exact lv_lload_n hx hb hd rfl (xv_has_get hl hgk) (kk LS hl hg)
      | _ => cases hs
  | aload k =>
    change xv_ld 3 ls k st = _ at hs
    unfold xv_ld at hs
    cases hgk : xv_get ls k with
    | none => rw [hgk] at hs; cases hs
    | some u =>
      rw [hgk] at hs
      dsimp only at hs
      cases u with
      | ref x => cases hs; exact lv_aload hx hb hd (xv_has_get hl hgk) (kk LS hl hg)
      | null => cases hs; exact lv_aloadN hx hb hd (xv_has_get hl hgk) (kk LS hl hg)
      | _ => cases hs
  | aload_n k =>
    change xv_ld 3 ls k.1 st = _ at hs
    unfold xv_ld at hs
    cases hgk : xv_get ls k.1 with
    | none => rw [hgk] at hs; cases hs
    | some u =>
      rw [hgk] at hs
      dsimp only at hs
      cases u with
      | ref x => cases hs; exact lv_aload_n hx hb hd rfl (xv_has_get hl hgk) (kk LS hl hg)
      | null => cases hs; exact lv_aload_nN hx hb hd rfl (xv_has_get hl hgk) (kk LS hl hg)
      | _ => cases hs
  | istore k =>
    change xv_st 0 ls k st = _ at hs
    obtain ⟨h1, h2⟩ := xv_sok_use hok
    cases st with
    | nil => cases hs
    | cons u r =>
      cases u with
      | int x => cases hs; exact lv_istore hx hb hd hl h1 rfl (fun LS' h => kk LS' (xv_has_set1 hg h2 h) (xv_lg_set1 hg rfl))
      | _ => cases hs
  | istore_n k =>
    change xv_st 0 ls k.1 st = _ at hs
    obtain ⟨h1, h2⟩ := xv_sok_use hok
    cases st with
    | nil => cases hs
    | cons u r =>
      cases u with
      | int x => cases hs; exact lv_istore_n hx hb hd rfl hl h1 rfl (fun LS' h => kk LS' (xv_has_set1 hg h2 h) (xv_lg_set1 hg rfl))
      | _ => cases hs
  | astore k =>
    change xv_st 3 ls k st = _ at hs
    obtain ⟨h1, h2⟩ := xv_sok_use hok
    cases st with
    | nil => cases hs
    | cons u r =>
      cases u with
      | ref x => cases hs; exact lv_astore hx hb hd hl h1 rfl (fun LS' h => kk LS' (xv_has_set1 hg h2 h) (xv_lg_set1 hg rfl))
      | null => cases hs; exact lv_astoreN hx hb hd hl h1 rfl (fun LS' h => kk LS' (xv_has_set1 hg h2 h) (xv_lg_set1 hg rfl))
      | _ => cases hs
  | astore_n k =>
    change xv_st 3 ls k.1 st = _ at hs
    obtain ⟨h1, h2⟩ := xv_sok_use hok
    cases st with
    | nil => cases hs
    | cons u r =>
      cases u with
      | ref x => cases hs; exact lv_astore_n hx hb hd rfl hl h1 rfl (fun LS' h => kk LS' (xv_has_set1 hg h2 h) (xv_lg_set1 hg rfl))
      | null => cases hs; exact lv_astore_nN hx hb hd rfl hl h1 rfl (fun LS' h => kk LS' (xv_has_set1 hg h2 h) (xv_lg_set1 hg rfl))
      | _ => cases hs
  | lstore k =>
    change xv_stl ls k st = _ at hs
    obtain ⟨h1, h2, h3⟩ := xv_sok2_use hok
    cases st with
    | nil => cases hs
    | cons u r =>
      cases u with
      | long x => cases hs; exact lv_lstore hx hb hd hl h1 rfl (fun LS' h => kk LS' (xv_has_set2 hg h2 h) (xv_lg_set2 hg h3))
      | _ => cases hs
  | lstore_n k =>
    change xv_stl ls k.1 st = _ at hs
    obtain ⟨h1, h2, h3⟩ := xv_sok2_use hok
    cases st with
    | nil => cases hs
    | cons u r =>
      cases u with
      | long x => cases hs; exact lv_lstore_n hx hb hd rfl hl h1 rfl (fun LS' h => kk LS' (xv_has_set2 hg h2 h) (xv_lg_set2 hg h3))
      | _ => cases hs
  | iinc k n =>
    change xv_inc ls k v st = _ at hs
    change (xv_sok k nL longs && decide (v = .int (Int32.ofInt n))) = true at hok
    rw [Bool.and_eq_true] at hok
    obtain ⟨h1, h2⟩ := xv_sok_use hok.1
    have hv := of_decide_eq_true hok.2
    subst hv
    unfold xv_inc at hs
    cases hgk : xv_get ls k with
    | none => rw [hgk] at hs; cases hs
    | some u =>
      rw [hgk] at hs
      cases u with
      | int x =>
        cases hs
        obtain ⟨q, hq⟩ := List.getElem?_of_mem (xv_lv_mem.mpr ⟨k, .int x, (Nat.zero_add k).symm, hgk, rfl⟩ : (k, xv_sh ad (.int x)) ∈ xv_lv ad 0 ls)
        exact lv_iinc hx hb hd hl hq rfl h1 rfl (fun LS' h => kk LS' (xv_has_set1 hg h2 h) (xv_lg_set1 hg rfl))
      | _ => cases hs
  | dup =>
    cases st with
    | nil => cases hs
    | cons u r =>
      change ((if u.category = 1 then some (u :: u :: r) else none).map fun r => (ls, r)) = _ at hs
      by_cases hc : u.category = 1
      · rw [if_pos hc] at hs; cases hs; exact lv_dup hx hb hd (by rw [xv_sh_cat]; exact hc) (kk LS hl hg)
      · rw [if_neg hc] at hs; cases hs
  | pop =>
    cases st with
    | nil => cases hs
    | cons u r =>
      change ((if u.category = 1 then some r else none).map fun r => (ls, r)) = _ at hs
      by_cases hc : u.category = 1
      · rw [if_pos hc] at hs; cases hs; exact lv_pop hx hb hd (by rw [xv_sh_cat]; exact hc) (kk LS hl hg)
      · rw [if_neg hc] at hs; cases hs
  | dup2 =>
    match st, hs with
    | u :: z :: r, hs =>
      change ((if u.category = 1 ∧ z.category = 1 then some (u :: z :: u :: z :: r) else none).map fun r => (ls, r)) = _ at hs
      by_cases hc : u.category = 1 ∧ z.category = 1
      · rw [if_pos hc] at hs; cases hs; exact lv_dup2_11 hx hb hd (by rw [xv_sh_cat]; exact hc.1) (by rw [xv_sh_cat]; exact hc.2) (kk LS hl hg)
      · rw [if_neg hc] at hs; cases hs
    | [], hs => cases hs
    | [_], hs => cases hs
  | iadd =>
    obtain ⟨rfl, x, y, z, r, rfl, hf, rfl⟩ := xv_i2_use hs
    cases hf
    exact lv_iadd hx hb hd (kk LS hl hg)
  | isub =>
    obtain ⟨rfl, x, y, z, r, rfl, hf, rfl⟩ := xv_i2_use hs
    cases hf
    exact lv_isub hx hb hd (kk LS hl hg)
  | imul =>
    obtain ⟨rfl, x, y, z, r, rfl, hf, rfl⟩ := xv_i2_use hs
    cases hf
    exact lv_imul hx hb hd (kk LS hl hg)
  | iand =>
    obtain ⟨rfl, x, y, z, r, rfl, hf, rfl⟩ := xv_i2_use hs
    cases hf
    exact lv_iand hx hb hd (kk LS hl hg)
  | ior =>
    obtain ⟨rfl, x, y, z, r, rfl, hf, rfl⟩ := xv_i2_use hs
    cases hf
    exact lv_ior hx hb hd (kk LS hl hg)
  | ixor =>
    obtain ⟨rfl, x, y, z, r, rfl, hf, rfl⟩ := xv_i2_use hs
    cases hf
    exact lv_ixor hx hb hd (kk LS hl hg)
  | ishl =>
    obtain ⟨rfl, x, y, z, r, rfl, hf, rfl⟩ := xv_i2_use hs
    cases hf
    exact lv_ishl hx hb hd (kk LS hl hg)
  | ishr =>
    obtain ⟨rfl, x, y, z, r, rfl, hf, rfl⟩ := xv_i2_use hs
    cases hf
    exact lv_ishr hx hb hd (kk LS hl hg)
  | iushr =>
    obtain ⟨rfl, x, y, z, r, rfl, hf, rfl⟩ := xv_i2_use hs
    cases hf
    exact lv_iushr hx hb hd rfl (kk LS hl hg)
  | idiv =>
    obtain ⟨rfl, x, y, z, r, rfl, hf, rfl⟩ := xv_i2_use hs
    by_cases hy : y = 0
    · rw [if_pos hy] at hf; cases hf
    · rw [if_neg hy] at hf; cases hf; exact lv_idiv hx hb hd hy (kk LS hl hg)
  | irem =>
    obtain ⟨rfl, x, y, z, r, rfl, hf, rfl⟩ := xv_i2_use hs
    by_cases hy : y = 0
    · rw [if_pos hy] at hf; cases hf
    · rw [if_neg hy] at hf; cases hf; exact lv_irem hx hb hd hy (kk LS hl hg)
  | ladd =>
    obtain ⟨rfl, x, y, z, r, rfl, hf, rfl⟩ := xv_l2_use hs
    cases hf
    exact lv_ladd hx hb hd (kk LS hl hg)
  | lsub =>
    obtain ⟨rfl, x, y, z, r, rfl, hf, rfl⟩ := xv_l2_use hs
    cases hf
    exact lv_lsub hx hb hd (kk LS hl hg)
  | lmul =>
    obtain ⟨rfl, x, y, z, r, rfl, hf, rfl⟩ := xv_l2_use hs
    cases hf
    exact lv_lmul hx hb hd (kk LS hl hg)
  | land =>
    obtain ⟨rfl, x, y, z, r, rfl, hf, rfl⟩ := xv_l2_use hs
    cases hf
    exact lv_land hx hb hd (kk LS hl hg)
  | lor =>
    obtain ⟨rfl, x, y, z, r, rfl, hf, rfl⟩ := xv_l2_use hs
    cases hf
    exact lv_lor hx hb hd (kk LS hl hg)
  | lxor =>
    obtain ⟨rfl, x, y, z, r, rfl, hf, rfl⟩ := xv_l2_use hs
    cases hf
    exact lv_lxor hx hb hd (kk LS hl hg)
  | ldiv =>
    obtain ⟨rfl, x, y, z, r, rfl, hf, rfl⟩ := xv_l2_use hs
    by_cases hy : y = 0
    · rw [if_pos hy] at hf; cases hf
    · rw [if_neg hy] at hf; cases hf; exact lv_ldiv hx hb hd hy (kk LS hl hg)
  | lrem =>
    obtain ⟨rfl, x, y, z, r, rfl, hf, rfl⟩ := xv_l2_use hs
    by_cases hy : y = 0
    · rw [if_pos hy] at hf; cases hf
    · rw [if_neg hy] at hf; cases hf; exact lv_lrem hx hb hd hy (kk LS hl hg)
  | lcmp =>
    obtain ⟨rfl, x, y, z, r, rfl, hf, rfl⟩ := xv_l2_use hs
    cases hf
    exact W.lcmp hx hb hd (kk LS hl hg)
  | lshl =>
    match st, hs with
    | .int y :: .long x :: r, hs => cases hs; exact lv_lshl hx hb hd rfl (kk LS hl hg)
  | lshr =>
    match st, hs with
    | .int y :: .long x :: r, hs => cases hs; exact lv_lshr hx hb hd rfl (kk LS hl hg)
  | ineg =>
    match st, hs with
    | .int x :: r, hs => cases hs; exact lv_ineg hx hb hd (kk LS hl hg)
  | i2l =>
    match st, hs with
    | .int x :: r, hs => cases hs; exact lv_i2l hx hb hd rfl (kk LS hl hg)
  | i2b =>
    match st, hs with
    | .int x :: r, hs => cases hs; exact lv_i2b hx hb hd rfl (kk LS hl hg)
  | l2i =>
    match st, hs with
    | .long x :: r, hs => cases hs; exact lv_l2i hx hb hd rfl (kk LS hl hg)
  | lneg =>
    match st, hs with
    | .long x :: r, hs => cases hs; exact lv_lneg hx hb hd (kk LS hl hg)
  | _ => cases hs
end XVL
end
section
/-! jumps -/
def xv_jok (pc : Nat) (i : Instr) (a : Nat) : Bool :=
  match i with
  | .goto off | .if_icmp _ off | .ifCond _ off | .ifnull off | .ifnonnull off => decide ((pc : Int) + off = (a : Int))
  | .tableswitch d lo hi os => decide (a = pc) && decide (0 ≤ (pc : Int) + d) && os.all (fun o => decide (0 ≤ (pc : Int) + o))
  | _ => true
section XVJ
variable {p : Program} {l : Launch} {e : Env} {R : Room} {s : State} {m : MethodId} {args : Array Value} {below : List Frame} {meth : Method} {c : Code} {H : Heap} {locs : List Loc} {cells slots : Nat} {Q : State → Prop}
variable {cc : ByteArray} {pc len : Nat} {LS : Array Slot} {ad : Nat → Nat}
theorem xv_c2_use {f : Int32 → Int32 → Bool} {a : Nat} {t : Option Nat} {st st' : List Value} (h : xv_c2 f a st = some (t, st')) : ∃ x y, st = .int y :: .int x :: st' ∧ (if f x y = true then some a else none) = t := by
  unfold xv_c2 at h
  split at h
  · rename_i y x r
    have h := Option.some.inj h
    cases h
    exact ⟨x, y, rfl, rfl⟩
  · cases h
theorem xv_c1_use {f : Int32 → Bool} {a : Nat} {t : Option Nat} {st st' : List Value} (h : xv_c1 f a st = some (t, st')) : ∃ x, st = .int x :: st' ∧ (if f x = true then some a else none) = t := by
  unfold xv_c1 at h
  split at h
  · rename_i x r
    have h := Option.some.inj h
    cases h
    exact ⟨x, rfl, rfl⟩
  · cases h
theorem xv_jmp_ok {i : Instr} {a : Nat} {t : Option Nat} {st st' : List Value} (hx : p.tables.exec = Jvm.exec) (hb : c.code = cc) (hnop : i ≠ .nop)
    (hd : decode cc pc = .ok (i, len)) (hlen : len = xv_nx i ∨ ∃ d lo hi os, i = .tableswitch d lo hi os) (hok : xv_jok pc i a = true) (hs : xv_jmp i a st = some (t, st'))
    (kt : ∀ b, t = some b → W p l e R s m args below meth c H locs cells slots Q (F0 m b LS (st'.map (xv_sh ad))))
    (kf : t = none → W p l e R s m args below meth c H locs cells slots Q (F0 m (pc + xv_nx i) LS (st'.map (xv_sh ad)))) : W p l e R s m args below meth c H locs cells slots Q (F0 m pc LS (st.map (xv_sh ad))) := by
  cases i with
  | nop => exact absurd rfl hnop
  | goto off =>
    rcases hlen with rfl | ⟨_, _, _, _, h⟩
    · cases hs
      exact lv_goto hx hb hd (of_decide_eq_true hok) (kt a rfl)
    · cases h
  | if_icmp cd off =>
    rcases hlen with rfl | ⟨_, _, _, _, h⟩
    · have ht := of_decide_eq_true hok
      cases cd with
      | eq => obtain ⟨x, y, rfl, rfl⟩ := xv_c2_use hs; exact lv_icmp_eq hx hb hd ht (fun q => kt a (by simp [q])) (fun q => kf (by simp [q]))
      | ne => obtain ⟨x, y, rfl, rfl⟩ := xv_c2_use hs; exact lv_icmp_ne hx hb hd ht (fun q => kt a (by simpa using q)) (fun q => kf (by simpa using q))
      | lt => obtain ⟨x, y, rfl, rfl⟩ := xv_c2_use hs; exact lv_icmp_lt hx hb hd ht (fun q => kt a (by simp [q])) (fun q => kf (by simp [q]))
      | ge => obtain ⟨x, y, rfl, rfl⟩ := xv_c2_use hs; exact lv_icmp_ge hx hb hd ht (fun q => kt a (by simp [q])) (fun q => kf (by simp [q]))
      | gt => obtain ⟨x, y, rfl, rfl⟩ := xv_c2_use hs; exact lv_icmp_gt hx hb hd ht (fun q => kt a (by simp [q])) (fun q => kf (by simp [q]))
      | le => obtain ⟨x, y, rfl, rfl⟩ := xv_c2_use hs; exact lv_icmp_le hx hb hd ht (fun q => kt a (by simp [q])) (fun q => kf (by simp [q]))
    · cases h
  | ifCond cd off =>
    rcases hlen with rfl | ⟨_, _, _, _, h⟩
    · have ht := of_decide_eq_true hok
      cases cd with
      | eq => obtain ⟨x, rfl, rfl⟩ := xv_c1_use hs; exact lv_if_eq hx hb hd ht (fun q => kt a (by simp [q])) (fun q => kf (by simp [q]))
      | ne => obtain ⟨x, rfl, rfl⟩ := xv_c1_use hs; exact lv_if_ne hx hb hd ht (fun q => kt a (by simpa using q)) (fun q => kf (by simpa using q))
      | lt => obtain ⟨x, rfl, rfl⟩ := xv_c1_use hs; exact lv_if_lt hx hb hd ht (fun q => kt a (by simp [q])) (fun q => kf (by simp [q]))
      | ge => obtain ⟨x, rfl, rfl⟩ := xv_c1_use hs; exact lv_if_ge hx hb hd ht (fun q => kt a (by simp [q])) (fun q => kf (by simp [q]))
      | gt => obtain ⟨x, rfl, rfl⟩ := xv_c1_use hs; exact lv_if_gt hx hb hd ht (fun q => kt a (by simp [q])) (fun q => kf (by simp [q]))
      | le => obtain ⟨x, rfl, rfl⟩ := xv_c1_use hs; exact lv_if_le hx hb hd ht (fun q => kt a (by simp [q])) (fun q => kf (by simp [q]))
    · cases h
  | ifnull off =>
    rcases hlen with rfl | ⟨_, _, _, _, h⟩
    · have ht := of_decide_eq_true hok
      match st, hs with
      | .null :: r, hs => cases hs; exact lv_ifnullN hx hb hd ht (kt a rfl)
      | .ref q :: r, hs => cases hs; exact lv_ifnull hx hb hd (kf rfl)
    · cases h
  | ifnonnull off =>
    rcases hlen with rfl | ⟨_, _, _, _, h⟩
    · have ht := of_decide_eq_true hok
      match st, hs with
      | .null :: r, hs => cases hs; exact lv_ifnonnullN hx hb hd (kf rfl)
      | .ref q :: r, hs => cases hs; exact lv_ifnonnull hx hb hd ht (kt a rfl)
    · cases h
  | tableswitch d lo hi os =>
    match st, hs with
    | .int x :: r, hs =>
      change (decide (a = pc) && decide (0 ≤ (pc : Int) + d) && os.all (fun o => decide (0 ≤ (pc : Int) + o))) = true at hok
      simp only [Bool.and_eq_true, decide_eq_true_eq] at hok
      obtain ⟨⟨rfl, h2⟩, h3⟩ := hok
      change (if x.toInt < lo ∨ hi < x.toInt then some (some ((a : Int) + d).toNat, r) else (os[(x.toInt - lo).toNat]?).map fun o => (some ((a : Int) + o).toNat, r)) = _ at hs
      by_cases hc : x.toInt < lo ∨ hi < x.toInt
      · rw [if_pos hc] at hs
        cases hs
        exact lv_tableOut hx hb hd hc (by omega) (kt _ rfl)
      · rw [if_neg hc] at hs
        cases ho : os[(x.toInt - lo).toNat]? with
        | none => rw [ho] at hs; cases hs
        | some o =>
          rw [ho] at hs
          cases hs
          have h4 : 0 ≤ (a : Int) + o := by
            rw [Array.all_eq_true] at h3
            obtain ⟨hlt, he⟩ := Array.getElem?_eq_some_iff.mp ho
            have := h3 _ hlt
            rw [he] at this
            exact of_decide_eq_true this
          exact lv_tableIn hx hb hd (fun q => hc (Or.inl q)) (fun q => hc (Or.inr q)) ho (by omega) (kt _ rfl)
  | _ => cases hs
end XVJ
end
section
/-! the heap: the world of numbered cells, and the instructions that touch it -/
def xv_cA (ad : Nat → Nat) : ((Nat → Int32) ⊕ (Nat → Int64) ⊕ (Nat → UInt32) ⊕ (Nat → UInt64) ⊕ (Nat → Option Nat)) → ((Nat → Int32) ⊕ (Nat → Int64) ⊕ (Nat → UInt32) ⊕ (Nat → UInt64) ⊕ (Nat → Option Nat))
  | .inr (.inr (.inr (.inr f))) => .inr (.inr (.inr (.inr fun j => (f j).map ad)))
  | y => y
def xv_ce (aC : Nat → ClassId) (ad : Nat → Nat) : xv_C → va_E
  | .inl (k, n, y) => .inl (aC k, n, xv_cA ad y)
  | .inr (ci, fs) => .inr (ci, fs.map (xv_sh ad))
def xv_w (aC : Nat → ClassId) (ad : Nat → Nat) (σ : xv_S) : va_W := (List.range σ.1.1).map fun k => (ad k, xv_ce aC ad (σ.2 k))
def xv_tys (aC : Nat → ClassId) : List (ClassId × FieldType) := [(aC 0, .int), (aC 1, .long), (aC 2, .byte), (aC 3, .object "OnionCourt$Witness"), (aC 4, .object "OnionCourt$Answer")]
def xv_dead (σ : xv_S) : Prop := σ.1.1 ≤ 1000000 ∧ ∀ k, σ.1.1 ≤ k → σ.2 k = .inr (1000, [])
def xv_ad (base : Nat) (ad : Nat → Nat) : Prop := ∀ k, k < 1000000 → ad k = base + k
abbrev xv_A (base : Nat) : Nat → Prop := fun q => base ≤ q
def xv_Wd (base : Nat) (aC : Nat → ClassId) (ad : Nat → Nat) (D : va_G) (H0 H : Heap) (locs : List Loc) (σ : xv_S) : Prop := H.size = base + σ.1.1 ∧ va_P D xv_cl (xv_w aC ad σ) H ∧ va_S (xv_A base) H0 H locs ∧ xv_dead σ
theorem xv_w_at {aC : Nat → ClassId} {ad : Nat → Nat} {σ : xv_S} {k : Nat} (h : k < σ.1.1) : (xv_w aC ad σ)[k]? = some (ad k, xv_ce aC ad (σ.2 k)) := by
  simp [xv_w, h]
theorem xv_w_set {aC : Nat → ClassId} {ad : Nat → Nat} {σ : xv_S} {k : Nat} (c : xv_C) : (xv_w aC ad σ).set k (ad k, xv_ce aC ad c) = xv_w aC ad (σ.1, xv_up σ.2 k c) := by
  apply List.ext_getElem?
  intro j
  by_cases hj : j < σ.1.1
  · rw [xv_w_at (σ := (σ.1, xv_up σ.2 k c)) hj, List.getElem?_set]
    by_cases hk : k = j
    · subst hk
      simp [xv_w, hj, xv_up]
    · have hk' : ¬ j = k := fun h => hk h.symm
      rw [if_neg hk, xv_w_at hj]
      simp [xv_up, hk']
  · have h1 : ((xv_w aC ad σ).set k (ad k, xv_ce aC ad c)).length ≤ j := by simp [xv_w]; omega
    have h2 : (xv_w aC ad (σ.1, xv_up σ.2 k c)).length ≤ j := by simp [xv_w]; omega
    rw [List.getElem?_eq_none h1, List.getElem?_eq_none h2]
theorem xv_w_push {aC : Nat → ClassId} {ad : Nat → Nat} {σ : xv_S} {n : Nat} (c : xv_C) : xv_w aC ad σ ++ [(ad σ.1.1, xv_ce aC ad c)] = xv_w aC ad ((σ.1.1 + 1, n), xv_up σ.2 σ.1.1 c) := by
  unfold xv_w
  rw [List.range_succ, List.map_append]
  congr 1
  · apply List.map_congr_left
    intro k hk
    have : k < σ.1.1 := List.mem_range.mp hk
    have h2 : ¬ k = σ.1.1 := by omega
    simp [xv_up, h2]
  · simp [xv_up]
theorem xv_wD {base : Nat} {aC : Nat → ClassId} {ad : Nat → Nat} {σ : xv_S} (ha : xv_ad base ad) (hd : xv_dead σ) : va_D (xv_A base) (xv_w aC ad σ) := by
  have key : ∀ (i : Nat) (p : Nat × va_E), (xv_w aC ad σ)[i]? = some p → i < σ.1.1 ∧ p.1 = base + i := by
    intro i p h
    have hi : i < (xv_w aC ad σ).length := (List.getElem?_eq_some_iff.mp h).1
    have hi2 : i < σ.1.1 := by simpa [xv_w] using hi
    rw [xv_w_at hi2] at h
    cases h
    exact ⟨hi2, ha i (by have := hd.1; omega)⟩
  refine ⟨fun i j p q hp hq hpq => ?_, fun k q h => ?_⟩
  · have h1 := (key i p hp).2
    have h2 := (key j q hq).2
    omega
  · have h1 := (key k q h).2
    show base ≤ q.1
    omega
theorem xv_liveL {σ : xv_S} {r : Nat} {y : Nat × vp_A} (hd : xv_dead σ) (h : σ.2 r = .inl y) : r < σ.1.1 := by
  rcases Nat.lt_or_ge r σ.1.1 with q | q
  · exact q
  · rw [hd.2 r q] at h; cases h
theorem xv_liveR {σ : xv_S} {r ci : Nat} {q : vw_C} {fs : List Value} (hd : xv_dead σ) (h : σ.2 r = .inr (ci, fs)) (hc : xv_cl[ci]? = some q) : r < σ.1.1 := by
  rcases Nat.lt_or_ge r σ.1.1 with z | z
  · exact z
  · rw [hd.2 r z] at h; cases h; simp [xv_cl] at hc
theorem xv_dead_up {σ : xv_S} {r : Nat} (c : xv_C) (hd : xv_dead σ) (h : r < σ.1.1) : xv_dead (σ.1, xv_up σ.2 r c) := by
  refine ⟨hd.1, fun k hk => ?_⟩
  have h2 : ¬ k = r := by have : σ.1.1 ≤ k := hk; omega
  simp only [xv_up, if_neg h2]
  exact hd.2 k hk
theorem xv_inB_use {i : Int32} {n : Nat} (h : xv_inB i n = true) : vp_in i n := by
  simp only [xv_inB, Bool.and_eq_true, decide_eq_true_eq] at h
  exact vp_in_iff.mpr h
/-- behind a store -/
theorem xv_Wd_set {base : Nat} {aC : Nat → ClassId} {ad : Nat → Nat} {D : va_G} {H0 H1 : Heap} {locs1 : List Loc} {σ : xv_S} {r : Nat} (c : xv_C) (hd : xv_dead σ) (hr : r < σ.1.1) (hz : H1.size = base + σ.1.1)
    (hP : va_P D xv_cl ((xv_w aC ad σ).set r (ad r, xv_ce aC ad c)) H1) (hS : va_S (xv_A base) H0 H1 locs1) : xv_Wd base aC ad D H0 H1 locs1 (σ.1, xv_up σ.2 r c) := by
  rw [xv_w_set] at hP
  exact ⟨hz, hP, hS, xv_dead_up c hd hr⟩
/-- a new cell -/
theorem xv_Wd_push {base : Nat} {aC : Nat → ClassId} {ad : Nat → Nat} {D : va_G} {H0 H H1 : Heap} {locs : List Loc} {σ : xv_S} (c : xv_C) (n : Nat) (ha : xv_ad base ad) (hw : xv_Wd base aC ad D H0 H locs σ) (hlim : σ.1.1 < 1000000) (hz : H1.size = H.size + 1)
    (ho : ∀ q, q < H.size → H1[q]? = H[q]?) (hat : va_at D xv_cl (H.size, xv_ce aC ad c) H1) : xv_Wd base aC ad D H0 H1 locs ((σ.1.1 + 1, n), xv_up σ.2 σ.1.1 c) := by
  obtain ⟨h1, h2, h3, h4⟩ := hw
  have hk : ∀ (k : Nat) (q : Nat × va_E), (xv_w aC ad σ)[k]? = some q → H1[q.1]? = H[q.1]? := fun k q hq => ho q.1 ((h2 k q hq).lt)
  refine ⟨by rw [hz, h1]; show _ = base + (σ.1.1 + 1); omega, ?_, ⟨Nat.le_trans h3.1 (by omega), fun q g1 g2 => (ho q (Nat.lt_of_lt_of_le g1 h3.1)).trans (h3.2.1 q g1 g2), h3.2.2⟩, ⟨by show σ.1.1 + 1 ≤ _; omega, fun k hk2 => ?_⟩⟩
  · rw [← xv_w_push]
    refine (h2.kept hk).app (fun k q hq => ?_)
    have hz : k < 1 := (List.getElem?_eq_some_iff.mp hq).1
    rw [show k = 0 by omega] at hq
    cases hq
    rw [ha _ hlim, ← h1]
    exact hat
  · have hk2 : σ.1.1 + 1 ≤ k := hk2
    have h5 : ¬ k = σ.1.1 := by omega
    show xv_up σ.2 σ.1.1 c k = _
    simp only [xv_up, if_neg h5]
    exact h4.2 k (by omega)
def xv_tyd : Nat → FieldType → Bool
  | 0, .int => true
  | 1, .long => true
  | 2, .boolean => true
  | 3, .object _ => true
  | 3, .array _ => true
  | _, _ => false
theorem xv_ty_use {ad : Nat → Nat} {t : Nat} {ty : FieldType} {v : Value} (h : xv_ty t v = true) (ht : xv_tyd t ty = true) : narrow ty (xv_sh ad v) = xv_sh ad v ∧ fits ty (xv_sh ad v) = true := by
  match t, ty, v, h, ht with
  | 0, .int, .int x, _, _ => exact ⟨rfl, rfl⟩
  | 1, .long, .long x, _, _ => exact ⟨rfl, rfl⟩
  | 2, .boolean, .int x, h, _ =>
    simp only [xv_ty, Bool.or_eq_true, beq_iff_eq] at h
    rcases h with rfl | rfl <;> exact ⟨rfl, rfl⟩
  | 3, .object _, .null, _, _ => exact ⟨rfl, rfl⟩
  | 3, .object _, .ref _, _, _ => exact ⟨rfl, rfl⟩
  | 3, .array _, .null, _, _ => exact ⟨rfl, rfl⟩
  | 3, .array _, .ref _, _, _ => exact ⟨rfl, rfl⟩
/-- what must hold of a heap instruction's numbers -/
def xv_hok (own mname : String) (i : Instr) (a b w : Nat) (v : Value) : Bool :=
  match i with
  | .getfield k => (match xv_cl[b]? with
    | some q => decide (a < q.2.2) && decide ((q.2.1 a).1 = q.1) && decide (xv_T[w]? = some (.fieldLink own k q.1 (q.2.1 a).2.1 (q.2.1 a).2.2.1))
    | none => false)
  | .putfield k => (match xv_cl[b]?, v with
    | some q, .int t => decide (a < q.2.2) && decide ((q.2.1 a).1 = q.1) && decide (xv_T[w]? = some (.fieldLink own k q.1 (q.2.1 a).2.1 (q.2.1 a).2.2.1))
      && (match parseFieldDescriptor (q.2.1 a).2.2.1 with | some ty => xv_tyd t.toNatClampNeg ty | none => false) && (decide ((q.2.1 a).2.2.2 = false) || decide (mname = "<init>") && decide ((q.2.1 a).1 = own))
    | _, _ => false)
  | .getstatic k => decide (xv_T[w]? = some (.fieldLinkNest own k "OnionCourt" "WORLDS_OF_FACT" "[I" "OnionCourt"))
  | .new k => (match xv_cl[a]?, v with
    | some q, .int wi => decide (xv_T[w]? = some (.classLink own k q.1)) && decide (xv_T[b]? = some (.instantiable q.1 q.2.2)) && decide (xv_T[wi.toNatClampNeg]? = some (.initialized q.1))
      && (List.range q.2.2).all (fun j => match parseFieldDescriptor (q.2.1 j).2.2.1 with | some ty => decide (defaultValue ty = vp_V (xv_dfs a) j) | none => false) && decide ((xv_dfs a).length = q.2.2)
    | _, _ => false)
  | .newarray t => (decide (t = .int ∧ a = 0) || decide (t = .long ∧ a = 1) || decide (t = .byte ∧ a = 2)) && decide (xv_T[w]? = some (.arrayClass (newarray.typeOf t)))
  | .anewarray k => (decide (a = 3) && decide (xv_T[w]? = some (.classLink own k "OnionCourt$Witness")) && decide (xv_T[b]? = some (.arrayOver (.object "OnionCourt$Witness"))))
      || (decide (a = 4) && decide (xv_T[w]? = some (.classLink own k "OnionCourt$Answer")) && decide (xv_T[b]? = some (.arrayOver (.object "OnionCourt$Answer"))))
  | _ => true
section XVP
variable {p : Program} {l : Launch} {e : Env} {R : Room} {s : State} {m : MethodId} {args : Array Value} {below : List Frame} {meth : Method} {c : Code} {H : Heap} {locs : List Loc} {cells slots : Nat} {Q : State → Prop}
variable {cc : ByteArray} {pc : Nat} {ls : Array Slot} {rest : List Value} {D : va_G} {cl : List vw_C} {ws : va_W} {tys : List (ClassId × FieldType)} {a : Nat}
/-- a field is put; final ones in their class's constructor -/
theorem xv_put (hexec : p.tables.exec = Jvm.exec) (hb : c.code = cc) {own : String} {q : vw_C} {ci index : Nat} (hts : ∀ w ∈ xv_T, w.before args s = true) (hin : ∀ w ∈ u_ws q.1 q.2.1 q.2.2, w ∈ xv_T) (ty0 : Nat → FieldType) (hty : ∀ k, k < q.2.2 → parseFieldDescriptor (q.2.1 k).2.2.1 = some (ty0 k))
    (hnm : ∀ a, a < q.2.2 → ∀ b, b < q.2.2 → a ≠ b → (q.2.1 a).2.1 ≠ (q.2.1 b).2.1) (hown : s.vm.findClass own = some m.cls) (hK : va_K D cl tys s) (hP : va_P D cl ws H) (q0 : Nat) {fs : List Value} (he : ws[q0]? = some (a, .inr (ci, fs))) (hc : cl[ci]? = some q) (k : Nat) (hk : k < q.2.2)
    (hlink : (Cond.fieldLink own index q.1 (q.2.1 k).2.1 (q.2.1 k).2.2.1).before args s = true) (hsame : (q.2.1 k).1 = q.1) (hfin : (q.2.1 k).2.2.2 = false ∨ (meth.name = "<init>" ∧ (q.2.1 k).1 = own)) {ty : FieldType} {v : Value} (hd : parseFieldDescriptor (q.2.1 k).2.2.1 = some ty) (hn : narrow ty v = v) (hfit : fits ty v = true) (hl : k < fs.length)
    (hdg : decode cc pc = .ok (.putfield index, 3)) (kk : ∀ (H1 : Heap) (n : Nat), H1.size = H.size → (∀ q : Nat, q ≠ a → H1[q]? = H[q]?) → va_at D cl (a, .inr (ci, fs.set k v)) H1 → W p l e R s m args below meth c H1 (locs ++ [⟨a, n⟩]) cells slots Q (F0 m (pc + 3) ls rest)) : W p l e R s m args below meth c H locs cells slots Q (F0 m pc ls (v :: .ref a :: rest)) := by
  obtain ⟨C, T, N⟩ := q
  have hap := va_apart (own := own) hts hin ty0 hty hnm hK hc
  obtain ⟨r, h1, cell, q1, q2, q3, q4⟩ := hP q0 _ he
  have hr : r = (C, T, N) := Option.some.inj (h1.symm.trans hc)
  subst hr
  obtain ⟨hS, hfc, kC, hkC, hkind⟩ := hK.1 ci _ hc
  obtain ⟨cf, kf, fi, f, hi, hsl⟩ := hS k hk
  have hi2 := hi
  dsimp only at hsame hlink hd hk hfin hty
  rw [hsame] at hi2
  have hlay := hts _ (hin _ (u_in_lay hk))
  have hst := (u_facts hfc hkC (u_lays hts hin hk) hi).1
  unfold u_lay at hlay
  by_cases hfb : (T k).2.2.2 = true
  · rw [if_pos hfb] at hlay
    obtain ⟨hin2, hdecl⟩ : meth.name = "<init>" ∧ (T k).1 = own := by
      rcases hfin with h | h
      · rw [hfb] at h; cases h
      · exact h
    have hcf : m.cls = cf := by
      obtain ⟨_, _, c', _, _, _, -, -, hf', -, -, -, hown2, -⟩ := Cond.laysFinal_spec hlay
      have e1 : c' = cf := by have := hi.symm.trans hf'; simp at this; exact this.1.symm
      rw [hdecl] at hown2
      rw [← e1]; exact Option.some.inj (hown.symm.trans hown2)
    have h6 := u_fits hfc hkC hkind (Or.inr hlay) hi hd hn hfit
    refine W.putFinK hexec hb hown hlink hi2 hst hcf hin2 (by rw [q2]; exact h6) q1 q3 (by rw [hsl]; exact k2_hasslot (q4 k hk)) rfl rfl hdg fun H' e1 e2 e3 => ?_
    rw [hsl] at e1 ⊢
    exact kk H' _ e2 e3 ⟨_, hc, t_OB.to (V := updV (vp_V fs) k v) ⟨_, e1, q2, q3, t_set q4 hap hk v⟩ (fun j _ => vp_updV_set hl v j)⟩
  · rw [if_neg hfb] at hlay
    have h6 := u_store hfc hkC hkind hlay hi hd hn hfit
    refine W.putK hexec hb (f := f) ⟨hown, hlink, ⟨_, _, _, hi2⟩, hst⟩ (by rw [q2]; exact h6) q1 q3 (by rw [hsl]; exact k2_hasslot (q4 k hk)) rfl rfl hdg fun H' e1 e2 e3 => ?_
    rw [hsl] at e1 ⊢
    exact kk H' _ e2 e3 ⟨_, hc, t_OB.to (V := updV (vp_V fs) k v) ⟨_, e1, q2, q3, t_set q4 hap hk v⟩ (fun j _ => vp_updV_set hl v j)⟩
end XVP
theorem xv_Wd_put {base : Nat} {aC : Nat → ClassId} {ad : Nat → Nat} {D : va_G} {H0 H H1 : Heap} {locs : List Loc} {σ : xv_S} {r : Nat} (c : xv_C) (n : Nat) (ha : xv_ad base ad) (hw : xv_Wd base aC ad D H0 H locs σ) (hr : r < σ.1.1) (hz : H1.size = H.size)
    (oq : ∀ q : Nat, q ≠ ad r → H1[q]? = H[q]?) (hat : va_at D xv_cl (ad r, xv_ce aC ad c) H1) : xv_Wd base aC ad D H0 H1 (locs ++ [⟨ad r, n⟩]) (σ.1, xv_up σ.2 r c) := by
  have hD := xv_wD (aC := aC) ha hw.2.2.2
  refine xv_Wd_set c hw.2.2.2 hr (hz.trans hw.1) (hw.2.1.set hD (xv_w_at hr) hat oq) (hw.2.2.1.put hz oq ?_)
  show base ≤ ad r
  rw [ha r (by have := hw.2.2.2.1; omega)]
  omega
section XVH
variable {p : Program} {l : Launch} {e : Env} {R : Room} {s : State} {m : MethodId} {args : Array Value} {below : List Frame} {meth : Method} {c : Code} {H : Heap} {locs : List Loc} {cells slots : Nat} {Q : State → Prop}
variable {cc : ByteArray} {pc : Nat} {LS : Array Slot} {ad : Nat → Nat} {base : Nat} {aC : Nat → ClassId} {D : va_G} {ro : xv_Ro}
theorem xv_fget {fs : List Value} {k : Nat} {v : Value} (h : fs[k]? = some v) : (fs.map (xv_sh ad))[k]? = some (xv_sh ad v) := by rw [List.getElem?_map, h]; rfl
theorem xv_opt_use {α β γ : Type} {o : Option α} {f : α → β × γ} {x : β} {y : γ} (h : o.map f = some (x, y)) : ∃ z, o = some z ∧ f z = (x, y) := by
  cases o with
  | none => cases h
  | some z => exact ⟨z, rfl, Option.some.inj h⟩
theorem xv_rf_sh (r : Option Nat) : xv_sh ad (va_rf r) = va_rf (r.map ad) := by cases r <;> rfl
theorem xv_hp_ok {own : String} {c0 l0 a b w : Nat} {i : Instr} {v : Value} {st st' : List Value} {σ σ' : xv_S} (hx : p.tables.exec = Jvm.exec) (hb : c.code = cc) (hown : s.vm.findClass own = some m.cls) (hts : ∀ w ∈ xv_T, w.before args s = true)
    (ha : xv_ad base ad) (hK : va_K D xv_cl (xv_tys aC) s) (hro : ∀ k L f, ro k = some (L, f) → va_T .int (ad k) L (fun j => .int (f j)) (xv_A base) s s.heap) (hZ : va_Z "OnionCourt" "WORLDS_OF_FACT" "[I" (.ref (ad 1000000)) (xv_A base) s s.heap) (hbs : base ≤ s.heap.size)
    (hw : xv_Wd base aC ad D s.heap H locs σ) (hd : decode cc pc = .ok (i, xv_nx i)) (hok : xv_hok own meth.name i a b w v = true) (hs : xv_hp ro i a b v σ st = some (st', σ'))
    (hc0 : cells + c0 = σ.1.1) (hl0 : slots + l0 = σ.1.2) (hRc : σ'.1.1 ≤ R.cells + c0) (hRs : σ'.1.2 ≤ R.slots + l0)
    (kk : ∀ (H1 : Heap) (locs1 : List Loc) (cells1 slots1 : Nat), xv_Wd base aC ad D s.heap H1 locs1 σ' → cells1 + c0 = σ'.1.1 → slots1 + l0 = σ'.1.2 → W p l e R s m args below meth c H1 locs1 cells1 slots1 Q (F0 m (pc + xv_nx i) LS (st'.map (xv_sh ad)))) : W p l e R s m args below meth c H locs cells slots Q (F0 m pc LS (st.map (xv_sh ad))) := by
  have hD := xv_wD (aC := aC) ha hw.2.2.2
  have hz := hw.1
  have hP := hw.2.1
  have hS := hw.2.2.1
  have hdd := hw.2.2.2
  cases i with
  | getfield k =>
    obtain ⟨z, hs0, hz2⟩ := xv_opt_use hs
    clear hs
    cases hz2
    match st, hs0 with
    | .ref r :: st, hs1 =>
      dsimp only [xv_getf] at hs1
      cases hr : σ.2 r with
      | inl y => rw [hr] at hs1; cases hs1
      | inr y =>
        obtain ⟨ci, fs⟩ := y
        rw [hr] at hs1
        dsimp only at hs1
        by_cases hc : ci = b
        · subst hc
          rw [if_pos rfl] at hs1
          cases hv : fs[a]? with
          | none => rw [hv] at hs1; cases hs1
          | some u =>
            rw [hv] at hs1
            cases hs1
            dsimp only [xv_hok] at hok
            cases hq : xv_cl[ci]? with
            | none => rw [hq] at hok; cases hok
            | some q =>
              rw [hq] at hok
              simp only [Bool.and_eq_true, decide_eq_true_eq] at hok
              obtain ⟨⟨h1, h2⟩, h3⟩ := hok
              have hlt := xv_liveR hdd hr hq
              have hat : (xv_w aC ad σ)[r]? = some (ad r, .inr (ci, fs.map (xv_sh ad))) := by rw [xv_w_at hlt, hr]; rfl
              exact va_get hx hb hts (xv_cl_ok ci q hq).1 hown hK hP r hat hq a h1 (hts _ (List.mem_of_getElem? h3)) (fun x hx => by rw [h2] at hx; exact hx) (xv_fget hv) hd (kk H locs cells slots hw hc0 hl0)
        · rw [if_neg hc] at hs1; cases hs1
  | putfield k =>
    cases v with
    | int t =>
      obtain ⟨z, hs0, hz2⟩ := xv_opt_use hs
      clear hs
      cases hz2
      match st, hs0 with
      | u :: .ref r :: st, hs1 =>
        dsimp only [xv_putf] at hs1
        cases hr : σ.2 r with
        | inl y => rw [hr] at hs1; cases hs1
        | inr y =>
          obtain ⟨ci, fs⟩ := y
          rw [hr] at hs1
          dsimp only at hs1
          by_cases hc : ci = b ∧ a < fs.length ∧ xv_ty t.toNatClampNeg u = true
          · rw [if_pos hc] at hs1
            obtain ⟨rfl, hlen, hty⟩ := hc
            cases hs1
            dsimp only [xv_hok] at hok
            cases hq : xv_cl[ci]? with
            | none => rw [hq] at hok; cases hok
            | some q =>
              rw [hq] at hok
              cases hpd : parseFieldDescriptor (q.2.1 a).2.2.1 with
              | none => simp only [hpd, Bool.and_eq_true, Bool.false_eq_true, false_and, and_false] at hok
              | some ty =>
                simp only [hpd, Bool.and_eq_true, decide_eq_true_eq, Bool.or_eq_true] at hok
                obtain ⟨⟨⟨⟨h1, h2⟩, h3⟩, h4⟩, h5⟩ := hok
                have hlt := xv_liveR hdd hr hq
                have hat : (xv_w aC ad σ)[r]? = some (ad r, .inr (ci, fs.map (xv_sh ad))) := by rw [xv_w_at hlt, hr]; rfl
                obtain ⟨hin, ⟨ty0, hty0⟩, hnm⟩ := xv_cl_ok ci q hq
                obtain ⟨hn, hf⟩ := xv_ty_use (ad := ad) hty h4
                refine xv_put hx hb hts hin ty0 hty0 hnm hown hK hP r hat hq a h1 (hts _ (List.mem_of_getElem? h3)) h2 h5 hpd hn hf (by rw [List.length_map]; exact hlen) hd (fun H1 n z1 o1 at1 => ?_)
                refine kk H1 _ cells slots (xv_Wd_put (.inr (ci, fs.set a u)) n ha hw hlt z1 o1 ?_) hc0 hl0
                show va_at D xv_cl (ad r, .inr (ci, (fs.set a u).map (xv_sh ad))) H1
                rw [List.map_set]
                exact at1
          · rw [if_neg hc] at hs1; cases hs1
    | _ => cases hs
  | getstatic k => 
    cases hs
    exact va_getsN hx hb hZ hS hown (hts _ (List.mem_of_getElem? (of_decide_eq_true hok))) (fun x h => h) hd (kk H locs cells slots hw hc0 hl0)
  | iaload =>
    obtain ⟨z, hs0, hz2⟩ := xv_opt_use hs
    clear hs
    cases hz2
    by_cases hb1 : b = 1
    · rw [if_pos hb1] at hs0
      match st, hs0 with
      | .int j :: .ref r :: st, hs1 =>
        unfold xv_ildr at hs1
        dsimp only at hs1
        cases hr : ro r with
        | none => rw [hr] at hs1; cases hs1
        | some y =>
          obtain ⟨n, f⟩ := y
          rw [hr] at hs1
          dsimp only at hs1
          by_cases hc : xv_inB j n = true
          · rw [if_pos hc] at hs1
            cases hs1
            exact va_ti hx hb (hro r n f hr) hS (xv_inB_use hc) rfl hd (kk H locs cells slots hw hc0 hl0)
          · rw [if_neg hc] at hs1; cases hs1
    · rw [if_neg hb1] at hs0
      match st, hs0 with
      | .int j :: .ref r :: st, hs1 =>
        unfold xv_ild at hs1
        dsimp only at hs1
        cases hr : σ.2 r with
        | inr y => rw [hr] at hs1; cases hs1
        | inl y =>
          obtain ⟨k, n, f | f | f | f | f⟩ := y
          · rw [hr] at hs1
            dsimp only at hs1
            by_cases hc : k = 0 ∧ xv_inB j n = true
            · rw [if_pos hc] at hs1
              cases hs1
              obtain ⟨hk, hin⟩ := hc
              have hlt := xv_liveL hdd hr
              have hat := xv_w_at (aC := aC) (ad := ad) hlt
              rw [hr] at hat
              subst hk
              exact va_iald hx hb hK hP r 0 hat rfl (xv_inB_use hin) hd (kk H locs cells slots hw hc0 hl0)
            · rw [if_neg hc] at hs1; cases hs1
          · rw [hr] at hs1; cases hs1
          · rw [hr] at hs1; cases hs1
          · rw [hr] at hs1; cases hs1
          · rw [hr] at hs1; cases hs1
  | baload =>
    obtain ⟨z, hs0, hz2⟩ := xv_opt_use hs
    clear hs
    cases hz2
    match st, hs0 with
    | .int j :: .ref r :: st, hs1 =>
      unfold xv_ild at hs1
      dsimp only at hs1
      cases hr : σ.2 r with
      | inr y => rw [hr] at hs1; cases hs1
      | inl y =>
        obtain ⟨k, n, f | f | f | f | f⟩ := y
        · rw [hr] at hs1
          dsimp only at hs1
          by_cases hc : k = 2 ∧ xv_inB j n = true
          · rw [if_pos hc] at hs1
            cases hs1
            obtain ⟨hk, hin⟩ := hc
            have hlt := xv_liveL hdd hr
            have hat := xv_w_at (aC := aC) (ad := ad) hlt
            rw [hr] at hat
            subst hk
            exact va_bald hx hb hK hP r 2 hat rfl (xv_inB_use hin) hd (kk H locs cells slots hw hc0 hl0)
          · rw [if_neg hc] at hs1; cases hs1
        · rw [hr] at hs1; cases hs1
        · rw [hr] at hs1; cases hs1
        · rw [hr] at hs1; cases hs1
        · rw [hr] at hs1; cases hs1
  | laload =>
    obtain ⟨z, hs0, hz2⟩ := xv_opt_use hs
    clear hs
    cases hz2
    match st, hs0 with
    | .int j :: .ref r :: st, hs1 =>
      unfold xv_lld at hs1
      dsimp only at hs1
      cases hr : σ.2 r with
      | inr y => rw [hr] at hs1; cases hs1
      | inl y =>
        obtain ⟨k, n, f | f | f | f | f⟩ := y
        · rw [hr] at hs1; cases hs1
        · rw [hr] at hs1
          dsimp only at hs1
          by_cases hc : k = 1 ∧ xv_inB j n = true
          · rw [if_pos hc] at hs1
            cases hs1
            obtain ⟨hk, hin⟩ := hc
            have hlt := xv_liveL hdd hr
            have hat := xv_w_at (aC := aC) (ad := ad) hlt
            rw [hr] at hat
            subst hk
            exact va_lald hx hb hK hP r 1 hat rfl (xv_inB_use hin) hd (kk H locs cells slots hw hc0 hl0)
          · rw [if_neg hc] at hs1; cases hs1
        · rw [hr] at hs1; cases hs1
        · rw [hr] at hs1; cases hs1
        · rw [hr] at hs1; cases hs1
  | aaload =>
    obtain ⟨z, hs0, hz2⟩ := xv_opt_use hs
    clear hs
    cases hz2
    match st, hs0 with
    | .int j :: .ref r :: st, hs1 =>
      unfold xv_ald at hs1
      dsimp only at hs1
      cases hr : σ.2 r with
      | inr y => rw [hr] at hs1; cases hs1
      | inl y =>
        obtain ⟨k, n, f | f | f | f | f⟩ := y
        · rw [hr] at hs1; cases hs1
        · rw [hr] at hs1; cases hs1
        · rw [hr] at hs1; cases hs1
        · rw [hr] at hs1; cases hs1
        · rw [hr] at hs1
          dsimp only at hs1
          by_cases hc : (k = 3 ∨ k = 4) ∧ xv_inB j n = true
          · rw [if_pos hc] at hs1
            cases hs1
            obtain ⟨hk, hin⟩ := hc
            have hlt := xv_liveL hdd hr
            have hat := xv_w_at (aC := aC) (ad := ad) hlt
            rw [hr] at hat
            have kk2 := kk H locs cells slots hw hc0 hl0
            rw [List.map_cons, xv_rf_sh] at kk2
            rcases hk with rfl | rfl
            · exact va_aldq hx hb hK hP r 3 hat rfl (xv_inB_use hin) hd kk2
            · exact va_aldq hx hb hK hP r 4 hat rfl (xv_inB_use hin) hd kk2
          · rw [if_neg hc] at hs1; cases hs1
  | iastore =>
    obtain ⟨z, hs0, hz2⟩ := xv_opt_use hs
    clear hs
    cases hz2
    match st, hs0 with
    | .int u :: .int j :: .ref r :: st, hs1 =>
      unfold xv_isto at hs1
      dsimp only at hs1
      cases hr : σ.2 r with
      | inr y => rw [hr] at hs1; cases hs1
      | inl y =>
        obtain ⟨k, n, f | f | f | f | f⟩ := y
        · rw [hr] at hs1
          dsimp only at hs1
          by_cases hc : k = 0 ∧ xv_inB j n = true
          · rw [if_pos hc] at hs1
            cases hs1
            obtain ⟨hk, hin⟩ := hc
            have hlt := xv_liveL hdd hr
            have hat := xv_w_at (aC := aC) (ad := ad) hlt
            rw [hr] at hat
            subst hk
            have hvin := xv_inB_use hin
            refine W.iast hx hb (hP r _ hat) ((hK.2 0 _ rfl).1 n (fun j => .int (f j))) (fun q => by cases q) (by show ¬ (j < 0 ∨ (arrV _ _ _).slots.size ≤ _); rw [arrV_size]; exact hvin) rfl rfl hd fun H1 e z oq => ?_
            refine kk H1 _ cells slots (xv_Wd_put _ j.toNatClampNeg ha hw hlt z oq ?_) hc0 hl0
            show H1[ad r]? = some (vp_cell _ _)
            rw [e]
            show some ((vp_cell (aC 0) (n, .inl f)).setSlot j.toNatClampNeg (.int u)) = some (vp_cell (aC 0) (n, .inl (upd f j.toNatClampNeg u)))
            rw [vp_cell_i, vp_cell_i, arrV_store]
            congr 2
            funext q
            by_cases hq : q = j.toNatClampNeg
            · subst hq; simp [updV, upd]
            · simp [updV, upd, hq]
          · rw [if_neg hc] at hs1; cases hs1
        · rw [hr] at hs1; cases hs1
        · rw [hr] at hs1; cases hs1
        · rw [hr] at hs1; cases hs1
        · rw [hr] at hs1; cases hs1
  | bastore =>
    obtain ⟨z, hs0, hz2⟩ := xv_opt_use hs
    clear hs
    cases hz2
    match st, hs0 with
    | .int u :: .int j :: .ref r :: st, hs1 =>
      unfold xv_isto at hs1
      dsimp only at hs1
      cases hr : σ.2 r with
      | inr y => rw [hr] at hs1; cases hs1
      | inl y =>
        obtain ⟨k, n, f | f | f | f | f⟩ := y
        · rw [hr] at hs1
          dsimp only at hs1
          by_cases hc : k = 2 ∧ xv_inB j n = true
          · rw [if_pos hc] at hs1
            cases hs1
            obtain ⟨hk, hin⟩ := hc
            have hlt := xv_liveL hdd hr
            have hat := xv_w_at (aC := aC) (ad := ad) hlt
            rw [hr] at hat
            subst hk
            have hvin := xv_inB_use hin
            refine W.bast hx hb (hP r _ hat) ((hK.2 2 _ rfl).1 n (fun j => .int (f j))) (fun q => by cases q) (by show ¬ (j < 0 ∨ (arrV _ _ _).slots.size ≤ _); rw [arrV_size]; exact hvin) rfl rfl hd fun H1 e z oq => ?_
            refine kk H1 _ cells slots (xv_Wd_put _ j.toNatClampNeg ha hw hlt z oq ?_) hc0 hl0
            show H1[ad r]? = some (vp_cell _ _)
            rw [e]
            show some ((vp_cell (aC 2) (n, .inl f)).setSlot j.toNatClampNeg _) = some (vp_cell (aC 2) (n, .inl (upd f j.toNatClampNeg (vp_nar .byte u))))
            rw [vp_cell_i, vp_cell_i, arrV_store]
            congr 2
            funext q
            by_cases hq : q = j.toNatClampNeg
            · subst hq; simp [updV, upd, vp_nar]; try rfl
            · simp [updV, upd, vp_nar, hq]
          · rw [if_neg hc] at hs1; cases hs1
        · rw [hr] at hs1; cases hs1
        · rw [hr] at hs1; cases hs1
        · rw [hr] at hs1; cases hs1
        · rw [hr] at hs1; cases hs1
  | lastore =>
    obtain ⟨z, hs0, hz2⟩ := xv_opt_use hs
    clear hs
    cases hz2
    match st, hs0 with
    | .long u :: .int j :: .ref r :: st, hs1 =>
      unfold xv_lsto at hs1
      dsimp only at hs1
      cases hr : σ.2 r with
      | inr y => rw [hr] at hs1; cases hs1
      | inl y =>
        obtain ⟨k, n, f | f | f | f | f⟩ := y
        · rw [hr] at hs1; cases hs1
        · rw [hr] at hs1
          dsimp only at hs1
          by_cases hc : k = 1 ∧ xv_inB j n = true
          · rw [if_pos hc] at hs1
            cases hs1
            obtain ⟨hk, hin⟩ := hc
            have hlt := xv_liveL hdd hr
            have hat := xv_w_at (aC := aC) (ad := ad) hlt
            rw [hr] at hat
            subst hk
            have hvin := xv_inB_use hin
            refine W.last hx hb (hP r _ hat) ((hK.2 1 _ rfl).1 n (fun j => .long (f j))) (fun q => by cases q) (by show ¬ (j < 0 ∨ (arrV _ _ _).slots.size ≤ _); rw [arrV_size]; exact hvin) rfl rfl hd fun H1 e z oq => ?_
            refine kk H1 _ cells slots (xv_Wd_put _ j.toNatClampNeg ha hw hlt z oq ?_) hc0 hl0
            show H1[ad r]? = some (vp_cell _ _)
            rw [e]
            show some ((vp_cell (aC 1) (n, .inr (.inl f))).setSlot j.toNatClampNeg (.long u)) = some (vp_cell (aC 1) (n, .inr (.inl (vp_updL f j.toNatClampNeg u))))
            rw [vp_cell_l, vp_cell_l, arrV_store]
            congr 2
            funext q
            by_cases hq : q = j.toNatClampNeg
            · subst hq; simp [updV, vp_updL]
            · simp [updV, vp_updL, hq]
          · rw [if_neg hc] at hs1; cases hs1
        · rw [hr] at hs1; cases hs1
        · rw [hr] at hs1; cases hs1
        · rw [hr] at hs1; cases hs1
  | arraylength =>
    obtain ⟨z, hs0, hz2⟩ := xv_opt_use hs
    clear hs
    cases hz2
    by_cases hb1 : b = 1
    · rw [if_pos hb1] at hs0
      match st, hs0 with
      | .ref r :: st, hs1 =>
        unfold xv_lenr at hs1
        dsimp only at hs1
        cases hr : ro r with
        | none => rw [hr] at hs1; cases hs1
        | some y =>
          obtain ⟨n, f⟩ := y
          rw [hr] at hs1
          cases hs1
          exact va_tlen hx hb (hro r n f hr) hS rfl hd (kk H locs cells slots hw hc0 hl0)
    · rw [if_neg hb1] at hs0
      match st, hs0 with
      | .ref r :: st, hs1 =>
        unfold xv_len at hs1
        dsimp only at hs1
        cases hr : σ.2 r with
        | inr y => rw [hr] at hs1; cases hs1
        | inl y =>
          obtain ⟨k, n, f⟩ := y
          rw [hr] at hs1
          dsimp only at hs1
          by_cases hc : k < 5
          · rw [if_pos hc] at hs1
            cases hs1
            have hlt := xv_liveL hdd hr
            have hat := xv_w_at (aC := aC) (ad := ad) hlt
            rw [hr] at hat
            have kk2 := kk H locs cells slots hw hc0 hl0
            match k, hc, hr, hat with
            | 0, _, hr, hat => exact va_alen hx hb hK hP r 0 hat (by rfl) rfl hd kk2
            | 1, _, hr, hat => exact va_alen hx hb hK hP r 1 hat (by rfl) rfl hd kk2
            | 2, _, hr, hat => exact va_alen hx hb hK hP r 2 hat (by rfl) rfl hd kk2
            | 3, _, hr, hat => exact va_alen hx hb hK hP r 3 hat (by rfl) rfl hd kk2
            | 4, _, hr, hat => exact va_alen hx hb hK hP r 4 hat (by rfl) rfl hd kk2
          · rw [if_neg hc] at hs1; cases hs1
  | aastore =>
    obtain ⟨z, hs0, hz2⟩ := xv_opt_use hs
    clear hs
    cases hz2
    match st, hs0 with
    | .ref v :: .int j :: .ref r :: st, hs1 =>
      unfold xv_asto at hs1
      dsimp only at hs1
      cases hr : σ.2 r with
      | inr y => rw [hr] at hs1; cases hs1
      | inl y =>
        obtain ⟨k, n, f | f | f | f | f⟩ := y
        · rw [hr] at hs1; cases hs1
        · rw [hr] at hs1; cases hs1
        · rw [hr] at hs1; cases hs1
        · rw [hr] at hs1; cases hs1
        · cases hv : σ.2 v with
          | inl y => rw [hr, hv] at hs1; cases hs1
          | inr y =>
            obtain ⟨cv, vs⟩ := y
            rw [hr, hv] at hs1
            dsimp only at hs1
            by_cases hc : (k = 3 ∧ cv = 8 ∨ k = 4 ∧ cv = 9) ∧ xv_inB j n = true
            · rw [if_pos hc] at hs1
              cases hs1
              obtain ⟨hk, hin⟩ := hc
              have hlt := xv_liveL hdd hr
              have hat := xv_w_at (aC := aC) (ad := ad) hlt
              rw [hr] at hat
              have hvin := xv_inB_use hin
              have key : ∀ t0 ci (q : vw_C), k = t0 → cv = ci → xv_cl[ci]? = some q → (xv_tys aC)[t0]? = some (aC t0, .object q.1) → W p l e R s m args below meth c H locs cells slots Q (F0 m pc LS ((.ref v :: .int j :: .ref r :: st).map (xv_sh ad))) := by
                intro t0 ci q e1 e2 hq ht
                subst e1; subst e2
                have hlv := xv_liveR hdd hv hq
                have hav := xv_w_at (aC := aC) (ad := ad) hlv
                rw [hv] at hav
                obtain ⟨r', hr', cellV, g1, g2, g3, -⟩ := hP v _ hav
                have hcls := (hK.1 cv q hq).2
                obtain ⟨kA, comp, k1, k2, k3, -⟩ := (hK.2 k _ ht).2
                have hcomp : comp = D.1 cv := Option.some.inj (k3.symm.trans hcls.1)
                subst hcomp
                obtain ⟨kC, hkC, -⟩ := hcls.2
                have hlt2 : j.toNatClampNeg < n := Nat.not_le.mp fun q => hvin (Or.inr q)
                have h0 : ¬ j < 0 := fun q => hvin (Or.inl q)
                refine W.aast hx hb (hP r _ hat) (fun q h => by cases h) (fun h => by cases h) k1 k2 rfl hkC ⟨h0, by show _ < (arrV _ _ _).slots.size; rw [arrV_size]; exact hlt2⟩ g1 (fun q h => by rw [g3] at h; cases h) (by rw [g2]; exact hkC) (by rw [g2]; exact va_assign hcls) rfl rfl hd fun H1 e z oq => ?_
                refine kk H1 _ cells slots (xv_Wd_put _ j.toNatClampNeg ha hw hlt z oq ?_) hc0 hl0
                show H1[ad r]? = some (vp_cell _ _)
                rw [e]
                show some ((vp_cell (aC k) (n, .inr (.inr (.inr (.inr fun j => (f j).map ad))))).setSlot j.toNatClampNeg (.ref (ad v))) = some (vp_cell (aC k) (n, .inr (.inr (.inr (.inr fun i => (va_up f j.toNatClampNeg (some v) i).map ad)))))
                rw [vp_cell_q, vp_cell_q, arrV_store]
                congr 2
                funext q
                by_cases hq : q = j.toNatClampNeg
                · subst hq
                  simp [updV, va_up, va_rf]
                · simp [updV, va_up, hq]
              rcases hk with ⟨h1, h2⟩ | ⟨h1, h2⟩
              · exact key 3 8 _ h1 h2 rfl rfl
              · exact key 4 9 _ h1 h2 rfl rfl
            · rw [if_neg hc] at hs1; cases hs1
  | new k =>
    change xv_new a σ st = _ at hs
    unfold xv_new at hs
    by_cases hlim : σ.1.1 < 1000000
    · rw [if_pos hlim] at hs
      cases hs
      cases v with
      | int wi =>
        dsimp only [xv_hok] at hok
        cases hq : xv_cl[a]? with
        | none => rw [hq] at hok; cases hok
        | some q =>
          rw [hq] at hok
          simp only [Bool.and_eq_true, decide_eq_true_eq, List.all_eq_true, List.mem_range] at hok
          obtain ⟨⟨⟨⟨h1, h2⟩, h3⟩, h4⟩, h5⟩ := hok
          have hKn := hK.1 a q hq
          obtain ⟨hin, ⟨ty0, hty0⟩, hnm⟩ := xv_cl_ok a q hq
          rw [h5] at hRs kk
          have hRc1 : σ.1.1 + 1 ≤ R.cells + c0 := hRc
          have hRs1 : σ.1.2 + q.2.2 ≤ R.slots + l0 := hRs
          refine W.newcK hx hb hown (hts _ (List.mem_of_getElem? h1)) (hts _ (List.mem_of_getElem? h2)) (hts _ (List.mem_of_getElem? h3)) rfl hd (by omega) (by omega) hKn.2.1 rfl fun H1 kC hkC e1 z1 o1 => ?_
          have hadr : ad σ.1.1 = H.size := by rw [ha _ hlim, hz]
          have kk2 := kk H1 locs (cells + 1) (slots + q.2.2) (xv_Wd_push (.inr (a, xv_dfs a)) _ ha hw hlim z1 o1 ?_) (by show cells + 1 + c0 = σ.1.1 + 1; omega) (by show slots + q.2.2 + l0 = σ.1.2 + q.2.2; omega)
          · rw [List.map_cons] at kk2
            change W p l e R s m args below meth c H1 locs (cells + 1) (slots + q.2.2) Q (F0 m (pc + 3) LS (.ref (ad σ.1.1) :: st.map (xv_sh ad))) at kk2
            rw [hadr] at kk2
            exact kk2
          · have hfs : (xv_dfs a).map (xv_sh ad) = xv_dfs a := by
              unfold xv_dfs
              rw [hq]
              show ((List.range q.2.2).map _).map _ = (List.range q.2.2).map _
              rw [List.map_map]
              apply List.map_congr_left
              intro j _
              simp only [Function.comp]
              split
              · rfl
              · split <;> rfl
            show va_at D xv_cl (H.size, .inr (a, (xv_dfs a).map (xv_sh ad))) H1
            rw [hfs]
            refine ⟨q, hq, (u_born ty0 hts hin hKn hkC e1 hty0).to (fun j hj => ?_)⟩
            have h6 := h4 j hj
            rw [hty0 j hj] at h6
            exact of_decide_eq_true h6
      | _ => dsimp only [xv_hok] at hok; cases hq : xv_cl[a]? <;> rw [hq] at hok <;> cases hok
    · rw [if_neg hlim] at hs; cases hs
  | newarray t =>
    change xv_newa a σ st = _ at hs
    match st, hs with
    | .int n :: st, hs1 =>
      unfold xv_newa at hs1
      dsimp only at hs1
      by_cases hlim : σ.1.1 < 1000000 ∧ 0 ≤ n ∧ n ≤ 100000
      · rw [if_pos hlim] at hs1
        cases hs1
        obtain ⟨hlim, hn0, hn1⟩ := hlim
        have hnn : ¬ n < 0 := by rw [Int32.lt_iff_toInt_lt]; rw [Int32.le_iff_toInt_le] at hn0; omega
        have hnt : n.toNatClampNeg ≤ 100000 := by
          rw [Int32.le_iff_toInt_le] at hn1
          have h9 : (100000 : Int32).toInt = 100000 := by decide
          rw [h9] at hn1
          show n.toInt.toNat ≤ 100000
          omega
        have hRc1 : σ.1.1 + 1 ≤ R.cells + c0 := hRc
        have hRs1 : σ.1.2 + n.toNatClampNeg ≤ R.slots + l0 := hRs
        have hadr : ad σ.1.1 = H.size := by rw [ha _ hlim, hz]
        dsimp only [xv_hok] at hok
        simp only [Bool.and_eq_true, decide_eq_true_eq, Bool.or_eq_true] at hok
        obtain ⟨h1, h2⟩ := hok
        have hbytes : n.toNatClampNeg * componentBytes (newarray.typeOf t) ≤ 536870912 := by
          have : componentBytes (newarray.typeOf t) ≤ 8 := by cases t <;> decide
          have := Nat.mul_le_mul hnt this
          omega
        refine va_newaK hx hb (hts _ (List.mem_of_getElem? h2)) rfl hd rfl hnn rfl hbytes (by omega) (by omega) rfl fun H1 cA e1 z1 o1 hAr hNm => ?_
        have kk2 := kk H1 locs (cells + 1) (slots + n.toNatClampNeg) (xv_Wd_push _ _ ha hw hlim z1 o1 ?_) (by show cells + 1 + c0 = σ.1.1 + 1; omega) (by show slots + n.toNatClampNeg + l0 = σ.1.2 + n.toNatClampNeg; omega)
        · change W p l e R s m args below meth c H1 locs (cells + 1) (slots + n.toNatClampNeg) Q (F0 m (pc + 2) LS (.ref (ad σ.1.1) :: st.map (xv_sh ad))) at kk2
          rw [hadr] at kk2
          exact kk2
        · rcases h1 with (⟨rfl, rfl⟩ | ⟨rfl, rfl⟩) | ⟨rfl, rfl⟩
          · have hcA : cA = aC 0 := Option.some.inj (hNm.symm.trans (hK.2 0 _ rfl).2)
            subst hcA
            exact e1
          · have hcA : cA = aC 1 := Option.some.inj (hNm.symm.trans (hK.2 1 _ rfl).2)
            subst hcA
            exact e1
          · have hcA : cA = aC 2 := Option.some.inj (hNm.symm.trans (hK.2 2 _ rfl).2)
            subst hcA
            exact e1
      · rw [if_neg hlim] at hs1; cases hs1
  | anewarray t =>
    change xv_newa a σ st = _ at hs
    match st, hs with
    | .int n :: st, hs1 =>
      unfold xv_newa at hs1
      dsimp only at hs1
      by_cases hlim : σ.1.1 < 1000000 ∧ 0 ≤ n ∧ n ≤ 100000
      · rw [if_pos hlim] at hs1
        cases hs1
        obtain ⟨hlim, hn0, hn1⟩ := hlim
        have hnn : ¬ n < 0 := by rw [Int32.lt_iff_toInt_lt]; rw [Int32.le_iff_toInt_le] at hn0; omega
        have hnt : n.toNatClampNeg ≤ 100000 := by
          rw [Int32.le_iff_toInt_le] at hn1
          have h9 : (100000 : Int32).toInt = 100000 := by decide
          rw [h9] at hn1
          show n.toInt.toNat ≤ 100000
          omega
        have hRc1 : σ.1.1 + 1 ≤ R.cells + c0 := hRc
        have hRs1 : σ.1.2 + n.toNatClampNeg ≤ R.slots + l0 := hRs
        have hadr : ad σ.1.1 = H.size := by rw [ha _ hlim, hz]
        dsimp only [xv_hok] at hok
        simp only [Bool.and_eq_true, decide_eq_true_eq, Bool.or_eq_true] at hok
        have key : ∀ C : String, a = 3 ∨ a = 4 → (xv_tys aC)[a]? = some (aC a, .object C) → xv_T[w]? = some (.classLink own t C) → xv_T[b]? = some (.arrayOver (.object C)) → W p l e R s m args below meth c H locs cells slots Q (F0 m pc LS ((.int n :: st).map (xv_sh ad))) := by
          intro C ha34 hty h2 h3
          refine W.anew hx hb hown (hts _ (List.mem_of_getElem? h2)) (va_AO.use (hts _ (List.mem_of_getElem? h3))) rfl hd rfl hnn (by omega) (by omega) (by omega) fun cA kA comp f1 f2 f3 f4 => ?_
          generalize hH1 : H.push ({ cls := cA, slots := Array.replicate n.toNatClampNeg .null, vm := .none } : Cell) = H1
          have z1 : H1.size = H.size + 1 := by rw [← hH1, Array.size_push]
          have e1 : H1[H.size]? = some (arrV cA n.toNatClampNeg (fun _ => .null)) := by rw [← hH1, Array.getElem?_push_size, ← arrV_new]
          have o1 : ∀ q : Nat, q < H.size → H1[q]? = H[q]? := fun q hq => by rw [← hH1, Array.getElem?_push, if_neg (Nat.ne_of_lt hq)]
          have kk2 := kk H1 locs (cells + 1) (slots + n.toNatClampNeg) (xv_Wd_push _ _ ha hw hlim z1 o1 ?_) (by show cells + 1 + c0 = σ.1.1 + 1; omega) (by show slots + n.toNatClampNeg + l0 = σ.1.2 + n.toNatClampNeg; omega)
          · change W p l e R s m args below meth c H1 locs (cells + 1) (slots + n.toNatClampNeg) Q (F0 m (pc + 3) LS (.ref (ad σ.1.1) :: st.map (xv_sh ad))) at kk2
            rw [hadr] at kk2
            exact kk2
          · obtain ⟨_, _, -, -, -, hNm⟩ := (hK.2 a _ hty).2
            have hcA : cA = aC a := Option.some.inj (f1.symm.trans hNm)
            subst hcA
            rcases ha34 with rfl | rfl
            · exact e1
            · exact e1
        rcases hok with ⟨⟨rfl, h2⟩, h3⟩ | ⟨⟨rfl, h2⟩, h3⟩
        · exact key _ (Or.inl rfl) rfl h2 h3
        · exact key _ (Or.inr rfl) rfl h2 h3
      · rw [if_neg hlim] at hs1; cases hs1
  | _ => cases hs
end XVH
end
section
/-! SOUNDNESS: what the small machine does, the JVM does -/
def xv_rok (ret : Option FieldType) (i : Instr) : Bool :=
  match i, ret with
  | .return_, none => true
  | .return_, _ => false
  | .ireturn, some .int => true
  | .ireturn, some .boolean => true
  | .ireturn, _ => false
  | .lreturn, some .long => true
  | .lreturn, _ => false
  | .areturn, some (.object _) => true
  | .areturn, some (.array _) => true
  | .areturn, _ => false
  | _, _ => true
def xv_mname : Nat → MethodName
  | 0 => Lib.Math.abs.name
  | 1 => Lib.MathLoose.abs_long.x
  | 2 => Lib.Math.max.name
  | 3 => Lib.MathLoose.max_long.x
  | 4 => Lib.Math.min.name
  | _ => Lib.MathLoose.min_long.x
def xv_cok (mt : Nat → Option xv_M) (own : String) (i : Instr) (a b w : Nat) (v : Value) : Bool :=
  match i with
  | .invokevirtual k => (match mt a, v with
    | some M, .int ci => decide (M.2.2.2.2.1 = (ci.toNatClampNeg, 1, b)) && decide (xv_T[w]? = some (.methodLink own k M.1))
    | _, _ => false)
  | .invokestatic k => if v = .null then decide (xv_T[w]? = some (.methodLink own k (xv_mname a))) else (match mt a with
    | some M => decide (M.2.2.2.2.1.2 = (0, b)) && decide (xv_T[w]? = some (.methodLink own k M.1))
    | none => false)
  | .invokespecial k => if v = .null then decide (xv_T[w]? = some (.methodLink own k Lib.objectInit)) else (match mt a with
    | some M => decide (M.2.2.2.2.1.2 = (2, b)) && (decide (v = .int 0) && decide (xv_T[w]? = some (.methodLink own k M.1)) || decide (v = .int 1) && decide (xv_T[w]? = some (.methodLinkNest own k M.1 "OnionCourt")))
    | none => false)
  | _ => true
def xv_tsw : Instr → Bool
  | .tableswitch _ _ _ _ => true
  | _ => false
def xv_bok (mt : Nat → Option xv_M) (M : xv_M) : List xv_Op → Nat → Bool
  | [], _ => true
  | (i, a, b, w, v) :: ops, pc => if i = .nop then decide (a = pc) else
    match decode M.2.1 pc with
    | .ok (j, len) => decide (j = i) && (decide (len = xv_nx i) || xv_tsw i) && xv_lok M.1.cls M.2.2.1 M.2.2.2.2.2.1 i w v && xv_jok pc i a && xv_hok M.1.cls M.1.name i a b w v && xv_cok mt M.1.cls i a b w v && xv_rok M.2.2.2.1 i && xv_bok mt M ops (pc + xv_nx i)
    | .error _ => false
def xv_mok (mt : Nat → Option xv_M) (M : xv_M) : Prop :=
  (Cond.code M.1 M.2.1 M.2.2.1 M.2.2.2.1 ∈ xv_T ∧ Cond.initialized M.1.cls ∈ xv_T ∧ plainName M.1.cls = true) ∧
  (M.1.cls ≠ "java/lang/invoke/MethodHandle" ∧ M.1.cls ≠ "java/lang/invoke/VarHandle" ∧ (parseMethodDescriptor M.1.desc).map (fun d => d.parameters.length) = some M.2.2.2.2.1.2.2) ∧ M.2.2.1 ≤ 40 ∧
  (M.2.2.2.2.1.2.1 = 0 → Cond.static M.1 ∈ xv_T) ∧
  (M.2.2.2.2.1.2.1 = 1 → Cond.instanceMethod M.1 ∈ xv_T ∧ Cond.selects M.1.cls M.1 M.1 ∈ xv_T ∧ ∃ q : vw_C, xv_cl[M.2.2.2.2.1.1]? = some q ∧ q.1 = M.1.cls) ∧
  (M.2.2.2.2.1.2.1 = 2 → Cond.instanceMethod M.1 ∈ xv_T ∧ M.1.name = "<init>" ∧ M.2.2.2.1 = none) ∧
  ∀ pc, xv_bok mt M (xv_at M.2.2.2.2.2.2 pc) pc = true
def xv_rm (d mc ms : Nat) : Room := { frames := d, cells := mc, slots := ms, locals := 64 * d }
def xv_Kn (base : Nat) (aC : Nat → ClassId) (ad : Nat → Nat) (D : va_G) (ro : xv_Ro) (U : State) : Prop :=
  va_K D xv_cl (xv_tys aC) U ∧ (∀ k L f, ro k = some (L, f) → va_T .int (ad k) L (fun j => .int (f j)) (xv_A base) U U.heap) ∧ va_Z "OnionCourt" "WORLDS_OF_FACT" "[I" (.ref (ad 1000000)) (xv_A base) U U.heap ∧ ∀ w ∈ xv_T, w.before #[] U = true
def xv_Pc (base : Nat) (aC : Nat → ClassId) (ad : Nat → Nat) (D : va_G) (ro : xv_Ro) (σ : xv_S) (as : List Value) : Array Value → State → Prop := fun v U =>
  v = (as.map (xv_sh ad)).toArray ∧ U.heap.size = base + σ.1.1 ∧ va_P D xv_cl (xv_w aC ad σ) U.heap ∧ xv_dead σ ∧ xv_Kn base aC ad D ro U
def xv_Qc (base : Nat) (aC : Nat → ClassId) (ad : Nat → Nat) (D : va_G) (σ : xv_S) (r : Option Value) : Array Value → State → Outcome → State → Prop := fun _ st o t =>
  (o = .returned (r.map (xv_sh ad)) ∧ t.heap.size = base + σ.1.1 ∧ va_P D xv_cl (xv_w aC ad σ) t.heap ∧ xv_dead σ) ∧ va_F (xv_A base) st t
theorem xv_good1 : xv_T.all xv_wk = true := by decide +kernel
/-- the words stay what they are while the machine warms -/
theorem xv_warm {w : Cond} (hk : xv_wk w = true) {s U : State} {A A' : Array Value} (hW : s.WarmedH U.vm) (h : w.before A s = true) : w.before A' U = true := by
  have gen : (w.onTables && w.keeps) = true → w.before A' U = true := fun h1 => word_at hW (Or.inl h1) h
  cases w with
  | arrayClass ty => exact word_at hW (Or.inr ⟨ty, rfl⟩) h
  | methodLinkNest a i x d => exact va_Nw.use rfl (va_Nw.warmM hW (va_Nw.of rfl h))
  | fieldLinkNest a i b n d x => exact va_Nw.use rfl (va_Nw.warmF hW (va_Nw.of rfl h))
  | privateMethod x => exact va_tabs rfl (rfl : (s.setVm U.vm).vm = U.vm) (by rw [Cond.privateMethod_setVm hW.alike]; exact h)
  | arrayOver ty =>
    cases ty with
    | object C => exact va_AO.use (va_AO.moved hW.alike (va_AO.of h))
    | _ => exact gen hk
  | _ => exact gen hk
theorem xv_warmT {s U : State} {A A' : Array Value} (hW : s.WarmedH U.vm) (h : ∀ w ∈ xv_T, w.before A s = true) : ∀ w ∈ xv_T, w.before A' U = true := fun w hw => xv_warm (List.all_eq_true.mp xv_good1 w hw) hW (h w hw)
theorem xv_goodIn (y : MethodName) (b : ByteArray) (n : Nat) (r : Option FieldType) (hw : Cond.code y b n r ∈ xv_T) : GoodIn xv_T [Cond.code y b n r] := by
  intro v hv
  rcases List.mem_singleton.mp hv with rfl
  refine ⟨hw, Or.inl ?_⟩
  first | rfl | simp [Cond.onTables, Cond.keeps, Cond.steady]
/-- from a method's start to a point of its body -/
theorem xv_Kn_moved {base : Nat} {aC : Nat → ClassId} {ad : Nat → Nat} {D : va_G} {ro : xv_Ro} {u U : State} {H : Heap} {locs : List Loc} (hW : u.WarmedH U.vm) (hH : U.heap = H) (hS : va_S (xv_A base) u.heap H locs) (h : xv_Kn base aC ad D ro u) : xv_Kn base aC ad D ro U := by
  obtain ⟨h1, h2, h3, h4⟩ := h
  subst hH
  refine ⟨h1.moved hW.alike, fun k L f hk => ?_, ?_, xv_warmT hW h4⟩
  · exact ((h2 k L f hk).kept (fun a h1 h2 => hS.2.1 a h1 h2)).moved hW.alike
  · have h5 := h3.moved (U := U) hW.alike
    obtain ⟨cf, kf, fi, f, a, cell, e1, e2, e3, e4, e5, e6, e7, e8⟩ := h5
    exact ⟨cf, kf, fi, f, a, cell, e1, e2, e3, e4, (hS.2.1 a (Array.getElem?_eq_some_iff.mp e5).1 e8).trans e5, e6, e7, e8⟩
theorem xv_Pc_blind {base : Nat} {aC : Nat → ClassId} {ad : Nat → Nat} {D : va_G} {ro : xv_Ro} {σ : xv_S} {as : List Value} : FrameBlind (xv_Pc base aC ad D ro σ as) := by
  intro a U g mk h
  obtain ⟨h1, h2, h3, h4, h5⟩ := h
  exact ⟨h1, h2, h3, h4, xv_Kn_moved (u := U) (U := U.calling g mk a) (State.WarmedH.refl U) rfl va_S.rf h5⟩
theorem xv_mini : Cond.initialized "java/lang/Math" ∈ xv_T := List.mem_of_getElem? (i := 89) (by decide +kernel)
theorem xv_m0 : Cond.static Lib.Math.abs.name ∈ xv_T ∧ Cond.code Lib.Math.abs.name Lib.Math.abs.code 1 (some .int) ∈ xv_T := ⟨List.mem_of_getElem? (i := 980) (by decide +kernel), List.mem_of_getElem? (i := 981) (by decide +kernel)⟩
theorem xv_m1 : Cond.static Lib.MathLoose.abs_long.x ∈ xv_T ∧ Cond.code Lib.MathLoose.abs_long.x Lib.MathLoose.abs_long.code 2 (some .long) ∈ xv_T := ⟨List.mem_of_getElem? (i := 913) (by decide +kernel), List.mem_of_getElem? (i := 914) (by decide +kernel)⟩
theorem xv_m2 : Cond.static Lib.Math.max.name ∈ xv_T ∧ Cond.code Lib.Math.max.name Lib.Math.max.code 2 (some .int) ∈ xv_T := ⟨List.mem_of_getElem? (i := 679) (by decide +kernel), List.mem_of_getElem? (i := 680) (by decide +kernel)⟩
theorem xv_m3 : Cond.static Lib.MathLoose.max_long.x ∈ xv_T ∧ Cond.code Lib.MathLoose.max_long.x Lib.MathLoose.max_long.code 4 (some .long) ∈ xv_T := ⟨List.mem_of_getElem? (i := 755) (by decide +kernel), List.mem_of_getElem? (i := 756) (by decide +kernel)⟩
theorem xv_m4 : Cond.static Lib.Math.min.name ∈ xv_T ∧ Cond.code Lib.Math.min.name Lib.Math.min.code 2 (some .int) ∈ xv_T := ⟨List.mem_of_getElem? (i := 758) (by decide +kernel), List.mem_of_getElem? (i := 759) (by decide +kernel)⟩
theorem xv_m5 : Cond.static Lib.MathLoose.min_long.x ∈ xv_T ∧ Cond.code Lib.MathLoose.min_long.x Lib.MathLoose.min_long.code 4 (some .long) ∈ xv_T := ⟨List.mem_of_getElem? (i := 752) (by decide +kernel), List.mem_of_getElem? (i := 753) (by decide +kernel)⟩
theorem xv_objinit : Cond.instanceMethod Lib.objectInit ∈ xv_T ∧ Cond.code Lib.objectInit ⟨#[0xb1]⟩ 1 none ∈ xv_T := ⟨by decide +kernel, by decide +kernel⟩
/-- the locals at the entry -/
theorem xv_lv_args {ad : Nat → Nat} {k : Nat} : ∀ (as : List Value) (n : Nat) (q : Nat × Value), q ∈ xv_lv ad n (xv_flat as ++ List.replicate k none) → q ∈ lv_args n (as.map (xv_sh ad)) := by
  intro as
  induction as with
  | nil =>
    intro n q h
    exfalso
    obtain ⟨j, w⟩ := q
    obtain ⟨i, v, -, h2, -⟩ := xv_lv_mem.mp h
    have : ∀ (m i : Nat) (v : Value), xv_get (List.replicate m none) i = some v → False := by
      intro m
      induction m with
      | zero => intro i v h; cases h
      | succ m ih =>
        intro i v h
        cases i with
        | zero => cases h
        | succ i => exact ih i v h
    exact this k i v h2
  | cons v vs ih =>
    intro n q h
    by_cases hc : v.category = 2
    · have hf : xv_flat (v :: vs) = some v :: none :: xv_flat vs := by simp [xv_flat, hc]
      rw [hf] at h
      have hc2 : (xv_sh ad v).category = 2 := by rw [xv_sh_cat]; exact hc
      show q ∈ (n, xv_sh ad v) :: lv_args (if (xv_sh ad v).category = 2 then n + 2 else n + 1) (vs.map (xv_sh ad))
      rw [if_pos hc2]
      rcases List.mem_cons.mp h with h | h
      · rw [h]; exact List.mem_cons_self
      · exact List.mem_cons_of_mem _ (ih (n + 2) q h)
    · have hf : xv_flat (v :: vs) = some v :: xv_flat vs := by simp [xv_flat, hc]
      rw [hf] at h
      have hc2 : ¬ (xv_sh ad v).category = 2 := by rw [xv_sh_cat]; exact hc
      show q ∈ (n, xv_sh ad v) :: lv_args (if (xv_sh ad v).category = 2 then n + 2 else n + 1) (vs.map (xv_sh ad))
      rw [if_neg hc2]
      rcases List.mem_cons.mp h with h | h
      · rw [h]; exact List.mem_cons_self
      · exact List.mem_cons_of_mem _ (ih (n + 1) q h)
theorem xv_flat_len {ad : Nat → Nat} (as : List Value) : (lg_sl (as.map (xv_sh ad))).length = (xv_flat as).length := by
  induction as with
  | nil => rfl
  | cons v vs ih =>
    have h1 : lg_sl ((v :: vs).map (xv_sh ad)) = (if (xv_sh ad v).category = 2 then [.val (xv_sh ad v), .second] else [.val (xv_sh ad v)]) ++ lg_sl (vs.map (xv_sh ad)) := by simp [lg_sl]
    rw [h1, List.length_append, ih, xv_sh_cat]
    by_cases hc : v.category = 2
    · simp [xv_flat, hc]; omega
    · simp [xv_flat, hc]; omega
theorem xv_ini_lg {M : xv_M} {as : List Value} {ls : xv_L} (h : xv_ini M as = some ls) : xv_lg M.2.2.2.2.2.1 ls ∧ (xv_flat as).length ≤ M.2.2.1 ∧ ls = xv_flat as ++ List.replicate (M.2.2.1 - (xv_flat as).length) none := by
  unfold xv_ini at h
  by_cases hc : (xv_flat as).length ≤ M.2.2.1 ∧ (xv_lgs 0 as).all (fun j => M.2.2.2.2.2.1.contains j) = true
  · rw [if_pos hc] at h
    cases h
    refine ⟨fun j v hj hv => ?_, hc.1, rfl⟩
    have key : ∀ (as : List Value) (n k j : Nat) (v : Value), xv_get (xv_flat as ++ List.replicate k none) j = some v → v.category = 2 → n + j ∈ xv_lgs n as := by
      intro as
      induction as with
      | nil =>
        intro n k j v h hv
        exfalso
        have : ∀ (m i : Nat) (v : Value), xv_get (List.replicate m none) i = some v → False := by
          intro m
          induction m with
          | zero => intro i v h; cases h
          | succ m ih =>
            intro i v h
            cases i with
            | zero => cases h
            | succ i => exact ih i v h
        exact this k j v h
      | cons u us ih =>
        intro n k j v h hv
        by_cases hu : u.category = 2
        · have hf : xv_flat (u :: us) = some u :: none :: xv_flat us := by simp [xv_flat, hu]
          have hg : xv_lgs n (u :: us) = n :: xv_lgs (n + 2) us := by simp [xv_lgs, hu]
          rw [hf] at h
          rw [hg]
          match j, h with
          | 0, h => exact List.mem_cons_self
          | 1, h => cases h
          | j + 2, h =>
            have := ih (n + 2) k j v h hv
            exact List.mem_cons_of_mem _ (by rw [show n + (j + 2) = n + 2 + j by omega]; exact this)
        · have hf : xv_flat (u :: us) = some u :: xv_flat us := by simp [xv_flat, hu]
          have hg : xv_lgs n (u :: us) = xv_lgs (n + 1) us := by simp [xv_lgs, hu]
          rw [hf] at h
          rw [hg]
          match j, h with
          | 0, h => 
            have h : some u = some v := h
            cases h
            exact absurd hv hu
          | j + 1, h =>
            have := ih (n + 1) k j v h hv
            rw [show n + (j + 1) = n + 1 + j by omega]; exact this
    have h1 := key as 0 _ j v hj hv
    rw [Nat.zero_add] at h1
    have h2 := List.all_eq_true.mp hc.2 j h1
    simpa using h2
  · rw [if_neg hc] at h; cases h
section XVS
variable {p : Program} {l : Launch} {e : Env} {R : Room} {s : State} {m : MethodId} {args : Array Value} {below : List Frame} {meth : Method} {c : Code} {H : Heap} {locs : List Loc} {cells slots : Nat} {Q : State → Prop}
variable {cc : ByteArray} {pc : Nat} {LS : Array Slot} {ad : Nat → Nat} {base : Nat} {aC : Nat → ClassId} {D : va_G} {ro : xv_Ro}
theorem xv_ret_ok {M : xv_M} {i : Instr} {st : List Value} {r : Option Value} {Qc : Array Value → State → Outcome → State → Prop} {free : Addr → Prop} (hx : p.tables.exec = Jvm.exec) (hb : c.code = cc) (hr : meth.sig.returnType = M.2.2.2.1) (hlocks : meth.locks = false)
    (hd : decode cc pc = .ok (i, 1)) (hok : xv_rok M.2.2.2.1 i = true) (hs : xv_ret M i st = some r) (hq : ∀ t : State, t.heap = H → s.WarmedH t.vm → Qc args s (.returned (r.map (xv_sh ad))) t) (hf : ∀ q ∈ locs, free q.base) :
    W p l e R s m args below meth c H locs cells slots (MQ below Qc args s cells slots free) (F0 m pc LS (st.map (xv_sh ad))) := by
  cases i with
  | return_ =>
    match st, hs with
    | [], hs =>
      cases hs
      cases hrt : M.2.2.2.1 with
      | none => exact W.vret hx hb (hr.trans hrt) hq hf hd hlocks
      | some ty => rw [hrt] at hok; cases hok
  | ireturn =>
    match st, hs with
    | [.int x], hs =>
      change (if M.2.2.2.1 = some FieldType.int then some (some (Value.int x)) else if M.2.2.2.1 = some FieldType.boolean ∧ (x = 0 ∨ x = 1) then some (some (Value.int x)) else none) = _ at hs
      by_cases h1 : M.2.2.2.1 = some .int
      · rw [if_pos h1] at hs
        cases hs
        exact W.iret hx hb (hr.trans h1) hq hf hd hlocks
      · rw [if_neg h1] at hs
        by_cases h2 : M.2.2.2.1 = some .boolean ∧ (x = 0 ∨ x = 1)
        · rw [if_pos h2] at hs
          cases hs
          exact W.zret hx hb (hr.trans h2.1) (by rcases h2.2 with rfl | rfl <;> rfl) hq hf hd hlocks
        · rw [if_neg h2] at hs; cases hs
  | lreturn =>
    match st, hs with
    | [.long x], hs =>
      cases hs
      match hrt : M.2.2.2.1, hok with
      | some .long, _ => exact W.lret hx hb (hr.trans hrt) hq hf hd hlocks
  | areturn =>
    have hrt : (∃ n, M.2.2.2.1 = some (.object n)) ∨ ∃ t, M.2.2.2.1 = some (.array t) := by
      match hrt : M.2.2.2.1, hok with
      | some (.object n), _ => exact Or.inl ⟨n, rfl⟩
      | some (.array n), _ => exact Or.inr ⟨n, rfl⟩
    match st, hs with
    | [.null], hs =>
      cases hs
      rcases hrt with ⟨n, hrt⟩ | ⟨n, hrt⟩
      · exact W.aret hx hb (hr.trans hrt) (Or.inl ⟨n, rfl⟩) (Or.inl rfl) hq hf hd hlocks
      · exact W.aret hx hb (hr.trans hrt) (Or.inr ⟨n, rfl⟩) (Or.inl rfl) hq hf hd hlocks
    | [.ref a], hs =>
      cases hs
      rcases hrt with ⟨n, hrt⟩ | ⟨n, hrt⟩
      · exact W.aret hx hb (hr.trans hrt) (Or.inl ⟨n, rfl⟩) (Or.inr ⟨_, rfl⟩) hq hf hd hlocks
      · exact W.aret hx hb (hr.trans hrt) (Or.inr ⟨n, rfl⟩) (Or.inr ⟨_, rfl⟩) hq hf hd hlocks
  | _ => cases hs
theorem xv_callk {σ' : xv_S} {r : Option Value} {rest st0 : List Value} {mc ms : Nat} {a : Array Value} (hr : va_Run p l e R s m args below meth c H locs cells slots mc ms (F0 m pc LS st0) (rest.map (xv_sh ad)) (xv_Qc base aC ad D σ' r a) (xv_A base)) (hS : va_S (xv_A base) s.heap H locs)
    (kk : ∀ (H1 : Heap) (locs1 : List Loc), xv_Wd base aC ad D s.heap H1 locs1 σ' → W p l e R s m args below meth c H1 locs1 (cells + mc) (slots + ms) Q (F0 m (pc + 3) LS ((r.toList ++ rest).map (xv_sh ad)))) : W p l e R s m args below meth c H locs cells slots Q (F0 m pc LS st0) := by
  intro T hT X
  obtain ⟨v, st₀, t, T', L, h0, X', hL, e1, e2, ⟨⟨hv, g1, g2, g3⟩, hz, hk⟩, st⟩ := hr T hT X
  cases hv
  rw [h0] at hz hk
  obtain ⟨t2, a1, b1⟩ := kk T'.heap (locs ++ L) ⟨by rw [e1]; exact g1, by rw [e1]; exact g2, ⟨Nat.le_trans hS.1 (by rw [e1]; exact hz), fun q h1 h2 => by rw [e1, hk q (Nat.lt_of_lt_of_le h1 hS.1) h2]; exact hS.2.1 q h1 h2, fun q hq => by
      rcases List.mem_append.mp hq with h | h
      · exact hS.2.2 q h
      · exact hL q h⟩, g3⟩ T' rfl X'
  refine ⟨t2, st t2 ?_, b1⟩
  have he : (r.map (xv_sh ad)).toList ++ rest.map (xv_sh ad) = (r.toList ++ rest).map (xv_sh ad) := by cases r <;> simp
  rw [he]
  exact a1
end XVS
end
section
theorem xv_hp_mono {ro : xv_Ro} {i : Instr} {a b : Nat} {v : Value} {σ σ' : xv_S} {st st' : List Value} (h : xv_hp ro i a b v σ st = some (st', σ')) : σ.1.1 ≤ σ'.1.1 ∧ σ.1.2 ≤ σ'.1.2 := by
  cases i with
  | getfield k => obtain ⟨z, -, hz⟩ := xv_opt_use h; cases hz; exact ⟨Nat.le_refl _, Nat.le_refl _⟩
  | putfield k =>
    cases v with
    | int t => obtain ⟨z, -, hz⟩ := xv_opt_use h; cases hz; exact ⟨Nat.le_refl _, Nat.le_refl _⟩
    | _ => cases h
  | iaload => obtain ⟨z, -, hz⟩ := xv_opt_use h; cases hz; exact ⟨Nat.le_refl _, Nat.le_refl _⟩
  | baload => obtain ⟨z, -, hz⟩ := xv_opt_use h; cases hz; exact ⟨Nat.le_refl _, Nat.le_refl _⟩
  | laload => obtain ⟨z, -, hz⟩ := xv_opt_use h; cases hz; exact ⟨Nat.le_refl _, Nat.le_refl _⟩
  | aaload => obtain ⟨z, -, hz⟩ := xv_opt_use h; cases hz; exact ⟨Nat.le_refl _, Nat.le_refl _⟩
  | iastore => obtain ⟨z, -, hz⟩ := xv_opt_use h; cases hz; exact ⟨Nat.le_refl _, Nat.le_refl _⟩
  | bastore => obtain ⟨z, -, hz⟩ := xv_opt_use h; cases hz; exact ⟨Nat.le_refl _, Nat.le_refl _⟩
  | lastore => obtain ⟨z, -, hz⟩ := xv_opt_use h; cases hz; exact ⟨Nat.le_refl _, Nat.le_refl _⟩
  | aastore => obtain ⟨z, -, hz⟩ := xv_opt_use h; cases hz; exact ⟨Nat.le_refl _, Nat.le_refl _⟩
  | arraylength => obtain ⟨z, -, hz⟩ := xv_opt_use h; cases hz; exact ⟨Nat.le_refl _, Nat.le_refl _⟩
  | getstatic k => cases h; exact ⟨Nat.le_refl _, Nat.le_refl _⟩
  | new k =>
    change xv_new a σ st = _ at h
    unfold xv_new at h
    by_cases hc : σ.1.1 < 1000000
    · rw [if_pos hc] at h; cases h; exact ⟨Nat.le_succ _, Nat.le_add_right _ _⟩
    · rw [if_neg hc] at h; cases h
  | newarray k =>
    change xv_newa a σ st = _ at h
    match st, h with
    | .int n :: st, h1 =>
      unfold xv_newa at h1
      by_cases hc : σ.1.1 < 1000000 ∧ 0 ≤ n ∧ n ≤ 100000
      · dsimp only at h1; rw [if_pos hc] at h1; cases h1; exact ⟨Nat.le_succ _, Nat.le_add_right _ _⟩
      · dsimp only at h1; rw [if_neg hc] at h1; cases h1
  | anewarray k =>
    change xv_newa a σ st = _ at h
    match st, h with
    | .int n :: st, h1 =>
      unfold xv_newa at h1
      by_cases hc : σ.1.1 < 1000000 ∧ 0 ≤ n ∧ n ≤ 100000
      · dsimp only at h1; rw [if_pos hc] at h1; cases h1; exact ⟨Nat.le_succ _, Nat.le_add_right _ _⟩
      · dsimp only at h1; rw [if_neg hc] at h1; cases h1
  | _ => cases h
/-- the call of an instruction: callee, arguments, rest -/
def xv_call (i : Instr) (a b : Nat) (v : Value) (h : xv_H) (st : List Value) : Option (Nat × List Value × List Value) :=
  match i with
  | .invokevirtual _ => xv_cv a b v h st
  | .invokespecial _ => xv_ci a b st
  | _ => some (a, (st.take b).reverse, st.drop b)
/-- one step, by the kind of its instruction -/
theorem xv_exec_0 {mt : Nat → Option xv_M} {ro : xv_Ro} {n d : Nat} {M : xv_M} {i : Instr} {a b w : Nat} {v : Value} {ops : List xv_Op} {ls : xv_L} {st : List Value} {σ : xv_S} {res : Option Value × xv_S} (hk : xv_kd i = 0) (h : xv_exec mt ro (n + 1) d M ((i, a, b, w, v) :: ops) ls st σ = some res) :
    ∃ ls' st', xv_loc i v ls st = some (ls', st') ∧ xv_exec mt ro n d M ops ls' st' σ = some res := by
  unfold xv_exec at h
  rw [hk] at h
  cases hl : xv_loc i v ls st with
  | none => rw [hl] at h; cases h
  | some q => rw [hl] at h; exact ⟨q.1, q.2, rfl, h⟩
theorem xv_exec_1 {mt : Nat → Option xv_M} {ro : xv_Ro} {n d : Nat} {M : xv_M} {i : Instr} {a b w : Nat} {v : Value} {ops : List xv_Op} {ls : xv_L} {st : List Value} {σ : xv_S} {res : Option Value × xv_S} (hk : xv_kd i = 1) (h : xv_exec mt ro (n + 1) d M ((i, a, b, w, v) :: ops) ls st σ = some res) :
    ∃ t st', xv_jmp i a st = some (t, st') ∧ (∀ c, t = some c → xv_exec mt ro n d M (xv_at M.2.2.2.2.2.2 c) ls st' σ = some res) ∧ (t = none → xv_exec mt ro n d M ops ls st' σ = some res) := by
  unfold xv_exec at h
  rw [hk] at h
  cases hl : xv_jmp i a st with
  | none => rw [hl] at h; cases h
  | some q =>
    rw [hl] at h
    obtain ⟨t, st'⟩ := q
    cases t with
    | none => exact ⟨none, st', rfl, fun c hc => (by cases hc), fun _ => h⟩
    | some c => exact ⟨some c, st', rfl, fun c2 hc => (by cases hc; exact h), fun hc => by cases hc⟩
theorem xv_exec_2 {mt : Nat → Option xv_M} {ro : xv_Ro} {n d : Nat} {M : xv_M} {i : Instr} {a b w : Nat} {v : Value} {ops : List xv_Op} {ls : xv_L} {st : List Value} {σ : xv_S} {res : Option Value × xv_S} (hk : xv_kd i = 2) (h : xv_exec mt ro (n + 1) d M ((i, a, b, w, v) :: ops) ls st σ = some res) :
    ∃ st' σ', xv_hp ro i a b v σ st = some (st', σ') ∧ xv_exec mt ro n d M ops ls st' σ' = some res := by
  unfold xv_exec at h
  rw [hk] at h
  cases hl : xv_hp ro i a b v σ st with
  | none => rw [hl] at h; cases h
  | some q => rw [hl] at h; exact ⟨q.1, q.2, rfl, h⟩
theorem xv_exec_3 {mt : Nat → Option xv_M} {ro : xv_Ro} {n d : Nat} {M : xv_M} {i : Instr} {a b w : Nat} {v : Value} {ops : List xv_Op} {ls : xv_L} {st : List Value} {σ : xv_S} {res : Option Value × xv_S} (hk : xv_kd i = 3) (h : xv_exec mt ro (n + 1) d M ((i, a, b, w, v) :: ops) ls st σ = some res) :
    ∃ d', d = d' + 1 ∧ ((v = .null ∧ ∃ st' rest, xv_spc i a st = some (st', rest) ∧ rest.length ≤ 4 ∧ xv_exec mt ro n d M ops ls st' σ = some res) ∨
      (¬ v = .null ∧ ∃ k as rest M' ls0 r σ', xv_call i a b v σ.2 st = some (k, as, rest) ∧ mt k = some M' ∧ xv_ini M' as = some ls0 ∧ rest.length ≤ 4 ∧ as.length = M'.2.2.2.2.1.2.2 + (if M'.2.2.2.2.1.2.1 = 0 then 0 else 1) ∧
        xv_exec mt ro n d' M' (xv_at M'.2.2.2.2.2.2 0) ls0 [] σ = some (r, σ') ∧ xv_exec mt ro n d M ops ls (r.toList ++ rest) σ' = some res)) := by
  unfold xv_exec at h
  rw [hk] at h
  cases d with
  | zero => cases h
  | succ d' =>
    refine ⟨d', rfl, ?_⟩
    dsimp only at h
    by_cases hv : v = .null
    · rw [if_pos hv] at h
      refine Or.inl ⟨hv, ?_⟩
      cases hq : xv_spc i a st with
      | none => rw [hq] at h; cases h
      | some q =>
        obtain ⟨st', rest⟩ := q
        rw [hq] at h
        dsimp only at h
        by_cases hr : rest.length ≤ 4
        · rw [if_pos hr] at h; exact ⟨st', rest, rfl, hr, h⟩
        · rw [if_neg hr] at h; cases h
    · rw [if_neg hv] at h
      refine Or.inr ⟨hv, ?_⟩
      change (match xv_call i a b v σ.2 st with
          | some (k, as, rest) => _
          | none => none) = _ at h
      cases hc : xv_call i a b v σ.2 st with
      | none => rw [hc] at h; cases h
      | some q =>
        obtain ⟨k, as, rest⟩ := q
        rw [hc] at h
        dsimp only at h
        cases hm : mt k with
        | none => rw [hm] at h; cases h
        | some M' =>
          rw [hm] at h
          dsimp only at h
          cases hi : xv_ini M' as with
          | none => rw [hi] at h; cases h
          | some ls0 =>
            rw [hi] at h
            dsimp only at h
            by_cases hr : rest.length ≤ 4 ∧ as.length = M'.2.2.2.2.1.2.2 + (if M'.2.2.2.2.1.2.1 = 0 then 0 else 1)
            · rw [if_pos hr] at h
              cases he : xv_exec mt ro n d' M' (xv_at M'.2.2.2.2.2.2 0) ls0 [] σ with
              | none => rw [he] at h; cases h
              | some q =>
                rw [he] at h
                exact ⟨k, as, rest, M', ls0, q.1, q.2, rfl, hm, hi, hr.1, hr.2, he, h⟩
            · rw [if_neg hr] at h; cases h
theorem xv_exec_4 {mt : Nat → Option xv_M} {ro : xv_Ro} {n d : Nat} {M : xv_M} {i : Instr} {a b w : Nat} {v : Value} {ops : List xv_Op} {ls : xv_L} {st : List Value} {σ : xv_S} {res : Option Value × xv_S} (hk : xv_kd i = 4) (h : xv_exec mt ro (n + 1) d M ((i, a, b, w, v) :: ops) ls st σ = some res) :
    ∃ r, xv_ret M i st = some r ∧ res = (r, σ) := by
  unfold xv_exec at h
  rw [hk] at h
  cases hl : xv_ret M i st with
  | none => rw [hl] at h; cases h
  | some r => rw [hl] at h; cases h; exact ⟨r, rfl, rfl⟩
theorem xv_kd_lt (i : Instr) : xv_kd i = 0 ∨ xv_kd i = 1 ∨ xv_kd i = 2 ∨ xv_kd i = 3 ∨ xv_kd i = 4 := by
  unfold xv_kd
  split <;> simp
theorem xv_mono {mt : Nat → Option xv_M} {ro : xv_Ro} : ∀ (n d : Nat) (M : xv_M) (ops : List xv_Op) (ls : xv_L) (st : List Value) (σ : xv_S) (r : Option Value) (σ' : xv_S), xv_exec mt ro n d M ops ls st σ = some (r, σ') → σ.1.1 ≤ σ'.1.1 ∧ σ.1.2 ≤ σ'.1.2 := by
  intro n
  induction n with
  | zero => intro d M ops ls st σ r σ' h; unfold xv_exec at h; cases h
  | succ n ih =>
    intro d M ops ls st σ r σ' h
    cases ops with
    | nil => unfold xv_exec at h; cases h
    | cons op ops =>
      obtain ⟨i, a, b, w, v⟩ := op
      rcases xv_kd_lt i with hk | hk | hk | hk | hk
      · obtain ⟨ls', st', -, h2⟩ := xv_exec_0 hk h
        exact ih _ _ _ _ _ _ _ _ h2
      · obtain ⟨t, st', -, h2, h3⟩ := xv_exec_1 hk h
        cases t with
        | none => exact ih _ _ _ _ _ _ _ _ (h3 rfl)
        | some c => exact ih _ _ _ _ _ _ _ _ (h2 c rfl)
      · obtain ⟨st', σ1, h1, h2⟩ := xv_exec_2 hk h
        have g1 := xv_hp_mono h1
        have g2 := ih _ _ _ _ _ _ _ _ h2
        exact ⟨Nat.le_trans g1.1 g2.1, Nat.le_trans g1.2 g2.2⟩
      · obtain ⟨d', -, h2 | h2⟩ := xv_exec_3 hk h
        · obtain ⟨-, st', rest, -, -, h3⟩ := h2
          exact ih _ _ _ _ _ _ _ _ h3
        · obtain ⟨-, k, as, rest, M', ls0, r1, σ1, -, -, -, -, -, h3, h4⟩ := h2
          have g1 := ih _ _ _ _ _ _ _ _ h3
          have g2 := ih _ _ _ _ _ _ _ _ h4
          exact ⟨Nat.le_trans g1.1 g2.1, Nat.le_trans g1.2 g2.2⟩
      · obtain ⟨r1, -, h2⟩ := xv_exec_4 hk h
        cases h2
        exact ⟨Nat.le_refl _, Nat.le_refl _⟩
end
section
theorem xv_room4 {ad : Nat → Nat} {rest : List Value} (h : rest.length ≤ 4) : ((rest.map (xv_sh ad)).map fun v => v.category).sum ≤ 8 := by
  have key : ∀ l : List Value, ((l.map (xv_sh ad)).map fun v => v.category).sum ≤ 2 * l.length := by
    intro l
    induction l with
    | nil => simp
    | cons v vs ih =>
      have h1 : (xv_sh ad v).category ≤ 2 := by rw [xv_sh_cat]; cases v <;> simp [Value.category]
      simp only [List.map_cons, List.sum_cons, List.length_cons]
      omega
  have := key rest
  omega
theorem xv_bok_use {mt : Nat → Option xv_M} {M : xv_M} {i : Instr} {a b w pc : Nat} {v : Value} {ops : List xv_Op} (hn : ¬ i = .nop) (h : xv_bok mt M ((i, a, b, w, v) :: ops) pc = true) :
    ∃ len, decode M.2.1 pc = .ok (i, len) ∧ (len = xv_nx i ∨ xv_tsw i = true) ∧ xv_lok M.1.cls M.2.2.1 M.2.2.2.2.2.1 i w v = true ∧ xv_jok pc i a = true ∧ xv_hok M.1.cls M.1.name i a b w v = true ∧ xv_cok mt M.1.cls i a b w v = true ∧ xv_rok M.2.2.2.1 i = true ∧ xv_bok mt M ops (pc + xv_nx i) = true := by
  unfold xv_bok at h
  rw [if_neg hn] at h
  cases hd : decode M.2.1 pc with
  | error e => rw [hd] at h; cases h
  | ok q =>
    obtain ⟨j, len⟩ := q
    rw [hd] at h
    simp only [Bool.and_eq_true, decide_eq_true_eq, Bool.or_eq_true] at h
    obtain ⟨⟨⟨⟨⟨⟨⟨h1, h2⟩, h3⟩, h4⟩, h5⟩, h6⟩, h7⟩, h8⟩ := h
    subst h1
    exact ⟨len, rfl, h2, h3, h4, h5, h6, h7, h8⟩
def xv_Body (l : Launch) (base : Nat) (aC : Nat → ClassId) (ad : Nat → Nat) (D : va_G) (mt : Nat → Option xv_M) (ro : xv_Ro) (n : Nat) : Prop :=
  ∀ (d : Nat) (M : xv_M) (ops : List xv_Op) (pc : Nat) (ls : xv_L) (st : List Value) (σ : xv_S) (r : Option Value) (σ' : xv_S), (∀ q, xv_bok mt M (xv_at M.2.2.2.2.2.2 q) q = true) → xv_bok mt M ops pc = true → xv_exec mt ro n d M ops ls st σ = some (r, σ') →
  ∀ (p : Program) (e : Env) (R : Room) (s : State) (m : MethodId) (args : Array Value) (below : List Frame) (meth : Method) (c : Code) (H : Heap) (locs : List Loc) (cells slots : Nat) (LS : Array Slot) (Q : State → Prop) (c0 l0 : Nat),
    p.tables.exec = Jvm.exec → c.code = M.2.1 → c.maxLocals = M.2.2.1 → s.vm.findClass M.1.cls = some m.cls → meth.name = M.1.name → xv_Kn base aC ad D ro s → base ≤ s.heap.size → xv_Wd base aC ad D s.heap H locs σ →
    lv_has LS M.2.2.1 (xv_lv ad 0 ls) → xv_lg M.2.2.2.2.2.1 ls → cells + c0 = σ.1.1 → slots + l0 = σ.1.2 → σ'.1.1 ≤ R.cells + c0 → σ'.1.2 ≤ R.slots + l0 → d ≤ R.frames → 64 * d ≤ R.locals →
    (∀ (H1 : Heap) (locs1 : List Loc) (cells1 slots1 pc1 : Nat) (LS1 : Array Slot) (i : Instr) (st1 : List Value), xv_Wd base aC ad D s.heap H1 locs1 σ' → cells1 + c0 = σ'.1.1 → slots1 + l0 = σ'.1.2 → decode M.2.1 pc1 = .ok (i, 1) → xv_rok M.2.2.2.1 i = true → xv_ret M i st1 = some r →
      W p l e R s m args below meth c H1 locs1 cells1 slots1 Q (F0 m pc1 LS1 (st1.map (xv_sh ad)))) →
    W p l e R s m args below meth c H locs cells slots Q (F0 m pc LS (st.map (xv_sh ad)))
def xv_Meth (l : Launch) (base : Nat) (aC : Nat → ClassId) (ad : Nat → Nat) (D : va_G) (mt : Nat → Option xv_M) (ro : xv_Ro) (n : Nat) : Prop :=
  ∀ (d : Nat) (M : xv_M) (as : List Value) (ls0 : xv_L) (σ : xv_S) (r : Option Value) (σ' : xv_S), xv_mok mt M → xv_ini M as = some ls0 → xv_exec mt ro n d M (xv_at M.2.2.2.2.2.2 0) ls0 [] σ = some (r, σ') →
    Met l M.1 [Cond.code M.1 M.2.1 M.2.2.1 M.2.2.2.1] (xv_rm d (σ'.1.1 - σ.1.1) (σ'.1.2 - σ.1.2)) (xv_Pc base aC ad D ro σ as) (xv_Qc base aC ad D σ' r) (σ'.1.1 - σ.1.1) (σ'.1.2 - σ.1.2) (xv_A base)
theorem xv_meth_of {l : Launch} {base : Nat} {aC : Nat → ClassId} {ad : Nat → Nat} {D : va_G} {mt : Nat → Option xv_M} {ro : xv_Ro} {n : Nat} (hB : xv_Body l base aC ad D mt ro n) : xv_Meth l base aC ad D mt ro n := by
  intro d M as ls0 σ r σ' hM hini hex
  have hmono := xv_mono _ _ _ _ _ _ _ _ _ hex
  refine Met.ofW (cc := M.2.1) (maxL := M.2.2.1) (ret := M.2.2.2.1) hM.1.2.2 rfl ?_
  intro p e s m args below meth c s₁ B hml hPc
  obtain ⟨rfl, hsz, hP, hdead, hKn⟩ := hPc
  obtain ⟨hlg, hfl, rfl⟩ := xv_ini_lg hini
  rw [lg_entry_eq]
  have hlen : (lg_sl (as.map (xv_sh ad))).length ≤ M.2.2.1 := by rw [xv_flat_len]; exact hfl
  have hl := lv_entry (as.map (xv_sh ad)) (n := M.2.2.1) hlen
  have hl2 : lv_has ((lg_sl (as.map (xv_sh ad)) ++ List.replicate (M.2.2.1 - (lg_sl (as.map (xv_sh ad))).length) Slot.unset).toArray) M.2.2.1 (xv_lv ad 0 (xv_flat as ++ List.replicate (M.2.2.1 - (xv_flat as).length) none)) :=
    ⟨hl.1, hl.2.1, fun q hq => hl.2.2 q (xv_lv_args as 0 q hq)⟩
  refine hB d M _ 0 _ [] σ r σ' hM.2.2.2.2.2.2 (hM.2.2.2.2.2.2 0) hex p e _ s m _ below meth c s.heap [] 0 0 _ _ σ.1.1 σ.1.2 B.exec B.bytes hml (findClass_of_methodNamed B.named) (name_of_methodNamed B.named B.method).1 hKn (by rw [hsz]; omega) ⟨hsz, hP, va_S.rf, hdead⟩ hl2 hlg (by omega) (by omega)
    (by show σ'.1.1 ≤ (σ'.1.1 - σ.1.1) + σ.1.1; omega) (by show σ'.1.2 ≤ (σ'.1.2 - σ.1.2) + σ.1.2; omega) (Nat.le_refl d) (Nat.le_refl _) ?_
  intro H1 locs1 cells1 slots1 pc1 LS1 i st1 hw hc hs hd hok hr
  have e1 : cells1 = σ'.1.1 - σ.1.1 := by omega
  have e2 : slots1 = σ'.1.2 - σ.1.2 := by omega
  subst e1; subst e2
  exact xv_ret_ok B.exec B.bytes B.returns B.notSynchronized hd hok hr (fun t ht _ => ⟨⟨rfl, by rw [ht]; exact hw.1, by rw [ht]; exact hw.2.1, hw.2.2.2⟩, hw.2.2.1.F ht⟩) hw.2.2.1.2.2
theorem xv_body_of {l : Launch} {base : Nat} {aC : Nat → ClassId} {ad : Nat → Nat} {D : va_G} {mt : Nat → Option xv_M} {ro : xv_Ro} {n : Nat} (ha : xv_ad base ad) (hmt : ∀ k M, mt k = some M → xv_mok mt M) (hB : xv_Body l base aC ad D mt ro n) (hMe : xv_Meth l base aC ad D mt ro n) : xv_Body l base aC ad D mt ro (n + 1) := by
  intro d M ops pc ls st σ r σ' hM hbok hex p e R s m args below meth c H locs cells slots LS Q c0 l0 hx hb hml hown hname hKn hbs hw hl hlg hc0 hl0 hRc hRs hRf hRl hQ
  have hts : ∀ w ∈ xv_T, w.before args s = true := xv_warmT (State.WarmedH.refl s) hKn.2.2.2
  cases ops with
  | nil => unfold xv_exec at hex; cases hex
  | cons op ops =>
    obtain ⟨i, a, b, w, v⟩ := op
    by_cases hnop : i = .nop
    · subst hnop
      obtain ⟨t, st', h1, h2, -⟩ := xv_exec_1 rfl hex
      cases h1
      have hpc : a = pc := by
        have h3 : decide (a = pc) = true := hbok
        exact of_decide_eq_true h3
      have h4 := h2 a rfl
      exact hB d M _ pc ls st σ r σ' hM (by rw [← hpc]; exact hM a) h4 p e R s m args below meth c H locs cells slots LS Q c0 l0 hx hb hml hown hname hKn hbs hw hl hlg hc0 hl0 hRc hRs hRf hRl hQ
    · obtain ⟨len, hd, hlen, hlok, hjok, hhok, hcok, hrok, hbk⟩ := xv_bok_use hnop hbok
      rcases xv_kd_lt i with hk | hk | hk | hk | hk
      · obtain ⟨ls', st', h1, h2⟩ := xv_exec_0 hk hex
        have hln : len = xv_nx i := by
          rcases hlen with h | h
          · exact h
          · cases i <;> first | (cases h; done) | (cases hk; done)
        subst hln
        exact xv_loc_ok hx hb hown hts hl hlg hd hlok h1 (fun LS' hl' hlg' => hB d M ops _ ls' st' σ r σ' hM hbk h2 p e R s m args below meth c H locs cells slots LS' Q c0 l0 hx hb hml hown hname hKn hbs hw hl' hlg' hc0 hl0 hRc hRs hRf hRl hQ)
      · obtain ⟨t, st', h1, h2, h3⟩ := xv_exec_1 hk hex
        have hln : len = xv_nx i ∨ ∃ d lo hi os, i = .tableswitch d lo hi os := by
          rcases hlen with h | h
          · exact Or.inl h
          · cases i <;> first | (cases h; done) | exact Or.inr ⟨_, _, _, _, rfl⟩
        refine xv_jmp_ok hx hb hnop hd hln hjok h1 (fun q hq => ?_) (fun hq => ?_)
        · exact hB d M _ q ls st' σ r σ' hM (hM q) (h2 q hq) p e R s m args below meth c H locs cells slots LS Q c0 l0 hx hb hml hown hname hKn hbs hw hl hlg hc0 hl0 hRc hRs hRf hRl hQ
        · exact hB d M ops _ ls st' σ r σ' hM hbk (h3 hq) p e R s m args below meth c H locs cells slots LS Q c0 l0 hx hb hml hown hname hKn hbs hw hl hlg hc0 hl0 hRc hRs hRf hRl hQ
      · obtain ⟨st', σ1, h1, h2⟩ := xv_exec_2 hk hex
        have hln : len = xv_nx i := by
          rcases hlen with h | h
          · exact h
          · cases i <;> first | (cases h; done) | (cases hk; done)
        subst hln
        have hm2 := xv_mono _ _ _ _ _ _ _ _ _ h2
        refine xv_hp_ok hx hb hown hts ha hKn.1 hKn.2.1 hKn.2.2.1 hbs hw hd (by rw [hname]; exact hhok) h1 hc0 hl0 (by omega) (by omega) (fun H1 locs1 cells1 slots1 hw1 hc1 hl1 => ?_)
        exact hB d M ops _ ls st' σ1 r σ' hM hbk h2 p e R s m args below meth c H1 locs1 cells1 slots1 LS Q c0 l0 hx hb hml hown hname hKn hbs hw1 hl hlg hc1 hl1 hRc hRs hRf hRl hQ
      · have hln : len = xv_nx i := by
          rcases hlen with h | h
          · exact h
          · cases i <;> first | (cases h; done) | (cases hk; done)
        subst hln
        obtain ⟨d', rfl, h2 | h2⟩ := xv_exec_3 hk hex
        · obtain ⟨rfl, st', rest, hsp, hr4, h3⟩ := h2
          have hbk2 : xv_nx i = 3 := by cases i <;> first | rfl | (cases hk; done)
          rw [hbk2] at hbk
          have hcont : W p l e R s m args below meth c H locs cells slots Q (F0 m (pc + 3) LS (st'.map (xv_sh ad))) := hB (d' + 1) M ops _ ls st' σ r σ' hM hbk h3 p e R s m args below meth c H locs cells slots LS Q c0 l0 hx hb hml hown hname hKn hbs hw hl hlg hc0 hl0 hRc hRs hRf hRl hQ
          have hmo := xv_mono _ _ _ _ _ _ _ _ _ h3
          have hsum := xv_room4 (ad := ad) hr4
          cases i with
          | invokespecial k =>
            match st, hsp with
            | .ref q :: rest', hsp =>
              have e1 : rest' = st' := (congrArg Prod.fst (Option.some.inj hsp))
              have e2 : rest' = rest := (congrArg Prod.snd (Option.some.inj hsp))
              subst e1
              rw [← e2] at hsum
              have hlink : xv_T[w]? = some (.methodLink M.1.cls k Lib.objectInit) := of_decide_eq_true hcok
              have hroom := lv_room (m := m) (pc := pc) (ls := LS) (rest := (Value.ref q :: rest').map (xv_sh ad)) hsum
              exact W.objInit hx hb hown (hts _ (List.mem_of_getElem? hlink)) (hts _ xv_objinit.1) (hts _ xv_objinit.2) rfl (hl.1.trans hml.symm) rfl hd (by omega) (by omega) hcont
          | invokevirtual k => exfalso; dsimp only [xv_cok] at hcok; cases hq : mt a <;> rw [hq] at hcok <;> cases hcok
          | invokestatic k =>
            have hlink : xv_T[w]? = some (.methodLink M.1.cls k (xv_mname a)) := of_decide_eq_true hcok
            have hlk := hts _ (List.mem_of_getElem? hlink)
            have hmls : c.maxLocals = LS.size := hml.trans hl.1.symm
            have hin := hts _ xv_mini
            have hsp2 : xv_math a st = some (st', rest) := hsp
            match a, st, hsp2, hlk with
            | 0, .int x :: r, hsp2, hlk => cases hsp2; exact va_mabs hx hb hmls hown hlk (hts _ xv_m0.1) hin (hts _ xv_m0.2) (by omega) (by omega) (by omega) (by omega) hd hcont
            | 1, .long x :: r, hsp2, hlk => cases hsp2; exact va_mabs_long hx hb hmls hown hlk (hts _ xv_m1.1) hin (hts _ xv_m1.2) (by omega) (by omega) (by omega) (by omega) hd hcont
            | 2, .int y :: .int x :: r, hsp2, hlk => cases hsp2; exact va_mmax hx hb hmls hown hlk (hts _ xv_m2.1) hin (hts _ xv_m2.2) (by omega) (by omega) (by omega) (by omega) hd hcont
            | 3, .long y :: .long x :: r, hsp2, hlk => cases hsp2; exact va_mmax_long hx hb hmls hown hlk (hts _ xv_m3.1) hin (hts _ xv_m3.2) (by omega) (by omega) (by omega) (by omega) hd hcont
            | 4, .int y :: .int x :: r, hsp2, hlk => cases hsp2; exact va_mmin hx hb hmls hown hlk (hts _ xv_m4.1) hin (hts _ xv_m4.2) (by omega) (by omega) (by omega) (by omega) hd hcont
            | 5, .long y :: .long x :: r, hsp2, hlk => cases hsp2; exact va_mmin_long hx hb hmls hown hlk (hts _ xv_m5.1) hin (hts _ xv_m5.2) (by omega) (by omega) (by omega) (by omega) hd hcont
          | _ => cases hk
        · obtain ⟨hv, k, as, rest, M', ls0, r1, σ1, hcall, hm', hini, hr4, hal, h3, h4⟩ := h2
          have hM' := hmt k M' hm'
          have hMet := hMe d' M' as ls0 σ r1 σ1 hM' hini h3
          have hm1 := xv_mono _ _ _ _ _ _ _ _ _ h3
          have hm2 := xv_mono _ _ _ _ _ _ _ _ _ h4
          have hKU : ∀ U : State, U.heap = H → s.WarmedH U.vm → xv_Pc base aC ad D ro σ as (as.map (xv_sh ad)).toArray U := fun U hU hW => ⟨rfl, by rw [hU]; exact hw.1, by rw [hU]; exact hw.2.1, hw.2.2.2, xv_Kn_moved hW hU hw.2.2.1 hKn⟩
          have hf : cells + (σ1.1.1 - σ.1.1) ≤ R.cells ∧ slots + (σ1.1.2 - σ.1.2) ≤ R.slots := ⟨by omega, by omega⟩
          have hR : (xv_rm d' (σ1.1.1 - σ.1.1) (σ1.1.2 - σ.1.2)).frames + 1 ≤ R.frames ∧ 8 + (M'.2.2.1 + 11) + (xv_rm d' (σ1.1.1 - σ.1.1) (σ1.1.2 - σ.1.2)).locals ≤ R.locals := by
            have := hM'.2.2.1
            refine ⟨hRf, ?_⟩
            show 8 + (M'.2.2.1 + 11) + 64 * d' ≤ R.locals
            omega
          have hgood := xv_goodIn M'.1 M'.2.1 M'.2.2.1 M'.2.2.2.1 hM'.1.1
          have hinit := hts _ hM'.1.2.1
          have hcont : ∀ (H1 : Heap) (locs1 : List Loc), xv_Wd base aC ad D s.heap H1 locs1 σ1 → W p l e R s m args below meth c H1 locs1 (cells + (σ1.1.1 - σ.1.1)) (slots + (σ1.1.2 - σ.1.2)) Q (F0 m (pc + 3) LS ((r1.toList ++ rest).map (xv_sh ad))) := by
            intro H1 locs1 hw1
            have hnx : xv_nx i = 3 := by cases i <;> first | rfl | (cases hk; done)
            rw [hnx] at hbk
            exact hB (d' + 1) M ops _ ls _ σ1 r σ' hM hbk h4 p e R s m args below meth c H1 locs1 _ _ LS Q c0 l0 hx hb hml hown hname hKn hbs hw1 hl hlg (by omega) (by omega) hRc hRs hRf hRl hQ
          have hsz : LS.size = M.2.2.1 := hl.1
          have hroom := lv_room (m := m) (pc := pc) (ls := LS) (rest := st.map (xv_sh ad)) (xv_room4 (ad := ad) hr4)
          cases i with
          | invokevirtual idx =>
            dsimp only [xv_call, xv_cv] at hcall
            match hdr : st.drop b, v, hcall, hv, hcok with
            | .ref q :: rest', .int ci, hcall, _, hcok =>
              dsimp only at hcall
              cases hq : σ.2 q with
              | inl y => rw [hq] at hcall; cases hcall
              | inr y =>
                obtain ⟨cq, fs⟩ := y
                rw [hq] at hcall
                dsimp only at hcall
                by_cases hcc : cq = ci.toNatClampNeg
                · rw [if_pos hcc] at hcall
                  cases hcall
                  dsimp only [xv_cok] at hcok
                  rw [hm'] at hcok
                  simp only [Bool.and_eq_true, decide_eq_true_eq] at hcok
                  obtain ⟨g1, g2⟩ := hcok
                  have gk : M'.2.2.2.2.1.2.1 = 1 := by rw [g1]
                  have gn : M'.2.2.2.2.1.2.2 = b := by rw [g1]
                  have gc : M'.2.2.2.2.1.1 = ci.toNatClampNeg := by rw [g1]
                  obtain ⟨w1, w2, qc, w3, w4⟩ := hM'.2.2.2.2.1 gk
                  rw [gc, ← hcc] at w3
                  rw [gk, gn] at hal
                  have hlt := xv_liveR hw.2.2.2 hq w3
                  have hat := xv_w_at (aC := aC) (ad := ad) hlt
                  rw [hq] at hat
                  have hsplit : st.map (xv_sh ad) = (((st.take b).reverse).map (xv_sh ad)).reverse ++ .ref (ad q) :: rest.map (xv_sh ad) := by
                    conv => lhs; rw [← List.take_append_drop b st, hdr]
                    simp [xv_sh]
                  have hrun := va_runV (l := l) (e := e) (below := below) (meth := meth) (As := ((st.take b).reverse).map (xv_sh ad)) (rest := rest.map (xv_sh ad)) (g := F0 m pc LS (st.map (xv_sh ad))) (C := M'.1.cls) (index := idx) (n := b) (cells := cells) (slots := slots) (locs := locs) (b := ad q) ⟨hx, hb, hml, hown, hts⟩ hMet
                    ⟨callB_of b hts hgood rfl rfl rfl hinit (hts _ (List.mem_of_getElem? g2)) (by have := hM'.2.1; rw [gn] at this; exact this) hR, hts _ w1, hts _ w2⟩
                    ⟨xv_Pc_blind, by have := va_recv hKn.1 hw.2.1 w3 hat; rw [w4] at this; exact this, fun U hU hW => hKU U hU hW⟩ rfl (by simp at hal ⊢; omega) hsz hsplit hroom hd hf
                  exact xv_callk hrun hw.2.2.1 hcont
                · rw [if_neg hcc] at hcall; cases hcall
          | invokestatic idx =>
            cases hcall
            dsimp only [xv_cok] at hcok
            rw [if_neg hv, hm'] at hcok
            simp only [Bool.and_eq_true, decide_eq_true_eq] at hcok
            obtain ⟨g1, g2⟩ := hcok
            have gk : M'.2.2.2.2.1.2.1 = 0 := by rw [g1]
            have gn : M'.2.2.2.2.1.2.2 = b := by rw [g1]
            rw [gk, gn] at hal
            have hsplit : st.map (xv_sh ad) = (((st.take b).reverse).map (xv_sh ad)).reverse ++ (st.drop b).map (xv_sh ad) := by
              conv => lhs; rw [← List.take_append_drop b st]
              simp
            have hrun := va_runS (l := l) (e := e) (below := below) (meth := meth) (As := ((st.take b).reverse).map (xv_sh ad)) (rest := (st.drop b).map (xv_sh ad)) (g := F0 m pc LS (st.map (xv_sh ad))) (index := idx) (n := b) (cells := cells) (slots := slots) (locs := locs) ⟨hx, hb, hml, hown, hts⟩ hMet
              ⟨callB_of b hts hgood rfl rfl rfl hinit (hts _ (List.mem_of_getElem? g2)) (by have := hM'.2.1; rw [gn] at this; exact this) hR, hts _ (hM'.2.2.2.1 gk)⟩
              ⟨xv_Pc_blind, fun U hU hW => hKU U hU hW⟩ rfl (by simp at hal ⊢; omega) hsz hsplit hroom hd hf
            exact xv_callk hrun hw.2.2.1 hcont
          | invokespecial idx =>
            dsimp only [xv_call, xv_ci] at hcall
            match hdr : st.drop b, hcall with
            | .ref q :: rest', hcall =>
              cases hcall
              dsimp only [xv_cok] at hcok
              rw [if_neg hv, hm'] at hcok
              simp only [Bool.and_eq_true, decide_eq_true_eq, Bool.or_eq_true] at hcok
              obtain ⟨g1, g2⟩ := hcok
              have gk : M'.2.2.2.2.1.2.1 = 2 := by rw [g1]
              have gn : M'.2.2.2.2.1.2.2 = b := by rw [g1]
              obtain ⟨w1, w2, w3⟩ := hM'.2.2.2.2.2.1 gk
              rw [gk, gn] at hal
              rw [w3] at hMet hgood
              have hsplit : st.map (xv_sh ad) = (((st.take b).reverse).map (xv_sh ad)).reverse ++ .ref (ad q) :: rest.map (xv_sh ad) := by
                conv => lhs; rw [← List.take_append_drop b st, hdr]
                simp [xv_sh]
              rcases g2 with ⟨-, g2⟩ | ⟨-, g2⟩
              · have hrun := va_runI (l := l) (e := e) (below := below) (meth := meth) (As := ((st.take b).reverse).map (xv_sh ad)) (rest := rest.map (xv_sh ad)) (g := F0 m pc LS (st.map (xv_sh ad))) (index := idx) (n := b) (cells := cells) (slots := slots) (locs := locs) (b := ad q) ⟨hx, hb, hml, hown, hts⟩ hMet
                  ⟨callB_of b hts hgood rfl rfl rfl hinit (hts _ (List.mem_of_getElem? g2)) (by have := hM'.2.1; rw [gn] at this; exact this) hR, w2, hts _ w1⟩
                  ⟨xv_Pc_blind, fun U hU hW => hKU U hU hW⟩ rfl (by simp at hal ⊢; omega) hsz hsplit hroom hd hf
                exact xv_callk hrun hw.2.2.1 hcont
              · have hrun := va_runIN (l := l) (e := e) (below := below) (meth := meth) (As := ((st.take b).reverse).map (xv_sh ad)) (rest := rest.map (xv_sh ad)) (g := F0 m pc LS (st.map (xv_sh ad))) (index := idx) (n := b) (cells := cells) (slots := slots) (locs := locs) (b := ad q) ⟨hx, hb, hml, hown, hts⟩ hMet
                  ⟨va_cnB b hts hgood rfl rfl rfl (va_Nw.of rfl (hts _ (List.mem_of_getElem? g2))) hinit (by have := hM'.2.1; rw [gn] at this; exact this) hR, w2, hts _ w1⟩
                  ⟨xv_Pc_blind, fun U hU hW => hKU U hU hW⟩ rfl (by simp at hal ⊢; omega) hsz hsplit hroom hd hf
                exact xv_callk hrun hw.2.2.1 hcont
          | _ => cases hk
      · obtain ⟨r1, h1, h2⟩ := xv_exec_4 hk hex
        cases h2
        have hln : len = 1 := by
          rcases hlen with h | h
          · rw [h]; cases i <;> first | rfl | (cases hk; done)
          · cases i <;> first | (cases h; done) | (cases hk; done)
        subst hln
        exact hQ H locs cells slots pc LS i st hw hc0 hl0 hd hrok h1
theorem xv_sound {l : Launch} {base : Nat} {aC : Nat → ClassId} {ad : Nat → Nat} {D : va_G} {mt : Nat → Option xv_M} {ro : xv_Ro} (ha : xv_ad base ad) (hmt : ∀ k M, mt k = some M → xv_mok mt M) : ∀ n, xv_Body l base aC ad D mt ro n := by
  intro n
  induction n with
  | zero =>
    intro d M ops pc ls st σ r σ' hM hbok hex
    unfold xv_exec at hex
    cases hex
  | succ n ih => exact xv_body_of ha hmt ih (xv_meth_of ih)
end
section
/-! THE METHODS, resolved: printed by program out of the listing -/
def xb_Ct_init_0 : List xv_Op := [(.aload_n 0, 0, 0, 0, .null), (.invokespecial 1, 0, 0, 95, .null), (.aload_n 0, 0, 0, 0, .null), (.new 7, 2, 99, 98, .int 76), (.dup, 0, 0, 0, .null), (.invokespecial 9, 244, 0, 100, .int 1), (.putfield 10, 0, 1, 345, .int 3), (.aload_n 0, 0, 0, 0, .null), (.new 16, 3, 122, 121, .int 77), (.dup, 0, 0, 0, .null), (.invokespecial 18, 222, 0, 123, .int 1), (.putfield 19, 1, 1, 346, .int 3), (.aload_n 0, 0, 0, 0, .null), (.new 23, 4, 135, 134, .int 78), (.dup, 0, 0, 0, .null), (.invokespecial 25, 201, 0, 136, .int 1), (.putfield 26, 2, 1, 347, .int 3), (.aload_n 0, 0, 0, 0, .null), (.new 23, 4, 135, 134, .int 78), (.dup, 0, 0, 0, .null), (.invokespecial 25, 201, 0, 136, .int 1), (.putfield 30, 3, 1, 348, .int 3), (.aload_n 0, 0, 0, 0, .null), (.new 33, 5, 170, 169, .int 79), (.dup, 0, 0, 0, .null), (.invokespecial 35, 187, 0, 171, .int 1), (.putfield 36, 4, 1, 349, .int 3), (.aload_n 0, 0, 0, 0, .null), (.new 40, 6, 201, 200, .int 80), (.dup, 0, 0, 0, .null), (.invokespecial 42, 233, 0, 202, .int 0), (.putfield 43, 5, 1, 350, .int 3), (.aload_n 0, 0, 0, 0, .null), (.new 47, 7, 214, 213, .int 81), (.dup, 0, 0, 0, .null), (.invokespecial 49, 156, 0, 215, .int 0), (.putfield 50, 6, 1, 351, .int 3), (.aload_n 0, 0, 0, 0, .null), (.new 47, 7, 214, 213, .int 81), (.dup, 0, 0, 0, .null), (.invokespecial 49, 156, 0, 215, .int 0), (.putfield 54, 7, 1, 352, .int 3), (.aload_n 0, 0, 0, 0, .null), (.new 47, 7, 214, 213, .int 81), (.dup, 0, 0, 0, .null), (.invokespecial 49, 156, 0, 215, .int 0), (.putfield 57, 8, 1, 353, .int 3), (.aload_n 0, 0, 0, 0, .null), (.iconst (0), 0, 0, 0, .int (0)), (.putfield 60, 9, 1, 354, .int 2), (.aload_n 0, 0, 0, 0, .null), (.new 64, 8, 223, 293, .int 82), (.dup, 0, 0, 0, .null), (.invokespecial 66, 260, 0, 294, .int 1), (.putfield 67, 10, 1, 355, .int 3), (.aload_n 0, 0, 0, 0, .null), (.new 71, 10, 296, 295, .int 84), (.dup, 0, 0, 0, .null), (.invokespecial 73, 182, 0, 297, .int 1), (.putfield 74, 11, 1, 356, .int 3), (.aload_n 0, 0, 0, 0, .null), (.new 78, 11, 318, 317, .int 85), (.dup, 0, 0, 0, .null), (.invokespecial 80, 194, 0, 319, .int 1), (.putfield 81, 12, 1, 357, .int 3), (.aload_n 0, 0, 0, 0, .null), (.bipush (12), 0, 0, 0, .int (12)), (.newarray .int, 0, 0, 120, .null), (.putfield 85, 13, 1, 358, .int 3), (.return_, 0, 0, 0, .null)]
def xl_Ct_init : xv_B := [(0, xb_Ct_init_0)]
def xm_Ct_init : xv_M := (⟨"OnionCourt", "<init>", "()V"⟩, prog_1_method_1_code, 1, none, (1, 2, 0), [], xl_Ct_init)
def xb_Ct_prior_0 : List xv_Op := [(.iload_n 1, 0, 0, 0, .null), (.ifCond .lt (18), 19, 0, 0, .null), (.iload_n 1, 0, 0, 0, .null), (.iconst (5), 0, 0, 0, .int (5)), (.if_icmp .ge (13), 19, 0, 0, .null), (.iload_n 2, 0, 0, 0, .null), (.ifCond .lt (9), 19, 0, 0, .null), (.iload_n 2, 0, 0, 0, .null), (.bipush (10), 0, 0, 0, .int (10)), (.if_icmp .le (5), 21, 0, 0, .null), (.nop, 19, 0, 0, .null)]
def xb_Ct_prior_19 : List xv_Op := [(.iconst (0), 0, 0, 0, .int (0)), (.ireturn, 0, 0, 0, .null)]
def xb_Ct_prior_21 : List xv_Op := [(.aload_n 0, 0, 0, 0, .null), (.getfield 43, 5, 1, 350, .null), (.iload_n 1, 0, 0, 0, .null), (.iload_n 2, 0, 0, 0, .null), (.invokevirtual 89, 234, 2, 392, .int 6), (.iconst (1), 0, 0, 0, .int (1)), (.ireturn, 0, 0, 0, .null)]
def xl_Ct_prior : xv_B := [(0, xb_Ct_prior_0), (19, xb_Ct_prior_19), (21, xb_Ct_prior_21)]
def xm_Ct_prior : xv_M := (⟨"OnionCourt", "prior", "(II)Z"⟩, prog_1_method_2_code, 3, (some .boolean), (1, 1, 2), [], xl_Ct_prior)
def xb_Ct_witness_0 : List xv_Op := [(.iload_n 1, 0, 0, 0, .null), (.ifCond .lt (19), 20, 0, 0, .null), (.iload_n 1, 0, 0, 0, .null), (.bipush (10), 0, 0, 0, .int (10)), (.if_icmp .ge (13), 20, 0, 0, .null), (.iload_n 2, 0, 0, 0, .null), (.ifCond .lt (9), 20, 0, 0, .null), (.iload_n 2, 0, 0, 0, .null), (.bipush (9), 0, 0, 0, .int (9)), (.if_icmp .le (5), 22, 0, 0, .null), (.nop, 20, 0, 0, .null)]
def xb_Ct_witness_20 : List xv_Op := [(.iconst (0), 0, 0, 0, .int (0)), (.ireturn, 0, 0, 0, .null)]
def xb_Ct_witness_22 : List xv_Op := [(.aload_n 0, 0, 0, 0, .null), (.getfield 50, 6, 1, 351, .null), (.iload_n 1, 0, 0, 0, .null), (.iload_n 2, 0, 0, 0, .null), (.invokevirtual 93, 158, 2, 400, .int 7), (.iconst (1), 0, 0, 0, .int (1)), (.ireturn, 0, 0, 0, .null)]
def xl_Ct_witness : xv_B := [(0, xb_Ct_witness_0), (20, xb_Ct_witness_20), (22, xb_Ct_witness_22)]
def xm_Ct_witness : xv_M := (⟨"OnionCourt", "witness", "(II)Z"⟩, prog_1_method_3_code, 3, (some .boolean), (1, 1, 2), [], xl_Ct_witness)
def xb_Ct_feed_0 : List xv_Op := [(.aload_n 0, 0, 0, 0, .null), (.getfield 10, 0, 1, 345, .null), (.bipush (20), 0, 0, 0, .int (20)), (.invokevirtual 96, 245, 1, 412, .int 2), (.ifCond .ne (5), 14, 0, 0, .null), (.iconst (-1), 0, 0, 0, .int (-1)), (.ireturn, 0, 0, 0, .null)]
def xb_Ct_feed_14 : List xv_Op := [(.aload_n 0, 0, 0, 0, .null), (.getfield 10, 0, 1, 345, .null), (.iload_n 1, 0, 0, 0, .null), (.invokevirtual 100, 246, 1, 416, .int 2), (.aload_n 0, 0, 0, 0, .null), (.getfield 10, 0, 1, 345, .null), (.iload_n 2, 0, 0, 0, .null), (.invokevirtual 100, 246, 1, 416, .int 2), (.aload_n 0, 0, 0, 0, .null), (.getfield 10, 0, 1, 345, .null), (.iload_n 3, 0, 0, 0, .null), (.invokevirtual 100, 246, 1, 416, .int 2), (.aload_n 0, 0, 0, 0, .null), (.getfield 10, 0, 1, 345, .null), (.iload 4, 0, 0, 0, .null), (.invokevirtual 100, 246, 1, 416, .int 2), (.aload_n 0, 0, 0, 0, .null), (.getfield 10, 0, 1, 345, .null), (.iload 5, 0, 0, 0, .null), (.invokevirtual 100, 246, 1, 416, .int 2), (.aload_n 0, 0, 0, 0, .null), (.getfield 10, 0, 1, 345, .null), (.invokevirtual 104, 247, 0, 420, .int 2), (.ireturn, 0, 0, 0, .null)]
def xl_Ct_feed : xv_B := [(0, xb_Ct_feed_0), (14, xb_Ct_feed_14)]
def xm_Ct_feed : xv_M := (⟨"OnionCourt", "feed", "(IIIII)I"⟩, prog_1_method_4_code, 6, (some .int), (1, 1, 5), [], xl_Ct_feed)
def xb_Ct_law_0 : List xv_Op := [(.aload_n 0, 0, 0, 0, .null), (.getfield 10, 0, 1, 345, .null), (.iload_n 1, 0, 0, 0, .null), (.iconst (1), 0, 0, 0, .int (1)), (.sipush (240), 0, 0, 0, .int (240)), (.invokevirtual 108, 248, 3, 428, .int 2), (.ifCond .ne (5), 17, 0, 0, .null), (.iconst (-1), 0, 0, 0, .int (-1)), (.ireturn, 0, 0, 0, .null)]
def xb_Ct_law_17 : List xv_Op := [(.aload_n 0, 0, 0, 0, .null), (.getfield 10, 0, 1, 345, .null), (.aload_n 0, 0, 0, 0, .null), (.getfield 30, 3, 1, 348, .null), (.invokestatic 112, 213, 2, 432, .int 0), (.aload_n 0, 0, 0, 0, .null), (.getfield 10, 0, 1, 345, .null), (.invokevirtual 118, 258, 0, 521, .int 2), (.ifCond .eq (11), 46, 0, 0, .null), (.aload_n 0, 0, 0, 0, .null), (.getfield 10, 0, 1, 345, .null), (.invokevirtual 122, 259, 0, 525, .int 2), (.ireturn, 0, 0, 0, .null)]
def xb_Ct_law_46 : List xv_Op := [(.aload_n 0, 0, 0, 0, .null), (.getfield 26, 2, 1, 347, .null), (.aload_n 0, 0, 0, 0, .null), (.getfield 30, 3, 1, 348, .null), (.invokevirtual 125, 203, 1, 529, .int 4), (.aload_n 0, 0, 0, 0, .null), (.getfield 26, 2, 1, 347, .null), (.invokevirtual 129, 204, 0, 533, .int 4), (.ireturn, 0, 0, 0, .null)]
def xl_Ct_law : xv_B := [(0, xb_Ct_law_0), (17, xb_Ct_law_17), (46, xb_Ct_law_46)]
def xm_Ct_law : xv_M := (⟨"OnionCourt", "law", "(I)I"⟩, prog_1_method_5_code, 2, (some .int), (1, 1, 1), [], xl_Ct_law)
def xb_Ct_question_0 : List xv_Op := [(.iload_n 1, 0, 0, 0, .null), (.ifCond .lt (23), 24, 0, 0, .null), (.iload_n 1, 0, 0, 0, .null), (.bipush (8), 0, 0, 0, .int (8)), (.if_icmp .ge (17), 24, 0, 0, .null), (.aload_n 0, 0, 0, 0, .null), (.getfield 10, 0, 1, 345, .null), (.iload_n 2, 0, 0, 0, .null), (.iconst (1), 0, 0, 0, .int (1)), (.bipush (60), 0, 0, 0, .int (60)), (.invokevirtual 108, 248, 3, 428, .int 2), (.ifCond .ne (5), 26, 0, 0, .null), (.nop, 24, 0, 0, .null)]
def xb_Ct_question_24 : List xv_Op := [(.iconst (-1), 0, 0, 0, .int (-1)), (.ireturn, 0, 0, 0, .null)]
def xb_Ct_question_26 : List xv_Op := [(.aload_n 0, 0, 0, 0, .null), (.getfield 19, 1, 1, 346, .null), (.aload_n 0, 0, 0, 0, .null), (.getfield 10, 0, 1, 345, .null), (.invokevirtual 132, 227, 1, 541, .int 3), (.istore_n 3, 0, 0, 0, .null), (.aload_n 0, 0, 0, 0, .null), (.getfield 10, 0, 1, 345, .null), (.invokevirtual 118, 258, 0, 521, .int 2), (.ifCond .eq (11), 56, 0, 0, .null), (.aload_n 0, 0, 0, 0, .null), (.getfield 10, 0, 1, 345, .null), (.invokevirtual 122, 259, 0, 525, .int 2), (.ireturn, 0, 0, 0, .null)]
def xb_Ct_question_56 : List xv_Op := [(.aload_n 0, 0, 0, 0, .null), (.getfield 19, 1, 1, 346, .null), (.iload_n 1, 0, 0, 0, .null), (.iload_n 3, 0, 0, 0, .null), (.invokevirtual 135, 226, 2, 569, .int 3), (.iload_n 3, 0, 0, 0, .null), (.invokestatic 138, 274, 1, 573, .int 0), (.ireturn, 0, 0, 0, .null)]
def xl_Ct_question : xv_B := [(0, xb_Ct_question_0), (24, xb_Ct_question_24), (26, xb_Ct_question_26), (56, xb_Ct_question_56)]
def xm_Ct_question : xv_M := (⟨"OnionCourt", "question", "(II)I"⟩, prog_1_method_6_code, 4, (some .int), (1, 1, 2), [], xl_Ct_question)
def xb_Ct_onion_0 : List xv_Op := [(.aload_n 0, 0, 0, 0, .null), (.getfield 50, 6, 1, 351, .null), (.iload_n 1, 0, 0, 0, .null), (.invokevirtual 144, 159, 1, 583, .int 7), (.astore_n 3, 0, 0, 0, .null), (.aload_n 3, 0, 0, 0, .null), (.ifnull (17), 27, 0, 0, .null), (.aload_n 0, 0, 0, 0, .null), (.getfield 10, 0, 1, 345, .null), (.iload_n 2, 0, 0, 0, .null), (.iconst (1), 0, 0, 0, .int (1)), (.bipush (60), 0, 0, 0, .int (60)), (.invokevirtual 108, 248, 3, 428, .int 2), (.ifCond .ne (5), 29, 0, 0, .null), (.nop, 27, 0, 0, .null)]
def xb_Ct_onion_27 : List xv_Op := [(.iconst (-1), 0, 0, 0, .int (-1)), (.ireturn, 0, 0, 0, .null)]
def xb_Ct_onion_29 : List xv_Op := [(.aload_n 0, 0, 0, 0, .null), (.getfield 67, 10, 1, 355, .null), (.aload_n 3, 0, 0, 0, .null), (.invokevirtual 148, 262, 1, 591, .int 8), (.aload_n 0, 0, 0, 0, .null), (.getfield 67, 10, 1, 355, .null), (.aload_n 0, 0, 0, 0, .null), (.getfield 10, 0, 1, 345, .null), (.invokevirtual 151, 271, 1, 595, .int 8), (.aload_n 0, 0, 0, 0, .null), (.getfield 10, 0, 1, 345, .null), (.invokevirtual 118, 258, 0, 521, .int 2), (.ifCond .eq (11), 66, 0, 0, .null), (.aload_n 0, 0, 0, 0, .null), (.getfield 10, 0, 1, 345, .null), (.invokevirtual 122, 259, 0, 525, .int 2), (.ireturn, 0, 0, 0, .null)]
def xb_Ct_onion_66 : List xv_Op := [(.aload_n 3, 0, 0, 0, .null), (.aload_n 0, 0, 0, 0, .null), (.getfield 67, 10, 1, 355, .null), (.invokevirtual 148, 262, 1, 591, .int 8), (.aload_n 3, 0, 0, 0, .null), (.invokevirtual 154, 265, 0, 611, .int 8), (.ireturn, 0, 0, 0, .null)]
def xl_Ct_onion : xv_B := [(0, xb_Ct_onion_0), (27, xb_Ct_onion_27), (29, xb_Ct_onion_29), (66, xb_Ct_onion_66)]
def xm_Ct_onion : xv_M := (⟨"OnionCourt", "onion", "(II)I"⟩, prog_1_method_7_code, 4, (some .int), (1, 1, 2), [], xl_Ct_onion)
def xb_Ct_transcript_0 : List xv_Op := [(.aload_n 0, 0, 0, 0, .null), (.getfield 10, 0, 1, 345, .null), (.iload_n 1, 0, 0, 0, .null), (.iconst (1), 0, 0, 0, .int (1)), (.bipush (100), 0, 0, 0, .int (100)), (.invokevirtual 108, 248, 3, 428, .int 2), (.ifCond .ne (5), 16, 0, 0, .null), (.iconst (-1), 0, 0, 0, .int (-1)), (.ireturn, 0, 0, 0, .null)]
def xb_Ct_transcript_16 : List xv_Op := [(.aload_n 0, 0, 0, 0, .null), (.getfield 57, 8, 1, 353, .null), (.aload_n 0, 0, 0, 0, .null), (.getfield 50, 6, 1, 351, .null), (.invokevirtual 157, 157, 1, 619, .int 7), (.aload_n 0, 0, 0, 0, .null), (.getfield 57, 8, 1, 353, .null), (.aload_n 0, 0, 0, 0, .null), (.getfield 10, 0, 1, 345, .null), (.aload_n 0, 0, 0, 0, .null), (.getfield 19, 1, 1, 346, .null), (.invokevirtual 160, 171, 2, 632, .int 7), (.aload_n 0, 0, 0, 0, .null), (.getfield 10, 0, 1, 345, .null), (.invokevirtual 118, 258, 0, 521, .int 2), (.ifCond .eq (11), 60, 0, 0, .null), (.aload_n 0, 0, 0, 0, .null), (.getfield 10, 0, 1, 345, .null), (.invokevirtual 122, 259, 0, 525, .int 2), (.ireturn, 0, 0, 0, .null)]
def xb_Ct_transcript_60 : List xv_Op := [(.aload_n 0, 0, 0, 0, .null), (.getfield 50, 6, 1, 351, .null), (.aload_n 0, 0, 0, 0, .null), (.getfield 57, 8, 1, 353, .null), (.invokevirtual 157, 157, 1, 619, .int 7), (.aload_n 0, 0, 0, 0, .null), (.getfield 50, 6, 1, 351, .null), (.invokevirtual 164, 163, 0, 690, .int 7), (.ireturn, 0, 0, 0, .null)]
def xl_Ct_transcript : xv_B := [(0, xb_Ct_transcript_0), (16, xb_Ct_transcript_16), (60, xb_Ct_transcript_60)]
def xm_Ct_transcript : xv_M := (⟨"OnionCourt", "transcript", "(I)I"⟩, prog_1_method_8_code, 2, (some .int), (1, 1, 1), [], xl_Ct_transcript)
def xb_Ct_answers_0 : List xv_Op := [(.aload_n 0, 0, 0, 0, .null), (.getfield 50, 6, 1, 351, .null), (.iload_n 1, 0, 0, 0, .null), (.invokevirtual 144, 159, 1, 583, .int 7), (.ifnull (14), 22, 0, 0, .null), (.aload_n 0, 0, 0, 0, .null), (.getfield 19, 1, 1, 346, .null), (.iload_n 2, 0, 0, 0, .null), (.invokevirtual 167, 223, 1, 698, .int 3), (.ifCond .ne (5), 24, 0, 0, .null), (.nop, 22, 0, 0, .null)]
def xb_Ct_answers_22 : List xv_Op := [(.iconst (-1), 0, 0, 0, .int (-1)), (.ireturn, 0, 0, 0, .null)]
def xb_Ct_answers_24 : List xv_Op := [(.aload_n 0, 0, 0, 0, .null), (.getfield 50, 6, 1, 351, .null), (.invokevirtual 164, 163, 0, 690, .int 7), (.bipush (20), 0, 0, 0, .int (20)), (.if_icmp .lt (6), 39, 0, 0, .null), (.bipush (-2), 0, 0, 0, .int (-2)), (.ireturn, 0, 0, 0, .null)]
def xb_Ct_answers_39 : List xv_Op := [(.aload_n 0, 0, 0, 0, .null), (.getfield 50, 6, 1, 351, .null), (.iload_n 1, 0, 0, 0, .null), (.iload_n 2, 0, 0, 0, .null), (.iload_n 3, 0, 0, 0, .null), (.iload 4, 0, 0, 0, .null), (.invokevirtual 170, 169, 4, 699, .int 7), (.ireturn, 0, 0, 0, .null)]
def xl_Ct_answers : xv_B := [(0, xb_Ct_answers_0), (22, xb_Ct_answers_22), (24, xb_Ct_answers_24), (39, xb_Ct_answers_39)]
def xm_Ct_answers : xv_M := (⟨"OnionCourt", "answers", "(IIZZ)I"⟩, prog_1_method_9_code, 5, (some .int), (1, 1, 4), [], xl_Ct_answers)
def xb_Ct_strike_0 : List xv_Op := [(.aload_n 0, 0, 0, 0, .null), (.getfield 50, 6, 1, 351, .null), (.invokevirtual 174, 170, 0, 704, .int 7), (.ifCond .eq (13), 20, 0, 0, .null), (.aload_n 0, 0, 0, 0, .null), (.getfield 50, 6, 1, 351, .null), (.invokevirtual 164, 163, 0, 690, .int 7), (.goto (5), 22, 0, 0, .null)]
def xb_Ct_strike_20 : List xv_Op := [(.bipush (-2), 0, 0, 0, .int (-2)), (.nop, 22, 0, 0, .null)]
def xb_Ct_strike_22 : List xv_Op := [(.ireturn, 0, 0, 0, .null)]
def xl_Ct_strike : xv_B := [(0, xb_Ct_strike_0), (20, xb_Ct_strike_20), (22, xb_Ct_strike_22)]
def xm_Ct_strike : xv_M := (⟨"OnionCourt", "strike", "()I"⟩, prog_1_method_10_code, 1, (some .int), (1, 1, 0), [], xl_Ct_strike)
def xb_Ct_weeks_0 : List xv_Op := [(.iload_n 1, 0, 0, 0, .null), (.iconst (1), 0, 0, 0, .int (1)), (.if_icmp .lt (9), 11, 0, 0, .null), (.iload_n 1, 0, 0, 0, .null), (.bipush (60), 0, 0, 0, .int (60)), (.if_icmp .le (5), 13, 0, 0, .null), (.nop, 11, 0, 0, .null)]
def xb_Ct_weeks_11 : List xv_Op := [(.iconst (-1), 0, 0, 0, .int (-1)), (.ireturn, 0, 0, 0, .null)]
def xb_Ct_weeks_13 : List xv_Op := [(.aload_n 0, 0, 0, 0, .null), (.getfield 50, 6, 1, 351, .null), (.iload_n 1, 0, 0, 0, .null), (.aload_n 0, 0, 0, 0, .null), (.getfield 26, 2, 1, 347, .null), (.aload_n 0, 0, 0, 0, .null), (.getfield 36, 4, 1, 349, .null), (.invokevirtual 177, 175, 3, 712, .int 7), (.aload_n 0, 0, 0, 0, .null), (.getfield 50, 6, 1, 351, .null), (.invokevirtual 181, 166, 0, 768, .int 7), (.ireturn, 0, 0, 0, .null)]
def xl_Ct_weeks : xv_B := [(0, xb_Ct_weeks_0), (11, xb_Ct_weeks_11), (13, xb_Ct_weeks_13)]
def xm_Ct_weeks : xv_M := (⟨"OnionCourt", "weeks", "(I)I"⟩, prog_1_method_11_code, 2, (some .int), (1, 1, 1), [], xl_Ct_weeks)
def xb_Ct_tried_0 : List xv_Op := [(.iload_n 2, 0, 0, 0, .null), (.bipush (10), 0, 0, 0, .int (10)), (.if_icmp .lt (13), 16, 0, 0, .null), (.iload_n 2, 0, 0, 0, .null), (.bipush (30), 0, 0, 0, .int (30)), (.if_icmp .ge (7), 16, 0, 0, .null), (.iconst (1), 0, 0, 0, .int (1)), (.goto (4), 17, 0, 0, .null)]
def xb_Ct_tried_16 : List xv_Op := [(.iconst (0), 0, 0, 0, .int (0)), (.nop, 17, 0, 0, .null)]
def xb_Ct_tried_17 : List xv_Op := [(.istore_n 3, 0, 0, 0, .null), (.iload_n 1, 0, 0, 0, .null), (.iconst (1), 0, 0, 0, .int (1)), (.if_icmp .lt (40), 60, 0, 0, .null), (.iload_n 1, 0, 0, 0, .null), (.bipush (60), 0, 0, 0, .int (60)), (.if_icmp .gt (34), 60, 0, 0, .null), (.iload_n 3, 0, 0, 0, .null), (.ifCond .eq (17), 47, 0, 0, .null), (.aload_n 0, 0, 0, 0, .null), (.getfield 50, 6, 1, 351, .null), (.iload_n 2, 0, 0, 0, .null), (.bipush (10), 0, 0, 0, .int (10)), (.irem, 0, 0, 0, .null), (.invokevirtual 144, 159, 1, 583, .int 7), (.ifnull (16), 60, 0, 0, .null), (.nop, 47, 0, 0, .null)]
def xb_Ct_tried_47 : List xv_Op := [(.iload_n 3, 0, 0, 0, .null), (.ifCond .ne (14), 62, 0, 0, .null), (.iload_n 2, 0, 0, 0, .null), (.ifCond .eq (10), 62, 0, 0, .null), (.iload_n 2, 0, 0, 0, .null), (.iconst (1), 0, 0, 0, .int (1)), (.if_icmp .eq (5), 62, 0, 0, .null), (.nop, 60, 0, 0, .null)]
def xb_Ct_tried_60 : List xv_Op := [(.iconst (-1), 0, 0, 0, .int (-1)), (.ireturn, 0, 0, 0, .null)]
def xb_Ct_tried_62 : List xv_Op := [(.aload_n 0, 0, 0, 0, .null), (.getfield 57, 8, 1, 353, .null), (.aload_n 0, 0, 0, 0, .null), (.getfield 50, 6, 1, 351, .null), (.invokevirtual 157, 157, 1, 619, .int 7), (.aload_n 0, 0, 0, 0, .null), (.getfield 57, 8, 1, 353, .null), (.iload_n 1, 0, 0, 0, .null), (.aload_n 0, 0, 0, 0, .null), (.getfield 26, 2, 1, 347, .null), (.aload_n 0, 0, 0, 0, .null), (.getfield 36, 4, 1, 349, .null), (.invokevirtual 177, 175, 3, 712, .int 7), (.iload_n 3, 0, 0, 0, .null), (.ifCond .ne (25), 115, 0, 0, .null), (.iload_n 2, 0, 0, 0, .null), (.ifCond .ne (13), 107, 0, 0, .null), (.aload_n 0, 0, 0, 0, .null), (.getfield 57, 8, 1, 353, .null), (.invokevirtual 181, 166, 0, 768, .int 7), (.goto (10), 114, 0, 0, .null)]
def xb_Ct_tried_107 : List xv_Op := [(.aload_n 0, 0, 0, 0, .null), (.getfield 57, 8, 1, 353, .null), (.invokevirtual 184, 167, 0, 776, .int 7), (.nop, 114, 0, 0, .null)]
def xb_Ct_tried_114 : List xv_Op := [(.ireturn, 0, 0, 0, .null)]
def xb_Ct_tried_115 : List xv_Op := [(.aload_n 0, 0, 0, 0, .null), (.getfield 57, 8, 1, 353, .null), (.iload_n 2, 0, 0, 0, .null), (.bipush (10), 0, 0, 0, .int (10)), (.irem, 0, 0, 0, .null), (.invokevirtual 144, 159, 1, 583, .int 7), (.astore 4, 0, 0, 0, .null), (.aload 4, 0, 0, 0, .null), (.ifnonnull (5), 135, 0, 0, .null), (.iconst (-1), 0, 0, 0, .int (-1)), (.ireturn, 0, 0, 0, .null)]
def xb_Ct_tried_135 : List xv_Op := [(.iload_n 2, 0, 0, 0, .null), (.bipush (20), 0, 0, 0, .int (20)), (.if_icmp .ge (11), 149, 0, 0, .null), (.aload 4, 0, 0, 0, .null), (.invokevirtual 154, 265, 0, 611, .int 8), (.goto (10), 156, 0, 0, .null)]
def xb_Ct_tried_149 : List xv_Op := [(.aload 4, 0, 0, 0, .null), (.bipush (12), 0, 0, 0, .int (12)), (.invokevirtual 187, 267, 1, 780, .int 8), (.nop, 156, 0, 0, .null)]
def xb_Ct_tried_156 : List xv_Op := [(.ireturn, 0, 0, 0, .null)]
def xl_Ct_tried : xv_B := [(0, xb_Ct_tried_0), (16, xb_Ct_tried_16), (17, xb_Ct_tried_17), (47, xb_Ct_tried_47), (60, xb_Ct_tried_60), (62, xb_Ct_tried_62), (107, xb_Ct_tried_107), (114, xb_Ct_tried_114), (115, xb_Ct_tried_115), (135, xb_Ct_tried_135), (149, xb_Ct_tried_149), (156, xb_Ct_tried_156)]
def xm_Ct_tried : xv_M := (⟨"OnionCourt", "tried", "(II)I"⟩, prog_1_method_12_code, 5, (some .int), (1, 1, 2), [], xl_Ct_tried)
def xb_Ct_witnessIs_0 : List xv_Op := [(.aload_n 0, 0, 0, 0, .null), (.getfield 50, 6, 1, 351, .null), (.iload_n 1, 0, 0, 0, .null), (.invokevirtual 144, 159, 1, 583, .int 7), (.astore_n 3, 0, 0, 0, .null), (.aload_n 3, 0, 0, 0, .null), (.ifnonnull (5), 15, 0, 0, .null), (.iconst (-1), 0, 0, 0, .int (-1)), (.ireturn, 0, 0, 0, .null)]
def xb_Ct_witnessIs_15 : List xv_Op := [(.iload_n 2, 0, 0, 0, .null), (.tableswitch (102) (0) (5) #[40, 45, 50, 57, 82, 92], 16, 0, 0, .null)]
def xb_Ct_witnessIs_56 : List xv_Op := [(.aload_n 3, 0, 0, 0, .null), (.invokevirtual 190, 264, 0, 788, .int 8), (.ireturn, 0, 0, 0, .null)]
def xb_Ct_witnessIs_61 : List xv_Op := [(.aload_n 3, 0, 0, 0, .null), (.invokevirtual 154, 265, 0, 611, .int 8), (.ireturn, 0, 0, 0, .null)]
def xb_Ct_witnessIs_66 : List xv_Op := [(.aload_n 3, 0, 0, 0, .null), (.bipush (12), 0, 0, 0, .int (12)), (.invokevirtual 187, 267, 1, 780, .int 8), (.ireturn, 0, 0, 0, .null)]
def xb_Ct_witnessIs_73 : List xv_Op := [(.aload_n 3, 0, 0, 0, .null), (.invokevirtual 154, 265, 0, 611, .int 8), (.ifCond .ne (8), 85, 0, 0, .null), (.bipush (-2), 0, 0, 0, .int (-2)), (.goto (15), 97, 0, 0, .null)]
def xb_Ct_witnessIs_85 : List xv_Op := [(.aload_n 3, 0, 0, 0, .null), (.aload_n 3, 0, 0, 0, .null), (.invokevirtual 154, 265, 0, 611, .int 8), (.iconst (1), 0, 0, 0, .int (1)), (.isub, 0, 0, 0, .null), (.iconst (2), 0, 0, 0, .int (2)), (.idiv, 0, 0, 0, .null), (.invokevirtual 193, 266, 1, 789, .int 8), (.nop, 97, 0, 0, .null)]
def xb_Ct_witnessIs_97 : List xv_Op := [(.ireturn, 0, 0, 0, .null)]
def xb_Ct_witnessIs_98 : List xv_Op := [(.aload_n 0, 0, 0, 0, .null), (.getfield 50, 6, 1, 351, .null), (.iload_n 1, 0, 0, 0, .null), (.iconst (1), 0, 0, 0, .int (1)), (.invokevirtual 196, 177, 2, 790, .int 7), (.ireturn, 0, 0, 0, .null)]
def xb_Ct_witnessIs_108 : List xv_Op := [(.aload_n 0, 0, 0, 0, .null), (.getfield 50, 6, 1, 351, .null), (.iload_n 1, 0, 0, 0, .null), (.iconst (0), 0, 0, 0, .int (0)), (.invokevirtual 196, 177, 2, 790, .int 7), (.ireturn, 0, 0, 0, .null)]
def xb_Ct_witnessIs_118 : List xv_Op := [(.iload_n 2, 0, 0, 0, .null), (.bipush (10), 0, 0, 0, .int (10)), (.if_icmp .lt (9), 130, 0, 0, .null), (.iload_n 2, 0, 0, 0, .null), (.bipush (22), 0, 0, 0, .int (22)), (.if_icmp .lt (5), 132, 0, 0, .null), (.nop, 130, 0, 0, .null)]
def xb_Ct_witnessIs_130 : List xv_Op := [(.iconst (-1), 0, 0, 0, .int (-1)), (.ireturn, 0, 0, 0, .null)]
def xb_Ct_witnessIs_132 : List xv_Op := [(.iload_n 2, 0, 0, 0, .null), (.bipush (10), 0, 0, 0, .int (10)), (.isub, 0, 0, 0, .null), (.aload_n 3, 0, 0, 0, .null), (.invokevirtual 154, 265, 0, 611, .int 8), (.if_icmp .ge (14), 154, 0, 0, .null), (.aload_n 3, 0, 0, 0, .null), (.iload_n 2, 0, 0, 0, .null), (.bipush (10), 0, 0, 0, .int (10)), (.isub, 0, 0, 0, .null), (.invokevirtual 193, 266, 1, 789, .int 8), (.goto (5), 156, 0, 0, .null)]
def xb_Ct_witnessIs_154 : List xv_Op := [(.bipush (-2), 0, 0, 0, .int (-2)), (.nop, 156, 0, 0, .null)]
def xb_Ct_witnessIs_156 : List xv_Op := [(.ireturn, 0, 0, 0, .null)]
def xl_Ct_witnessIs : xv_B := [(0, xb_Ct_witnessIs_0), (15, xb_Ct_witnessIs_15), (56, xb_Ct_witnessIs_56), (61, xb_Ct_witnessIs_61), (66, xb_Ct_witnessIs_66), (73, xb_Ct_witnessIs_73), (85, xb_Ct_witnessIs_85), (97, xb_Ct_witnessIs_97), (98, xb_Ct_witnessIs_98), (108, xb_Ct_witnessIs_108), (118, xb_Ct_witnessIs_118), (130, xb_Ct_witnessIs_130), (132, xb_Ct_witnessIs_132), (154, xb_Ct_witnessIs_154), (156, xb_Ct_witnessIs_156)]
def xm_Ct_witnessIs : xv_M := (⟨"OnionCourt", "witnessIs", "(II)I"⟩, prog_1_method_13_code, 4, (some .int), (1, 1, 2), [], xl_Ct_witnessIs)
def xb_Ct_answerIs_0 : List xv_Op := [(.aload_n 0, 0, 0, 0, .null), (.getfield 50, 6, 1, 351, .null), (.iload_n 1, 0, 0, 0, .null), (.invokevirtual 200, 161, 1, 806, .int 7), (.astore_n 3, 0, 0, 0, .null), (.aload_n 3, 0, 0, 0, .null), (.ifnonnull (7), 17, 0, 0, .null), (.iconst (-1), 0, 0, 0, .int (-1)), (.goto (8), 22, 0, 0, .null)]
def xb_Ct_answerIs_17 : List xv_Op := [(.aload_n 3, 0, 0, 0, .null), (.iload_n 2, 0, 0, 0, .null), (.invokevirtual 204, 154, 1, 810, .int 9), (.nop, 22, 0, 0, .null)]
def xb_Ct_answerIs_22 : List xv_Op := [(.ireturn, 0, 0, 0, .null)]
def xl_Ct_answerIs : xv_B := [(0, xb_Ct_answerIs_0), (17, xb_Ct_answerIs_17), (22, xb_Ct_answerIs_22)]
def xm_Ct_answerIs : xv_M := (⟨"OnionCourt", "answerIs", "(II)I"⟩, prog_1_method_14_code, 4, (some .int), (1, 1, 2), [], xl_Ct_answerIs)
def xb_Ct_likely_0 : List xv_Op := [(.aload_n 0, 0, 0, 0, .null), (.getfield 19, 1, 1, 346, .null), (.iload_n 1, 0, 0, 0, .null), (.invokevirtual 167, 223, 1, 698, .int 3), (.ifCond .eq (20), 28, 0, 0, .null), (.aload_n 0, 0, 0, 0, .null), (.iload_n 2, 0, 0, 0, .null), (.invokevirtual 209, 33, 1, 818, .int 1), (.ifCond .eq (12), 28, 0, 0, .null), (.iload_n 3, 0, 0, 0, .null), (.ifCond .eq (12), 32, 0, 0, .null), (.iload_n 3, 0, 0, 0, .null), (.iconst (1), 0, 0, 0, .int (1)), (.if_icmp .eq (7), 32, 0, 0, .null), (.nop, 28, 0, 0, .null)]
def xb_Ct_likely_28 : List xv_Op := [(.ldc2_w 212, 0, 0, 826, .long (-1)), (.lreturn, 0, 0, 0, .null)]
def xb_Ct_likely_32 : List xv_Op := [(.aload_n 0, 0, 0, 0, .null), (.iload_n 2, 0, 0, 0, .null), (.invokevirtual 214, 34, 1, 827, .int 1), (.aload_n 0, 0, 0, 0, .null), (.getfield 43, 5, 1, 350, .null), (.aload_n 0, 0, 0, 0, .null), (.getfield 19, 1, 1, 346, .null), (.iload_n 1, 0, 0, 0, .null), (.invokevirtual 217, 225, 1, 839, .int 3), (.iload_n 3, 0, 0, 0, .null), (.ifCond .ne (7), 57, 0, 0, .null), (.iconst (1), 0, 0, 0, .int (1)), (.goto (4), 58, 0, 0, .null)]
def xb_Ct_likely_57 : List xv_Op := [(.iconst (0), 0, 0, 0, .int (0)), (.nop, 58, 0, 0, .null)]
def xb_Ct_likely_58 : List xv_Op := [(.invokevirtual 220, 240, 2, 862, .int 6), (.lreturn, 0, 0, 0, .null)]
def xl_Ct_likely : xv_B := [(0, xb_Ct_likely_0), (28, xb_Ct_likely_28), (32, xb_Ct_likely_32), (57, xb_Ct_likely_57), (58, xb_Ct_likely_58)]
def xm_Ct_likely : xv_M := (⟨"OnionCourt", "likely", "(III)J"⟩, prog_1_method_15_code, 4, (some .long), (1, 1, 3), [], xl_Ct_likely)
def xb_Ct_lie_0 : List xv_Op := [(.aload_n 0, 0, 0, 0, .null), (.getfield 50, 6, 1, 351, .null), (.iload_n 1, 0, 0, 0, .null), (.invokevirtual 200, 161, 1, 806, .int 7), (.astore 4, 0, 0, 0, .null), (.aload 4, 0, 0, 0, .null), (.ifnull (20), 32, 0, 0, .null), (.aload_n 0, 0, 0, 0, .null), (.iload_n 2, 0, 0, 0, .null), (.invokevirtual 209, 33, 1, 818, .int 1), (.ifCond .eq (12), 32, 0, 0, .null), (.iload_n 3, 0, 0, 0, .null), (.ifCond .eq (12), 36, 0, 0, .null), (.iload_n 3, 0, 0, 0, .null), (.iconst (1), 0, 0, 0, .int (1)), (.if_icmp .eq (7), 36, 0, 0, .null), (.nop, 32, 0, 0, .null)]
def xb_Ct_lie_32 : List xv_Op := [(.ldc2_w 212, 0, 0, 826, .long (-1)), (.lreturn, 0, 0, 0, .null)]
def xb_Ct_lie_36 : List xv_Op := [(.aload_n 0, 0, 0, 0, .null), (.iload_n 2, 0, 0, 0, .null), (.invokevirtual 214, 34, 1, 827, .int 1), (.aload_n 0, 0, 0, 0, .null), (.getfield 43, 5, 1, 350, .null), (.aload 4, 0, 0, 0, .null), (.aload_n 0, 0, 0, 0, .null), (.getfield 19, 1, 1, 346, .null), (.invokevirtual 224, 153, 1, 882, .int 9), (.iconst (-1), 0, 0, 0, .int (-1)), (.ixor, 0, 0, 0, .null), (.iload_n 3, 0, 0, 0, .null), (.ifCond .ne (7), 64, 0, 0, .null), (.iconst (1), 0, 0, 0, .int (1)), (.goto (4), 65, 0, 0, .null)]
def xb_Ct_lie_64 : List xv_Op := [(.iconst (0), 0, 0, 0, .int (0)), (.nop, 65, 0, 0, .null)]
def xb_Ct_lie_65 : List xv_Op := [(.invokevirtual 220, 240, 2, 862, .int 6), (.lreturn, 0, 0, 0, .null)]
def xl_Ct_lie : xv_B := [(0, xb_Ct_lie_0), (32, xb_Ct_lie_32), (36, xb_Ct_lie_36), (64, xb_Ct_lie_64), (65, xb_Ct_lie_65)]
def xm_Ct_lie : xv_M := (⟨"OnionCourt", "lie", "(III)J"⟩, prog_1_method_16_code, 5, (some .long), (1, 1, 3), [], xl_Ct_lie)
def xb_Ct_world_0 : List xv_Op := [(.aload_n 0, 0, 0, 0, .null), (.iload_n 1, 0, 0, 0, .null), (.invokevirtual 209, 33, 1, 818, .int 1), (.ifCond .eq (12), 17, 0, 0, .null), (.iload_n 2, 0, 0, 0, .null), (.ifCond .eq (10), 19, 0, 0, .null), (.iload_n 2, 0, 0, 0, .null), (.iconst (1), 0, 0, 0, .int (1)), (.if_icmp .eq (5), 19, 0, 0, .null), (.nop, 17, 0, 0, .null)]
def xb_Ct_world_17 : List xv_Op := [(.iconst (-1), 0, 0, 0, .int (-1)), (.ireturn, 0, 0, 0, .null)]
def xb_Ct_world_19 : List xv_Op := [(.aload_n 0, 0, 0, 0, .null), (.iload_n 1, 0, 0, 0, .null), (.invokevirtual 214, 34, 1, 827, .int 1), (.aload_n 0, 0, 0, 0, .null), (.getfield 43, 5, 1, 350, .null), (.invokevirtual 228, 239, 0, 891, .int 6), (.lconst 0, 0, 0, 0, .long 0), (.lcmp, 0, 0, 0, .null), (.ifCond .ne (6), 39, 0, 0, .null), (.bipush (-2), 0, 0, 0, .int (-2)), (.ireturn, 0, 0, 0, .null)]
def xb_Ct_world_39 : List xv_Op := [(.iload_n 2, 0, 0, 0, .null), (.ifCond .ne (13), 53, 0, 0, .null), (.aload_n 0, 0, 0, 0, .null), (.getfield 43, 5, 1, 350, .null), (.invokevirtual 232, 242, 0, 892, .int 6), (.goto (10), 60, 0, 0, .null)]
def xb_Ct_world_53 : List xv_Op := [(.aload_n 0, 0, 0, 0, .null), (.getfield 43, 5, 1, 350, .null), (.invokevirtual 235, 243, 0, 896, .int 6), (.nop, 60, 0, 0, .null)]
def xb_Ct_world_60 : List xv_Op := [(.ireturn, 0, 0, 0, .null)]
def xl_Ct_world : xv_B := [(0, xb_Ct_world_0), (17, xb_Ct_world_17), (19, xb_Ct_world_19), (39, xb_Ct_world_39), (53, xb_Ct_world_53), (60, xb_Ct_world_60)]
def xm_Ct_world : xv_M := (⟨"OnionCourt", "world", "(II)I"⟩, prog_1_method_17_code, 3, (some .int), (1, 1, 2), [], xl_Ct_world)
def xb_Ct_askNext_0 : List xv_Op := [(.aload_n 0, 0, 0, 0, .null), (.iload_n 1, 0, 0, 0, .null), (.invokevirtual 209, 33, 1, 818, .int 1), (.ifCond .ne (5), 10, 0, 0, .null), (.iconst (-1), 0, 0, 0, .int (-1)), (.ireturn, 0, 0, 0, .null)]
def xb_Ct_askNext_10 : List xv_Op := [(.aload_n 0, 0, 0, 0, .null), (.iload_n 1, 0, 0, 0, .null), (.invokevirtual 214, 34, 1, 827, .int 1), (.aload_n 0, 0, 0, 0, .null), (.getfield 43, 5, 1, 350, .null), (.invokevirtual 228, 239, 0, 891, .int 6), (.lconst 0, 0, 0, 0, .long 0), (.lcmp, 0, 0, 0, .null), (.ifCond .ne (8), 32, 0, 0, .null), (.bipush (-2), 0, 0, 0, .int (-2)), (.goto (7), 36, 0, 0, .null)]
def xb_Ct_askNext_32 : List xv_Op := [(.aload_n 0, 0, 0, 0, .null), (.invokevirtual 238, 35, 0, 906, .int 1), (.nop, 36, 0, 0, .null)]
def xb_Ct_askNext_36 : List xv_Op := [(.ireturn, 0, 0, 0, .null)]
def xl_Ct_askNext : xv_B := [(0, xb_Ct_askNext_0), (10, xb_Ct_askNext_10), (32, xb_Ct_askNext_32), (36, xb_Ct_askNext_36)]
def xm_Ct_askNext : xv_M := (⟨"OnionCourt", "askNext", "(I)I"⟩, prog_1_method_18_code, 2, (some .int), (1, 1, 1), [], xl_Ct_askNext)
def xb_Ct_ifTrue_0 : List xv_Op := [(.aload_n 0, 0, 0, 0, .null), (.getfield 50, 6, 1, 351, .null), (.iload_n 1, 0, 0, 0, .null), (.invokevirtual 241, 162, 1, 822, .int 7), (.ifCond .ne (7), 15, 0, 0, .null), (.ldc2_w 212, 0, 0, 826, .long (-1)), (.lreturn, 0, 0, 0, .null)]
def xb_Ct_ifTrue_15 : List xv_Op := [(.ldc2_w 244, 0, 0, 919, .long (4294967295)), (.aload_n 0, 0, 0, 0, .null), (.getfield 50, 6, 1, 351, .null), (.iload_n 1, 0, 0, 0, .null), (.aload_n 0, 0, 0, 0, .null), (.getfield 19, 1, 1, 346, .null), (.invokevirtual 246, 180, 2, 920, .int 7), (.i2l, 0, 0, 0, .null), (.land, 0, 0, 0, .null), (.lreturn, 0, 0, 0, .null)]
def xl_Ct_ifTrue : xv_B := [(0, xb_Ct_ifTrue_0), (15, xb_Ct_ifTrue_15)]
def xm_Ct_ifTrue : xv_M := (⟨"OnionCourt", "ifTrue", "(I)J"⟩, prog_1_method_19_code, 2, (some .long), (1, 1, 1), [], xl_Ct_ifTrue)
def xb_Ct_liars_0 : List xv_Op := [(.iload_n 1, 0, 0, 0, .null), (.ifCond .eq (10), 11, 0, 0, .null), (.iload_n 1, 0, 0, 0, .null), (.iconst (1), 0, 0, 0, .int (1)), (.if_icmp .eq (5), 11, 0, 0, .null), (.iconst (-1), 0, 0, 0, .int (-1)), (.ireturn, 0, 0, 0, .null)]
def xb_Ct_liars_11 : List xv_Op := [(.sipush (1023), 0, 0, 0, .int (1023)), (.istore_n 2, 0, 0, 0, .null), (.iconst (0), 0, 0, 0, .int (0)), (.istore_n 3, 0, 0, 0, .null), (.nop, 17, 0, 0, .null)]
def xb_Ct_liars_17 : List xv_Op := [(.iload_n 3, 0, 0, 0, .null), (.sipush (1024), 0, 0, 0, .int (1024)), (.if_icmp .ge (37), 58, 0, 0, .null), (.iload_n 3, 0, 0, 0, .null), (.invokestatic 138, 274, 1, 573, .int 0), (.iload_n 2, 0, 0, 0, .null), (.invokestatic 138, 274, 1, 573, .int 0), (.if_icmp .ge (20), 52, 0, 0, .null), (.aload_n 0, 0, 0, 0, .null), (.getfield 50, 6, 1, 351, .null), (.iload_n 3, 0, 0, 0, .null), (.aload_n 0, 0, 0, 0, .null), (.getfield 19, 1, 1, 346, .null), (.invokevirtual 250, 181, 2, 929, .int 7), (.ifCond .eq (5), 52, 0, 0, .null), (.iload_n 3, 0, 0, 0, .null), (.istore_n 2, 0, 0, 0, .null), (.nop, 52, 0, 0, .null)]
def xb_Ct_liars_52 : List xv_Op := [(.iinc 3 (1), 0, 0, 0, .int (1)), (.goto (-38), 17, 0, 0, .null)]
def xb_Ct_liars_58 : List xv_Op := [(.iload_n 1, 0, 0, 0, .null), (.ifCond .ne (10), 69, 0, 0, .null), (.iload_n 2, 0, 0, 0, .null), (.invokestatic 138, 274, 1, 573, .int 0), (.goto (4), 70, 0, 0, .null)]
def xb_Ct_liars_69 : List xv_Op := [(.iload_n 2, 0, 0, 0, .null), (.nop, 70, 0, 0, .null)]
def xb_Ct_liars_70 : List xv_Op := [(.ireturn, 0, 0, 0, .null)]
def xl_Ct_liars : xv_B := [(0, xb_Ct_liars_0), (11, xb_Ct_liars_11), (17, xb_Ct_liars_17), (52, xb_Ct_liars_52), (58, xb_Ct_liars_58), (69, xb_Ct_liars_69), (70, xb_Ct_liars_70)]
def xm_Ct_liars : xv_M := (⟨"OnionCourt", "liars", "(I)I"⟩, prog_1_method_20_code, 4, (some .int), (1, 1, 1), [], xl_Ct_liars)
def xb_Ct_against_0 : List xv_Op := [(.iconst (0), 0, 0, 0, .int (0)), (.istore_n 1, 0, 0, 0, .null), (.iconst (0), 0, 0, 0, .int (0)), (.istore_n 2, 0, 0, 0, .null), (.nop, 4, 0, 0, .null)]
def xb_Ct_against_4 : List xv_Op := [(.iload_n 2, 0, 0, 0, .null), (.aload_n 0, 0, 0, 0, .null), (.getfield 50, 6, 1, 351, .null), (.invokevirtual 164, 163, 0, 690, .int 7), (.if_icmp .ge (46), 58, 0, 0, .null), (.iconst (0), 0, 0, 0, .int (0)), (.istore_n 3, 0, 0, 0, .null), (.nop, 17, 0, 0, .null)]
def xb_Ct_against_17 : List xv_Op := [(.iload_n 3, 0, 0, 0, .null), (.iload_n 2, 0, 0, 0, .null), (.if_icmp .ge (33), 52, 0, 0, .null), (.aload_n 0, 0, 0, 0, .null), (.getfield 50, 6, 1, 351, .null), (.iconst (1), 0, 0, 0, .int (1)), (.iload_n 2, 0, 0, 0, .null), (.ishl, 0, 0, 0, .null), (.iconst (1), 0, 0, 0, .int (1)), (.iload_n 3, 0, 0, 0, .null), (.ishl, 0, 0, 0, .null), (.ior, 0, 0, 0, .null), (.aload_n 0, 0, 0, 0, .null), (.getfield 19, 1, 1, 346, .null), (.invokevirtual 246, 180, 2, 920, .int 7), (.ifCond .ne (6), 46, 0, 0, .null), (.iinc 1 (1), 0, 0, 0, .int (1)), (.nop, 46, 0, 0, .null)]
def xb_Ct_against_46 : List xv_Op := [(.iinc 3 (1), 0, 0, 0, .int (1)), (.goto (-32), 17, 0, 0, .null)]
def xb_Ct_against_52 : List xv_Op := [(.iinc 2 (1), 0, 0, 0, .int (1)), (.goto (-51), 4, 0, 0, .null)]
def xb_Ct_against_58 : List xv_Op := [(.iload_n 1, 0, 0, 0, .null), (.ireturn, 0, 0, 0, .null)]
def xl_Ct_against : xv_B := [(0, xb_Ct_against_0), (4, xb_Ct_against_4), (17, xb_Ct_against_17), (46, xb_Ct_against_46), (52, xb_Ct_against_52), (58, xb_Ct_against_58)]
def xm_Ct_against : xv_M := (⟨"OnionCourt", "against", "()I"⟩, prog_1_method_21_code, 4, (some .int), (1, 1, 0), [], xl_Ct_against)
def xb_Ct_follows_0 : List xv_Op := [(.aload_n 0, 0, 0, 0, .null), (.getfield 50, 6, 1, 351, .null), (.iload_n 1, 0, 0, 0, .null), (.invokevirtual 241, 162, 1, 822, .int 7), (.ifCond .eq (12), 20, 0, 0, .null), (.iload_n 2, 0, 0, 0, .null), (.ifCond .eq (10), 22, 0, 0, .null), (.iload_n 2, 0, 0, 0, .null), (.iconst (1), 0, 0, 0, .int (1)), (.if_icmp .eq (5), 22, 0, 0, .null), (.nop, 20, 0, 0, .null)]
def xb_Ct_follows_20 : List xv_Op := [(.iconst (-1), 0, 0, 0, .int (-1)), (.ireturn, 0, 0, 0, .null)]
def xb_Ct_follows_22 : List xv_Op := [(.aload_n 0, 0, 0, 0, .null), (.getfield 50, 6, 1, 351, .null), (.iload_n 1, 0, 0, 0, .null), (.aload_n 0, 0, 0, 0, .null), (.getfield 19, 1, 1, 346, .null), (.invokevirtual 246, 180, 2, 920, .int 7), (.istore_n 3, 0, 0, 0, .null), (.iconst (0), 0, 0, 0, .int (0)), (.istore 4, 0, 0, 0, .null), (.iconst (0), 0, 0, 0, .int (0)), (.istore 5, 0, 0, 0, .null), (.nop, 41, 0, 0, .null)]
def xb_Ct_follows_41 : List xv_Op := [(.iload 5, 0, 0, 0, .null), (.bipush (8), 0, 0, 0, .int (8)), (.if_icmp .ge (66), 111, 0, 0, .null), (.iload_n 2, 0, 0, 0, .null), (.ifCond .ne (17), 66, 0, 0, .null), (.aload_n 0, 0, 0, 0, .null), (.getfield 19, 1, 1, 346, .null), (.iload 5, 0, 0, 0, .null), (.invokevirtual 217, 225, 1, 839, .int 3), (.iconst (-1), 0, 0, 0, .int (-1)), (.ixor, 0, 0, 0, .null), (.goto (12), 75, 0, 0, .null)]
def xb_Ct_follows_66 : List xv_Op := [(.aload_n 0, 0, 0, 0, .null), (.getfield 19, 1, 1, 346, .null), (.iload 5, 0, 0, 0, .null), (.invokevirtual 217, 225, 1, 839, .int 3), (.nop, 75, 0, 0, .null)]
def xb_Ct_follows_75 : List xv_Op := [(.istore 6, 0, 0, 0, .null), (.aload_n 0, 0, 0, 0, .null), (.getfield 19, 1, 1, 346, .null), (.iload 5, 0, 0, 0, .null), (.invokevirtual 167, 223, 1, 698, .int 3), (.ifCond .eq (19), 105, 0, 0, .null), (.iload_n 3, 0, 0, 0, .null), (.iload 6, 0, 0, 0, .null), (.iand, 0, 0, 0, .null), (.ifCond .ne (12), 105, 0, 0, .null), (.iload 4, 0, 0, 0, .null), (.iconst (1), 0, 0, 0, .int (1)), (.iload 5, 0, 0, 0, .null), (.ishl, 0, 0, 0, .null), (.ior, 0, 0, 0, .null), (.istore 4, 0, 0, 0, .null), (.nop, 105, 0, 0, .null)]
def xb_Ct_follows_105 : List xv_Op := [(.iinc 5 (1), 0, 0, 0, .int (1)), (.goto (-67), 41, 0, 0, .null)]
def xb_Ct_follows_111 : List xv_Op := [(.iload 4, 0, 0, 0, .null), (.ireturn, 0, 0, 0, .null)]
def xl_Ct_follows : xv_B := [(0, xb_Ct_follows_0), (20, xb_Ct_follows_20), (22, xb_Ct_follows_22), (41, xb_Ct_follows_41), (66, xb_Ct_follows_66), (75, xb_Ct_follows_75), (105, xb_Ct_follows_105), (111, xb_Ct_follows_111)]
def xm_Ct_follows : xv_M := (⟨"OnionCourt", "follows", "(II)I"⟩, prog_1_method_22_code, 7, (some .int), (1, 1, 2), [], xl_Ct_follows)
def xb_Ct_agree_0 : List xv_Op := [(.iload_n 1, 0, 0, 0, .null), (.iload_n 2, 0, 0, 0, .null), (.if_icmp .eq (34), 36, 0, 0, .null), (.aload_n 0, 0, 0, 0, .null), (.getfield 50, 6, 1, 351, .null), (.iload_n 1, 0, 0, 0, .null), (.invokevirtual 144, 159, 1, 583, .int 7), (.ifnull (23), 36, 0, 0, .null), (.aload_n 0, 0, 0, 0, .null), (.getfield 50, 6, 1, 351, .null), (.iload_n 2, 0, 0, 0, .null), (.invokevirtual 144, 159, 1, 583, .int 7), (.ifnull (12), 36, 0, 0, .null), (.iload_n 3, 0, 0, 0, .null), (.ifCond .eq (10), 38, 0, 0, .null), (.iload_n 3, 0, 0, 0, .null), (.iconst (1), 0, 0, 0, .int (1)), (.if_icmp .eq (5), 38, 0, 0, .null), (.nop, 36, 0, 0, .null)]
def xb_Ct_agree_36 : List xv_Op := [(.iconst (-1), 0, 0, 0, .int (-1)), (.ireturn, 0, 0, 0, .null)]
def xb_Ct_agree_38 : List xv_Op := [(.iconst (0), 0, 0, 0, .int (0)), (.istore 4, 0, 0, 0, .null), (.iconst (0), 0, 0, 0, .int (0)), (.istore 5, 0, 0, 0, .null), (.nop, 44, 0, 0, .null)]
def xb_Ct_agree_44 : List xv_Op := [(.iload 5, 0, 0, 0, .null), (.bipush (8), 0, 0, 0, .int (8)), (.if_icmp .ge (65), 113, 0, 0, .null), (.aload_n 0, 0, 0, 0, .null), (.getfield 50, 6, 1, 351, .null), (.iload_n 1, 0, 0, 0, .null), (.iload 5, 0, 0, 0, .null), (.invokevirtual 253, 179, 2, 946, .int 7), (.astore 6, 0, 0, 0, .null), (.aload_n 0, 0, 0, 0, .null), (.getfield 50, 6, 1, 351, .null), (.iload_n 2, 0, 0, 0, .null), (.iload 5, 0, 0, 0, .null), (.invokevirtual 253, 179, 2, 946, .int 7), (.astore 7, 0, 0, 0, .null), (.aload 6, 0, 0, 0, .null), (.ifnull (30), 107, 0, 0, .null), (.aload 7, 0, 0, 0, .null), (.ifnull (25), 107, 0, 0, .null), (.aload 6, 0, 0, 0, .null), (.aload 7, 0, 0, 0, .null), (.invokevirtual 257, 152, 1, 951, .int 9), (.iload_n 3, 0, 0, 0, .null), (.ifCond .ne (7), 100, 0, 0, .null), (.iconst (1), 0, 0, 0, .int (1)), (.goto (4), 101, 0, 0, .null)]
def xb_Ct_agree_100 : List xv_Op := [(.iconst (0), 0, 0, 0, .int (0)), (.nop, 101, 0, 0, .null)]
def xb_Ct_agree_101 : List xv_Op := [(.if_icmp .ne (6), 107, 0, 0, .null), (.iinc 4 (1), 0, 0, 0, .int (1)), (.nop, 107, 0, 0, .null)]
def xb_Ct_agree_107 : List xv_Op := [(.iinc 5 (1), 0, 0, 0, .int (1)), (.goto (-66), 44, 0, 0, .null)]
def xb_Ct_agree_113 : List xv_Op := [(.iload 4, 0, 0, 0, .null), (.ireturn, 0, 0, 0, .null)]
def xl_Ct_agree : xv_B := [(0, xb_Ct_agree_0), (36, xb_Ct_agree_36), (38, xb_Ct_agree_38), (44, xb_Ct_agree_44), (100, xb_Ct_agree_100), (101, xb_Ct_agree_101), (107, xb_Ct_agree_107), (113, xb_Ct_agree_113)]
def xm_Ct_agree : xv_M := (⟨"OnionCourt", "agree", "(III)I"⟩, prog_1_method_23_code, 8, (some .int), (1, 1, 3), [], xl_Ct_agree)
def xb_Ct_tears_0 : List xv_Op := [(.aload_n 0, 0, 0, 0, .null), (.getfield 19, 1, 1, 346, .null), (.iload_n 1, 0, 0, 0, .null), (.invokevirtual 167, 223, 1, 698, .int 3), (.ifCond .eq (14), 22, 0, 0, .null), (.aload_n 0, 0, 0, 0, .null), (.getfield 50, 6, 1, 351, .null), (.iload_n 1, 0, 0, 0, .null), (.invokevirtual 261, 178, 1, 959, .int 7), (.goto (4), 23, 0, 0, .null)]
def xb_Ct_tears_22 : List xv_Op := [(.iconst (-1), 0, 0, 0, .int (-1)), (.nop, 23, 0, 0, .null)]
def xb_Ct_tears_23 : List xv_Op := [(.ireturn, 0, 0, 0, .null)]
def xl_Ct_tears : xv_B := [(0, xb_Ct_tears_0), (22, xb_Ct_tears_22), (23, xb_Ct_tears_23)]
def xm_Ct_tears : xv_M := (⟨"OnionCourt", "tears", "(I)I"⟩, prog_1_method_24_code, 2, (some .int), (1, 1, 1), [], xl_Ct_tears)
def xb_Ct_seen_0 : List xv_Op := [(.iload_n 1, 0, 0, 0, .null), (.iconst (1), 0, 0, 0, .int (1)), (.if_icmp .lt (28), 30, 0, 0, .null), (.iload_n 1, 0, 0, 0, .null), (.bipush (12), 0, 0, 0, .int (12)), (.if_icmp .gt (22), 30, 0, 0, .null), (.iload_n 2, 0, 0, 0, .null), (.ifCond .lt (18), 30, 0, 0, .null), (.iload_n 2, 0, 0, 0, .null), (.bipush (99), 0, 0, 0, .int (99)), (.if_icmp .gt (12), 30, 0, 0, .null), (.iload_n 3, 0, 0, 0, .null), (.ifCond .eq (10), 32, 0, 0, .null), (.iload_n 3, 0, 0, 0, .null), (.iconst (1), 0, 0, 0, .int (1)), (.if_icmp .eq (5), 32, 0, 0, .null), (.nop, 30, 0, 0, .null)]
def xb_Ct_seen_30 : List xv_Op := [(.iconst (-1), 0, 0, 0, .int (-1)), (.ireturn, 0, 0, 0, .null)]
def xb_Ct_seen_32 : List xv_Op := [(.aload_n 0, 0, 0, 0, .null), (.getfield 10, 0, 1, 345, .null), (.iconst (2), 0, 0, 0, .int (2)), (.iload_n 1, 0, 0, 0, .null), (.imul, 0, 0, 0, .null), (.iconst (2), 0, 0, 0, .int (2)), (.bipush (24), 0, 0, 0, .int (24)), (.invokevirtual 108, 248, 3, 428, .int 2), (.ifCond .ne (5), 50, 0, 0, .null), (.iconst (-1), 0, 0, 0, .int (-1)), (.ireturn, 0, 0, 0, .null)]
def xb_Ct_seen_50 : List xv_Op := [(.aload_n 0, 0, 0, 0, .null), (.iload_n 1, 0, 0, 0, .null), (.iload_n 2, 0, 0, 0, .null), (.invokevirtual 264, 36, 2, 967, .int 1), (.istore 4, 0, 0, 0, .null), (.iload_n 3, 0, 0, 0, .null), (.ifCond .ne (11), 70, 0, 0, .null), (.iload 4, 0, 0, 0, .null), (.invokestatic 138, 274, 1, 573, .int 0), (.goto (5), 72, 0, 0, .null)]
def xb_Ct_seen_70 : List xv_Op := [(.iload 4, 0, 0, 0, .null), (.nop, 72, 0, 0, .null)]
def xb_Ct_seen_72 : List xv_Op := [(.ireturn, 0, 0, 0, .null)]
def xl_Ct_seen : xv_B := [(0, xb_Ct_seen_0), (30, xb_Ct_seen_30), (32, xb_Ct_seen_32), (50, xb_Ct_seen_50), (70, xb_Ct_seen_70), (72, xb_Ct_seen_72)]
def xm_Ct_seen : xv_M := (⟨"OnionCourt", "seen", "(III)I"⟩, prog_1_method_25_code, 5, (some .int), (1, 1, 3), [], xl_Ct_seen)
def xb_Ct_skins_0 : List xv_Op := [(.iload_n 2, 0, 0, 0, .null), (.iconst (1), 0, 0, 0, .int (1)), (.if_icmp .lt (24), 26, 0, 0, .null), (.iload_n 2, 0, 0, 0, .null), (.sipush (255), 0, 0, 0, .int (255)), (.if_icmp .gt (17), 26, 0, 0, .null), (.aload_n 0, 0, 0, 0, .null), (.getfield 10, 0, 1, 345, .null), (.iload_n 1, 0, 0, 0, .null), (.iconst (1), 0, 0, 0, .int (1)), (.bipush (10), 0, 0, 0, .int (10)), (.invokevirtual 108, 248, 3, 428, .int 2), (.ifCond .ne (5), 28, 0, 0, .null), (.nop, 26, 0, 0, .null)]
def xb_Ct_skins_26 : List xv_Op := [(.iconst (-1), 0, 0, 0, .int (-1)), (.ireturn, 0, 0, 0, .null)]
def xb_Ct_skins_28 : List xv_Op := [(.aload_n 0, 0, 0, 0, .null), (.getfield 74, 11, 1, 356, .null), (.aload_n 0, 0, 0, 0, .null), (.getfield 10, 0, 1, 345, .null), (.iload_n 1, 0, 0, 0, .null), (.iload_n 2, 0, 0, 0, .null), (.invokevirtual 268, 183, 3, 990, .int 10), (.ifCond .ne (6), 47, 0, 0, .null), (.bipush (-2), 0, 0, 0, .int (-2)), (.ireturn, 0, 0, 0, .null)]
def xb_Ct_skins_47 : List xv_Op := [(.iload_n 3, 0, 0, 0, .null), (.bipush (20), 0, 0, 0, .int (20)), (.if_icmp .eq (15), 65, 0, 0, .null), (.iload_n 3, 0, 0, 0, .null), (.ifCond .lt (8), 62, 0, 0, .null), (.iload_n 3, 0, 0, 0, .null), (.iload_n 1, 0, 0, 0, .null), (.if_icmp .lt (6), 65, 0, 0, .null), (.nop, 62, 0, 0, .null)]
def xb_Ct_skins_62 : List xv_Op := [(.bipush (-4), 0, 0, 0, .int (-4)), (.ireturn, 0, 0, 0, .null)]
def xb_Ct_skins_65 : List xv_Op := [(.aload_n 0, 0, 0, 0, .null), (.getfield 74, 11, 1, 356, .null), (.invokevirtual 272, 184, 0, 996, .int 10), (.istore 4, 0, 0, 0, .null), (.iload_n 3, 0, 0, 0, .null), (.bipush (20), 0, 0, 0, .int (20)), (.if_icmp .ne (8), 85, 0, 0, .null), (.iload 4, 0, 0, 0, .null), (.goto (11), 93, 0, 0, .null)]
def xb_Ct_skins_85 : List xv_Op := [(.aload_n 0, 0, 0, 0, .null), (.getfield 74, 11, 1, 356, .null), (.iload_n 3, 0, 0, 0, .null), (.invokevirtual 275, 186, 1, 1005, .int 10), (.nop, 93, 0, 0, .null)]
def xb_Ct_skins_93 : List xv_Op := [(.ireturn, 0, 0, 0, .null)]
def xl_Ct_skins : xv_B := [(0, xb_Ct_skins_0), (26, xb_Ct_skins_26), (28, xb_Ct_skins_28), (47, xb_Ct_skins_47), (62, xb_Ct_skins_62), (65, xb_Ct_skins_65), (85, xb_Ct_skins_85), (93, xb_Ct_skins_93)]
def xm_Ct_skins : xv_M := (⟨"OnionCourt", "skins", "(III)I"⟩, prog_1_method_26_code, 5, (some .int), (1, 1, 3), [], xl_Ct_skins)
def xb_Ct_onionsFor_0 : List xv_Op := [(.iload_n 2, 0, 0, 0, .null), (.ifCond .lt (22), 23, 0, 0, .null), (.iload_n 2, 0, 0, 0, .null), (.bipush (10), 0, 0, 0, .int (10)), (.if_icmp .ge (16), 23, 0, 0, .null), (.iload_n 1, 0, 0, 0, .null), (.iload_n 2, 0, 0, 0, .null), (.ishr, 0, 0, 0, .null), (.iconst (1), 0, 0, 0, .int (1)), (.iand, 0, 0, 0, .null), (.iconst (1), 0, 0, 0, .int (1)), (.if_icmp .ne (7), 23, 0, 0, .null), (.iconst (1), 0, 0, 0, .int (1)), (.goto (4), 24, 0, 0, .null)]
def xb_Ct_onionsFor_23 : List xv_Op := [(.iconst (0), 0, 0, 0, .int (0)), (.nop, 24, 0, 0, .null)]
def xb_Ct_onionsFor_24 : List xv_Op := [(.istore_n 3, 0, 0, 0, .null), (.aload_n 0, 0, 0, 0, .null), (.getfield 81, 12, 1, 357, .null), (.iload_n 1, 0, 0, 0, .null), (.aload_n 0, 0, 0, 0, .null), (.getfield 50, 6, 1, 351, .null), (.invokevirtual 278, 195, 2, 1013, .int 11), (.ifCond .eq (13), 50, 0, 0, .null), (.iload_n 2, 0, 0, 0, .null), (.bipush (20), 0, 0, 0, .int (20)), (.if_icmp .eq (9), 52, 0, 0, .null), (.iload_n 3, 0, 0, 0, .null), (.ifCond .ne (5), 52, 0, 0, .null), (.nop, 50, 0, 0, .null)]
def xb_Ct_onionsFor_50 : List xv_Op := [(.iconst (-1), 0, 0, 0, .int (-1)), (.ireturn, 0, 0, 0, .null)]
def xb_Ct_onionsFor_52 : List xv_Op := [(.aload_n 0, 0, 0, 0, .null), (.getfield 81, 12, 1, 357, .null), (.invokevirtual 282, 196, 0, 1025, .int 11), (.iload_n 2, 0, 0, 0, .null), (.bipush (20), 0, 0, 0, .int (20)), (.if_icmp .ne (13), 75, 0, 0, .null), (.aload_n 0, 0, 0, 0, .null), (.getfield 81, 12, 1, 357, .null), (.invokevirtual 285, 199, 0, 1037, .int 11), (.goto (11), 83, 0, 0, .null)]
def xb_Ct_onionsFor_75 : List xv_Op := [(.aload_n 0, 0, 0, 0, .null), (.getfield 81, 12, 1, 357, .null), (.iload_n 2, 0, 0, 0, .null), (.invokevirtual 288, 200, 1, 1041, .int 11), (.nop, 83, 0, 0, .null)]
def xb_Ct_onionsFor_83 : List xv_Op := [(.ireturn, 0, 0, 0, .null)]
def xl_Ct_onionsFor : xv_B := [(0, xb_Ct_onionsFor_0), (23, xb_Ct_onionsFor_23), (24, xb_Ct_onionsFor_24), (50, xb_Ct_onionsFor_50), (52, xb_Ct_onionsFor_52), (75, xb_Ct_onionsFor_75), (83, xb_Ct_onionsFor_83)]
def xm_Ct_onionsFor : xv_M := (⟨"OnionCourt", "onionsFor", "(II)I"⟩, prog_1_method_27_code, 4, (some .int), (1, 1, 2), [], xl_Ct_onionsFor)
def xb_Ct_peeled_0 : List xv_Op := [(.aload_n 0, 0, 0, 0, .null), (.getfield 50, 6, 1, 351, .null), (.iload_n 1, 0, 0, 0, .null), (.invokevirtual 144, 159, 1, 583, .int 7), (.astore_n 3, 0, 0, 0, .null), (.aload_n 3, 0, 0, 0, .null), (.ifnull (14), 24, 0, 0, .null), (.iload_n 2, 0, 0, 0, .null), (.iconst (1), 0, 0, 0, .int (1)), (.if_icmp .lt (9), 24, 0, 0, .null), (.iload_n 2, 0, 0, 0, .null), (.bipush (12), 0, 0, 0, .int (12)), (.if_icmp .le (5), 26, 0, 0, .null), (.nop, 24, 0, 0, .null)]
def xb_Ct_peeled_24 : List xv_Op := [(.iconst (-1), 0, 0, 0, .int (-1)), (.ireturn, 0, 0, 0, .null)]
def xb_Ct_peeled_26 : List xv_Op := [(.iload_n 2, 0, 0, 0, .null), (.aload_n 3, 0, 0, 0, .null), (.invokevirtual 154, 265, 0, 611, .int 8), (.if_icmp .le (8), 39, 0, 0, .null), (.bipush (-2), 0, 0, 0, .int (-2)), (.goto (8), 44, 0, 0, .null)]
def xb_Ct_peeled_39 : List xv_Op := [(.aload_n 3, 0, 0, 0, .null), (.iload_n 2, 0, 0, 0, .null), (.invokevirtual 187, 267, 1, 780, .int 8), (.nop, 44, 0, 0, .null)]
def xb_Ct_peeled_44 : List xv_Op := [(.ireturn, 0, 0, 0, .null)]
def xl_Ct_peeled : xv_B := [(0, xb_Ct_peeled_0), (24, xb_Ct_peeled_24), (26, xb_Ct_peeled_26), (39, xb_Ct_peeled_39), (44, xb_Ct_peeled_44)]
def xm_Ct_peeled : xv_M := (⟨"OnionCourt", "peeled", "(II)I"⟩, prog_1_method_28_code, 4, (some .int), (1, 1, 2), [], xl_Ct_peeled)
def xb_Ct_seed_0 : List xv_Op := [(.iload_n 1, 0, 0, 0, .null), (.ifCond .lt (10), 11, 0, 0, .null), (.iload_n 1, 0, 0, 0, .null), (.ldc_w 291, 0, 0, 1053, .int (65535)), (.if_icmp .le (5), 13, 0, 0, .null), (.nop, 11, 0, 0, .null)]
def xb_Ct_seed_11 : List xv_Op := [(.iconst (0), 0, 0, 0, .int (0)), (.ireturn, 0, 0, 0, .null)]
def xb_Ct_seed_13 : List xv_Op := [(.aload_n 0, 0, 0, 0, .null), (.getfield 50, 6, 1, 351, .null), (.iload_n 1, 0, 0, 0, .null), (.invokevirtual 292, 168, 1, 1054, .int 7), (.iconst (1), 0, 0, 0, .int (1)), (.ireturn, 0, 0, 0, .null)]
def xl_Ct_seed : xv_B := [(0, xb_Ct_seed_0), (11, xb_Ct_seed_11), (13, xb_Ct_seed_13)]
def xm_Ct_seed : xv_M := (⟨"OnionCourt", "seed", "(I)Z"⟩, prog_1_method_29_code, 2, (some .boolean), (1, 1, 1), [], xl_Ct_seed)
def xb_Ct_keep_0 : List xv_Op := [(.aload_n 0, 0, 0, 0, .null), (.getfield 54, 7, 1, 352, .null), (.aload_n 0, 0, 0, 0, .null), (.getfield 50, 6, 1, 351, .null), (.invokevirtual 157, 157, 1, 619, .int 7), (.aload_n 0, 0, 0, 0, .null), (.iconst (1), 0, 0, 0, .int (1)), (.putfield 60, 9, 1, 354, .int 2), (.aload_n 0, 0, 0, 0, .null), (.getfield 50, 6, 1, 351, .null), (.invokevirtual 164, 163, 0, 690, .int 7), (.ireturn, 0, 0, 0, .null)]
def xl_Ct_keep : xv_B := [(0, xb_Ct_keep_0)]
def xm_Ct_keep : xv_M := (⟨"OnionCourt", "keep", "()I"⟩, prog_1_method_30_code, 1, (some .int), (1, 1, 0), [], xl_Ct_keep)
def xb_Ct_undo_0 : List xv_Op := [(.aload_n 0, 0, 0, 0, .null), (.getfield 60, 9, 1, 354, .null), (.ifCond .eq (14), 18, 0, 0, .null), (.aload_n 0, 0, 0, 0, .null), (.getfield 50, 6, 1, 351, .null), (.aload_n 0, 0, 0, 0, .null), (.getfield 54, 7, 1, 352, .null), (.invokevirtual 157, 157, 1, 619, .int 7), (.nop, 18, 0, 0, .null)]
def xb_Ct_undo_18 : List xv_Op := [(.aload_n 0, 0, 0, 0, .null), (.getfield 60, 9, 1, 354, .null), (.ireturn, 0, 0, 0, .null)]
def xl_Ct_undo : xv_B := [(0, xb_Ct_undo_0), (18, xb_Ct_undo_18)]
def xm_Ct_undo : xv_M := (⟨"OnionCourt", "undo", "()Z"⟩, prog_1_method_31_code, 1, (some .boolean), (1, 1, 0), [], xl_Ct_undo)
def xb_Ct_check_0 : List xv_Op := [(.aload_n 0, 0, 0, 0, .null), (.getfield 50, 6, 1, 351, .null), (.iload_n 1, 0, 0, 0, .null), (.invokevirtual 144, 159, 1, 583, .int 7), (.astore_n 3, 0, 0, 0, .null), (.aload_n 3, 0, 0, 0, .null), (.ifnull (17), 27, 0, 0, .null), (.aload_n 0, 0, 0, 0, .null), (.getfield 10, 0, 1, 345, .null), (.iload_n 2, 0, 0, 0, .null), (.iconst (0), 0, 0, 0, .int (0)), (.bipush (12), 0, 0, 0, .int (12)), (.invokevirtual 108, 248, 3, 428, .int 2), (.ifCond .ne (6), 30, 0, 0, .null), (.nop, 27, 0, 0, .null)]
def xb_Ct_check_27 : List xv_Op := [(.bipush (-2), 0, 0, 0, .int (-2)), (.ireturn, 0, 0, 0, .null)]
def xb_Ct_check_30 : List xv_Op := [(.iconst (0), 0, 0, 0, .int (0)), (.istore 4, 0, 0, 0, .null), (.nop, 33, 0, 0, .null)]
def xb_Ct_check_33 : List xv_Op := [(.iload 4, 0, 0, 0, .null), (.iload_n 2, 0, 0, 0, .null), (.if_icmp .ge (30), 66, 0, 0, .null), (.aload_n 0, 0, 0, 0, .null), (.getfield 10, 0, 1, 345, .null), (.iload 4, 0, 0, 0, .null), (.invokevirtual 295, 249, 1, 975, .int 2), (.aload_n 3, 0, 0, 0, .null), (.iload 4, 0, 0, 0, .null), (.invokevirtual 193, 266, 1, 789, .int 8), (.if_icmp .eq (6), 60, 0, 0, .null), (.iload 4, 0, 0, 0, .null), (.ireturn, 0, 0, 0, .null)]
def xb_Ct_check_60 : List xv_Op := [(.iinc 4 (1), 0, 0, 0, .int (1)), (.goto (-30), 33, 0, 0, .null)]
def xb_Ct_check_66 : List xv_Op := [(.iconst (-1), 0, 0, 0, .int (-1)), (.ireturn, 0, 0, 0, .null)]
def xl_Ct_check : xv_B := [(0, xb_Ct_check_0), (27, xb_Ct_check_27), (30, xb_Ct_check_30), (33, xb_Ct_check_33), (60, xb_Ct_check_60), (66, xb_Ct_check_66)]
def xm_Ct_check : xv_M := (⟨"OnionCourt", "check", "(II)I"⟩, prog_1_method_32_code, 5, (some .int), (1, 1, 2), [], xl_Ct_check)
def xb_Ct_count_0 : List xv_Op := [(.iload_n 1, 0, 0, 0, .null), (.tableswitch (99) (0) (6) #[43, 51, 59, 67, 75, 83, 91], 1, 0, 0, .null)]
def xb_Ct_count_44 : List xv_Op := [(.aload_n 0, 0, 0, 0, .null), (.getfield 50, 6, 1, 351, .null), (.invokevirtual 298, 164, 0, 1074, .int 7), (.ireturn, 0, 0, 0, .null)]
def xb_Ct_count_52 : List xv_Op := [(.aload_n 0, 0, 0, 0, .null), (.getfield 50, 6, 1, 351, .null), (.invokevirtual 164, 163, 0, 690, .int 7), (.ireturn, 0, 0, 0, .null)]
def xb_Ct_count_60 : List xv_Op := [(.aload_n 0, 0, 0, 0, .null), (.getfield 50, 6, 1, 351, .null), (.invokevirtual 301, 160, 0, 1078, .int 7), (.ireturn, 0, 0, 0, .null)]
def xb_Ct_count_68 : List xv_Op := [(.aload_n 0, 0, 0, 0, .null), (.getfield 19, 1, 1, 346, .null), (.invokevirtual 304, 224, 0, 1079, .int 3), (.ireturn, 0, 0, 0, .null)]
def xb_Ct_count_76 : List xv_Op := [(.aload_n 0, 0, 0, 0, .null), (.getfield 26, 2, 1, 347, .null), (.invokevirtual 129, 204, 0, 533, .int 4), (.ireturn, 0, 0, 0, .null)]
def xb_Ct_count_84 : List xv_Op := [(.aload_n 0, 0, 0, 0, .null), (.getfield 10, 0, 1, 345, .null), (.invokevirtual 104, 247, 0, 420, .int 2), (.ireturn, 0, 0, 0, .null)]
def xb_Ct_count_92 : List xv_Op := [(.aload_n 0, 0, 0, 0, .null), (.getfield 50, 6, 1, 351, .null), (.invokevirtual 305, 165, 0, 1083, .int 7), (.ireturn, 0, 0, 0, .null)]
def xb_Ct_count_100 : List xv_Op := [(.iload_n 1, 0, 0, 0, .null), (.bipush (10), 0, 0, 0, .int (10)), (.if_icmp .lt (21), 124, 0, 0, .null), (.iload_n 1, 0, 0, 0, .null), (.bipush (15), 0, 0, 0, .int (15)), (.if_icmp .ge (15), 124, 0, 0, .null), (.aload_n 0, 0, 0, 0, .null), (.getfield 43, 5, 1, 350, .null), (.iload_n 1, 0, 0, 0, .null), (.bipush (10), 0, 0, 0, .int (10)), (.isub, 0, 0, 0, .null), (.invokevirtual 308, 235, 1, 1087, .int 6), (.ireturn, 0, 0, 0, .null)]
def xb_Ct_count_124 : List xv_Op := [(.iload_n 1, 0, 0, 0, .null), (.bipush (20), 0, 0, 0, .int (20)), (.if_icmp .lt (38), 165, 0, 0, .null), (.iload_n 1, 0, 0, 0, .null), (.bipush (28), 0, 0, 0, .int (28)), (.if_icmp .ge (32), 165, 0, 0, .null), (.aload_n 0, 0, 0, 0, .null), (.getfield 19, 1, 1, 346, .null), (.iload_n 1, 0, 0, 0, .null), (.bipush (20), 0, 0, 0, .int (20)), (.isub, 0, 0, 0, .null), (.invokevirtual 167, 223, 1, 698, .int 3), (.ifCond .eq (18), 165, 0, 0, .null), (.aload_n 0, 0, 0, 0, .null), (.getfield 19, 1, 1, 346, .null), (.iload_n 1, 0, 0, 0, .null), (.bipush (20), 0, 0, 0, .int (20)), (.isub, 0, 0, 0, .null), (.invokevirtual 217, 225, 1, 839, .int 3), (.invokestatic 138, 274, 1, 573, .int 0), (.ireturn, 0, 0, 0, .null)]
def xb_Ct_count_165 : List xv_Op := [(.iconst (-1), 0, 0, 0, .int (-1)), (.ireturn, 0, 0, 0, .null)]
def xl_Ct_count : xv_B := [(0, xb_Ct_count_0), (44, xb_Ct_count_44), (52, xb_Ct_count_52), (60, xb_Ct_count_60), (68, xb_Ct_count_68), (76, xb_Ct_count_76), (84, xb_Ct_count_84), (92, xb_Ct_count_92), (100, xb_Ct_count_100), (124, xb_Ct_count_124), (165, xb_Ct_count_165)]
def xm_Ct_count : xv_M := (⟨"OnionCourt", "count", "(I)I"⟩, prog_1_method_33_code, 2, (some .int), (1, 1, 1), [], xl_Ct_count)
def xb_Ct_canWeigh_0 : List xv_Op := [(.aload_n 0, 0, 0, 0, .null), (.getfield 50, 6, 1, 351, .null), (.iload_n 1, 0, 0, 0, .null), (.invokevirtual 241, 162, 1, 822, .int 7), (.ifCond .eq (16), 24, 0, 0, .null), (.iload_n 1, 0, 0, 0, .null), (.invokestatic 138, 274, 1, 573, .int 0), (.bipush (6), 0, 0, 0, .int (6)), (.if_icmp .gt (7), 24, 0, 0, .null), (.iconst (1), 0, 0, 0, .int (1)), (.goto (4), 25, 0, 0, .null)]
def xb_Ct_canWeigh_24 : List xv_Op := [(.iconst (0), 0, 0, 0, .int (0)), (.nop, 25, 0, 0, .null)]
def xb_Ct_canWeigh_25 : List xv_Op := [(.ireturn, 0, 0, 0, .null)]
def xl_Ct_canWeigh : xv_B := [(0, xb_Ct_canWeigh_0), (24, xb_Ct_canWeigh_24), (25, xb_Ct_canWeigh_25)]
def xm_Ct_canWeigh : xv_M := (⟨"OnionCourt", "canWeigh", "(I)Z"⟩, prog_1_method_34_code, 2, (some .boolean), (1, 1, 1), [], xl_Ct_canWeigh)
def xb_Ct_weigh_0 : List xv_Op := [(.aload_n 0, 0, 0, 0, .null), (.getfield 43, 5, 1, 350, .null), (.invokevirtual 311, 236, 0, 831, .int 6), (.iconst (0), 0, 0, 0, .int (0)), (.istore_n 2, 0, 0, 0, .null), (.nop, 9, 0, 0, .null)]
def xb_Ct_weigh_9 : List xv_Op := [(.iload_n 2, 0, 0, 0, .null), (.bipush (20), 0, 0, 0, .int (20)), (.if_icmp .ge (58), 70, 0, 0, .null), (.aload_n 0, 0, 0, 0, .null), (.getfield 50, 6, 1, 351, .null), (.iload_n 2, 0, 0, 0, .null), (.invokevirtual 200, 161, 1, 806, .int 7), (.astore_n 3, 0, 0, 0, .null), (.aload_n 3, 0, 0, 0, .null), (.ifnull (39), 64, 0, 0, .null), (.iload_n 1, 0, 0, 0, .null), (.iload_n 2, 0, 0, 0, .null), (.ishr, 0, 0, 0, .null), (.iconst (1), 0, 0, 0, .int (1)), (.iand, 0, 0, 0, .null), (.iconst (1), 0, 0, 0, .int (1)), (.if_icmp .ne (30), 64, 0, 0, .null), (.aload_n 0, 0, 0, 0, .null), (.getfield 43, 5, 1, 350, .null), (.aload_n 3, 0, 0, 0, .null), (.aload_n 0, 0, 0, 0, .null), (.getfield 19, 1, 1, 346, .null), (.aload_n 3, 0, 0, 0, .null), (.invokevirtual 314, 149, 0, 835, .int 9), (.invokevirtual 217, 225, 1, 839, .int 3), (.aload_n 0, 0, 0, 0, .null), (.getfield 26, 2, 1, 347, .null), (.aload_n 0, 0, 0, 0, .null), (.getfield 36, 4, 1, 349, .null), (.invokevirtual 317, 237, 4, 843, .int 6), (.nop, 64, 0, 0, .null)]
def xb_Ct_weigh_64 : List xv_Op := [(.iinc 2 (1), 0, 0, 0, .int (1)), (.goto (-58), 9, 0, 0, .null)]
def xb_Ct_weigh_70 : List xv_Op := [(.return_, 0, 0, 0, .null)]
def xl_Ct_weigh : xv_B := [(0, xb_Ct_weigh_0), (9, xb_Ct_weigh_9), (64, xb_Ct_weigh_64), (70, xb_Ct_weigh_70)]
def xm_Ct_weigh : xv_M := (⟨"OnionCourt", "weigh", "(I)V"⟩, prog_1_method_35_code, 4, none, (1, 1, 1), [], xl_Ct_weigh)
def xb_Ct_mostOpen_0 : List xv_Op := [(.bipush (-2), 0, 0, 0, .int (-2)), (.istore_n 1, 0, 0, 0, .null), (.lconst 0, 0, 0, 0, .long 0), (.lstore_n 2, 0, 0, 0, .null), (.iconst (0), 0, 0, 0, .int (0)), (.istore 4, 0, 0, 0, .null), (.nop, 8, 0, 0, .null)]
def xb_Ct_mostOpen_8 : List xv_Op := [(.iload 4, 0, 0, 0, .null), (.bipush (8), 0, 0, 0, .int (8)), (.if_icmp .ge (73), 85, 0, 0, .null), (.ldc2_w 321, 0, 0, 910, .long (2)), (.aload_n 0, 0, 0, 0, .null), (.getfield 43, 5, 1, 350, .null), (.aload_n 0, 0, 0, 0, .null), (.getfield 19, 1, 1, 346, .null), (.iload 4, 0, 0, 0, .null), (.invokevirtual 217, 225, 1, 839, .int 3), (.invokevirtual 323, 238, 1, 911, .int 6), (.lmul, 0, 0, 0, .null), (.aload_n 0, 0, 0, 0, .null), (.getfield 43, 5, 1, 350, .null), (.invokevirtual 228, 239, 0, 891, .int 6), (.lsub, 0, 0, 0, .null), (.invokestatic 327, 1, 0, 912, .null), (.lstore 5, 0, 0, 0, .null), (.aload_n 0, 0, 0, 0, .null), (.getfield 19, 1, 1, 346, .null), (.iload 4, 0, 0, 0, .null), (.invokevirtual 167, 223, 1, 698, .int 3), (.ifCond .eq (22), 79, 0, 0, .null), (.iload_n 1, 0, 0, 0, .null), (.bipush (-2), 0, 0, 0, .int (-2)), (.if_icmp .eq (10), 73, 0, 0, .null), (.lload 5, 0, 0, 0, .null), (.lload_n 2, 0, 0, 0, .null), (.lcmp, 0, 0, 0, .null), (.ifCond .ge (9), 79, 0, 0, .null), (.nop, 73, 0, 0, .null)]
def xb_Ct_mostOpen_73 : List xv_Op := [(.lload 5, 0, 0, 0, .null), (.lstore_n 2, 0, 0, 0, .null), (.iload 4, 0, 0, 0, .null), (.istore_n 1, 0, 0, 0, .null), (.nop, 79, 0, 0, .null)]
def xb_Ct_mostOpen_79 : List xv_Op := [(.iinc 4 (1), 0, 0, 0, .int (1)), (.goto (-74), 8, 0, 0, .null)]
def xb_Ct_mostOpen_85 : List xv_Op := [(.iload_n 1, 0, 0, 0, .null), (.ireturn, 0, 0, 0, .null)]
def xl_Ct_mostOpen : xv_B := [(0, xb_Ct_mostOpen_0), (8, xb_Ct_mostOpen_8), (73, xb_Ct_mostOpen_73), (79, xb_Ct_mostOpen_79), (85, xb_Ct_mostOpen_85)]
def xm_Ct_mostOpen : xv_M := (⟨"OnionCourt", "mostOpen", "()I"⟩, prog_1_method_36_code, 7, (some .int), (1, 1, 0), [2, 5], xl_Ct_mostOpen)
def xb_Ct_mostTrue_0 : List xv_Op := [(.iconst (0), 0, 0, 0, .int (0)), (.istore_n 3, 0, 0, 0, .null), (.nop, 2, 0, 0, .null)]
def xb_Ct_mostTrue_2 : List xv_Op := [(.iload_n 3, 0, 0, 0, .null), (.iload_n 1, 0, 0, 0, .null), (.if_icmp .ge (64), 68, 0, 0, .null), (.iload_n 3, 0, 0, 0, .null), (.aload_n 0, 0, 0, 0, .null), (.getfield 85, 13, 1, 358, .null), (.arraylength, 0, 0, 0, .null), (.if_icmp .ge (55), 68, 0, 0, .null), (.aload_n 0, 0, 0, 0, .null), (.getfield 85, 13, 1, 358, .null), (.iload_n 3, 0, 0, 0, .null), (.iconst (0), 0, 0, 0, .int (0)), (.iastore, 0, 0, 0, .null), (.iconst (0), 0, 0, 0, .int (0)), (.istore 4, 0, 0, 0, .null), (.nop, 26, 0, 0, .null)]
def xb_Ct_mostTrue_26 : List xv_Op := [(.iload 4, 0, 0, 0, .null), (.iload_n 1, 0, 0, 0, .null), (.if_icmp .ge (33), 62, 0, 0, .null), (.aload_n 0, 0, 0, 0, .null), (.iload_n 3, 0, 0, 0, .null), (.iload 4, 0, 0, 0, .null), (.iload_n 2, 0, 0, 0, .null), (.invokevirtual 333, 37, 3, 971, .int 1), (.ifCond .eq (16), 56, 0, 0, .null), (.aload_n 0, 0, 0, 0, .null), (.getfield 85, 13, 1, 358, .null), (.iload_n 3, 0, 0, 0, .null), (.dup2, 0, 0, 0, .null), (.iaload, 0, 0, 0, .null), (.iconst (1), 0, 0, 0, .int (1)), (.iload 4, 0, 0, 0, .null), (.ishl, 0, 0, 0, .null), (.ior, 0, 0, 0, .null), (.iastore, 0, 0, 0, .null), (.nop, 56, 0, 0, .null)]
def xb_Ct_mostTrue_56 : List xv_Op := [(.iinc 4 (1), 0, 0, 0, .int (1)), (.goto (-33), 26, 0, 0, .null)]
def xb_Ct_mostTrue_62 : List xv_Op := [(.iinc 3 (1), 0, 0, 0, .int (1)), (.goto (-63), 2, 0, 0, .null)]
def xb_Ct_mostTrue_68 : List xv_Op := [(.iconst (0), 0, 0, 0, .int (0)), (.istore_n 3, 0, 0, 0, .null), (.iconst (1), 0, 0, 0, .int (1)), (.istore 4, 0, 0, 0, .null), (.nop, 73, 0, 0, .null)]
def xb_Ct_mostTrue_73 : List xv_Op := [(.iload 4, 0, 0, 0, .null), (.iconst (1), 0, 0, 0, .int (1)), (.iload_n 1, 0, 0, 0, .null), (.ishl, 0, 0, 0, .null), (.if_icmp .ge (34), 112, 0, 0, .null), (.iload 4, 0, 0, 0, .null), (.invokestatic 138, 274, 1, 573, .int 0), (.iload_n 3, 0, 0, 0, .null), (.invokestatic 138, 274, 1, 573, .int 0), (.if_icmp .le (16), 106, 0, 0, .null), (.aload_n 0, 0, 0, 0, .null), (.iload 4, 0, 0, 0, .null), (.iload_n 1, 0, 0, 0, .null), (.invokevirtual 336, 38, 2, 982, .int 1), (.ifCond .eq (6), 106, 0, 0, .null), (.iload 4, 0, 0, 0, .null), (.istore_n 3, 0, 0, 0, .null), (.nop, 106, 0, 0, .null)]
def xb_Ct_mostTrue_106 : List xv_Op := [(.iinc 4 (1), 0, 0, 0, .int (1)), (.goto (-36), 73, 0, 0, .null)]
def xb_Ct_mostTrue_112 : List xv_Op := [(.iload_n 3, 0, 0, 0, .null), (.ireturn, 0, 0, 0, .null)]
def xl_Ct_mostTrue : xv_B := [(0, xb_Ct_mostTrue_0), (2, xb_Ct_mostTrue_2), (26, xb_Ct_mostTrue_26), (56, xb_Ct_mostTrue_56), (62, xb_Ct_mostTrue_62), (68, xb_Ct_mostTrue_68), (73, xb_Ct_mostTrue_73), (106, xb_Ct_mostTrue_106), (112, xb_Ct_mostTrue_112)]
def xm_Ct_mostTrue : xv_M := (⟨"OnionCourt", "mostTrue", "(II)I"⟩, prog_1_method_37_code, 5, (some .int), (1, 1, 2), [], xl_Ct_mostTrue)
def xb_Ct_canBoth_0 : List xv_Op := [(.aload_n 0, 0, 0, 0, .null), (.getfield 10, 0, 1, 345, .null), (.iconst (2), 0, 0, 0, .int (2)), (.iload_n 1, 0, 0, 0, .null), (.imul, 0, 0, 0, .null), (.invokevirtual 295, 249, 1, 975, .int 2), (.aload_n 0, 0, 0, 0, .null), (.getfield 10, 0, 1, 345, .null), (.iconst (2), 0, 0, 0, .int (2)), (.iload_n 2, 0, 0, 0, .null), (.imul, 0, 0, 0, .null), (.invokevirtual 295, 249, 1, 975, .int 2), (.isub, 0, 0, 0, .null), (.invokestatic 340, 0, 0, 979, .null), (.istore 4, 0, 0, 0, .null), (.aload_n 0, 0, 0, 0, .null), (.getfield 10, 0, 1, 345, .null), (.iconst (2), 0, 0, 0, .int (2)), (.iload_n 1, 0, 0, 0, .null), (.imul, 0, 0, 0, .null), (.iconst (1), 0, 0, 0, .int (1)), (.iadd, 0, 0, 0, .null), (.invokevirtual 295, 249, 1, 975, .int 2), (.aload_n 0, 0, 0, 0, .null), (.getfield 10, 0, 1, 345, .null), (.iconst (2), 0, 0, 0, .int (2)), (.iload_n 2, 0, 0, 0, .null), (.imul, 0, 0, 0, .null), (.iconst (1), 0, 0, 0, .int (1)), (.iadd, 0, 0, 0, .null), (.invokevirtual 295, 249, 1, 975, .int 2), (.isub, 0, 0, 0, .null), (.invokestatic 340, 0, 0, 979, .null), (.istore 5, 0, 0, 0, .null), (.iload 5, 0, 0, 0, .null), (.iload_n 3, 0, 0, 0, .null), (.iload 4, 0, 0, 0, .null), (.imul, 0, 0, 0, .null), (.if_icmp .gt (7), 69, 0, 0, .null), (.iconst (1), 0, 0, 0, .int (1)), (.goto (4), 70, 0, 0, .null)]
def xb_Ct_canBoth_69 : List xv_Op := [(.iconst (0), 0, 0, 0, .int (0)), (.nop, 70, 0, 0, .null)]
def xb_Ct_canBoth_70 : List xv_Op := [(.ireturn, 0, 0, 0, .null)]
def xl_Ct_canBoth : xv_B := [(0, xb_Ct_canBoth_0), (69, xb_Ct_canBoth_69), (70, xb_Ct_canBoth_70)]
def xm_Ct_canBoth : xv_M := (⟨"OnionCourt", "canBoth", "(III)Z"⟩, prog_1_method_38_code, 6, (some .boolean), (1, 1, 3), [], xl_Ct_canBoth)
def xb_Ct_isTogether_0 : List xv_Op := [(.iconst (0), 0, 0, 0, .int (0)), (.istore_n 3, 0, 0, 0, .null), (.nop, 2, 0, 0, .null)]
def xb_Ct_isTogether_2 : List xv_Op := [(.iload_n 3, 0, 0, 0, .null), (.iload_n 2, 0, 0, 0, .null), (.if_icmp .ge (42), 46, 0, 0, .null), (.iload_n 3, 0, 0, 0, .null), (.aload_n 0, 0, 0, 0, .null), (.getfield 85, 13, 1, 358, .null), (.arraylength, 0, 0, 0, .null), (.if_icmp .ge (33), 46, 0, 0, .null), (.iload_n 1, 0, 0, 0, .null), (.iload_n 3, 0, 0, 0, .null), (.ishr, 0, 0, 0, .null), (.iconst (1), 0, 0, 0, .int (1)), (.iand, 0, 0, 0, .null), (.iconst (1), 0, 0, 0, .int (1)), (.if_icmp .ne (18), 40, 0, 0, .null), (.iload_n 1, 0, 0, 0, .null), (.aload_n 0, 0, 0, 0, .null), (.getfield 85, 13, 1, 358, .null), (.iload_n 3, 0, 0, 0, .null), (.iaload, 0, 0, 0, .null), (.iconst (-1), 0, 0, 0, .int (-1)), (.ixor, 0, 0, 0, .null), (.iand, 0, 0, 0, .null), (.ifCond .eq (5), 40, 0, 0, .null), (.iconst (0), 0, 0, 0, .int (0)), (.ireturn, 0, 0, 0, .null)]
def xb_Ct_isTogether_40 : List xv_Op := [(.iinc 3 (1), 0, 0, 0, .int (1)), (.goto (-41), 2, 0, 0, .null)]
def xb_Ct_isTogether_46 : List xv_Op := [(.iconst (1), 0, 0, 0, .int (1)), (.ireturn, 0, 0, 0, .null)]
def xl_Ct_isTogether : xv_B := [(0, xb_Ct_isTogether_0), (2, xb_Ct_isTogether_2), (40, xb_Ct_isTogether_40), (46, xb_Ct_isTogether_46)]
def xm_Ct_isTogether : xv_M := (⟨"OnionCourt", "isTogether", "(II)Z"⟩, prog_1_method_39_code, 4, (some .boolean), (1, 1, 2), [], xl_Ct_isTogether)
def xb_Answer_init_0 : List xv_Op := [(.aload_n 0, 0, 0, 0, .null), (.invokespecial 3, 0, 0, 245, .null), (.return_, 0, 0, 0, .null)]
def xl_Answer_init : xv_B := [(0, xb_Answer_init_0)]
def xm_Answer_init : xv_M := (⟨"OnionCourt$Answer", "<init>", "()V"⟩, prog_2_method_1_code, 1, none, (9, 2, 0), [], xl_Answer_init)
def xb_Answer_tell_0 : List xv_Op := [(.aload_n 0, 0, 0, 0, .null), (.iload_n 1, 0, 0, 0, .null), (.putfield 9, 0, 9, 246, .int 0), (.aload_n 0, 0, 0, 0, .null), (.iload_n 2, 0, 0, 0, .null), (.putfield 15, 1, 9, 247, .int 0), (.aload_n 0, 0, 0, 0, .null), (.iload_n 3, 0, 0, 0, .null), (.putfield 18, 2, 9, 248, .int 2), (.aload_n 0, 0, 0, 0, .null), (.iload 4, 0, 0, 0, .null), (.putfield 22, 3, 9, 249, .int 2), (.return_, 0, 0, 0, .null)]
def xl_Answer_tell : xv_B := [(0, xb_Answer_tell_0)]
def xm_Answer_tell : xv_M := (⟨"OnionCourt$Answer", "tell", "(IIZZ)V"⟩, prog_2_method_2_code, 5, none, (9, 1, 4), [], xl_Answer_tell)
def xb_Answer_peel_0 : List xv_Op := [(.aload_n 0, 0, 0, 0, .null), (.aload_n 1, 0, 0, 0, .null), (.invokevirtual 25, 265, 0, 669, .int 8), (.putfield 31, 5, 9, 251, .int 0), (.aload_n 0, 0, 0, 0, .null), (.aload_n 1, 0, 0, 0, .null), (.invokevirtual 33, 268, 0, 670, .int 8), (.putfield 36, 4, 9, 250, .int 0), (.aload_n 0, 0, 0, 0, .null), (.aload_n 1, 0, 0, 0, .null), (.invokevirtual 39, 264, 0, 681, .int 8), (.putfield 42, 7, 9, 253, .int 0), (.aload_n 0, 0, 0, 0, .null), (.iload_n 2, 0, 0, 0, .null), (.putfield 44, 6, 9, 252, .int 0), (.return_, 0, 0, 0, .null)]
def xl_Answer_peel : xv_B := [(0, xb_Answer_peel_0)]
def xm_Answer_peel : xv_M := (⟨"OnionCourt$Answer", "peel", "(LOnionCourt$Witness;I)V"⟩, prog_2_method_3_code, 3, none, (9, 1, 2), [], xl_Answer_peel)
def xb_Answer_copy_0 : List xv_Op := [(.aload_n 0, 0, 0, 0, .null), (.aload_n 1, 0, 0, 0, .null), (.getfield 9, 0, 9, 246, .null), (.aload_n 1, 0, 0, 0, .null), (.getfield 15, 1, 9, 247, .null), (.aload_n 1, 0, 0, 0, .null), (.getfield 18, 2, 9, 248, .null), (.aload_n 1, 0, 0, 0, .null), (.getfield 22, 3, 9, 249, .null), (.invokevirtual 47, 145, 4, 628, .int 9), (.aload_n 0, 0, 0, 0, .null), (.aload_n 1, 0, 0, 0, .null), (.getfield 36, 4, 9, 250, .null), (.putfield 36, 4, 9, 250, .int 0), (.aload_n 0, 0, 0, 0, .null), (.aload_n 1, 0, 0, 0, .null), (.getfield 31, 5, 9, 251, .null), (.putfield 31, 5, 9, 251, .int 0), (.aload_n 0, 0, 0, 0, .null), (.aload_n 1, 0, 0, 0, .null), (.getfield 44, 6, 9, 252, .null), (.putfield 44, 6, 9, 252, .int 0), (.aload_n 0, 0, 0, 0, .null), (.aload_n 1, 0, 0, 0, .null), (.getfield 42, 7, 9, 253, .null), (.putfield 42, 7, 9, 253, .int 0), (.return_, 0, 0, 0, .null)]
def xl_Answer_copy : xv_B := [(0, xb_Answer_copy_0)]
def xm_Answer_copy : xv_M := (⟨"OnionCourt$Answer", "copy", "(LOnionCourt$Answer;)V"⟩, prog_2_method_4_code, 2, none, (9, 1, 1), [], xl_Answer_copy)
def xb_Answer_who_0 : List xv_Op := [(.aload_n 0, 0, 0, 0, .null), (.getfield 9, 0, 9, 246, .null), (.ireturn, 0, 0, 0, .null)]
def xl_Answer_who : xv_B := [(0, xb_Answer_who_0)]
def xm_Answer_who : xv_M := (⟨"OnionCourt$Answer", "who", "()I"⟩, prog_2_method_5_code, 1, (some .int), (9, 1, 0), [], xl_Answer_who)
def xb_Answer_asked_0 : List xv_Op := [(.aload_n 0, 0, 0, 0, .null), (.getfield 15, 1, 9, 247, .null), (.ireturn, 0, 0, 0, .null)]
def xl_Answer_asked : xv_B := [(0, xb_Answer_asked_0)]
def xm_Answer_asked : xv_M := (⟨"OnionCourt$Answer", "asked", "()I"⟩, prog_2_method_6_code, 1, (some .int), (9, 1, 0), [], xl_Answer_asked)
def xb_Answer_hasCried_0 : List xv_Op := [(.aload_n 0, 0, 0, 0, .null), (.getfield 22, 3, 9, 249, .null), (.ireturn, 0, 0, 0, .null)]
def xl_Answer_hasCried : xv_B := [(0, xb_Answer_hasCried_0)]
def xm_Answer_hasCried : xv_M := (⟨"OnionCourt$Answer", "hasCried", "()Z"⟩, prog_2_method_7_code, 1, (some .boolean), (9, 1, 0), [], xl_Answer_hasCried)
def xb_Answer_strength_0 : List xv_Op := [(.aload_n 0, 0, 0, 0, .null), (.getfield 36, 4, 9, 250, .null), (.ireturn, 0, 0, 0, .null)]
def xl_Answer_strength : xv_B := [(0, xb_Answer_strength_0)]
def xm_Answer_strength : xv_M := (⟨"OnionCourt$Answer", "strength", "()I"⟩, prog_2_method_8_code, 1, (some .int), (9, 1, 0), [], xl_Answer_strength)
def xb_Answer_isLike_0 : List xv_Op := [(.aload_n 0, 0, 0, 0, .null), (.getfield 18, 2, 9, 248, .null), (.aload_n 1, 0, 0, 0, .null), (.getfield 18, 2, 9, 248, .null), (.if_icmp .ne (7), 15, 0, 0, .null), (.iconst (1), 0, 0, 0, .int (1)), (.goto (4), 16, 0, 0, .null)]
def xb_Answer_isLike_15 : List xv_Op := [(.iconst (0), 0, 0, 0, .int (0)), (.nop, 16, 0, 0, .null)]
def xb_Answer_isLike_16 : List xv_Op := [(.ireturn, 0, 0, 0, .null)]
def xl_Answer_isLike : xv_B := [(0, xb_Answer_isLike_0), (15, xb_Answer_isLike_15), (16, xb_Answer_isLike_16)]
def xm_Answer_isLike : xv_M := (⟨"OnionCourt$Answer", "isLike", "(LOnionCourt$Answer;)Z"⟩, prog_2_method_9_code, 2, (some .boolean), (9, 1, 1), [], xl_Answer_isLike)
def xb_Answer_fits_0 : List xv_Op := [(.aload_n 0, 0, 0, 0, .null), (.getfield 18, 2, 9, 248, .null), (.ifCond .eq (14), 18, 0, 0, .null), (.aload_n 1, 0, 0, 0, .null), (.aload_n 0, 0, 0, 0, .null), (.getfield 15, 1, 9, 247, .null), (.invokevirtual 51, 225, 1, 886, .int 3), (.goto (13), 28, 0, 0, .null)]
def xb_Answer_fits_18 : List xv_Op := [(.aload_n 1, 0, 0, 0, .null), (.aload_n 0, 0, 0, 0, .null), (.getfield 15, 1, 9, 247, .null), (.invokevirtual 51, 225, 1, 886, .int 3), (.iconst (-1), 0, 0, 0, .int (-1)), (.ixor, 0, 0, 0, .null), (.nop, 28, 0, 0, .null)]
def xb_Answer_fits_28 : List xv_Op := [(.ireturn, 0, 0, 0, .null)]
def xl_Answer_fits : xv_B := [(0, xb_Answer_fits_0), (18, xb_Answer_fits_18), (28, xb_Answer_fits_28)]
def xm_Answer_fits : xv_M := (⟨"OnionCourt$Answer", "fits", "(LOnionCourt$Questions;)I"⟩, prog_2_method_10_code, 2, (some .int), (9, 1, 1), [], xl_Answer_fits)
def xb_Answer_is_0 : List xv_Op := [(.iload_n 1, 0, 0, 0, .null), (.tableswitch (94) (0) (6) #[43, 48, 53, 66, 79, 84, 89], 1, 0, 0, .null)]
def xb_Answer_is_44 : List xv_Op := [(.aload_n 0, 0, 0, 0, .null), (.getfield 9, 0, 9, 246, .null), (.ireturn, 0, 0, 0, .null)]
def xb_Answer_is_49 : List xv_Op := [(.aload_n 0, 0, 0, 0, .null), (.getfield 15, 1, 9, 247, .null), (.ireturn, 0, 0, 0, .null)]
def xb_Answer_is_54 : List xv_Op := [(.aload_n 0, 0, 0, 0, .null), (.getfield 18, 2, 9, 248, .null), (.ifCond .eq (7), 65, 0, 0, .null), (.iconst (1), 0, 0, 0, .int (1)), (.goto (4), 66, 0, 0, .null)]
def xb_Answer_is_65 : List xv_Op := [(.iconst (0), 0, 0, 0, .int (0)), (.nop, 66, 0, 0, .null)]
def xb_Answer_is_66 : List xv_Op := [(.ireturn, 0, 0, 0, .null)]
def xb_Answer_is_67 : List xv_Op := [(.aload_n 0, 0, 0, 0, .null), (.getfield 22, 3, 9, 249, .null), (.ifCond .eq (7), 78, 0, 0, .null), (.iconst (1), 0, 0, 0, .int (1)), (.goto (4), 79, 0, 0, .null)]
def xb_Answer_is_78 : List xv_Op := [(.iconst (0), 0, 0, 0, .int (0)), (.nop, 79, 0, 0, .null)]
def xb_Answer_is_79 : List xv_Op := [(.ireturn, 0, 0, 0, .null)]
def xb_Answer_is_80 : List xv_Op := [(.aload_n 0, 0, 0, 0, .null), (.getfield 36, 4, 9, 250, .null), (.ireturn, 0, 0, 0, .null)]
def xb_Answer_is_85 : List xv_Op := [(.aload_n 0, 0, 0, 0, .null), (.getfield 31, 5, 9, 251, .null), (.ireturn, 0, 0, 0, .null)]
def xb_Answer_is_90 : List xv_Op := [(.aload_n 0, 0, 0, 0, .null), (.getfield 44, 6, 9, 252, .null), (.ireturn, 0, 0, 0, .null)]
def xb_Answer_is_95 : List xv_Op := [(.iconst (-1), 0, 0, 0, .int (-1)), (.ireturn, 0, 0, 0, .null)]
def xl_Answer_is : xv_B := [(0, xb_Answer_is_0), (44, xb_Answer_is_44), (49, xb_Answer_is_49), (54, xb_Answer_is_54), (65, xb_Answer_is_65), (66, xb_Answer_is_66), (67, xb_Answer_is_67), (78, xb_Answer_is_78), (79, xb_Answer_is_79), (80, xb_Answer_is_80), (85, xb_Answer_is_85), (90, xb_Answer_is_90), (95, xb_Answer_is_95)]
def xm_Answer_is : xv_M := (⟨"OnionCourt$Answer", "is", "(I)I"⟩, prog_2_method_11_code, 2, (some .int), (9, 1, 1), [], xl_Answer_is)
def xb_Answer_weight_0 : List xv_Op := [(.aload_n 0, 0, 0, 0, .null), (.getfield 18, 2, 9, 248, .null), (.iload_n 1, 0, 0, 0, .null), (.if_icmp .eq (7), 12, 0, 0, .null), (.iconst (1), 0, 0, 0, .int (1)), (.goto (4), 13, 0, 0, .null)]
def xb_Answer_weight_12 : List xv_Op := [(.iconst (0), 0, 0, 0, .int (0)), (.nop, 13, 0, 0, .null)]
def xb_Answer_weight_13 : List xv_Op := [(.istore 4, 0, 0, 0, .null), (.aload_n 3, 0, 0, 0, .null), (.aload_n 0, 0, 0, 0, .null), (.getfield 9, 0, 9, 246, .null), (.aload_n 0, 0, 0, 0, .null), (.getfield 42, 7, 9, 253, .null), (.aload_n 0, 0, 0, 0, .null), (.getfield 44, 6, 9, 252, .null), (.invokevirtual 57, 188, 3, 851, .int 5), (.aload_n 3, 0, 0, 0, .null), (.aload_n 0, 0, 0, 0, .null), (.getfield 36, 4, 9, 250, .null), (.aload_n 0, 0, 0, 0, .null), (.getfield 31, 5, 9, 251, .null), (.invokevirtual 63, 189, 2, 852, .int 5), (.aload_n 3, 0, 0, 0, .null), (.aload_n 0, 0, 0, 0, .null), (.getfield 15, 1, 9, 247, .null), (.iload_n 1, 0, 0, 0, .null), (.invokevirtual 67, 190, 2, 853, .int 5), (.aload_n 2, 0, 0, 0, .null), (.bipush (108), 0, 0, 0, .int (108)), (.aload_n 3, 0, 0, 0, .null), (.invokevirtual 71, 210, 2, 857, .int 4), (.istore 5, 0, 0, 0, .null), (.aload_n 3, 0, 0, 0, .null), (.iload 4, 0, 0, 0, .null), (.invokevirtual 77, 191, 1, 858, .int 5), (.aload_n 2, 0, 0, 0, .null), (.bipush (99), 0, 0, 0, .int (99)), (.aload_n 3, 0, 0, 0, .null), (.invokevirtual 71, 210, 2, 857, .int 4), (.istore 6, 0, 0, 0, .null), (.iload 4, 0, 0, 0, .null), (.ifCond .eq (8), 86, 0, 0, .null), (.iload 5, 0, 0, 0, .null), (.goto (8), 91, 0, 0, .null)]
def xb_Answer_weight_86 : List xv_Op := [(.bipush (10), 0, 0, 0, .int (10)), (.iload 5, 0, 0, 0, .null), (.isub, 0, 0, 0, .null), (.nop, 91, 0, 0, .null)]
def xb_Answer_weight_91 : List xv_Op := [(.aload_n 0, 0, 0, 0, .null), (.getfield 22, 3, 9, 249, .null), (.ifCond .eq (8), 103, 0, 0, .null), (.iload 6, 0, 0, 0, .null), (.goto (8), 108, 0, 0, .null)]
def xb_Answer_weight_103 : List xv_Op := [(.bipush (10), 0, 0, 0, .int (10)), (.iload 6, 0, 0, 0, .null), (.isub, 0, 0, 0, .null), (.nop, 108, 0, 0, .null)]
def xb_Answer_weight_108 : List xv_Op := [(.imul, 0, 0, 0, .null), (.ireturn, 0, 0, 0, .null)]
def xl_Answer_weight : xv_B := [(0, xb_Answer_weight_0), (12, xb_Answer_weight_12), (13, xb_Answer_weight_13), (86, xb_Answer_weight_86), (91, xb_Answer_weight_91), (103, xb_Answer_weight_103), (108, xb_Answer_weight_108)]
def xm_Answer_weight : xv_M := (⟨"OnionCourt$Answer", "weight", "(ZLOnionCourt$Law;LOnionCourt$Case;)I"⟩, prog_2_method_12_code, 7, (some .int), (9, 1, 3), [], xl_Answer_weight)
def xb_Archive_init_0 : List xv_Op := [(.aload_n 0, 0, 0, 0, .null), (.invokespecial 3, 0, 0, 218, .null), (.aload_n 0, 0, 0, 0, .null), (.bipush (10), 0, 0, 0, .int (10)), (.anewarray 9, 3, 220, 219, .null), (.putfield 11, 0, 7, 271, .int 3), (.aload_n 0, 0, 0, 0, .null), (.bipush (20), 0, 0, 0, .int (20)), (.anewarray 17, 4, 222, 221, .null), (.putfield 19, 1, 7, 272, .int 3), (.aload_n 0, 0, 0, 0, .null), (.iconst (1), 0, 0, 0, .int (1)), (.putfield 23, 4, 7, 275, .int 0), (.iconst (0), 0, 0, 0, .int (0)), (.istore_n 1, 0, 0, 0, .null), (.nop, 29, 0, 0, .null)]
def xb_Archive_init_29 : List xv_Op := [(.iload_n 1, 0, 0, 0, .null), (.bipush (10), 0, 0, 0, .int (10)), (.if_icmp .ge (22), 54, 0, 0, .null), (.aload_n 0, 0, 0, 0, .null), (.getfield 11, 0, 7, 271, .null), (.iload_n 1, 0, 0, 0, .null), (.new 9, 8, 223, 219, .int 82), (.dup, 0, 0, 0, .null), (.invokespecial 27, 260, 0, 224, .int 1), (.aastore, 0, 0, 0, .null), (.iinc 1 (1), 0, 0, 0, .int (1)), (.goto (-22), 29, 0, 0, .null)]
def xb_Archive_init_54 : List xv_Op := [(.iconst (0), 0, 0, 0, .int (0)), (.istore_n 1, 0, 0, 0, .null), (.nop, 56, 0, 0, .null)]
def xb_Archive_init_56 : List xv_Op := [(.iload_n 1, 0, 0, 0, .null), (.bipush (20), 0, 0, 0, .int (20)), (.if_icmp .ge (22), 81, 0, 0, .null), (.aload_n 0, 0, 0, 0, .null), (.getfield 19, 1, 7, 272, .null), (.iload_n 1, 0, 0, 0, .null), (.new 17, 9, 241, 221, .int 83), (.dup, 0, 0, 0, .null), (.invokespecial 28, 144, 0, 242, .int 1), (.aastore, 0, 0, 0, .null), (.iinc 1 (1), 0, 0, 0, .int (1)), (.goto (-22), 56, 0, 0, .null)]
def xb_Archive_init_81 : List xv_Op := [(.return_, 0, 0, 0, .null)]
def xl_Archive_init : xv_B := [(0, xb_Archive_init_0), (29, xb_Archive_init_29), (54, xb_Archive_init_54), (56, xb_Archive_init_56), (81, xb_Archive_init_81)]
def xm_Archive_init : xv_M := (⟨"OnionCourt$Archive", "<init>", "()V"⟩, prog_3_method_1_code, 2, none, (7, 2, 0), [], xl_Archive_init)
def xb_Archive_copy_0 : List xv_Op := [(.iconst (0), 0, 0, 0, .int (0)), (.istore_n 2, 0, 0, 0, .null), (.nop, 2, 0, 0, .null)]
def xb_Archive_copy_2 : List xv_Op := [(.iload_n 2, 0, 0, 0, .null), (.bipush (10), 0, 0, 0, .int (10)), (.if_icmp .ge (24), 29, 0, 0, .null), (.aload_n 0, 0, 0, 0, .null), (.getfield 11, 0, 7, 271, .null), (.iload_n 2, 0, 0, 0, .null), (.aaload, 0, 0, 0, .null), (.aload_n 1, 0, 0, 0, .null), (.getfield 11, 0, 7, 271, .null), (.iload_n 2, 0, 0, 0, .null), (.aaload, 0, 0, 0, .null), (.invokevirtual 29, 262, 1, 623, .int 8), (.iinc 2 (1), 0, 0, 0, .int (1)), (.goto (-24), 2, 0, 0, .null)]
def xb_Archive_copy_29 : List xv_Op := [(.iconst (0), 0, 0, 0, .int (0)), (.istore_n 2, 0, 0, 0, .null), (.nop, 31, 0, 0, .null)]
def xb_Archive_copy_31 : List xv_Op := [(.iload_n 2, 0, 0, 0, .null), (.bipush (20), 0, 0, 0, .int (20)), (.if_icmp .ge (24), 58, 0, 0, .null), (.aload_n 0, 0, 0, 0, .null), (.getfield 19, 1, 7, 272, .null), (.iload_n 2, 0, 0, 0, .null), (.aaload, 0, 0, 0, .null), (.aload_n 1, 0, 0, 0, .null), (.getfield 19, 1, 7, 272, .null), (.iload_n 2, 0, 0, 0, .null), (.aaload, 0, 0, 0, .null), (.invokevirtual 33, 147, 1, 624, .int 9), (.iinc 2 (1), 0, 0, 0, .int (1)), (.goto (-24), 31, 0, 0, .null)]
def xb_Archive_copy_58 : List xv_Op := [(.aload_n 0, 0, 0, 0, .null), (.aload_n 1, 0, 0, 0, .null), (.getfield 36, 2, 7, 273, .null), (.putfield 36, 2, 7, 273, .int 0), (.aload_n 0, 0, 0, 0, .null), (.aload_n 1, 0, 0, 0, .null), (.getfield 39, 3, 7, 274, .null), (.putfield 39, 3, 7, 274, .int 0), (.aload_n 0, 0, 0, 0, .null), (.aload_n 1, 0, 0, 0, .null), (.getfield 23, 4, 7, 275, .null), (.putfield 23, 4, 7, 275, .int 0), (.return_, 0, 0, 0, .null)]
def xl_Archive_copy : xv_B := [(0, xb_Archive_copy_0), (2, xb_Archive_copy_2), (29, xb_Archive_copy_29), (31, xb_Archive_copy_31), (58, xb_Archive_copy_58)]
def xm_Archive_copy : xv_M := (⟨"OnionCourt$Archive", "copy", "(LOnionCourt$Archive;)V"⟩, prog_3_method_2_code, 3, none, (7, 1, 1), [], xl_Archive_copy)
def xb_Archive_call_0 : List xv_Op := [(.iload_n 1, 0, 0, 0, .null), (.ifCond .lt (19), 20, 0, 0, .null), (.iload_n 1, 0, 0, 0, .null), (.bipush (10), 0, 0, 0, .int (10)), (.if_icmp .ge (13), 20, 0, 0, .null), (.aload_n 0, 0, 0, 0, .null), (.getfield 11, 0, 7, 271, .null), (.iload_n 1, 0, 0, 0, .null), (.aaload, 0, 0, 0, .null), (.iload_n 2, 0, 0, 0, .null), (.invokevirtual 42, 261, 1, 404, .int 8), (.nop, 20, 0, 0, .null)]
def xb_Archive_call_20 : List xv_Op := [(.return_, 0, 0, 0, .null)]
def xl_Archive_call : xv_B := [(0, xb_Archive_call_0), (20, xb_Archive_call_20)]
def xm_Archive_call : xv_M := (⟨"OnionCourt$Archive", "call", "(II)V"⟩, prog_3_method_3_code, 3, none, (7, 1, 2), [], xl_Archive_call)
def xb_Archive_told_0 : List xv_Op := [(.iload_n 1, 0, 0, 0, .null), (.ifCond .lt (30), 31, 0, 0, .null), (.iload_n 1, 0, 0, 0, .null), (.bipush (10), 0, 0, 0, .int (10)), (.if_icmp .ge (24), 31, 0, 0, .null), (.aload_n 0, 0, 0, 0, .null), (.getfield 11, 0, 7, 271, .null), (.iload_n 1, 0, 0, 0, .null), (.aaload, 0, 0, 0, .null), (.invokevirtual 46, 263, 0, 587, .int 8), (.ifCond .eq (12), 31, 0, 0, .null), (.aload_n 0, 0, 0, 0, .null), (.getfield 11, 0, 7, 271, .null), (.iload_n 1, 0, 0, 0, .null), (.aaload, 0, 0, 0, .null), (.goto (4), 32, 0, 0, .null)]
def xb_Archive_told_31 : List xv_Op := [(.aconst_null, 0, 0, 0, .null), (.nop, 32, 0, 0, .null)]
def xb_Archive_told_32 : List xv_Op := [(.areturn, 0, 0, 0, .null)]
def xl_Archive_told : xv_B := [(0, xb_Archive_told_0), (31, xb_Archive_told_31), (32, xb_Archive_told_32)]
def xm_Archive_told : xv_M := (⟨"OnionCourt$Archive", "told", "(I)LOnionCourt$Witness;"⟩, prog_3_method_4_code, 2, (some (.object "OnionCourt$Witness")), (7, 1, 1), [], xl_Archive_told)
def xb_Archive_toldOnes_0 : List xv_Op := [(.iconst (0), 0, 0, 0, .int (0)), (.istore_n 1, 0, 0, 0, .null), (.iconst (0), 0, 0, 0, .int (0)), (.istore_n 2, 0, 0, 0, .null), (.nop, 4, 0, 0, .null)]
def xb_Archive_toldOnes_4 : List xv_Op := [(.iload_n 2, 0, 0, 0, .null), (.bipush (10), 0, 0, 0, .int (10)), (.if_icmp .ge (27), 34, 0, 0, .null), (.iload_n 1, 0, 0, 0, .null), (.aload_n 0, 0, 0, 0, .null), (.iload_n 2, 0, 0, 0, .null), (.invokevirtual 50, 159, 1, 645, .int 7), (.ifnonnull (7), 23, 0, 0, .null), (.iconst (0), 0, 0, 0, .int (0)), (.goto (6), 26, 0, 0, .null)]
def xb_Archive_toldOnes_23 : List xv_Op := [(.iconst (1), 0, 0, 0, .int (1)), (.iload_n 2, 0, 0, 0, .null), (.ishl, 0, 0, 0, .null), (.nop, 26, 0, 0, .null)]
def xb_Archive_toldOnes_26 : List xv_Op := [(.ior, 0, 0, 0, .null), (.istore_n 1, 0, 0, 0, .null), (.iinc 2 (1), 0, 0, 0, .int (1)), (.goto (-27), 4, 0, 0, .null)]
def xb_Archive_toldOnes_34 : List xv_Op := [(.iload_n 1, 0, 0, 0, .null), (.ireturn, 0, 0, 0, .null)]
def xl_Archive_toldOnes : xv_B := [(0, xb_Archive_toldOnes_0), (4, xb_Archive_toldOnes_4), (23, xb_Archive_toldOnes_23), (26, xb_Archive_toldOnes_26), (34, xb_Archive_toldOnes_34)]
def xm_Archive_toldOnes : xv_M := (⟨"OnionCourt$Archive", "toldOnes", "()I"⟩, prog_3_method_5_code, 3, (some .int), (7, 1, 0), [], xl_Archive_toldOnes)
def xb_Archive_answer_0 : List xv_Op := [(.iload_n 1, 0, 0, 0, .null), (.ifCond .lt (26), 27, 0, 0, .null), (.iload_n 1, 0, 0, 0, .null), (.aload_n 0, 0, 0, 0, .null), (.getfield 36, 2, 7, 273, .null), (.if_icmp .ge (18), 27, 0, 0, .null), (.iload_n 1, 0, 0, 0, .null), (.bipush (20), 0, 0, 0, .int (20)), (.if_icmp .ge (12), 27, 0, 0, .null), (.aload_n 0, 0, 0, 0, .null), (.getfield 19, 1, 7, 272, .null), (.iload_n 1, 0, 0, 0, .null), (.aaload, 0, 0, 0, .null), (.goto (4), 28, 0, 0, .null)]
def xb_Archive_answer_27 : List xv_Op := [(.aconst_null, 0, 0, 0, .null), (.nop, 28, 0, 0, .null)]
def xb_Archive_answer_28 : List xv_Op := [(.areturn, 0, 0, 0, .null)]
def xl_Archive_answer : xv_B := [(0, xb_Archive_answer_0), (27, xb_Archive_answer_27), (28, xb_Archive_answer_28)]
def xm_Archive_answer : xv_M := (⟨"OnionCourt$Archive", "answer", "(I)LOnionCourt$Answer;"⟩, prog_3_method_6_code, 2, (some (.object "OnionCourt$Answer")), (7, 1, 1), [], xl_Archive_answer)
def xb_Archive_has_0 : List xv_Op := [(.iload_n 1, 0, 0, 0, .null), (.ifCond .lt (17), 18, 0, 0, .null), (.iload_n 1, 0, 0, 0, .null), (.iconst (1), 0, 0, 0, .int (1)), (.aload_n 0, 0, 0, 0, .null), (.getfield 36, 2, 7, 273, .null), (.ishl, 0, 0, 0, .null), (.if_icmp .ge (7), 18, 0, 0, .null), (.iconst (1), 0, 0, 0, .int (1)), (.goto (4), 19, 0, 0, .null)]
def xb_Archive_has_18 : List xv_Op := [(.iconst (0), 0, 0, 0, .int (0)), (.nop, 19, 0, 0, .null)]
def xb_Archive_has_19 : List xv_Op := [(.ireturn, 0, 0, 0, .null)]
def xl_Archive_has : xv_B := [(0, xb_Archive_has_0), (18, xb_Archive_has_18), (19, xb_Archive_has_19)]
def xm_Archive_has : xv_M := (⟨"OnionCourt$Archive", "has", "(I)Z"⟩, prog_3_method_7_code, 2, (some .boolean), (7, 1, 1), [], xl_Archive_has)
def xb_Archive_said_0 : List xv_Op := [(.aload_n 0, 0, 0, 0, .null), (.getfield 36, 2, 7, 273, .null), (.ireturn, 0, 0, 0, .null)]
def xl_Archive_said : xv_B := [(0, xb_Archive_said_0)]
def xm_Archive_said : xv_M := (⟨"OnionCourt$Archive", "said", "()I"⟩, prog_3_method_8_code, 1, (some .int), (7, 1, 0), [], xl_Archive_said)
def xb_Archive_week_0 : List xv_Op := [(.aload_n 0, 0, 0, 0, .null), (.getfield 39, 3, 7, 274, .null), (.ireturn, 0, 0, 0, .null)]
def xl_Archive_week : xv_B := [(0, xb_Archive_week_0)]
def xm_Archive_week : xv_M := (⟨"OnionCourt$Archive", "week", "()I"⟩, prog_3_method_9_code, 1, (some .int), (7, 1, 0), [], xl_Archive_week)
def xb_Archive_drawn_0 : List xv_Op := [(.aload_n 0, 0, 0, 0, .null), (.getfield 23, 4, 7, 275, .null), (.ireturn, 0, 0, 0, .null)]
def xl_Archive_drawn : xv_B := [(0, xb_Archive_drawn_0)]
def xm_Archive_drawn : xv_M := (⟨"OnionCourt$Archive", "drawn", "()I"⟩, prog_3_method_10_code, 1, (some .int), (7, 1, 0), [], xl_Archive_drawn)
def xb_Archive_sprouted_0 : List xv_Op := [(.aload_n 0, 0, 0, 0, .null), (.getfield 54, 5, 7, 276, .null), (.ireturn, 0, 0, 0, .null)]
def xl_Archive_sprouted : xv_B := [(0, xb_Archive_sprouted_0)]
def xm_Archive_sprouted : xv_M := (⟨"OnionCourt$Archive", "sprouted", "()I"⟩, prog_3_method_11_code, 1, (some .int), (7, 1, 0), [], xl_Archive_sprouted)
def xb_Archive_gone_0 : List xv_Op := [(.aload_n 0, 0, 0, 0, .null), (.getfield 57, 6, 7, 277, .null), (.ireturn, 0, 0, 0, .null)]
def xl_Archive_gone : xv_B := [(0, xb_Archive_gone_0)]
def xm_Archive_gone : xv_M := (⟨"OnionCourt$Archive", "gone", "()I"⟩, prog_3_method_12_code, 1, (some .int), (7, 1, 0), [], xl_Archive_gone)
def xb_Archive_sow_0 : List xv_Op := [(.aload_n 0, 0, 0, 0, .null), (.iload_n 1, 0, 0, 0, .null), (.putfield 23, 4, 7, 275, .int 0), (.return_, 0, 0, 0, .null)]
def xl_Archive_sow : xv_B := [(0, xb_Archive_sow_0)]
def xm_Archive_sow : xv_M := (⟨"OnionCourt$Archive", "sow", "(I)V"⟩, prog_3_method_13_code, 2, none, (7, 1, 1), [], xl_Archive_sow)
def xb_Archive_say_0 : List xv_Op := [(.aload_n 0, 0, 0, 0, .null), (.iload_n 1, 0, 0, 0, .null), (.invokevirtual 50, 159, 1, 645, .int 7), (.astore 5, 0, 0, 0, .null), (.aload 5, 0, 0, 0, .null), (.ifnull (27), 36, 0, 0, .null), (.aload 5, 0, 0, 0, .null), (.invokevirtual 60, 265, 0, 646, .int 8), (.ifCond .eq (19), 36, 0, 0, .null), (.aload_n 0, 0, 0, 0, .null), (.getfield 36, 2, 7, 273, .null), (.ifCond .lt (12), 36, 0, 0, .null), (.aload_n 0, 0, 0, 0, .null), (.getfield 36, 2, 7, 273, .null), (.bipush (20), 0, 0, 0, .int (20)), (.if_icmp .lt (6), 39, 0, 0, .null), (.nop, 36, 0, 0, .null)]
def xb_Archive_say_36 : List xv_Op := [(.bipush (-3), 0, 0, 0, .int (-3)), (.ireturn, 0, 0, 0, .null)]
def xb_Archive_say_39 : List xv_Op := [(.aload_n 0, 0, 0, 0, .null), (.getfield 19, 1, 7, 272, .null), (.aload_n 0, 0, 0, 0, .null), (.getfield 36, 2, 7, 273, .null), (.aaload, 0, 0, 0, .null), (.iload_n 1, 0, 0, 0, .null), (.iload_n 2, 0, 0, 0, .null), (.iload_n 3, 0, 0, 0, .null), (.iload 4, 0, 0, 0, .null), (.invokevirtual 64, 145, 4, 664, .int 9), (.aload_n 0, 0, 0, 0, .null), (.getfield 19, 1, 7, 272, .null), (.aload_n 0, 0, 0, 0, .null), (.getfield 36, 2, 7, 273, .null), (.aaload, 0, 0, 0, .null), (.aload 5, 0, 0, 0, .null), (.aload_n 0, 0, 0, 0, .null), (.getfield 39, 3, 7, 274, .null), (.invokevirtual 67, 146, 2, 665, .int 9), (.aload_n 0, 0, 0, 0, .null), (.dup, 0, 0, 0, .null), (.getfield 36, 2, 7, 273, .null), (.iconst (1), 0, 0, 0, .int (1)), (.iadd, 0, 0, 0, .null), (.putfield 36, 2, 7, 273, .int 0), (.aload_n 0, 0, 0, 0, .null), (.getfield 19, 1, 7, 272, .null), (.aload_n 0, 0, 0, 0, .null), (.getfield 36, 2, 7, 273, .null), (.iconst (1), 0, 0, 0, .int (1)), (.isub, 0, 0, 0, .null), (.aaload, 0, 0, 0, .null), (.invokevirtual 71, 151, 0, 685, .int 9), (.ireturn, 0, 0, 0, .null)]
def xl_Archive_say : xv_B := [(0, xb_Archive_say_0), (36, xb_Archive_say_36), (39, xb_Archive_say_39)]
def xm_Archive_say : xv_M := (⟨"OnionCourt$Archive", "say", "(IIZZ)I"⟩, prog_3_method_14_code, 6, (some .int), (7, 1, 4), [], xl_Archive_say)
def xb_Archive_forget_0 : List xv_Op := [(.aload_n 0, 0, 0, 0, .null), (.getfield 36, 2, 7, 273, .null), (.ifCond .gt (5), 9, 0, 0, .null), (.iconst (0), 0, 0, 0, .int (0)), (.ireturn, 0, 0, 0, .null)]
def xb_Archive_forget_9 : List xv_Op := [(.aload_n 0, 0, 0, 0, .null), (.dup, 0, 0, 0, .null), (.getfield 36, 2, 7, 273, .null), (.iconst (1), 0, 0, 0, .int (1)), (.isub, 0, 0, 0, .null), (.putfield 36, 2, 7, 273, .int 0), (.iconst (1), 0, 0, 0, .int (1)), (.ireturn, 0, 0, 0, .null)]
def xl_Archive_forget : xv_B := [(0, xb_Archive_forget_0), (9, xb_Archive_forget_9)]
def xm_Archive_forget : xv_M := (⟨"OnionCourt$Archive", "forget", "()Z"⟩, prog_3_method_15_code, 1, (some .boolean), (7, 1, 0), [], xl_Archive_forget)
def xb_Archive_hear_0 : List xv_Op := [(.aload_n 0, 0, 0, 0, .null), (.aload_n 1, 0, 0, 0, .null), (.aload_n 2, 0, 0, 0, .null), (.invokevirtual 74, 172, 2, 636, .int 7), (.iconst (0), 0, 0, 0, .int (0)), (.istore_n 3, 0, 0, 0, .null), (.nop, 8, 0, 0, .null)]
def xb_Archive_hear_8 : List xv_Op := [(.iload_n 3, 0, 0, 0, .null), (.bipush (100), 0, 0, 0, .int (100)), (.if_icmp .ge (24), 35, 0, 0, .null), (.aload_n 1, 0, 0, 0, .null), (.bipush (59), 0, 0, 0, .int (59)), (.invokevirtual 78, 254, 1, 657, .int 2), (.ifCond .eq (15), 35, 0, 0, .null), (.aload_n 0, 0, 0, 0, .null), (.aload_n 1, 0, 0, 0, .null), (.aload_n 2, 0, 0, 0, .null), (.invokevirtual 74, 172, 2, 636, .int 7), (.iinc 3 (1), 0, 0, 0, .int (1)), (.goto (-24), 8, 0, 0, .null)]
def xb_Archive_hear_35 : List xv_Op := [(.aload_n 1, 0, 0, 0, .null), (.invokevirtual 84, 256, 0, 689, .int 2), (.return_, 0, 0, 0, .null)]
def xl_Archive_hear : xv_B := [(0, xb_Archive_hear_0), (8, xb_Archive_hear_8), (35, xb_Archive_hear_35)]
def xm_Archive_hear : xv_M := (⟨"OnionCourt$Archive", "hear", "(LOnionCourt$Tape;LOnionCourt$Questions;)V"⟩, prog_3_method_16_code, 4, none, (7, 1, 2), [], xl_Archive_hear)
def xb_Archive_line_0 : List xv_Op := [(.aload_n 1, 0, 0, 0, .null), (.invokevirtual 87, 251, 0, 640, .int 2), (.bipush (48), 0, 0, 0, .int (48)), (.isub, 0, 0, 0, .null), (.istore_n 3, 0, 0, 0, .null), (.aload_n 1, 0, 0, 0, .null), (.aload_n 0, 0, 0, 0, .null), (.iload_n 3, 0, 0, 0, .null), (.invokevirtual 90, 173, 1, 641, .int 7), (.invokestatic 94, 174, 2, 647, .int 0), (.aload_n 1, 0, 0, 0, .null), (.invokevirtual 98, 253, 0, 652, .int 2), (.aload_n 1, 0, 0, 0, .null), (.invokevirtual 87, 251, 0, 640, .int 2), (.bipush (65), 0, 0, 0, .int (65)), (.isub, 0, 0, 0, .null), (.istore 4, 0, 0, 0, .null), (.aload_n 2, 0, 0, 0, .null), (.iload 4, 0, 0, 0, .null), (.invokevirtual 101, 223, 1, 653, .int 3), (.ifCond .ne (25), 61, 0, 0, .null), (.aload_n 1, 0, 0, 0, .null), (.iload 4, 0, 0, 0, .null), (.ifCond .lt (10), 52, 0, 0, .null), (.iload 4, 0, 0, 0, .null), (.bipush (8), 0, 0, 0, .int (8)), (.if_icmp .lt (7), 56, 0, 0, .null), (.nop, 52, 0, 0, .null)]
def xb_Archive_line_52 : List xv_Op := [(.iconst (1), 0, 0, 0, .int (1)), (.goto (5), 58, 0, 0, .null)]
def xb_Archive_line_56 : List xv_Op := [(.bipush (7), 0, 0, 0, .int (7)), (.nop, 58, 0, 0, .null)]
def xb_Archive_line_58 : List xv_Op := [(.invokestatic 94, 174, 2, 647, .int 0), (.nop, 61, 0, 0, .null)]
def xb_Archive_line_61 : List xv_Op := [(.aload_n 1, 0, 0, 0, .null), (.invokevirtual 98, 253, 0, 652, .int 2), (.aload_n 1, 0, 0, 0, .null), (.bipush (43), 0, 0, 0, .int (43)), (.invokevirtual 78, 254, 1, 657, .int 2), (.istore 5, 0, 0, 0, .null), (.iload 5, 0, 0, 0, .null), (.ifCond .ne (9), 84, 0, 0, .null), (.aload_n 1, 0, 0, 0, .null), (.bipush (45), 0, 0, 0, .int (45)), (.invokevirtual 105, 255, 1, 658, .int 2), (.nop, 84, 0, 0, .null)]
def xb_Archive_line_84 : List xv_Op := [(.aload_n 1, 0, 0, 0, .null), (.bipush (42), 0, 0, 0, .int (42)), (.invokevirtual 78, 254, 1, 657, .int 2), (.istore 6, 0, 0, 0, .null), (.aload_n 1, 0, 0, 0, .null), (.invokevirtual 108, 258, 0, 659, .int 2), (.ifCond .ne (15), 111, 0, 0, .null), (.aload_n 0, 0, 0, 0, .null), (.iload_n 3, 0, 0, 0, .null), (.iload 4, 0, 0, 0, .null), (.iload 5, 0, 0, 0, .null), (.iload 6, 0, 0, 0, .null), (.invokevirtual 111, 169, 4, 660, .int 7), (.pop, 0, 0, 0, .null), (.nop, 111, 0, 0, .null)]
def xb_Archive_line_111 : List xv_Op := [(.return_, 0, 0, 0, .null)]
def xl_Archive_line : xv_B := [(0, xb_Archive_line_0), (52, xb_Archive_line_52), (56, xb_Archive_line_56), (58, xb_Archive_line_58), (61, xb_Archive_line_61), (84, xb_Archive_line_84), (111, xb_Archive_line_111)]
def xm_Archive_line : xv_M := (⟨"OnionCourt$Archive", "line", "(LOnionCourt$Tape;LOnionCourt$Questions;)V"⟩, prog_3_method_17_code, 7, none, (7, 1, 2), [], xl_Archive_line)
def xb_Archive_whatIsWrongWith_0 : List xv_Op := [(.iload_n 1, 0, 0, 0, .null), (.ifCond .lt (9), 10, 0, 0, .null), (.iload_n 1, 0, 0, 0, .null), (.bipush (10), 0, 0, 0, .int (10)), (.if_icmp .lt (5), 12, 0, 0, .null), (.nop, 10, 0, 0, .null)]
def xb_Archive_whatIsWrongWith_10 : List xv_Op := [(.iconst (1), 0, 0, 0, .int (1)), (.ireturn, 0, 0, 0, .null)]
def xb_Archive_whatIsWrongWith_12 : List xv_Op := [(.aload_n 0, 0, 0, 0, .null), (.getfield 36, 2, 7, 273, .null), (.bipush (20), 0, 0, 0, .int (20)), (.if_icmp .lt (5), 23, 0, 0, .null), (.iconst (4), 0, 0, 0, .int (4)), (.ireturn, 0, 0, 0, .null)]
def xb_Archive_whatIsWrongWith_23 : List xv_Op := [(.aload_n 0, 0, 0, 0, .null), (.iload_n 1, 0, 0, 0, .null), (.invokevirtual 50, 159, 1, 645, .int 7), (.astore_n 2, 0, 0, 0, .null), (.aload_n 2, 0, 0, 0, .null), (.ifnonnull (6), 36, 0, 0, .null), (.bipush (7), 0, 0, 0, .int (7)), (.ireturn, 0, 0, 0, .null)]
def xb_Archive_whatIsWrongWith_36 : List xv_Op := [(.aload_n 2, 0, 0, 0, .null), (.invokevirtual 60, 265, 0, 646, .int 8), (.ifCond .ne (8), 48, 0, 0, .null), (.bipush (8), 0, 0, 0, .int (8)), (.goto (4), 49, 0, 0, .null)]
def xb_Archive_whatIsWrongWith_48 : List xv_Op := [(.iconst (0), 0, 0, 0, .int (0)), (.nop, 49, 0, 0, .null)]
def xb_Archive_whatIsWrongWith_49 : List xv_Op := [(.ireturn, 0, 0, 0, .null)]
def xl_Archive_whatIsWrongWith : xv_B := [(0, xb_Archive_whatIsWrongWith_0), (10, xb_Archive_whatIsWrongWith_10), (12, xb_Archive_whatIsWrongWith_12), (23, xb_Archive_whatIsWrongWith_23), (36, xb_Archive_whatIsWrongWith_36), (48, xb_Archive_whatIsWrongWith_48), (49, xb_Archive_whatIsWrongWith_49)]
def xm_Archive_whatIsWrongWith : xv_M := (⟨"OnionCourt$Archive", "whatIsWrongWith", "(I)I"⟩, prog_3_method_18_code, 3, (some .int), (7, 1, 1), [], xl_Archive_whatIsWrongWith)
def xb_Archive_refuse_0 : List xv_Op := [(.iload_n 1, 0, 0, 0, .null), (.ifCond .eq (12), 13, 0, 0, .null), (.aload_n 0, 0, 0, 0, .null), (.iload_n 1, 0, 0, 0, .null), (.aload_n 0, 0, 0, 0, .null), (.invokevirtual 115, 250, 0, 650, .int 2), (.invokevirtual 118, 257, 2, 651, .int 2), (.nop, 13, 0, 0, .null)]
def xb_Archive_refuse_13 : List xv_Op := [(.return_, 0, 0, 0, .null)]
def xl_Archive_refuse : xv_B := [(0, xb_Archive_refuse_0), (13, xb_Archive_refuse_13)]
def xm_Archive_refuse : xv_M := (⟨"OnionCourt$Archive", "refuse", "(LOnionCourt$Tape;I)V"⟩, prog_3_method_19_code, 2, none, (7, 0, 2), [], xl_Archive_refuse)
def xb_Archive_pass_0 : List xv_Op := [(.aload_n 0, 0, 0, 0, .null), (.iconst (0), 0, 0, 0, .int (0)), (.putfield 54, 5, 7, 276, .int 0), (.aload_n 0, 0, 0, 0, .null), (.iconst (0), 0, 0, 0, .int (0)), (.putfield 57, 6, 7, 277, .int 0), (.iconst (0), 0, 0, 0, .int (0)), (.istore 4, 0, 0, 0, .null), (.nop, 13, 0, 0, .null)]
def xb_Archive_pass_13 : List xv_Op := [(.iload 4, 0, 0, 0, .null), (.iload_n 1, 0, 0, 0, .null), (.if_icmp .ge (53), 69, 0, 0, .null), (.aload_n 0, 0, 0, 0, .null), (.getfield 39, 3, 7, 274, .null), (.sipush (999), 0, 0, 0, .int (999)), (.if_icmp .ge (43), 69, 0, 0, .null), (.iconst (0), 0, 0, 0, .int (0)), (.istore 5, 0, 0, 0, .null), (.nop, 32, 0, 0, .null)]
def xb_Archive_pass_32 : List xv_Op := [(.iload 5, 0, 0, 0, .null), (.bipush (10), 0, 0, 0, .int (10)), (.if_icmp .ge (17), 53, 0, 0, .null), (.aload_n 0, 0, 0, 0, .null), (.iload 5, 0, 0, 0, .null), (.aload_n 2, 0, 0, 0, .null), (.aload_n 3, 0, 0, 0, .null), (.invokevirtual 121, 176, 3, 716, .int 7), (.iinc 5 (1), 0, 0, 0, .int (1)), (.goto (-18), 32, 0, 0, .null)]
def xb_Archive_pass_53 : List xv_Op := [(.aload_n 0, 0, 0, 0, .null), (.dup, 0, 0, 0, .null), (.getfield 39, 3, 7, 274, .null), (.iconst (1), 0, 0, 0, .int (1)), (.iadd, 0, 0, 0, .null), (.putfield 39, 3, 7, 274, .int 0), (.iinc 4 (1), 0, 0, 0, .int (1)), (.goto (-53), 13, 0, 0, .null)]
def xb_Archive_pass_69 : List xv_Op := [(.return_, 0, 0, 0, .null)]
def xl_Archive_pass : xv_B := [(0, xb_Archive_pass_0), (13, xb_Archive_pass_13), (32, xb_Archive_pass_32), (53, xb_Archive_pass_53), (69, xb_Archive_pass_69)]
def xm_Archive_pass : xv_M := (⟨"OnionCourt$Archive", "pass", "(ILOnionCourt$Law;LOnionCourt$Case;)V"⟩, prog_3_method_20_code, 6, none, (7, 1, 3), [], xl_Archive_pass)
def xb_Archive_live_0 : List xv_Op := [(.aload_n 0, 0, 0, 0, .null), (.iload_n 1, 0, 0, 0, .null), (.invokevirtual 50, 159, 1, 645, .int 7), (.astore 4, 0, 0, 0, .null), (.aload 4, 0, 0, 0, .null), (.ifnonnull (4), 13, 0, 0, .null), (.return_, 0, 0, 0, .null)]
def xb_Archive_live_13 : List xv_Op := [(.aload_n 3, 0, 0, 0, .null), (.iload_n 1, 0, 0, 0, .null), (.aload 4, 0, 0, 0, .null), (.invokevirtual 125, 264, 0, 720, .int 8), (.aload_n 0, 0, 0, 0, .null), (.getfield 39, 3, 7, 274, .null), (.invokevirtual 128, 188, 3, 721, .int 5), (.aload_n 0, 0, 0, 0, .null), (.dup, 0, 0, 0, .null), (.getfield 57, 6, 7, 277, .null), (.aload 4, 0, 0, 0, .null), (.aload_n 2, 0, 0, 0, .null), (.aload_n 3, 0, 0, 0, .null), (.invokevirtual 134, 270, 2, 725, .int 8), (.iadd, 0, 0, 0, .null), (.putfield 57, 6, 7, 277, .int 0), (.aload 4, 0, 0, 0, .null), (.invokevirtual 60, 265, 0, 646, .int 8), (.ifCond .ne (4), 52, 0, 0, .null), (.return_, 0, 0, 0, .null)]
def xb_Archive_live_52 : List xv_Op := [(.aload_n 3, 0, 0, 0, .null), (.aload 4, 0, 0, 0, .null), (.iconst (0), 0, 0, 0, .int (0)), (.invokevirtual 138, 266, 1, 760, .int 8), (.aload 4, 0, 0, 0, .null), (.invokevirtual 60, 265, 0, 646, .int 8), (.invokevirtual 141, 189, 2, 761, .int 5), (.aload_n 0, 0, 0, 0, .null), (.sipush (25173), 0, 0, 0, .int (25173)), (.aload_n 0, 0, 0, 0, .null), (.getfield 23, 4, 7, 275, .null), (.imul, 0, 0, 0, .null), (.sipush (13849), 0, 0, 0, .int (13849)), (.iadd, 0, 0, 0, .null), (.ldc 144, 0, 0, 762, .int (65535)), (.iand, 0, 0, 0, .null), (.putfield 23, 4, 7, 275, .int 0), (.aload_n 0, 0, 0, 0, .null), (.getfield 23, 4, 7, 275, .null), (.bipush (10), 0, 0, 0, .int (10)), (.irem, 0, 0, 0, .null), (.aload_n 2, 0, 0, 0, .null), (.bipush (98), 0, 0, 0, .int (98)), (.aload_n 3, 0, 0, 0, .null), (.invokevirtual 145, 210, 2, 763, .int 4), (.if_icmp .ge (21), 121, 0, 0, .null), (.aload 4, 0, 0, 0, .null), (.invokevirtual 151, 269, 0, 764, .int 8), (.ifCond .eq (13), 121, 0, 0, .null), (.aload_n 0, 0, 0, 0, .null), (.dup, 0, 0, 0, .null), (.getfield 54, 5, 7, 276, .null), (.iconst (1), 0, 0, 0, .int (1)), (.iadd, 0, 0, 0, .null), (.putfield 54, 5, 7, 276, .int 0), (.nop, 121, 0, 0, .null)]
def xb_Archive_live_121 : List xv_Op := [(.return_, 0, 0, 0, .null)]
def xl_Archive_live : xv_B := [(0, xb_Archive_live_0), (13, xb_Archive_live_13), (52, xb_Archive_live_52), (121, xb_Archive_live_121)]
def xm_Archive_live : xv_M := (⟨"OnionCourt$Archive", "live", "(ILOnionCourt$Law;LOnionCourt$Case;)V"⟩, prog_3_method_21_code, 5, none, (7, 1, 3), [], xl_Archive_live)
def xb_Archive_saidBy_0 : List xv_Op := [(.iconst (0), 0, 0, 0, .int (0)), (.istore_n 3, 0, 0, 0, .null), (.iconst (0), 0, 0, 0, .int (0)), (.istore 4, 0, 0, 0, .null), (.nop, 5, 0, 0, .null)]
def xb_Archive_saidBy_5 : List xv_Op := [(.iload 4, 0, 0, 0, .null), (.aload_n 0, 0, 0, 0, .null), (.getfield 36, 2, 7, 273, .null), (.if_icmp .ge (50), 61, 0, 0, .null), (.iload 4, 0, 0, 0, .null), (.bipush (20), 0, 0, 0, .int (20)), (.if_icmp .ge (43), 61, 0, 0, .null), (.aload_n 0, 0, 0, 0, .null), (.getfield 19, 1, 7, 272, .null), (.iload 4, 0, 0, 0, .null), (.aaload, 0, 0, 0, .null), (.invokevirtual 154, 148, 0, 794, .int 9), (.iload_n 1, 0, 0, 0, .null), (.if_icmp .ne (23), 55, 0, 0, .null), (.aload_n 0, 0, 0, 0, .null), (.getfield 19, 1, 7, 272, .null), (.iload 4, 0, 0, 0, .null), (.aaload, 0, 0, 0, .null), (.invokevirtual 157, 150, 0, 798, .int 9), (.ifCond .ne (7), 52, 0, 0, .null), (.iload_n 2, 0, 0, 0, .null), (.ifCond .ne (6), 55, 0, 0, .null), (.nop, 52, 0, 0, .null)]
def xb_Archive_saidBy_52 : List xv_Op := [(.iinc 3 (1), 0, 0, 0, .int (1)), (.nop, 55, 0, 0, .null)]
def xb_Archive_saidBy_55 : List xv_Op := [(.iinc 4 (1), 0, 0, 0, .int (1)), (.goto (-53), 5, 0, 0, .null)]
def xb_Archive_saidBy_61 : List xv_Op := [(.iload_n 3, 0, 0, 0, .null), (.ireturn, 0, 0, 0, .null)]
def xl_Archive_saidBy : xv_B := [(0, xb_Archive_saidBy_0), (5, xb_Archive_saidBy_5), (52, xb_Archive_saidBy_52), (55, xb_Archive_saidBy_55), (61, xb_Archive_saidBy_61)]
def xm_Archive_saidBy : xv_M := (⟨"OnionCourt$Archive", "saidBy", "(IZ)I"⟩, prog_3_method_22_code, 5, (some .int), (7, 1, 2), [], xl_Archive_saidBy)
def xb_Archive_criedAt_0 : List xv_Op := [(.iconst (0), 0, 0, 0, .int (0)), (.istore_n 2, 0, 0, 0, .null), (.iconst (0), 0, 0, 0, .int (0)), (.istore_n 3, 0, 0, 0, .null), (.nop, 4, 0, 0, .null)]
def xb_Archive_criedAt_4 : List xv_Op := [(.iload_n 3, 0, 0, 0, .null), (.aload_n 0, 0, 0, 0, .null), (.getfield 36, 2, 7, 273, .null), (.if_icmp .ge (43), 52, 0, 0, .null), (.iload_n 3, 0, 0, 0, .null), (.bipush (20), 0, 0, 0, .int (20)), (.if_icmp .ge (37), 52, 0, 0, .null), (.aload_n 0, 0, 0, 0, .null), (.getfield 19, 1, 7, 272, .null), (.iload_n 3, 0, 0, 0, .null), (.aaload, 0, 0, 0, .null), (.invokevirtual 160, 149, 0, 950, .int 9), (.iload_n 1, 0, 0, 0, .null), (.if_icmp .ne (18), 46, 0, 0, .null), (.aload_n 0, 0, 0, 0, .null), (.getfield 19, 1, 7, 272, .null), (.iload_n 3, 0, 0, 0, .null), (.aaload, 0, 0, 0, .null), (.invokevirtual 157, 150, 0, 798, .int 9), (.ifCond .eq (6), 46, 0, 0, .null), (.iinc 2 (1), 0, 0, 0, .int (1)), (.nop, 46, 0, 0, .null)]
def xb_Archive_criedAt_46 : List xv_Op := [(.iinc 3 (1), 0, 0, 0, .int (1)), (.goto (-45), 4, 0, 0, .null)]
def xb_Archive_criedAt_52 : List xv_Op := [(.iload_n 2, 0, 0, 0, .null), (.ireturn, 0, 0, 0, .null)]
def xl_Archive_criedAt : xv_B := [(0, xb_Archive_criedAt_0), (4, xb_Archive_criedAt_4), (46, xb_Archive_criedAt_46), (52, xb_Archive_criedAt_52)]
def xm_Archive_criedAt : xv_M := (⟨"OnionCourt$Archive", "criedAt", "(I)I"⟩, prog_3_method_23_code, 4, (some .int), (7, 1, 1), [], xl_Archive_criedAt)
def xb_Archive_lastOf_0 : List xv_Op := [(.aconst_null, 0, 0, 0, .null), (.astore_n 3, 0, 0, 0, .null), (.iconst (0), 0, 0, 0, .int (0)), (.istore 4, 0, 0, 0, .null), (.nop, 5, 0, 0, .null)]
def xb_Archive_lastOf_5 : List xv_Op := [(.iload 4, 0, 0, 0, .null), (.aload_n 0, 0, 0, 0, .null), (.getfield 36, 2, 7, 273, .null), (.if_icmp .ge (52), 63, 0, 0, .null), (.iload 4, 0, 0, 0, .null), (.bipush (20), 0, 0, 0, .int (20)), (.if_icmp .ge (45), 63, 0, 0, .null), (.aload_n 0, 0, 0, 0, .null), (.getfield 19, 1, 7, 272, .null), (.iload 4, 0, 0, 0, .null), (.aaload, 0, 0, 0, .null), (.invokevirtual 154, 148, 0, 794, .int 9), (.iload_n 1, 0, 0, 0, .null), (.if_icmp .ne (25), 57, 0, 0, .null), (.aload_n 0, 0, 0, 0, .null), (.getfield 19, 1, 7, 272, .null), (.iload 4, 0, 0, 0, .null), (.aaload, 0, 0, 0, .null), (.invokevirtual 160, 149, 0, 950, .int 9), (.iload_n 2, 0, 0, 0, .null), (.if_icmp .ne (11), 57, 0, 0, .null), (.aload_n 0, 0, 0, 0, .null), (.getfield 19, 1, 7, 272, .null), (.iload 4, 0, 0, 0, .null), (.aaload, 0, 0, 0, .null), (.astore_n 3, 0, 0, 0, .null), (.nop, 57, 0, 0, .null)]
def xb_Archive_lastOf_57 : List xv_Op := [(.iinc 4 (1), 0, 0, 0, .int (1)), (.goto (-55), 5, 0, 0, .null)]
def xb_Archive_lastOf_63 : List xv_Op := [(.aload_n 3, 0, 0, 0, .null), (.areturn, 0, 0, 0, .null)]
def xl_Archive_lastOf : xv_B := [(0, xb_Archive_lastOf_0), (5, xb_Archive_lastOf_5), (57, xb_Archive_lastOf_57), (63, xb_Archive_lastOf_63)]
def xm_Archive_lastOf : xv_M := (⟨"OnionCourt$Archive", "lastOf", "(II)LOnionCourt$Answer;"⟩, prog_3_method_24_code, 5, (some (.object "OnionCourt$Answer")), (7, 1, 2), [], xl_Archive_lastOf)
def xb_Archive_fitting_0 : List xv_Op := [(.iconst (-1), 0, 0, 0, .int (-1)), (.istore_n 3, 0, 0, 0, .null), (.iconst (0), 0, 0, 0, .int (0)), (.istore 4, 0, 0, 0, .null), (.nop, 5, 0, 0, .null)]
def xb_Archive_fitting_5 : List xv_Op := [(.iload 4, 0, 0, 0, .null), (.aload_n 0, 0, 0, 0, .null), (.getfield 36, 2, 7, 273, .null), (.if_icmp .ge (40), 51, 0, 0, .null), (.iload 4, 0, 0, 0, .null), (.bipush (20), 0, 0, 0, .int (20)), (.if_icmp .ge (33), 51, 0, 0, .null), (.iload_n 1, 0, 0, 0, .null), (.iload 4, 0, 0, 0, .null), (.ishr, 0, 0, 0, .null), (.iconst (1), 0, 0, 0, .int (1)), (.iand, 0, 0, 0, .null), (.iconst (1), 0, 0, 0, .int (1)), (.if_icmp .ne (17), 45, 0, 0, .null), (.iload_n 3, 0, 0, 0, .null), (.aload_n 0, 0, 0, 0, .null), (.getfield 19, 1, 7, 272, .null), (.iload 4, 0, 0, 0, .null), (.aaload, 0, 0, 0, .null), (.aload_n 2, 0, 0, 0, .null), (.invokevirtual 163, 153, 1, 924, .int 9), (.iand, 0, 0, 0, .null), (.istore_n 3, 0, 0, 0, .null), (.nop, 45, 0, 0, .null)]
def xb_Archive_fitting_45 : List xv_Op := [(.iinc 4 (1), 0, 0, 0, .int (1)), (.goto (-43), 5, 0, 0, .null)]
def xb_Archive_fitting_51 : List xv_Op := [(.iload_n 3, 0, 0, 0, .null), (.ireturn, 0, 0, 0, .null)]
def xl_Archive_fitting : xv_B := [(0, xb_Archive_fitting_0), (5, xb_Archive_fitting_5), (45, xb_Archive_fitting_45), (51, xb_Archive_fitting_51)]
def xm_Archive_fitting : xv_M := (⟨"OnionCourt$Archive", "fitting", "(ILOnionCourt$Questions;)I"⟩, prog_3_method_25_code, 5, (some .int), (7, 1, 2), [], xl_Archive_fitting)
def xb_Archive_fittingWithout_0 : List xv_Op := [(.iconst (0), 0, 0, 0, .int (0)), (.istore_n 3, 0, 0, 0, .null), (.iconst (0), 0, 0, 0, .int (0)), (.istore 4, 0, 0, 0, .null), (.nop, 5, 0, 0, .null)]
def xb_Archive_fittingWithout_5 : List xv_Op := [(.iload 4, 0, 0, 0, .null), (.aload_n 0, 0, 0, 0, .null), (.getfield 36, 2, 7, 273, .null), (.if_icmp .ge (45), 56, 0, 0, .null), (.iload 4, 0, 0, 0, .null), (.bipush (20), 0, 0, 0, .int (20)), (.if_icmp .ge (38), 56, 0, 0, .null), (.iload_n 3, 0, 0, 0, .null), (.iload_n 1, 0, 0, 0, .null), (.aload_n 0, 0, 0, 0, .null), (.getfield 19, 1, 7, 272, .null), (.iload 4, 0, 0, 0, .null), (.aaload, 0, 0, 0, .null), (.invokevirtual 154, 148, 0, 794, .int 9), (.ishr, 0, 0, 0, .null), (.iconst (1), 0, 0, 0, .int (1)), (.iand, 0, 0, 0, .null), (.iconst (1), 0, 0, 0, .int (1)), (.if_icmp .ne (7), 44, 0, 0, .null), (.iconst (0), 0, 0, 0, .int (0)), (.goto (7), 48, 0, 0, .null)]
def xb_Archive_fittingWithout_44 : List xv_Op := [(.iconst (1), 0, 0, 0, .int (1)), (.iload 4, 0, 0, 0, .null), (.ishl, 0, 0, 0, .null), (.nop, 48, 0, 0, .null)]
def xb_Archive_fittingWithout_48 : List xv_Op := [(.ior, 0, 0, 0, .null), (.istore_n 3, 0, 0, 0, .null), (.iinc 4 (1), 0, 0, 0, .int (1)), (.goto (-48), 5, 0, 0, .null)]
def xb_Archive_fittingWithout_56 : List xv_Op := [(.aload_n 0, 0, 0, 0, .null), (.iload_n 3, 0, 0, 0, .null), (.aload_n 2, 0, 0, 0, .null), (.invokevirtual 167, 180, 2, 933, .int 7), (.ireturn, 0, 0, 0, .null)]
def xl_Archive_fittingWithout : xv_B := [(0, xb_Archive_fittingWithout_0), (5, xb_Archive_fittingWithout_5), (44, xb_Archive_fittingWithout_44), (48, xb_Archive_fittingWithout_48), (56, xb_Archive_fittingWithout_56)]
def xm_Archive_fittingWithout : xv_M := (⟨"OnionCourt$Archive", "fittingWithout", "(ILOnionCourt$Questions;)I"⟩, prog_3_method_26_code, 5, (some .int), (7, 1, 2), [], xl_Archive_fittingWithout)
def xb_Boxes_init_0 : List xv_Op := [(.aload_n 0, 0, 0, 0, .null), (.invokespecial 3, 0, 0, 300, .null), (.aload_n 0, 0, 0, 0, .null), (.bipush (10), 0, 0, 0, .int (10)), (.newarray .int, 0, 0, 120, .null), (.putfield 9, 0, 10, 301, .int 3), (.aload_n 0, 0, 0, 0, .null), (.bipush (10), 0, 0, 0, .int (10)), (.newarray .int, 0, 0, 120, .null), (.putfield 15, 1, 10, 302, .int 3), (.aload_n 0, 0, 0, 0, .null), (.bipush (10), 0, 0, 0, .int (10)), (.newarray .int, 0, 0, 120, .null), (.putfield 18, 2, 10, 303, .int 3), (.return_, 0, 0, 0, .null)]
def xl_Boxes_init : xv_B := [(0, xb_Boxes_init_0)]
def xm_Boxes_init : xv_M := (⟨"OnionCourt$Boxes", "<init>", "()V"⟩, prog_4_method_1_code, 1, none, (10, 2, 0), [], xl_Boxes_init)
def xb_Boxes_lay_0 : List xv_Op := [(.aload_n 0, 0, 0, 0, .null), (.iload_n 2, 0, 0, 0, .null), (.bipush (10), 0, 0, 0, .int (10)), (.invokestatic 21, 4, 0, 994, .null), (.putfield 27, 3, 10, 304, .int 0), (.aload_n 0, 0, 0, 0, .null), (.iload_n 3, 0, 0, 0, .null), (.putfield 31, 4, 10, 305, .int 0), (.iconst (1), 0, 0, 0, .int (1)), (.istore 4, 0, 0, 0, .null), (.iconst (0), 0, 0, 0, .int (0)), (.istore 5, 0, 0, 0, .null), (.nop, 21, 0, 0, .null)]
def xb_Boxes_lay_21 : List xv_Op := [(.iload 5, 0, 0, 0, .null), (.aload_n 0, 0, 0, 0, .null), (.getfield 27, 3, 10, 304, .null), (.if_icmp .ge (71), 98, 0, 0, .null), (.iload 5, 0, 0, 0, .null), (.bipush (10), 0, 0, 0, .int (10)), (.if_icmp .ge (64), 98, 0, 0, .null), (.aload_n 0, 0, 0, 0, .null), (.getfield 9, 0, 10, 301, .null), (.iload 5, 0, 0, 0, .null), (.aload_n 1, 0, 0, 0, .null), (.iload 5, 0, 0, 0, .null), (.invokevirtual 34, 249, 1, 995, .int 2), (.iastore, 0, 0, 0, .null), (.iload 4, 0, 0, 0, .null), (.ifCond .eq (37), 89, 0, 0, .null), (.aload_n 0, 0, 0, 0, .null), (.getfield 9, 0, 10, 301, .null), (.iload 5, 0, 0, 0, .null), (.iaload, 0, 0, 0, .null), (.iconst (1), 0, 0, 0, .int (1)), (.if_icmp .lt (26), 89, 0, 0, .null), (.aload_n 0, 0, 0, 0, .null), (.getfield 9, 0, 10, 301, .null), (.iload 5, 0, 0, 0, .null), (.iaload, 0, 0, 0, .null), (.aload_n 0, 0, 0, 0, .null), (.getfield 31, 4, 10, 305, .null), (.bipush (99), 0, 0, 0, .int (99)), (.invokestatic 21, 4, 0, 994, .null), (.if_icmp .gt (7), 89, 0, 0, .null), (.iconst (1), 0, 0, 0, .int (1)), (.goto (4), 90, 0, 0, .null)]
def xb_Boxes_lay_89 : List xv_Op := [(.iconst (0), 0, 0, 0, .int (0)), (.nop, 90, 0, 0, .null)]
def xb_Boxes_lay_90 : List xv_Op := [(.istore 4, 0, 0, 0, .null), (.iinc 5 (1), 0, 0, 0, .int (1)), (.goto (-74), 21, 0, 0, .null)]
def xb_Boxes_lay_98 : List xv_Op := [(.iload 4, 0, 0, 0, .null), (.ireturn, 0, 0, 0, .null)]
def xl_Boxes_lay : xv_B := [(0, xb_Boxes_lay_0), (21, xb_Boxes_lay_21), (89, xb_Boxes_lay_89), (90, xb_Boxes_lay_90), (98, xb_Boxes_lay_98)]
def xm_Boxes_lay : xv_M := (⟨"OnionCourt$Boxes", "lay", "(LOnionCourt$Tape;II)Z"⟩, prog_4_method_2_code, 6, (some .boolean), (10, 1, 3), [], xl_Boxes_lay)
def xb_Boxes_pack_0 : List xv_Op := [(.iconst (1), 0, 0, 0, .int (1)), (.istore_n 1, 0, 0, 0, .null), (.nop, 2, 0, 0, .null)]
def xb_Boxes_pack_2 : List xv_Op := [(.iload_n 1, 0, 0, 0, .null), (.aload_n 0, 0, 0, 0, .null), (.getfield 27, 3, 10, 304, .null), (.if_icmp .ge (42), 49, 0, 0, .null), (.iconst (0), 0, 0, 0, .int (0)), (.istore_n 2, 0, 0, 0, .null), (.nop, 12, 0, 0, .null)]
def xb_Boxes_pack_12 : List xv_Op := [(.iload_n 2, 0, 0, 0, .null), (.bipush (10), 0, 0, 0, .int (10)), (.if_icmp .ge (16), 31, 0, 0, .null), (.aload_n 0, 0, 0, 0, .null), (.getfield 18, 2, 10, 303, .null), (.iload_n 2, 0, 0, 0, .null), (.iconst (0), 0, 0, 0, .int (0)), (.iastore, 0, 0, 0, .null), (.iinc 2 (1), 0, 0, 0, .int (1)), (.goto (-16), 12, 0, 0, .null)]
def xb_Boxes_pack_31 : List xv_Op := [(.aload_n 0, 0, 0, 0, .null), (.iconst (0), 0, 0, 0, .int (0)), (.iconst (0), 0, 0, 0, .int (0)), (.iload_n 1, 0, 0, 0, .null), (.invokevirtual 40, 185, 3, 1000, .int 10), (.ifCond .eq (5), 43, 0, 0, .null), (.iload_n 1, 0, 0, 0, .null), (.ireturn, 0, 0, 0, .null)]
def xb_Boxes_pack_43 : List xv_Op := [(.iinc 1 (1), 0, 0, 0, .int (1)), (.goto (-44), 2, 0, 0, .null)]
def xb_Boxes_pack_49 : List xv_Op := [(.iconst (0), 0, 0, 0, .int (0)), (.istore_n 1, 0, 0, 0, .null), (.nop, 51, 0, 0, .null)]
def xb_Boxes_pack_51 : List xv_Op := [(.iload_n 1, 0, 0, 0, .null), (.bipush (10), 0, 0, 0, .int (10)), (.if_icmp .ge (16), 70, 0, 0, .null), (.aload_n 0, 0, 0, 0, .null), (.getfield 15, 1, 10, 302, .null), (.iload_n 1, 0, 0, 0, .null), (.iload_n 1, 0, 0, 0, .null), (.iastore, 0, 0, 0, .null), (.iinc 1 (1), 0, 0, 0, .int (1)), (.goto (-16), 51, 0, 0, .null)]
def xb_Boxes_pack_70 : List xv_Op := [(.aload_n 0, 0, 0, 0, .null), (.getfield 27, 3, 10, 304, .null), (.ireturn, 0, 0, 0, .null)]
def xl_Boxes_pack : xv_B := [(0, xb_Boxes_pack_0), (2, xb_Boxes_pack_2), (12, xb_Boxes_pack_12), (31, xb_Boxes_pack_31), (43, xb_Boxes_pack_43), (49, xb_Boxes_pack_49), (51, xb_Boxes_pack_51), (70, xb_Boxes_pack_70)]
def xm_Boxes_pack : xv_M := (⟨"OnionCourt$Boxes", "pack", "()I"⟩, prog_4_method_3_code, 3, (some .int), (10, 1, 0), [], xl_Boxes_pack)
def xb_Boxes_place_0 : List xv_Op := [(.iload_n 1, 0, 0, 0, .null), (.ifCond .lt (17), 18, 0, 0, .null), (.iload_n 1, 0, 0, 0, .null), (.aload_n 0, 0, 0, 0, .null), (.getfield 27, 3, 10, 304, .null), (.if_icmp .ge (9), 18, 0, 0, .null), (.iload_n 1, 0, 0, 0, .null), (.bipush (10), 0, 0, 0, .int (10)), (.if_icmp .lt (5), 20, 0, 0, .null), (.nop, 18, 0, 0, .null)]
def xb_Boxes_place_18 : List xv_Op := [(.iconst (1), 0, 0, 0, .int (1)), (.ireturn, 0, 0, 0, .null)]
def xb_Boxes_place_20 : List xv_Op := [(.iconst (0), 0, 0, 0, .int (0)), (.istore 4, 0, 0, 0, .null), (.nop, 23, 0, 0, .null)]
def xb_Boxes_place_23 : List xv_Op := [(.iload 4, 0, 0, 0, .null), (.iload_n 2, 0, 0, 0, .null), (.if_icmp .gt (104), 130, 0, 0, .null), (.iload 4, 0, 0, 0, .null), (.iload_n 3, 0, 0, 0, .null), (.if_icmp .ge (98), 130, 0, 0, .null), (.iload 4, 0, 0, 0, .null), (.bipush (10), 0, 0, 0, .int (10)), (.if_icmp .ge (91), 130, 0, 0, .null), (.aload_n 0, 0, 0, 0, .null), (.getfield 18, 2, 10, 303, .null), (.iload 4, 0, 0, 0, .null), (.iaload, 0, 0, 0, .null), (.aload_n 0, 0, 0, 0, .null), (.getfield 9, 0, 10, 301, .null), (.iload_n 1, 0, 0, 0, .null), (.iaload, 0, 0, 0, .null), (.iadd, 0, 0, 0, .null), (.aload_n 0, 0, 0, 0, .null), (.getfield 31, 4, 10, 305, .null), (.if_icmp .gt (64), 124, 0, 0, .null), (.aload_n 0, 0, 0, 0, .null), (.getfield 18, 2, 10, 303, .null), (.iload 4, 0, 0, 0, .null), (.dup2, 0, 0, 0, .null), (.iaload, 0, 0, 0, .null), (.aload_n 0, 0, 0, 0, .null), (.getfield 9, 0, 10, 301, .null), (.iload_n 1, 0, 0, 0, .null), (.iaload, 0, 0, 0, .null), (.iadd, 0, 0, 0, .null), (.iastore, 0, 0, 0, .null), (.aload_n 0, 0, 0, 0, .null), (.getfield 15, 1, 10, 302, .null), (.iload_n 1, 0, 0, 0, .null), (.iload 4, 0, 0, 0, .null), (.iastore, 0, 0, 0, .null), (.aload_n 0, 0, 0, 0, .null), (.iload_n 1, 0, 0, 0, .null), (.iconst (1), 0, 0, 0, .int (1)), (.iadd, 0, 0, 0, .null), (.iload_n 2, 0, 0, 0, .null), (.iload 4, 0, 0, 0, .null), (.iconst (1), 0, 0, 0, .int (1)), (.iadd, 0, 0, 0, .null), (.invokestatic 44, 2, 0, 1004, .null), (.iload_n 3, 0, 0, 0, .null), (.invokevirtual 40, 185, 3, 1000, .int 10), (.ifCond .eq (5), 108, 0, 0, .null), (.iconst (1), 0, 0, 0, .int (1)), (.ireturn, 0, 0, 0, .null)]
def xb_Boxes_place_108 : List xv_Op := [(.aload_n 0, 0, 0, 0, .null), (.getfield 18, 2, 10, 303, .null), (.iload 4, 0, 0, 0, .null), (.dup2, 0, 0, 0, .null), (.iaload, 0, 0, 0, .null), (.aload_n 0, 0, 0, 0, .null), (.getfield 9, 0, 10, 301, .null), (.iload_n 1, 0, 0, 0, .null), (.iaload, 0, 0, 0, .null), (.isub, 0, 0, 0, .null), (.iastore, 0, 0, 0, .null), (.nop, 124, 0, 0, .null)]
def xb_Boxes_place_124 : List xv_Op := [(.iinc 4 (1), 0, 0, 0, .int (1)), (.goto (-104), 23, 0, 0, .null)]
def xb_Boxes_place_130 : List xv_Op := [(.iconst (0), 0, 0, 0, .int (0)), (.ireturn, 0, 0, 0, .null)]
def xl_Boxes_place : xv_B := [(0, xb_Boxes_place_0), (18, xb_Boxes_place_18), (20, xb_Boxes_place_20), (23, xb_Boxes_place_23), (108, xb_Boxes_place_108), (124, xb_Boxes_place_124), (130, xb_Boxes_place_130)]
def xm_Boxes_place : xv_M := (⟨"OnionCourt$Boxes", "place", "(III)Z"⟩, prog_4_method_4_code, 5, (some .boolean), (10, 1, 3), [], xl_Boxes_place)
def xb_Boxes_boxOf_0 : List xv_Op := [(.iload_n 1, 0, 0, 0, .null), (.ifCond .lt (18), 19, 0, 0, .null), (.iload_n 1, 0, 0, 0, .null), (.bipush (10), 0, 0, 0, .int (10)), (.if_icmp .ge (12), 19, 0, 0, .null), (.aload_n 0, 0, 0, 0, .null), (.getfield 15, 1, 10, 302, .null), (.iload_n 1, 0, 0, 0, .null), (.iaload, 0, 0, 0, .null), (.goto (4), 20, 0, 0, .null)]
def xb_Boxes_boxOf_19 : List xv_Op := [(.iconst (-1), 0, 0, 0, .int (-1)), (.nop, 20, 0, 0, .null)]
def xb_Boxes_boxOf_20 : List xv_Op := [(.ireturn, 0, 0, 0, .null)]
def xl_Boxes_boxOf : xv_B := [(0, xb_Boxes_boxOf_0), (19, xb_Boxes_boxOf_19), (20, xb_Boxes_boxOf_20)]
def xm_Boxes_boxOf : xv_M := (⟨"OnionCourt$Boxes", "boxOf", "(I)I"⟩, prog_4_method_5_code, 2, (some .int), (10, 1, 1), [], xl_Boxes_boxOf)
def xb_Case_init_0 : List xv_Op := [(.aload_n 0, 0, 0, 0, .null), (.invokespecial 1, 0, 0, 174, .null), (.return_, 0, 0, 0, .null)]
def xl_Case_init : xv_B := [(0, xb_Case_init_0)]
def xm_Case_init : xv_M := (⟨"OnionCourt$Case", "<init>", "()V"⟩, prog_5_method_1_code, 1, none, (5, 2, 0), [], xl_Case_init)
def xb_Case_open_0 : List xv_Op := [(.aload_n 0, 0, 0, 0, .null), (.iload_n 1, 0, 0, 0, .null), (.putfield 7, 0, 5, 175, .int 0), (.aload_n 0, 0, 0, 0, .null), (.iload_n 2, 0, 0, 0, .null), (.putfield 13, 1, 5, 176, .int 0), (.aload_n 0, 0, 0, 0, .null), (.iload_n 3, 0, 0, 0, .null), (.putfield 16, 7, 5, 182, .int 0), (.aload_n 0, 0, 0, 0, .null), (.iconst (0), 0, 0, 0, .int (0)), (.putfield 19, 4, 5, 179, .int 0), (.aload_n 0, 0, 0, 0, .null), (.iconst (0), 0, 0, 0, .int (0)), (.putfield 22, 5, 5, 180, .int 0), (.aload_n 0, 0, 0, 0, .null), (.iconst (0), 0, 0, 0, .int (0)), (.putfield 25, 6, 5, 181, .int 0), (.return_, 0, 0, 0, .null)]
def xl_Case_open : xv_B := [(0, xb_Case_open_0)]
def xm_Case_open : xv_M := (⟨"OnionCourt$Case", "open", "(III)V"⟩, prog_5_method_2_code, 4, none, (5, 1, 3), [], xl_Case_open)
def xb_Case_show_0 : List xv_Op := [(.aload_n 0, 0, 0, 0, .null), (.iload_n 1, 0, 0, 0, .null), (.putfield 28, 2, 5, 177, .int 0), (.aload_n 0, 0, 0, 0, .null), (.iload_n 2, 0, 0, 0, .null), (.putfield 31, 3, 5, 178, .int 0), (.return_, 0, 0, 0, .null)]
def xl_Case_show : xv_B := [(0, xb_Case_show_0)]
def xm_Case_show : xv_M := (⟨"OnionCourt$Case", "show", "(II)V"⟩, prog_5_method_3_code, 3, none, (5, 1, 2), [], xl_Case_show)
def xb_Case_hear_0 : List xv_Op := [(.aload_n 0, 0, 0, 0, .null), (.iload_n 1, 0, 0, 0, .null), (.putfield 19, 4, 5, 179, .int 0), (.aload_n 0, 0, 0, 0, .null), (.iload_n 2, 0, 0, 0, .null), (.ifCond .eq (7), 14, 0, 0, .null), (.iconst (1), 0, 0, 0, .int (1)), (.goto (4), 15, 0, 0, .null)]
def xb_Case_hear_14 : List xv_Op := [(.iconst (0), 0, 0, 0, .int (0)), (.nop, 15, 0, 0, .null)]
def xb_Case_hear_15 : List xv_Op := [(.putfield 22, 5, 5, 180, .int 0), (.return_, 0, 0, 0, .null)]
def xl_Case_hear : xv_B := [(0, xb_Case_hear_0), (14, xb_Case_hear_14), (15, xb_Case_hear_15)]
def xm_Case_hear : xv_M := (⟨"OnionCourt$Case", "hear", "(IZ)V"⟩, prog_5_method_4_code, 3, none, (5, 1, 2), [], xl_Case_hear)
def xb_Case_tellLie_0 : List xv_Op := [(.aload_n 0, 0, 0, 0, .null), (.iload_n 1, 0, 0, 0, .null), (.ifCond .eq (7), 9, 0, 0, .null), (.iconst (1), 0, 0, 0, .int (1)), (.goto (4), 10, 0, 0, .null)]
def xb_Case_tellLie_9 : List xv_Op := [(.iconst (0), 0, 0, 0, .int (0)), (.nop, 10, 0, 0, .null)]
def xb_Case_tellLie_10 : List xv_Op := [(.putfield 25, 6, 5, 181, .int 0), (.return_, 0, 0, 0, .null)]
def xl_Case_tellLie : xv_B := [(0, xb_Case_tellLie_0), (9, xb_Case_tellLie_9), (10, xb_Case_tellLie_10)]
def xm_Case_tellLie : xv_M := (⟨"OnionCourt$Case", "tellLie", "(Z)V"⟩, prog_5_method_5_code, 2, none, (5, 1, 1), [], xl_Case_tellLie)
def xb_Case_isLetter_0 : List xv_Op := [(.iload_n 0, 0, 0, 0, .null), (.tableswitch (101) (102) (122) #[99, 101, 99, 101, 99, 99, 101, 101, 101, 101, 101, 101, 101, 99, 99, 101, 101, 99, 101, 101, 99], 1, 0, 0, .null)]
def xb_Case_isLetter_100 : List xv_Op := [(.iconst (1), 0, 0, 0, .int (1)), (.ireturn, 0, 0, 0, .null)]
def xb_Case_isLetter_102 : List xv_Op := [(.iconst (0), 0, 0, 0, .int (0)), (.ireturn, 0, 0, 0, .null)]
def xl_Case_isLetter : xv_B := [(0, xb_Case_isLetter_0), (100, xb_Case_isLetter_100), (102, xb_Case_isLetter_102)]
def xm_Case_isLetter : xv_M := (⟨"OnionCourt$Case", "isLetter", "(I)Z"⟩, prog_5_method_6_code, 1, (some .boolean), (5, 0, 1), [], xl_Case_isLetter)
def xb_Case_of_0 : List xv_Op := [(.iload_n 1, 0, 0, 0, .null), (.tableswitch (139) (102) (122) #[124, 139, 104, 139, 114, 119, 139, 139, 139, 139, 139, 139, 139, 109, 134, 139, 139, 99, 139, 139, 129], 1, 0, 0, .null)]
def xb_Case_of_100 : List xv_Op := [(.aload_n 0, 0, 0, 0, .null), (.getfield 7, 0, 5, 175, .null), (.ireturn, 0, 0, 0, .null)]
def xb_Case_of_105 : List xv_Op := [(.aload_n 0, 0, 0, 0, .null), (.getfield 13, 1, 5, 176, .null), (.ireturn, 0, 0, 0, .null)]
def xb_Case_of_110 : List xv_Op := [(.aload_n 0, 0, 0, 0, .null), (.getfield 28, 2, 5, 177, .null), (.ireturn, 0, 0, 0, .null)]
def xb_Case_of_115 : List xv_Op := [(.aload_n 0, 0, 0, 0, .null), (.getfield 31, 3, 5, 178, .null), (.ireturn, 0, 0, 0, .null)]
def xb_Case_of_120 : List xv_Op := [(.aload_n 0, 0, 0, 0, .null), (.getfield 19, 4, 5, 179, .null), (.ireturn, 0, 0, 0, .null)]
def xb_Case_of_125 : List xv_Op := [(.aload_n 0, 0, 0, 0, .null), (.getfield 22, 5, 5, 180, .null), (.ireturn, 0, 0, 0, .null)]
def xb_Case_of_130 : List xv_Op := [(.aload_n 0, 0, 0, 0, .null), (.getfield 25, 6, 5, 181, .null), (.ireturn, 0, 0, 0, .null)]
def xb_Case_of_135 : List xv_Op := [(.aload_n 0, 0, 0, 0, .null), (.getfield 16, 7, 5, 182, .null), (.ireturn, 0, 0, 0, .null)]
def xb_Case_of_140 : List xv_Op := [(.iconst (0), 0, 0, 0, .int (0)), (.ireturn, 0, 0, 0, .null)]
def xl_Case_of : xv_B := [(0, xb_Case_of_0), (100, xb_Case_of_100), (105, xb_Case_of_105), (110, xb_Case_of_110), (115, xb_Case_of_115), (120, xb_Case_of_120), (125, xb_Case_of_125), (130, xb_Case_of_130), (135, xb_Case_of_135), (140, xb_Case_of_140)]
def xm_Case_of : xv_M := (⟨"OnionCourt$Case", "of", "(I)I"⟩, prog_5_method_7_code, 2, (some .int), (5, 1, 1), [], xl_Case_of)
def xb_Exchange_init_0 : List xv_Op := [(.aload_n 0, 0, 0, 0, .null), (.invokespecial 3, 0, 0, 322, .null), (.aload_n 0, 0, 0, 0, .null), (.iconst (5), 0, 0, 0, .int (5)), (.newarray .int, 0, 0, 120, .null), (.putfield 9, 0, 11, 323, .int 3), (.aload_n 0, 0, 0, 0, .null), (.iconst (5), 0, 0, 0, .int (5)), (.newarray .int, 0, 0, 120, .null), (.putfield 15, 1, 11, 324, .int 3), (.aload_n 0, 0, 0, 0, .null), (.iconst (5), 0, 0, 0, .int (5)), (.newarray .int, 0, 0, 120, .null), (.putfield 18, 2, 11, 325, .int 3), (.aload_n 0, 0, 0, 0, .null), (.iconst (5), 0, 0, 0, .int (5)), (.newarray .int, 0, 0, 120, .null), (.putfield 21, 3, 11, 326, .int 3), (.aload_n 0, 0, 0, 0, .null), (.iconst (5), 0, 0, 0, .int (5)), (.newarray .int, 0, 0, 120, .null), (.putfield 24, 4, 11, 327, .int 3), (.return_, 0, 0, 0, .null)]
def xl_Exchange_init : xv_B := [(0, xb_Exchange_init_0)]
def xm_Exchange_init : xv_M := (⟨"OnionCourt$Exchange", "<init>", "()V"⟩, prog_6_method_1_code, 1, none, (11, 2, 0), [], xl_Exchange_init)
def xb_Exchange_gather_0 : List xv_Op := [(.aload_n 0, 0, 0, 0, .null), (.iconst (0), 0, 0, 0, .int (0)), (.putfield 27, 5, 11, 328, .int 0), (.iload_n 1, 0, 0, 0, .null), (.aload_n 2, 0, 0, 0, .null), (.invokevirtual 31, 160, 0, 1017, .int 7), (.iconst (-1), 0, 0, 0, .int (-1)), (.ixor, 0, 0, 0, .null), (.iand, 0, 0, 0, .null), (.ifCond .ne (19), 32, 0, 0, .null), (.iload_n 1, 0, 0, 0, .null), (.invokestatic 37, 274, 1, 1021, .int 0), (.iconst (2), 0, 0, 0, .int (2)), (.if_icmp .lt (11), 32, 0, 0, .null), (.iload_n 1, 0, 0, 0, .null), (.invokestatic 37, 274, 1, 1021, .int 0), (.iconst (5), 0, 0, 0, .int (5)), (.if_icmp .le (5), 34, 0, 0, .null), (.nop, 32, 0, 0, .null)]
def xb_Exchange_gather_32 : List xv_Op := [(.iconst (0), 0, 0, 0, .int (0)), (.ireturn, 0, 0, 0, .null)]
def xb_Exchange_gather_34 : List xv_Op := [(.iconst (0), 0, 0, 0, .int (0)), (.istore_n 3, 0, 0, 0, .null), (.nop, 36, 0, 0, .null)]
def xb_Exchange_gather_36 : List xv_Op := [(.iload_n 3, 0, 0, 0, .null), (.bipush (10), 0, 0, 0, .int (10)), (.if_icmp .ge (88), 127, 0, 0, .null), (.aload_n 2, 0, 0, 0, .null), (.iload_n 3, 0, 0, 0, .null), (.invokevirtual 43, 159, 1, 1022, .int 7), (.astore 4, 0, 0, 0, .null), (.aload 4, 0, 0, 0, .null), (.ifnull (70), 121, 0, 0, .null), (.iload_n 1, 0, 0, 0, .null), (.iload_n 3, 0, 0, 0, .null), (.ishr, 0, 0, 0, .null), (.iconst (1), 0, 0, 0, .int (1)), (.iand, 0, 0, 0, .null), (.iconst (1), 0, 0, 0, .int (1)), (.if_icmp .ne (61), 121, 0, 0, .null), (.aload_n 0, 0, 0, 0, .null), (.getfield 27, 5, 11, 328, .null), (.iconst (5), 0, 0, 0, .int (5)), (.if_icmp .ge (53), 121, 0, 0, .null), (.aload_n 0, 0, 0, 0, .null), (.getfield 9, 0, 11, 323, .null), (.aload_n 0, 0, 0, 0, .null), (.getfield 27, 5, 11, 328, .null), (.iload_n 3, 0, 0, 0, .null), (.iastore, 0, 0, 0, .null), (.aload_n 0, 0, 0, 0, .null), (.getfield 15, 1, 11, 324, .null), (.aload_n 0, 0, 0, 0, .null), (.getfield 27, 5, 11, 328, .null), (.aload 4, 0, 0, 0, .null), (.invokevirtual 47, 264, 0, 1023, .int 8), (.iastore, 0, 0, 0, .null), (.aload_n 0, 0, 0, 0, .null), (.getfield 18, 2, 11, 325, .null), (.aload_n 0, 0, 0, 0, .null), (.getfield 27, 5, 11, 328, .null), (.aload 4, 0, 0, 0, .null), (.bipush (12), 0, 0, 0, .int (12)), (.invokevirtual 52, 267, 1, 1024, .int 8), (.iastore, 0, 0, 0, .null), (.aload_n 0, 0, 0, 0, .null), (.dup, 0, 0, 0, .null), (.getfield 27, 5, 11, 328, .null), (.iconst (1), 0, 0, 0, .int (1)), (.iadd, 0, 0, 0, .null), (.putfield 27, 5, 11, 328, .int 0), (.nop, 121, 0, 0, .null)]
def xb_Exchange_gather_121 : List xv_Op := [(.iinc 3 (1), 0, 0, 0, .int (1)), (.goto (-88), 36, 0, 0, .null)]
def xb_Exchange_gather_127 : List xv_Op := [(.iconst (1), 0, 0, 0, .int (1)), (.ireturn, 0, 0, 0, .null)]
def xl_Exchange_gather : xv_B := [(0, xb_Exchange_gather_0), (32, xb_Exchange_gather_32), (34, xb_Exchange_gather_34), (36, xb_Exchange_gather_36), (121, xb_Exchange_gather_121), (127, xb_Exchange_gather_127)]
def xm_Exchange_gather : xv_M := (⟨"OnionCourt$Exchange", "gather", "(ILOnionCourt$Archive;)Z"⟩, prog_6_method_2_code, 5, (some .boolean), (11, 1, 2), [], xl_Exchange_gather)
def xb_Exchange_settle_0 : List xv_Op := [(.aload_n 0, 0, 0, 0, .null), (.iconst (-1), 0, 0, 0, .int (-1)), (.putfield 55, 6, 11, 329, .int 0), (.aload_n 0, 0, 0, 0, .null), (.iconst (0), 0, 0, 0, .int (0)), (.iconst (0), 0, 0, 0, .int (0)), (.iconst (0), 0, 0, 0, .int (0)), (.invokevirtual 58, 197, 3, 1029, .int 11), (.return_, 0, 0, 0, .null)]
def xl_Exchange_settle : xv_B := [(0, xb_Exchange_settle_0)]
def xm_Exchange_settle : xv_M := (⟨"OnionCourt$Exchange", "settle", "()V"⟩, prog_6_method_3_code, 1, none, (11, 1, 0), [], xl_Exchange_settle)
def xb_Exchange_give_0 : List xv_Op := [(.iload_n 1, 0, 0, 0, .null), (.ifCond .lt (16), 17, 0, 0, .null), (.iload_n 1, 0, 0, 0, .null), (.aload_n 0, 0, 0, 0, .null), (.getfield 27, 5, 11, 328, .null), (.if_icmp .ge (8), 17, 0, 0, .null), (.iload_n 1, 0, 0, 0, .null), (.iconst (5), 0, 0, 0, .int (5)), (.if_icmp .lt (9), 23, 0, 0, .null), (.nop, 17, 0, 0, .null)]
def xb_Exchange_give_17 : List xv_Op := [(.aload_n 0, 0, 0, 0, .null), (.iload_n 3, 0, 0, 0, .null), (.invokevirtual 62, 198, 1, 1033, .int 11), (.return_, 0, 0, 0, .null)]
def xb_Exchange_give_23 : List xv_Op := [(.iconst (0), 0, 0, 0, .int (0)), (.istore 4, 0, 0, 0, .null), (.nop, 26, 0, 0, .null)]
def xb_Exchange_give_26 : List xv_Op := [(.iload 4, 0, 0, 0, .null), (.aload_n 0, 0, 0, 0, .null), (.getfield 27, 5, 11, 328, .null), (.if_icmp .ge (61), 93, 0, 0, .null), (.iload 4, 0, 0, 0, .null), (.iconst (5), 0, 0, 0, .int (5)), (.if_icmp .ge (55), 93, 0, 0, .null), (.iload_n 2, 0, 0, 0, .null), (.iload 4, 0, 0, 0, .null), (.ishr, 0, 0, 0, .null), (.iconst (1), 0, 0, 0, .int (1)), (.iand, 0, 0, 0, .null), (.ifCond .ne (40), 87, 0, 0, .null), (.aload_n 0, 0, 0, 0, .null), (.getfield 21, 3, 11, 326, .null), (.iload_n 1, 0, 0, 0, .null), (.iload 4, 0, 0, 0, .null), (.iastore, 0, 0, 0, .null), (.aload_n 0, 0, 0, 0, .null), (.iload_n 1, 0, 0, 0, .null), (.iconst (1), 0, 0, 0, .int (1)), (.iadd, 0, 0, 0, .null), (.iload_n 2, 0, 0, 0, .null), (.iconst (1), 0, 0, 0, .int (1)), (.iload 4, 0, 0, 0, .null), (.ishl, 0, 0, 0, .null), (.ior, 0, 0, 0, .null), (.iload_n 3, 0, 0, 0, .null), (.aload_n 0, 0, 0, 0, .null), (.getfield 15, 1, 11, 324, .null), (.iload_n 1, 0, 0, 0, .null), (.iaload, 0, 0, 0, .null), (.aload_n 0, 0, 0, 0, .null), (.getfield 18, 2, 11, 325, .null), (.iload 4, 0, 0, 0, .null), (.iaload, 0, 0, 0, .null), (.imul, 0, 0, 0, .null), (.iadd, 0, 0, 0, .null), (.invokevirtual 58, 197, 3, 1029, .int 11), (.nop, 87, 0, 0, .null)]
def xb_Exchange_give_87 : List xv_Op := [(.iinc 4 (1), 0, 0, 0, .int (1)), (.goto (-64), 26, 0, 0, .null)]
def xb_Exchange_give_93 : List xv_Op := [(.return_, 0, 0, 0, .null)]
def xl_Exchange_give : xv_B := [(0, xb_Exchange_give_0), (17, xb_Exchange_give_17), (23, xb_Exchange_give_23), (26, xb_Exchange_give_26), (87, xb_Exchange_give_87), (93, xb_Exchange_give_93)]
def xm_Exchange_give : xv_M := (⟨"OnionCourt$Exchange", "give", "(III)V"⟩, prog_6_method_4_code, 5, none, (11, 1, 3), [], xl_Exchange_give)
def xb_Exchange_note_0 : List xv_Op := [(.iload_n 1, 0, 0, 0, .null), (.aload_n 0, 0, 0, 0, .null), (.getfield 55, 6, 11, 329, .null), (.if_icmp .le (33), 38, 0, 0, .null), (.aload_n 0, 0, 0, 0, .null), (.iload_n 1, 0, 0, 0, .null), (.putfield 55, 6, 11, 329, .int 0), (.iconst (0), 0, 0, 0, .int (0)), (.istore_n 2, 0, 0, 0, .null), (.nop, 15, 0, 0, .null)]
def xb_Exchange_note_15 : List xv_Op := [(.iload_n 2, 0, 0, 0, .null), (.iconst (5), 0, 0, 0, .int (5)), (.if_icmp .ge (21), 38, 0, 0, .null), (.aload_n 0, 0, 0, 0, .null), (.getfield 24, 4, 11, 327, .null), (.iload_n 2, 0, 0, 0, .null), (.aload_n 0, 0, 0, 0, .null), (.getfield 21, 3, 11, 326, .null), (.iload_n 2, 0, 0, 0, .null), (.iaload, 0, 0, 0, .null), (.iastore, 0, 0, 0, .null), (.iinc 2 (1), 0, 0, 0, .int (1)), (.goto (-20), 15, 0, 0, .null)]
def xb_Exchange_note_38 : List xv_Op := [(.return_, 0, 0, 0, .null)]
def xl_Exchange_note : xv_B := [(0, xb_Exchange_note_0), (15, xb_Exchange_note_15), (38, xb_Exchange_note_38)]
def xm_Exchange_note : xv_M := (⟨"OnionCourt$Exchange", "note", "(I)V"⟩, prog_6_method_5_code, 3, none, (11, 1, 1), [], xl_Exchange_note)
def xb_Exchange_most_0 : List xv_Op := [(.aload_n 0, 0, 0, 0, .null), (.getfield 55, 6, 11, 329, .null), (.ireturn, 0, 0, 0, .null)]
def xl_Exchange_most : xv_B := [(0, xb_Exchange_most_0)]
def xm_Exchange_most : xv_M := (⟨"OnionCourt$Exchange", "most", "()I"⟩, prog_6_method_6_code, 1, (some .int), (11, 1, 0), [], xl_Exchange_most)
def xb_Exchange_whoseFor_0 : List xv_Op := [(.iconst (0), 0, 0, 0, .int (0)), (.istore_n 2, 0, 0, 0, .null), (.nop, 2, 0, 0, .null)]
def xb_Exchange_whoseFor_2 : List xv_Op := [(.iload_n 2, 0, 0, 0, .null), (.aload_n 0, 0, 0, 0, .null), (.getfield 27, 5, 11, 328, .null), (.if_icmp .ge (55), 62, 0, 0, .null), (.iload_n 2, 0, 0, 0, .null), (.iconst (5), 0, 0, 0, .int (5)), (.if_icmp .ge (50), 62, 0, 0, .null), (.aload_n 0, 0, 0, 0, .null), (.getfield 9, 0, 11, 323, .null), (.iload_n 2, 0, 0, 0, .null), (.iaload, 0, 0, 0, .null), (.iload_n 1, 0, 0, 0, .null), (.if_icmp .ne (34), 56, 0, 0, .null), (.aload_n 0, 0, 0, 0, .null), (.getfield 24, 4, 11, 327, .null), (.iload_n 2, 0, 0, 0, .null), (.iaload, 0, 0, 0, .null), (.ifCond .lt (25), 56, 0, 0, .null), (.aload_n 0, 0, 0, 0, .null), (.getfield 24, 4, 11, 327, .null), (.iload_n 2, 0, 0, 0, .null), (.iaload, 0, 0, 0, .null), (.iconst (5), 0, 0, 0, .int (5)), (.if_icmp .ge (15), 56, 0, 0, .null), (.aload_n 0, 0, 0, 0, .null), (.getfield 9, 0, 11, 323, .null), (.aload_n 0, 0, 0, 0, .null), (.getfield 24, 4, 11, 327, .null), (.iload_n 2, 0, 0, 0, .null), (.iaload, 0, 0, 0, .null), (.iaload, 0, 0, 0, .null), (.ireturn, 0, 0, 0, .null)]
def xb_Exchange_whoseFor_56 : List xv_Op := [(.iinc 2 (1), 0, 0, 0, .int (1)), (.goto (-57), 2, 0, 0, .null)]
def xb_Exchange_whoseFor_62 : List xv_Op := [(.iconst (-1), 0, 0, 0, .int (-1)), (.ireturn, 0, 0, 0, .null)]
def xl_Exchange_whoseFor : xv_B := [(0, xb_Exchange_whoseFor_0), (2, xb_Exchange_whoseFor_2), (56, xb_Exchange_whoseFor_56), (62, xb_Exchange_whoseFor_62)]
def xm_Exchange_whoseFor : xv_M := (⟨"OnionCourt$Exchange", "whoseFor", "(I)I"⟩, prog_6_method_7_code, 3, (some .int), (11, 1, 1), [], xl_Exchange_whoseFor)
def xb_Law_init_0 : List xv_Op := [(.aload_n 0, 0, 0, 0, .null), (.invokespecial 3, 0, 0, 139, .null), (.aload_n 0, 0, 0, 0, .null), (.sipush (240), 0, 0, 0, .int (240)), (.newarray .int, 0, 0, 120, .null), (.putfield 9, 0, 4, 140, .int 3), (.aload_n 0, 0, 0, 0, .null), (.sipush (240), 0, 0, 0, .int (240)), (.newarray .int, 0, 0, 120, .null), (.putfield 15, 1, 4, 141, .int 3), (.aload_n 0, 0, 0, 0, .null), (.bipush (16), 0, 0, 0, .int (16)), (.newarray .int, 0, 0, 120, .null), (.putfield 18, 2, 4, 142, .int 3), (.aload_n 0, 0, 0, 0, .null), (.bipush (16), 0, 0, 0, .int (16)), (.newarray .int, 0, 0, 120, .null), (.putfield 21, 3, 4, 143, .int 3), (.aload_n 0, 0, 0, 0, .null), (.bipush (16), 0, 0, 0, .int (16)), (.newarray .int, 0, 0, 120, .null), (.putfield 24, 4, 4, 144, .int 3), (.aload_n 0, 0, 0, 0, .null), (.bipush (16), 0, 0, 0, .int (16)), (.newarray .int, 0, 0, 120, .null), (.putfield 27, 5, 4, 145, .int 3), (.aload_n 0, 0, 0, 0, .null), (.bipush (32), 0, 0, 0, .int (32)), (.newarray .long, 1, 0, 168, .null), (.putfield 30, 6, 4, 146, .int 3), (.return_, 0, 0, 0, .null)]
def xl_Law_init : xv_B := [(0, xb_Law_init_0)]
def xm_Law_init : xv_M := (⟨"OnionCourt$Law", "<init>", "()V"⟩, prog_7_method_1_code, 1, none, (4, 2, 0), [], xl_Law_init)
def xb_Law_clear_0 : List xv_Op := [(.aload_n 0, 0, 0, 0, .null), (.iconst (0), 0, 0, 0, .int (0)), (.putfield 34, 7, 4, 147, .int 0), (.aload_n 0, 0, 0, 0, .null), (.iconst (0), 0, 0, 0, .int (0)), (.putfield 38, 8, 4, 148, .int 0), (.return_, 0, 0, 0, .null)]
def xl_Law_clear : xv_B := [(0, xb_Law_clear_0)]
def xm_Law_clear : xv_M := (⟨"OnionCourt$Law", "clear", "()V"⟩, prog_7_method_2_code, 1, none, (4, 1, 0), [], xl_Law_clear)
def xb_Law_copy_0 : List xv_Op := [(.iconst (0), 0, 0, 0, .int (0)), (.istore_n 2, 0, 0, 0, .null), (.nop, 2, 0, 0, .null)]
def xb_Law_copy_2 : List xv_Op := [(.iload_n 2, 0, 0, 0, .null), (.sipush (240), 0, 0, 0, .int (240)), (.if_icmp .ge (33), 39, 0, 0, .null), (.aload_n 0, 0, 0, 0, .null), (.getfield 9, 0, 4, 140, .null), (.iload_n 2, 0, 0, 0, .null), (.aload_n 1, 0, 0, 0, .null), (.getfield 9, 0, 4, 140, .null), (.iload_n 2, 0, 0, 0, .null), (.iaload, 0, 0, 0, .null), (.iastore, 0, 0, 0, .null), (.aload_n 0, 0, 0, 0, .null), (.getfield 15, 1, 4, 141, .null), (.iload_n 2, 0, 0, 0, .null), (.aload_n 1, 0, 0, 0, .null), (.getfield 15, 1, 4, 141, .null), (.iload_n 2, 0, 0, 0, .null), (.iaload, 0, 0, 0, .null), (.iastore, 0, 0, 0, .null), (.iinc 2 (1), 0, 0, 0, .int (1)), (.goto (-34), 2, 0, 0, .null)]
def xb_Law_copy_39 : List xv_Op := [(.iconst (0), 0, 0, 0, .int (0)), (.istore_n 2, 0, 0, 0, .null), (.nop, 41, 0, 0, .null)]
def xb_Law_copy_41 : List xv_Op := [(.iload_n 2, 0, 0, 0, .null), (.bipush (16), 0, 0, 0, .int (16)), (.if_icmp .ge (57), 101, 0, 0, .null), (.aload_n 0, 0, 0, 0, .null), (.getfield 18, 2, 4, 142, .null), (.iload_n 2, 0, 0, 0, .null), (.aload_n 1, 0, 0, 0, .null), (.getfield 18, 2, 4, 142, .null), (.iload_n 2, 0, 0, 0, .null), (.iaload, 0, 0, 0, .null), (.iastore, 0, 0, 0, .null), (.aload_n 0, 0, 0, 0, .null), (.getfield 21, 3, 4, 143, .null), (.iload_n 2, 0, 0, 0, .null), (.aload_n 1, 0, 0, 0, .null), (.getfield 21, 3, 4, 143, .null), (.iload_n 2, 0, 0, 0, .null), (.iaload, 0, 0, 0, .null), (.iastore, 0, 0, 0, .null), (.aload_n 0, 0, 0, 0, .null), (.getfield 24, 4, 4, 144, .null), (.iload_n 2, 0, 0, 0, .null), (.aload_n 1, 0, 0, 0, .null), (.getfield 24, 4, 4, 144, .null), (.iload_n 2, 0, 0, 0, .null), (.iaload, 0, 0, 0, .null), (.iastore, 0, 0, 0, .null), (.aload_n 0, 0, 0, 0, .null), (.getfield 27, 5, 4, 145, .null), (.iload_n 2, 0, 0, 0, .null), (.aload_n 1, 0, 0, 0, .null), (.getfield 27, 5, 4, 145, .null), (.iload_n 2, 0, 0, 0, .null), (.iaload, 0, 0, 0, .null), (.iastore, 0, 0, 0, .null), (.iinc 2 (1), 0, 0, 0, .int (1)), (.goto (-57), 41, 0, 0, .null)]
def xb_Law_copy_101 : List xv_Op := [(.aload_n 0, 0, 0, 0, .null), (.aload_n 1, 0, 0, 0, .null), (.getfield 34, 7, 4, 147, .null), (.putfield 34, 7, 4, 147, .int 0), (.aload_n 0, 0, 0, 0, .null), (.aload_n 1, 0, 0, 0, .null), (.getfield 38, 8, 4, 148, .null), (.putfield 38, 8, 4, 148, .int 0), (.return_, 0, 0, 0, .null)]
def xl_Law_copy : xv_B := [(0, xb_Law_copy_0), (2, xb_Law_copy_2), (39, xb_Law_copy_39), (41, xb_Law_copy_41), (101, xb_Law_copy_101)]
def xm_Law_copy : xv_M := (⟨"OnionCourt$Law", "copy", "(LOnionCourt$Law;)V"⟩, prog_7_method_3_code, 3, none, (4, 1, 1), [], xl_Law_copy)
def xb_Law_rules_0 : List xv_Op := [(.aload_n 0, 0, 0, 0, .null), (.getfield 38, 8, 4, 148, .null), (.ireturn, 0, 0, 0, .null)]
def xl_Law_rules : xv_B := [(0, xb_Law_rules_0)]
def xm_Law_rules : xv_M := (⟨"OnionCourt$Law", "rules", "()I"⟩, prog_7_method_4_code, 1, (some .int), (4, 1, 0), [], xl_Law_rules)
def xb_Law_isFull_0 : List xv_Op := [(.aload_n 0, 0, 0, 0, .null), (.getfield 38, 8, 4, 148, .null), (.bipush (16), 0, 0, 0, .int (16)), (.if_icmp .lt (7), 13, 0, 0, .null), (.iconst (1), 0, 0, 0, .int (1)), (.goto (4), 14, 0, 0, .null)]
def xb_Law_isFull_13 : List xv_Op := [(.iconst (0), 0, 0, 0, .int (0)), (.nop, 14, 0, 0, .null)]
def xb_Law_isFull_14 : List xv_Op := [(.ireturn, 0, 0, 0, .null)]
def xl_Law_isFull : xv_B := [(0, xb_Law_isFull_0), (13, xb_Law_isFull_13), (14, xb_Law_isFull_14)]
def xm_Law_isFull : xv_M := (⟨"OnionCourt$Law", "isFull", "()Z"⟩, prog_7_method_5_code, 1, (some .boolean), (4, 1, 0), [], xl_Law_isFull)
def xb_Law_size_0 : List xv_Op := [(.aload_n 0, 0, 0, 0, .null), (.getfield 34, 7, 4, 147, .null), (.ireturn, 0, 0, 0, .null)]
def xl_Law_size : xv_B := [(0, xb_Law_size_0)]
def xm_Law_size : xv_M := (⟨"OnionCourt$Law", "size", "()I"⟩, prog_7_method_6_code, 1, (some .int), (4, 1, 0), [], xl_Law_size)
def xb_Law_add_0 : List xv_Op := [(.aload_n 0, 0, 0, 0, .null), (.getfield 34, 7, 4, 147, .null), (.ifCond .lt (43), 47, 0, 0, .null), (.aload_n 0, 0, 0, 0, .null), (.getfield 34, 7, 4, 147, .null), (.sipush (240), 0, 0, 0, .int (240)), (.if_icmp .ge (33), 47, 0, 0, .null), (.aload_n 0, 0, 0, 0, .null), (.getfield 9, 0, 4, 140, .null), (.aload_n 0, 0, 0, 0, .null), (.getfield 34, 7, 4, 147, .null), (.iload_n 1, 0, 0, 0, .null), (.iastore, 0, 0, 0, .null), (.aload_n 0, 0, 0, 0, .null), (.getfield 15, 1, 4, 141, .null), (.aload_n 0, 0, 0, 0, .null), (.getfield 34, 7, 4, 147, .null), (.iload_n 2, 0, 0, 0, .null), (.iastore, 0, 0, 0, .null), (.aload_n 0, 0, 0, 0, .null), (.dup, 0, 0, 0, .null), (.getfield 34, 7, 4, 147, .null), (.iconst (1), 0, 0, 0, .int (1)), (.iadd, 0, 0, 0, .null), (.putfield 34, 7, 4, 147, .int 0), (.nop, 47, 0, 0, .null)]
def xb_Law_add_47 : List xv_Op := [(.return_, 0, 0, 0, .null)]
def xl_Law_add : xv_B := [(0, xb_Law_add_0), (47, xb_Law_add_47)]
def xm_Law_add : xv_M := (⟨"OnionCourt$Law", "add", "(II)V"⟩, prog_7_method_7_code, 3, none, (4, 1, 2), [], xl_Law_add)
def xb_Law_addRule_0 : List xv_Op := [(.aload_n 0, 0, 0, 0, .null), (.getfield 38, 8, 4, 148, .null), (.ifCond .lt (65), 69, 0, 0, .null), (.aload_n 0, 0, 0, 0, .null), (.getfield 38, 8, 4, 148, .null), (.bipush (16), 0, 0, 0, .int (16)), (.if_icmp .ge (56), 69, 0, 0, .null), (.aload_n 0, 0, 0, 0, .null), (.getfield 18, 2, 4, 142, .null), (.aload_n 0, 0, 0, 0, .null), (.getfield 38, 8, 4, 148, .null), (.iload_n 1, 0, 0, 0, .null), (.iastore, 0, 0, 0, .null), (.aload_n 0, 0, 0, 0, .null), (.getfield 21, 3, 4, 143, .null), (.aload_n 0, 0, 0, 0, .null), (.getfield 38, 8, 4, 148, .null), (.iload_n 2, 0, 0, 0, .null), (.iastore, 0, 0, 0, .null), (.aload_n 0, 0, 0, 0, .null), (.getfield 24, 4, 4, 144, .null), (.aload_n 0, 0, 0, 0, .null), (.getfield 38, 8, 4, 148, .null), (.iload_n 3, 0, 0, 0, .null), (.iastore, 0, 0, 0, .null), (.aload_n 0, 0, 0, 0, .null), (.getfield 27, 5, 4, 145, .null), (.aload_n 0, 0, 0, 0, .null), (.getfield 38, 8, 4, 148, .null), (.aload_n 0, 0, 0, 0, .null), (.getfield 34, 7, 4, 147, .null), (.iastore, 0, 0, 0, .null), (.aload_n 0, 0, 0, 0, .null), (.dup, 0, 0, 0, .null), (.getfield 38, 8, 4, 148, .null), (.iconst (1), 0, 0, 0, .int (1)), (.iadd, 0, 0, 0, .null), (.putfield 38, 8, 4, 148, .int 0), (.nop, 69, 0, 0, .null)]
def xb_Law_addRule_69 : List xv_Op := [(.return_, 0, 0, 0, .null)]
def xl_Law_addRule : xv_B := [(0, xb_Law_addRule_0), (69, xb_Law_addRule_69)]
def xm_Law_addRule : xv_M := (⟨"OnionCourt$Law", "addRule", "(III)V"⟩, prog_7_method_8_code, 4, none, (4, 1, 3), [], xl_Law_addRule)
def xb_Law_isKind_0 : List xv_Op := [(.iload_n 0, 0, 0, 0, .null), (.bipush (108), 0, 0, 0, .int (108)), (.if_icmp .eq (27), 30, 0, 0, .null), (.iload_n 0, 0, 0, 0, .null), (.bipush (99), 0, 0, 0, .int (99)), (.if_icmp .eq (21), 30, 0, 0, .null), (.iload_n 0, 0, 0, 0, .null), (.bipush (103), 0, 0, 0, .int (103)), (.if_icmp .eq (15), 30, 0, 0, .null), (.iload_n 0, 0, 0, 0, .null), (.bipush (121), 0, 0, 0, .int (121)), (.if_icmp .eq (9), 30, 0, 0, .null), (.iload_n 0, 0, 0, 0, .null), (.bipush (98), 0, 0, 0, .int (98)), (.if_icmp .ne (7), 34, 0, 0, .null), (.nop, 30, 0, 0, .null)]
def xb_Law_isKind_30 : List xv_Op := [(.iconst (1), 0, 0, 0, .int (1)), (.goto (4), 35, 0, 0, .null)]
def xb_Law_isKind_34 : List xv_Op := [(.iconst (0), 0, 0, 0, .int (0)), (.nop, 35, 0, 0, .null)]
def xb_Law_isKind_35 : List xv_Op := [(.ireturn, 0, 0, 0, .null)]
def xl_Law_isKind : xv_B := [(0, xb_Law_isKind_0), (30, xb_Law_isKind_30), (34, xb_Law_isKind_34), (35, xb_Law_isKind_35)]
def xm_Law_isKind : xv_M := (⟨"OnionCourt$Law", "isKind", "(I)Z"⟩, prog_7_method_9_code, 1, (some .boolean), (4, 0, 1), [], xl_Law_isKind)
def xb_Law_ask_0 : List xv_Op := [(.iload_n 1, 0, 0, 0, .null), (.bipush (103), 0, 0, 0, .int (103)), (.if_icmp .eq (9), 12, 0, 0, .null), (.iload_n 1, 0, 0, 0, .null), (.bipush (121), 0, 0, 0, .int (121)), (.if_icmp .ne (8), 17, 0, 0, .null), (.nop, 12, 0, 0, .null)]
def xb_Law_ask_12 : List xv_Op := [(.bipush (20), 0, 0, 0, .int (20)), (.goto (5), 19, 0, 0, .null)]
def xb_Law_ask_17 : List xv_Op := [(.bipush (10), 0, 0, 0, .int (10)), (.nop, 19, 0, 0, .null)]
def xb_Law_ask_19 : List xv_Op := [(.istore_n 3, 0, 0, 0, .null), (.iconst (0), 0, 0, 0, .int (0)), (.istore 4, 0, 0, 0, .null), (.nop, 23, 0, 0, .null)]
def xb_Law_ask_23 : List xv_Op := [(.iload 4, 0, 0, 0, .null), (.aload_n 0, 0, 0, 0, .null), (.getfield 38, 8, 4, 148, .null), (.if_icmp .ge (98), 127, 0, 0, .null), (.iload 4, 0, 0, 0, .null), (.bipush (16), 0, 0, 0, .int (16)), (.if_icmp .ge (91), 127, 0, 0, .null), (.aload_n 0, 0, 0, 0, .null), (.getfield 18, 2, 4, 142, .null), (.iload 4, 0, 0, 0, .null), (.iaload, 0, 0, 0, .null), (.iload_n 1, 0, 0, 0, .null), (.if_icmp .ne (74), 121, 0, 0, .null), (.aload_n 0, 0, 0, 0, .null), (.aload_n 0, 0, 0, 0, .null), (.getfield 24, 4, 4, 144, .null), (.iload 4, 0, 0, 0, .null), (.iaload, 0, 0, 0, .null), (.aload_n 0, 0, 0, 0, .null), (.getfield 27, 5, 4, 145, .null), (.iload 4, 0, 0, 0, .null), (.iaload, 0, 0, 0, .null), (.aload_n 2, 0, 0, 0, .null), (.invokevirtual 41, 211, 3, 737, .int 4), (.lconst 1, 0, 0, 0, .long 1), (.lcmp, 0, 0, 0, .null), (.ifCond .ne (50), 121, 0, 0, .null), (.aload_n 0, 0, 0, 0, .null), (.aload_n 0, 0, 0, 0, .null), (.getfield 21, 3, 4, 143, .null), (.iload 4, 0, 0, 0, .null), (.iaload, 0, 0, 0, .null), (.aload_n 0, 0, 0, 0, .null), (.getfield 24, 4, 4, 144, .null), (.iload 4, 0, 0, 0, .null), (.iaload, 0, 0, 0, .null), (.aload_n 2, 0, 0, 0, .null), (.invokevirtual 41, 211, 3, 737, .int 4), (.lstore 5, 0, 0, 0, .null), (.lload 5, 0, 0, 0, .null), (.ldc2_w 45, 0, 0, 747, .long (1099511627776)), (.lcmp, 0, 0, 0, .null), (.ifCond .ne (7), 108, 0, 0, .null), (.iconst (0), 0, 0, 0, .int (0)), (.goto (15), 120, 0, 0, .null)]
def xb_Law_ask_108 : List xv_Op := [(.lconst 0, 0, 0, 0, .long 0), (.iload_n 3, 0, 0, 0, .null), (.i2l, 0, 0, 0, .null), (.lload 5, 0, 0, 0, .null), (.invokestatic 47, 5, 0, 751, .null), (.invokestatic 53, 3, 0, 754, .null), (.l2i, 0, 0, 0, .null), (.nop, 120, 0, 0, .null)]
def xb_Law_ask_120 : List xv_Op := [(.ireturn, 0, 0, 0, .null)]
def xb_Law_ask_121 : List xv_Op := [(.iinc 4 (1), 0, 0, 0, .int (1)), (.goto (-101), 23, 0, 0, .null)]
def xb_Law_ask_127 : List xv_Op := [(.iconst (0), 0, 0, 0, .int (0)), (.ireturn, 0, 0, 0, .null)]
def xl_Law_ask : xv_B := [(0, xb_Law_ask_0), (12, xb_Law_ask_12), (17, xb_Law_ask_17), (19, xb_Law_ask_19), (23, xb_Law_ask_23), (108, xb_Law_ask_108), (120, xb_Law_ask_120), (121, xb_Law_ask_121), (127, xb_Law_ask_127)]
def xm_Law_ask : xv_M := (⟨"OnionCourt$Law", "ask", "(ILOnionCourt$Case;)I"⟩, prog_7_method_10_code, 7, (some .int), (4, 1, 2), [5], xl_Law_ask)
def xb_Law_run_0 : List xv_Op := [(.iconst (0), 0, 0, 0, .int (0)), (.istore 4, 0, 0, 0, .null), (.iconst (0), 0, 0, 0, .int (0)), (.iload_n 1, 0, 0, 0, .null), (.invokestatic 56, 2, 0, 741, .null), (.istore 5, 0, 0, 0, .null), (.nop, 10, 0, 0, .null)]
def xb_Law_run_10 : List xv_Op := [(.iload 5, 0, 0, 0, .null), (.iload_n 2, 0, 0, 0, .null), (.if_icmp .ge (185), 198, 0, 0, .null), (.iload 5, 0, 0, 0, .null), (.sipush (240), 0, 0, 0, .int (240)), (.if_icmp .ge (177), 198, 0, 0, .null), (.aload_n 0, 0, 0, 0, .null), (.getfield 9, 0, 4, 140, .null), (.iload 5, 0, 0, 0, .null), (.iaload, 0, 0, 0, .null), (.istore 6, 0, 0, 0, .null), (.iload 6, 0, 0, 0, .null), (.bipush (48), 0, 0, 0, .int (48)), (.if_icmp .eq (11), 48, 0, 0, .null), (.iload 6, 0, 0, 0, .null), (.invokestatic 59, 192, 1, 742, .int 0), (.ifCond .eq (48), 93, 0, 0, .null), (.nop, 48, 0, 0, .null)]
def xb_Law_run_48 : List xv_Op := [(.iload 4, 0, 0, 0, .null), (.bipush (32), 0, 0, 0, .int (32)), (.if_icmp .ge (140), 192, 0, 0, .null), (.aload_n 0, 0, 0, 0, .null), (.getfield 30, 6, 4, 146, .null), (.iload 4, 0, 0, 0, .null), (.iload 6, 0, 0, 0, .null), (.bipush (48), 0, 0, 0, .int (48)), (.if_icmp .ne (14), 79, 0, 0, .null), (.aload_n 0, 0, 0, 0, .null), (.getfield 15, 1, 4, 141, .null), (.iload 5, 0, 0, 0, .null), (.iaload, 0, 0, 0, .null), (.i2l, 0, 0, 0, .null), (.goto (10), 86, 0, 0, .null)]
def xb_Law_run_79 : List xv_Op := [(.aload_n 3, 0, 0, 0, .null), (.iload 6, 0, 0, 0, .null), (.invokevirtual 65, 193, 1, 743, .int 5), (.i2l, 0, 0, 0, .null), (.nop, 86, 0, 0, .null)]
def xb_Law_run_86 : List xv_Op := [(.lastore, 0, 0, 0, .null), (.iinc 4 (1), 0, 0, 0, .int (1)), (.goto (102), 192, 0, 0, .null)]
def xb_Law_run_93 : List xv_Op := [(.iload 6, 0, 0, 0, .null), (.bipush (33), 0, 0, 0, .int (33)), (.if_icmp .ne (54), 151, 0, 0, .null), (.iload 4, 0, 0, 0, .null), (.iconst (1), 0, 0, 0, .int (1)), (.if_icmp .lt (48), 151, 0, 0, .null), (.aload_n 0, 0, 0, 0, .null), (.getfield 30, 6, 4, 146, .null), (.iload 4, 0, 0, 0, .null), (.iconst (1), 0, 0, 0, .int (1)), (.isub, 0, 0, 0, .null), (.aload_n 0, 0, 0, 0, .null), (.getfield 30, 6, 4, 146, .null), (.iload 4, 0, 0, 0, .null), (.iconst (1), 0, 0, 0, .int (1)), (.isub, 0, 0, 0, .null), (.laload, 0, 0, 0, .null), (.ldc2_w 45, 0, 0, 747, .long (1099511627776)), (.lcmp, 0, 0, 0, .null), (.ifCond .ne (9), 136, 0, 0, .null), (.ldc2_w 45, 0, 0, 747, .long (1099511627776)), (.goto (14), 147, 0, 0, .null)]
def xb_Law_run_136 : List xv_Op := [(.lconst 1, 0, 0, 0, .long 1), (.aload_n 0, 0, 0, 0, .null), (.getfield 30, 6, 4, 146, .null), (.iload 4, 0, 0, 0, .null), (.iconst (1), 0, 0, 0, .int (1)), (.isub, 0, 0, 0, .null), (.laload, 0, 0, 0, .null), (.lsub, 0, 0, 0, .null), (.nop, 147, 0, 0, .null)]
def xb_Law_run_147 : List xv_Op := [(.lastore, 0, 0, 0, .null), (.goto (44), 192, 0, 0, .null)]
def xb_Law_run_151 : List xv_Op := [(.iload 4, 0, 0, 0, .null), (.iconst (2), 0, 0, 0, .int (2)), (.if_icmp .lt (38), 192, 0, 0, .null), (.aload_n 0, 0, 0, 0, .null), (.getfield 30, 6, 4, 146, .null), (.iload 4, 0, 0, 0, .null), (.iconst (2), 0, 0, 0, .int (2)), (.isub, 0, 0, 0, .null), (.iload 6, 0, 0, 0, .null), (.aload_n 0, 0, 0, 0, .null), (.getfield 30, 6, 4, 146, .null), (.iload 4, 0, 0, 0, .null), (.iconst (2), 0, 0, 0, .int (2)), (.isub, 0, 0, 0, .null), (.laload, 0, 0, 0, .null), (.aload_n 0, 0, 0, 0, .null), (.getfield 30, 6, 4, 146, .null), (.iload 4, 0, 0, 0, .null), (.iconst (1), 0, 0, 0, .int (1)), (.isub, 0, 0, 0, .null), (.laload, 0, 0, 0, .null), (.invokestatic 69, 212, 3, 748, .int 0), (.lastore, 0, 0, 0, .null), (.iinc 4 (-1), 0, 0, 0, .int (-1)), (.nop, 192, 0, 0, .null)]
def xb_Law_run_192 : List xv_Op := [(.iinc 5 (1), 0, 0, 0, .int (1)), (.goto (-185), 10, 0, 0, .null)]
def xb_Law_run_198 : List xv_Op := [(.iload 4, 0, 0, 0, .null), (.ifCond .le (15), 215, 0, 0, .null), (.aload_n 0, 0, 0, 0, .null), (.getfield 30, 6, 4, 146, .null), (.iload 4, 0, 0, 0, .null), (.iconst (1), 0, 0, 0, .int (1)), (.isub, 0, 0, 0, .null), (.laload, 0, 0, 0, .null), (.goto (6), 218, 0, 0, .null)]
def xb_Law_run_215 : List xv_Op := [(.ldc2_w 45, 0, 0, 747, .long (1099511627776)), (.nop, 218, 0, 0, .null)]
def xb_Law_run_218 : List xv_Op := [(.lreturn, 0, 0, 0, .null)]
def xl_Law_run : xv_B := [(0, xb_Law_run_0), (10, xb_Law_run_10), (48, xb_Law_run_48), (79, xb_Law_run_79), (86, xb_Law_run_86), (93, xb_Law_run_93), (136, xb_Law_run_136), (147, xb_Law_run_147), (151, xb_Law_run_151), (192, xb_Law_run_192), (198, xb_Law_run_198), (215, xb_Law_run_215), (218, xb_Law_run_218)]
def xm_Law_run : xv_M := (⟨"OnionCourt$Law", "run", "(IILOnionCourt$Case;)J"⟩, prog_7_method_11_code, 7, (some .long), (4, 1, 3), [], xl_Law_run)
def xb_Law_join_0 : List xv_Op := [(.lload_n 1, 0, 0, 0, .null), (.ldc2_w 45, 0, 0, 747, .long (1099511627776)), (.lcmp, 0, 0, 0, .null), (.ifCond .ne (7), 12, 0, 0, .null), (.ldc2_w 45, 0, 0, 747, .long (1099511627776)), (.lreturn, 0, 0, 0, .null)]
def xb_Law_join_12 : List xv_Op := [(.iload_n 0, 0, 0, 0, .null), (.bipush (38), 0, 0, 0, .int (38)), (.if_icmp .ne (15), 30, 0, 0, .null), (.lload_n 1, 0, 0, 0, .null), (.lconst 0, 0, 0, 0, .long 0), (.lcmp, 0, 0, 0, .null), (.ifCond .ne (7), 28, 0, 0, .null), (.lconst 0, 0, 0, 0, .long 0), (.goto (4), 29, 0, 0, .null)]
def xb_Law_join_28 : List xv_Op := [(.lload_n 3, 0, 0, 0, .null), (.nop, 29, 0, 0, .null)]
def xb_Law_join_29 : List xv_Op := [(.lreturn, 0, 0, 0, .null)]
def xb_Law_join_30 : List xv_Op := [(.iload_n 0, 0, 0, 0, .null), (.bipush (124), 0, 0, 0, .int (124)), (.if_icmp .ne (15), 48, 0, 0, .null), (.lload_n 1, 0, 0, 0, .null), (.lconst 1, 0, 0, 0, .long 1), (.lcmp, 0, 0, 0, .null), (.ifCond .ne (7), 46, 0, 0, .null), (.lconst 1, 0, 0, 0, .long 1), (.goto (4), 47, 0, 0, .null)]
def xb_Law_join_46 : List xv_Op := [(.lload_n 3, 0, 0, 0, .null), (.nop, 47, 0, 0, .null)]
def xb_Law_join_47 : List xv_Op := [(.lreturn, 0, 0, 0, .null)]
def xb_Law_join_48 : List xv_Op := [(.lload_n 3, 0, 0, 0, .null), (.ldc2_w 45, 0, 0, 747, .long (1099511627776)), (.lcmp, 0, 0, 0, .null), (.ifCond .ne (7), 60, 0, 0, .null), (.ldc2_w 45, 0, 0, 747, .long (1099511627776)), (.lreturn, 0, 0, 0, .null)]
def xb_Law_join_60 : List xv_Op := [(.lload_n 1, 0, 0, 0, .null), (.l2i, 0, 0, 0, .null), (.istore 5, 0, 0, 0, .null), (.lload_n 3, 0, 0, 0, .null), (.l2i, 0, 0, 0, .null), (.istore 6, 0, 0, 0, .null), (.iload_n 0, 0, 0, 0, .null), (.tableswitch (215) (37) (62) #[158, 215, 215, 215, 215, 133, 119, 215, 126, 215, 140, 215, 215, 215, 215, 215, 215, 215, 215, 215, 215, 215, 215, 176, 202, 189], 69, 0, 0, .null)]
def xb_Law_join_188 : List xv_Op := [(.iload 5, 0, 0, 0, .null), (.iload 6, 0, 0, 0, .null), (.iadd, 0, 0, 0, .null), (.i2l, 0, 0, 0, .null), (.lreturn, 0, 0, 0, .null)]
def xb_Law_join_195 : List xv_Op := [(.iload 5, 0, 0, 0, .null), (.iload 6, 0, 0, 0, .null), (.isub, 0, 0, 0, .null), (.i2l, 0, 0, 0, .null), (.lreturn, 0, 0, 0, .null)]
def xb_Law_join_202 : List xv_Op := [(.iload 5, 0, 0, 0, .null), (.iload 6, 0, 0, 0, .null), (.imul, 0, 0, 0, .null), (.i2l, 0, 0, 0, .null), (.lreturn, 0, 0, 0, .null)]
def xb_Law_join_209 : List xv_Op := [(.iload 6, 0, 0, 0, .null), (.ifCond .ne (9), 220, 0, 0, .null), (.ldc2_w 45, 0, 0, 747, .long (1099511627776)), (.goto (9), 226, 0, 0, .null)]
def xb_Law_join_220 : List xv_Op := [(.iload 5, 0, 0, 0, .null), (.iload 6, 0, 0, 0, .null), (.idiv, 0, 0, 0, .null), (.i2l, 0, 0, 0, .null), (.nop, 226, 0, 0, .null)]
def xb_Law_join_226 : List xv_Op := [(.lreturn, 0, 0, 0, .null)]
def xb_Law_join_227 : List xv_Op := [(.iload 6, 0, 0, 0, .null), (.ifCond .ne (9), 238, 0, 0, .null), (.ldc2_w 45, 0, 0, 747, .long (1099511627776)), (.goto (9), 244, 0, 0, .null)]
def xb_Law_join_238 : List xv_Op := [(.iload 5, 0, 0, 0, .null), (.iload 6, 0, 0, 0, .null), (.irem, 0, 0, 0, .null), (.i2l, 0, 0, 0, .null), (.nop, 244, 0, 0, .null)]
def xb_Law_join_244 : List xv_Op := [(.lreturn, 0, 0, 0, .null)]
def xb_Law_join_245 : List xv_Op := [(.iload 5, 0, 0, 0, .null), (.iload 6, 0, 0, 0, .null), (.if_icmp .ge (7), 256, 0, 0, .null), (.lconst 1, 0, 0, 0, .long 1), (.goto (4), 257, 0, 0, .null)]
def xb_Law_join_256 : List xv_Op := [(.lconst 0, 0, 0, 0, .long 0), (.nop, 257, 0, 0, .null)]
def xb_Law_join_257 : List xv_Op := [(.lreturn, 0, 0, 0, .null)]
def xb_Law_join_258 : List xv_Op := [(.iload 5, 0, 0, 0, .null), (.iload 6, 0, 0, 0, .null), (.if_icmp .le (7), 269, 0, 0, .null), (.lconst 1, 0, 0, 0, .long 1), (.goto (4), 270, 0, 0, .null)]
def xb_Law_join_269 : List xv_Op := [(.lconst 0, 0, 0, 0, .long 0), (.nop, 270, 0, 0, .null)]
def xb_Law_join_270 : List xv_Op := [(.lreturn, 0, 0, 0, .null)]
def xb_Law_join_271 : List xv_Op := [(.iload 5, 0, 0, 0, .null), (.iload 6, 0, 0, 0, .null), (.if_icmp .ne (7), 282, 0, 0, .null), (.lconst 1, 0, 0, 0, .long 1), (.goto (4), 283, 0, 0, .null)]
def xb_Law_join_282 : List xv_Op := [(.lconst 0, 0, 0, 0, .long 0), (.nop, 283, 0, 0, .null)]
def xb_Law_join_283 : List xv_Op := [(.lreturn, 0, 0, 0, .null)]
def xb_Law_join_284 : List xv_Op := [(.ldc2_w 45, 0, 0, 747, .long (1099511627776)), (.lreturn, 0, 0, 0, .null)]
def xl_Law_join : xv_B := [(0, xb_Law_join_0), (12, xb_Law_join_12), (28, xb_Law_join_28), (29, xb_Law_join_29), (30, xb_Law_join_30), (46, xb_Law_join_46), (47, xb_Law_join_47), (48, xb_Law_join_48), (60, xb_Law_join_60), (188, xb_Law_join_188), (195, xb_Law_join_195), (202, xb_Law_join_202), (209, xb_Law_join_209), (220, xb_Law_join_220), (226, xb_Law_join_226), (227, xb_Law_join_227), (238, xb_Law_join_238), (244, xb_Law_join_244), (245, xb_Law_join_245), (256, xb_Law_join_256), (257, xb_Law_join_257), (258, xb_Law_join_258), (269, xb_Law_join_269), (270, xb_Law_join_270), (271, xb_Law_join_271), (282, xb_Law_join_282), (283, xb_Law_join_283), (284, xb_Law_join_284)]
def xm_Law_join : xv_M := (⟨"OnionCourt$Law", "join", "(IJJ)J"⟩, prog_7_method_12_code, 7, (some .long), (4, 0, 3), [1, 3], xl_Law_join)
def xb_LawReader_read_0 : List xv_Op := [(.aload_n 1, 0, 0, 0, .null), (.invokevirtual 9, 202, 0, 435, .int 4), (.iconst (1), 0, 0, 0, .int (1)), (.istore_n 2, 0, 0, 0, .null), (.iconst (0), 0, 0, 0, .int (0)), (.istore_n 3, 0, 0, 0, .null), (.nop, 8, 0, 0, .null)]
def xb_LawReader_read_8 : List xv_Op := [(.iload_n 3, 0, 0, 0, .null), (.bipush (16), 0, 0, 0, .int (16)), (.if_icmp .gt (112), 123, 0, 0, .null), (.iload_n 2, 0, 0, 0, .null), (.ifCond .eq (108), 123, 0, 0, .null), (.aload_n 0, 0, 0, 0, .null), (.invokevirtual 14, 251, 0, 439, .int 2), (.istore 4, 0, 0, 0, .null), (.iload 4, 0, 0, 0, .null), (.invokestatic 20, 209, 1, 443, .int 0), (.ifCond .ne (15), 44, 0, 0, .null), (.aload_n 0, 0, 0, 0, .null), (.iconst (1), 0, 0, 0, .int (1)), (.aload_n 0, 0, 0, 0, .null), (.invokevirtual 24, 250, 0, 446, .int 2), (.invokevirtual 27, 257, 2, 450, .int 2), (.goto (19), 60, 0, 0, .null)]
def xb_LawReader_read_44 : List xv_Op := [(.aload_n 1, 0, 0, 0, .null), (.invokevirtual 31, 205, 0, 454, .int 4), (.ifCond .eq (12), 60, 0, 0, .null), (.aload_n 0, 0, 0, 0, .null), (.iconst (4), 0, 0, 0, .int (4)), (.aload_n 0, 0, 0, 0, .null), (.invokevirtual 24, 250, 0, 446, .int 2), (.invokevirtual 27, 257, 2, 450, .int 2), (.nop, 60, 0, 0, .null)]
def xb_LawReader_read_60 : List xv_Op := [(.aload_n 0, 0, 0, 0, .null), (.invokevirtual 35, 253, 0, 458, .int 2), (.aload_n 1, 0, 0, 0, .null), (.invokevirtual 38, 206, 0, 462, .int 4), (.istore 5, 0, 0, 0, .null), (.aload_n 0, 0, 0, 0, .null), (.aload_n 1, 0, 0, 0, .null), (.iconst (0), 0, 0, 0, .int (0)), (.invokestatic 41, 217, 3, 466, .int 0), (.aload_n 1, 0, 0, 0, .null), (.invokevirtual 38, 206, 0, 462, .int 4), (.istore 6, 0, 0, 0, .null), (.aload_n 0, 0, 0, 0, .null), (.bipush (40), 0, 0, 0, .int (40)), (.invokevirtual 47, 255, 1, 478, .int 2), (.aload_n 0, 0, 0, 0, .null), (.aload_n 1, 0, 0, 0, .null), (.iconst (1), 0, 0, 0, .int (1)), (.invokestatic 51, 214, 3, 503, .int 0), (.aload_n 0, 0, 0, 0, .null), (.bipush (41), 0, 0, 0, .int (41)), (.invokevirtual 47, 255, 1, 478, .int 2), (.aload_n 1, 0, 0, 0, .null), (.iload 4, 0, 0, 0, .null), (.iload 5, 0, 0, 0, .null), (.iload 6, 0, 0, 0, .null), (.invokevirtual 54, 208, 3, 513, .int 4), (.aload_n 0, 0, 0, 0, .null), (.bipush (59), 0, 0, 0, .int (59)), (.invokevirtual 58, 254, 1, 512, .int 2), (.istore_n 2, 0, 0, 0, .null), (.iinc 3 (1), 0, 0, 0, .int (1)), (.goto (-112), 8, 0, 0, .null)]
def xb_LawReader_read_123 : List xv_Op := [(.aload_n 0, 0, 0, 0, .null), (.invokevirtual 61, 256, 0, 517, .int 2), (.return_, 0, 0, 0, .null)]
def xl_LawReader_read : xv_B := [(0, xb_LawReader_read_0), (8, xb_LawReader_read_8), (44, xb_LawReader_read_44), (60, xb_LawReader_read_60), (123, xb_LawReader_read_123)]
def xm_LawReader_read : xv_M := (⟨"OnionCourt$LawReader", "read", "(LOnionCourt$Tape;LOnionCourt$Law;)V"⟩, prog_8_method_2_code, 7, none, (99, 0, 2), [], xl_LawReader_read)
def xb_LawReader_parts_0 : List xv_Op := [(.aload_n 0, 0, 0, 0, .null), (.aload_n 1, 0, 0, 0, .null), (.iload_n 2, 0, 0, 0, .null), (.invokestatic 64, 215, 3, 506, .int 0), (.iconst (0), 0, 0, 0, .int (0)), (.istore_n 3, 0, 0, 0, .null), (.nop, 8, 0, 0, .null)]
def xb_LawReader_parts_8 : List xv_Op := [(.iload_n 3, 0, 0, 0, .null), (.sipush (240), 0, 0, 0, .int (240)), (.if_icmp .ge (31), 43, 0, 0, .null), (.aload_n 0, 0, 0, 0, .null), (.bipush (124), 0, 0, 0, .int (124)), (.invokevirtual 58, 254, 1, 512, .int 2), (.ifCond .eq (22), 43, 0, 0, .null), (.aload_n 0, 0, 0, 0, .null), (.aload_n 1, 0, 0, 0, .null), (.iload_n 2, 0, 0, 0, .null), (.invokestatic 64, 215, 3, 506, .int 0), (.aload_n 1, 0, 0, 0, .null), (.bipush (124), 0, 0, 0, .int (124)), (.iconst (0), 0, 0, 0, .int (0)), (.invokevirtual 67, 207, 2, 492, .int 4), (.iinc 3 (1), 0, 0, 0, .int (1)), (.goto (-32), 8, 0, 0, .null)]
def xb_LawReader_parts_43 : List xv_Op := [(.return_, 0, 0, 0, .null)]
def xl_LawReader_parts : xv_B := [(0, xb_LawReader_parts_0), (8, xb_LawReader_parts_8), (43, xb_LawReader_parts_43)]
def xm_LawReader_parts : xv_M := (⟨"OnionCourt$LawReader", "parts", "(LOnionCourt$Tape;LOnionCourt$Law;I)V"⟩, prog_8_method_3_code, 4, none, (99, 0, 3), [], xl_LawReader_parts)
def xb_LawReader_tests_0 : List xv_Op := [(.aload_n 0, 0, 0, 0, .null), (.aload_n 1, 0, 0, 0, .null), (.iload_n 2, 0, 0, 0, .null), (.invokestatic 70, 216, 3, 509, .int 0), (.iconst (0), 0, 0, 0, .int (0)), (.istore_n 3, 0, 0, 0, .null), (.nop, 8, 0, 0, .null)]
def xb_LawReader_tests_8 : List xv_Op := [(.iload_n 3, 0, 0, 0, .null), (.sipush (240), 0, 0, 0, .int (240)), (.if_icmp .ge (31), 43, 0, 0, .null), (.aload_n 0, 0, 0, 0, .null), (.bipush (38), 0, 0, 0, .int (38)), (.invokevirtual 58, 254, 1, 512, .int 2), (.ifCond .eq (22), 43, 0, 0, .null), (.aload_n 0, 0, 0, 0, .null), (.aload_n 1, 0, 0, 0, .null), (.iload_n 2, 0, 0, 0, .null), (.invokestatic 70, 216, 3, 509, .int 0), (.aload_n 1, 0, 0, 0, .null), (.bipush (38), 0, 0, 0, .int (38)), (.iconst (0), 0, 0, 0, .int (0)), (.invokevirtual 67, 207, 2, 492, .int 4), (.iinc 3 (1), 0, 0, 0, .int (1)), (.goto (-32), 8, 0, 0, .null)]
def xb_LawReader_tests_43 : List xv_Op := [(.return_, 0, 0, 0, .null)]
def xl_LawReader_tests : xv_B := [(0, xb_LawReader_tests_0), (8, xb_LawReader_tests_8), (43, xb_LawReader_tests_43)]
def xm_LawReader_tests : xv_M := (⟨"OnionCourt$LawReader", "tests", "(LOnionCourt$Tape;LOnionCourt$Law;I)V"⟩, prog_8_method_4_code, 4, none, (99, 0, 3), [], xl_LawReader_tests)
def xb_LawReader_test_0 : List xv_Op := [(.aload_n 0, 0, 0, 0, .null), (.invokevirtual 14, 251, 0, 439, .int 2), (.istore_n 3, 0, 0, 0, .null), (.iload_n 3, 0, 0, 0, .null), (.bipush (33), 0, 0, 0, .int (33)), (.if_icmp .eq (71), 79, 0, 0, .null), (.iload_n 3, 0, 0, 0, .null), (.bipush (40), 0, 0, 0, .int (40)), (.if_icmp .eq (65), 79, 0, 0, .null), (.aload_n 0, 0, 0, 0, .null), (.aload_n 1, 0, 0, 0, .null), (.iload_n 2, 0, 0, 0, .null), (.invokestatic 41, 217, 3, 466, .int 0), (.aload_n 0, 0, 0, 0, .null), (.invokevirtual 14, 251, 0, 439, .int 2), (.istore 4, 0, 0, 0, .null), (.iload 4, 0, 0, 0, .null), (.bipush (60), 0, 0, 0, .int (60)), (.if_icmp .eq (26), 59, 0, 0, .null), (.iload 4, 0, 0, 0, .null), (.bipush (62), 0, 0, 0, .int (62)), (.if_icmp .eq (19), 59, 0, 0, .null), (.iload 4, 0, 0, 0, .null), (.bipush (61), 0, 0, 0, .int (61)), (.if_icmp .eq (12), 59, 0, 0, .null), (.aload_n 0, 0, 0, 0, .null), (.iconst (1), 0, 0, 0, .int (1)), (.aload_n 0, 0, 0, 0, .null), (.invokevirtual 24, 250, 0, 446, .int 2), (.invokevirtual 27, 257, 2, 450, .int 2), (.nop, 59, 0, 0, .null)]
def xb_LawReader_test_59 : List xv_Op := [(.aload_n 0, 0, 0, 0, .null), (.invokevirtual 35, 253, 0, 458, .int 2), (.aload_n 0, 0, 0, 0, .null), (.aload_n 1, 0, 0, 0, .null), (.iload_n 2, 0, 0, 0, .null), (.invokestatic 41, 217, 3, 466, .int 0), (.aload_n 1, 0, 0, 0, .null), (.iload 4, 0, 0, 0, .null), (.iconst (0), 0, 0, 0, .int (0)), (.invokevirtual 67, 207, 2, 492, .int 4), (.goto (53), 129, 0, 0, .null)]
def xb_LawReader_test_79 : List xv_Op := [(.aload_n 0, 0, 0, 0, .null), (.iload_n 2, 0, 0, 0, .null), (.invokestatic 73, 221, 2, 475, .int 0), (.ifCond .eq (45), 129, 0, 0, .null), (.aload_n 0, 0, 0, 0, .null), (.invokevirtual 35, 253, 0, 458, .int 2), (.iload_n 3, 0, 0, 0, .null), (.bipush (33), 0, 0, 0, .int (33)), (.if_icmp .ne (21), 115, 0, 0, .null), (.aload_n 0, 0, 0, 0, .null), (.aload_n 1, 0, 0, 0, .null), (.iload_n 2, 0, 0, 0, .null), (.iconst (1), 0, 0, 0, .int (1)), (.iadd, 0, 0, 0, .null), (.invokestatic 70, 216, 3, 509, .int 0), (.aload_n 1, 0, 0, 0, .null), (.bipush (33), 0, 0, 0, .int (33)), (.iconst (0), 0, 0, 0, .int (0)), (.invokevirtual 67, 207, 2, 492, .int 4), (.goto (17), 129, 0, 0, .null)]
def xb_LawReader_test_115 : List xv_Op := [(.aload_n 0, 0, 0, 0, .null), (.aload_n 1, 0, 0, 0, .null), (.iload_n 2, 0, 0, 0, .null), (.iconst (1), 0, 0, 0, .int (1)), (.iadd, 0, 0, 0, .null), (.invokestatic 51, 214, 3, 503, .int 0), (.aload_n 0, 0, 0, 0, .null), (.bipush (41), 0, 0, 0, .int (41)), (.invokevirtual 47, 255, 1, 478, .int 2), (.nop, 129, 0, 0, .null)]
def xb_LawReader_test_129 : List xv_Op := [(.return_, 0, 0, 0, .null)]
def xl_LawReader_test : xv_B := [(0, xb_LawReader_test_0), (59, xb_LawReader_test_59), (79, xb_LawReader_test_79), (115, xb_LawReader_test_115), (129, xb_LawReader_test_129)]
def xm_LawReader_test : xv_M := (⟨"OnionCourt$LawReader", "test", "(LOnionCourt$Tape;LOnionCourt$Law;I)V"⟩, prog_8_method_5_code, 5, none, (99, 0, 3), [], xl_LawReader_test)
def xb_LawReader_terms_0 : List xv_Op := [(.aload_n 0, 0, 0, 0, .null), (.aload_n 1, 0, 0, 0, .null), (.iload_n 2, 0, 0, 0, .null), (.invokestatic 77, 218, 3, 469, .int 0), (.aload_n 0, 0, 0, 0, .null), (.invokevirtual 14, 251, 0, 439, .int 2), (.istore_n 3, 0, 0, 0, .null), (.iconst (0), 0, 0, 0, .int (0)), (.istore 4, 0, 0, 0, .null), (.nop, 14, 0, 0, .null)]
def xb_LawReader_terms_14 : List xv_Op := [(.iload 4, 0, 0, 0, .null), (.sipush (240), 0, 0, 0, .int (240)), (.if_icmp .ge (42), 61, 0, 0, .null), (.iload_n 3, 0, 0, 0, .null), (.bipush (43), 0, 0, 0, .int (43)), (.if_icmp .eq (9), 34, 0, 0, .null), (.iload_n 3, 0, 0, 0, .null), (.bipush (45), 0, 0, 0, .int (45)), (.if_icmp .ne (30), 61, 0, 0, .null), (.nop, 34, 0, 0, .null)]
def xb_LawReader_terms_34 : List xv_Op := [(.aload_n 0, 0, 0, 0, .null), (.invokevirtual 35, 253, 0, 458, .int 2), (.aload_n 0, 0, 0, 0, .null), (.aload_n 1, 0, 0, 0, .null), (.iload_n 2, 0, 0, 0, .null), (.invokestatic 77, 218, 3, 469, .int 0), (.aload_n 1, 0, 0, 0, .null), (.iload_n 3, 0, 0, 0, .null), (.iconst (0), 0, 0, 0, .int (0)), (.invokevirtual 67, 207, 2, 492, .int 4), (.aload_n 0, 0, 0, 0, .null), (.invokevirtual 14, 251, 0, 439, .int 2), (.istore_n 3, 0, 0, 0, .null), (.iinc 4 (1), 0, 0, 0, .int (1)), (.goto (-44), 14, 0, 0, .null)]
def xb_LawReader_terms_61 : List xv_Op := [(.return_, 0, 0, 0, .null)]
def xl_LawReader_terms : xv_B := [(0, xb_LawReader_terms_0), (14, xb_LawReader_terms_14), (34, xb_LawReader_terms_34), (61, xb_LawReader_terms_61)]
def xm_LawReader_terms : xv_M := (⟨"OnionCourt$LawReader", "terms", "(LOnionCourt$Tape;LOnionCourt$Law;I)V"⟩, prog_8_method_6_code, 5, none, (99, 0, 3), [], xl_LawReader_terms)
def xb_LawReader_factors_0 : List xv_Op := [(.aload_n 0, 0, 0, 0, .null), (.aload_n 1, 0, 0, 0, .null), (.iload_n 2, 0, 0, 0, .null), (.invokestatic 80, 219, 3, 472, .int 0), (.aload_n 0, 0, 0, 0, .null), (.invokevirtual 14, 251, 0, 439, .int 2), (.istore_n 3, 0, 0, 0, .null), (.iconst (0), 0, 0, 0, .int (0)), (.istore 4, 0, 0, 0, .null), (.nop, 14, 0, 0, .null)]
def xb_LawReader_factors_14 : List xv_Op := [(.iload 4, 0, 0, 0, .null), (.sipush (240), 0, 0, 0, .int (240)), (.if_icmp .ge (48), 67, 0, 0, .null), (.iload_n 3, 0, 0, 0, .null), (.bipush (42), 0, 0, 0, .int (42)), (.if_icmp .eq (15), 40, 0, 0, .null), (.iload_n 3, 0, 0, 0, .null), (.bipush (47), 0, 0, 0, .int (47)), (.if_icmp .eq (9), 40, 0, 0, .null), (.iload_n 3, 0, 0, 0, .null), (.bipush (37), 0, 0, 0, .int (37)), (.if_icmp .ne (30), 67, 0, 0, .null), (.nop, 40, 0, 0, .null)]
def xb_LawReader_factors_40 : List xv_Op := [(.aload_n 0, 0, 0, 0, .null), (.invokevirtual 35, 253, 0, 458, .int 2), (.aload_n 0, 0, 0, 0, .null), (.aload_n 1, 0, 0, 0, .null), (.iload_n 2, 0, 0, 0, .null), (.invokestatic 80, 219, 3, 472, .int 0), (.aload_n 1, 0, 0, 0, .null), (.iload_n 3, 0, 0, 0, .null), (.iconst (0), 0, 0, 0, .int (0)), (.invokevirtual 67, 207, 2, 492, .int 4), (.aload_n 0, 0, 0, 0, .null), (.invokevirtual 14, 251, 0, 439, .int 2), (.istore_n 3, 0, 0, 0, .null), (.iinc 4 (1), 0, 0, 0, .int (1)), (.goto (-50), 14, 0, 0, .null)]
def xb_LawReader_factors_67 : List xv_Op := [(.return_, 0, 0, 0, .null)]
def xl_LawReader_factors : xv_B := [(0, xb_LawReader_factors_0), (14, xb_LawReader_factors_14), (40, xb_LawReader_factors_40), (67, xb_LawReader_factors_67)]
def xm_LawReader_factors : xv_M := (⟨"OnionCourt$LawReader", "factors", "(LOnionCourt$Tape;LOnionCourt$Law;I)V"⟩, prog_8_method_7_code, 5, none, (99, 0, 3), [], xl_LawReader_factors)
def xb_LawReader_factor_0 : List xv_Op := [(.aload_n 0, 0, 0, 0, .null), (.invokevirtual 14, 251, 0, 439, .int 2), (.istore_n 3, 0, 0, 0, .null), (.iload_n 3, 0, 0, 0, .null), (.bipush (91), 0, 0, 0, .int (91)), (.if_icmp .ne (32), 40, 0, 0, .null), (.aload_n 0, 0, 0, 0, .null), (.iload_n 2, 0, 0, 0, .null), (.invokestatic 73, 221, 2, 475, .int 0), (.ifCond .eq (54), 70, 0, 0, .null), (.aload_n 0, 0, 0, 0, .null), (.invokevirtual 35, 253, 0, 458, .int 2), (.aload_n 0, 0, 0, 0, .null), (.aload_n 1, 0, 0, 0, .null), (.iload_n 2, 0, 0, 0, .null), (.iconst (1), 0, 0, 0, .int (1)), (.iadd, 0, 0, 0, .null), (.invokestatic 41, 217, 3, 466, .int 0), (.aload_n 0, 0, 0, 0, .null), (.bipush (93), 0, 0, 0, .int (93)), (.invokevirtual 47, 255, 1, 478, .int 2), (.goto (33), 70, 0, 0, .null)]
def xb_LawReader_factor_40 : List xv_Op := [(.iload_n 3, 0, 0, 0, .null), (.invokestatic 83, 192, 1, 489, .int 0), (.ifCond .eq (16), 60, 0, 0, .null), (.aload_n 0, 0, 0, 0, .null), (.invokevirtual 35, 253, 0, 458, .int 2), (.aload_n 1, 0, 0, 0, .null), (.iload_n 3, 0, 0, 0, .null), (.iconst (0), 0, 0, 0, .int (0)), (.invokevirtual 67, 207, 2, 492, .int 4), (.goto (13), 70, 0, 0, .null)]
def xb_LawReader_factor_60 : List xv_Op := [(.aload_n 1, 0, 0, 0, .null), (.bipush (48), 0, 0, 0, .int (48)), (.aload_n 0, 0, 0, 0, .null), (.invokestatic 88, 220, 1, 496, .int 0), (.invokevirtual 67, 207, 2, 492, .int 4), (.nop, 70, 0, 0, .null)]
def xb_LawReader_factor_70 : List xv_Op := [(.return_, 0, 0, 0, .null)]
def xl_LawReader_factor : xv_B := [(0, xb_LawReader_factor_0), (40, xb_LawReader_factor_40), (60, xb_LawReader_factor_60), (70, xb_LawReader_factor_70)]
def xm_LawReader_factor : xv_M := (⟨"OnionCourt$LawReader", "factor", "(LOnionCourt$Tape;LOnionCourt$Law;I)V"⟩, prog_8_method_8_code, 4, none, (99, 0, 3), [], xl_LawReader_factor)
def xb_LawReader_number_0 : List xv_Op := [(.aload_n 0, 0, 0, 0, .null), (.invokevirtual 92, 252, 0, 499, .int 2), (.istore_n 1, 0, 0, 0, .null), (.iload_n 1, 0, 0, 0, .null), (.ifCond .ge (12), 18, 0, 0, .null), (.aload_n 0, 0, 0, 0, .null), (.iconst (1), 0, 0, 0, .int (1)), (.aload_n 0, 0, 0, 0, .null), (.invokevirtual 24, 250, 0, 446, .int 2), (.invokevirtual 27, 257, 2, 450, .int 2), (.nop, 18, 0, 0, .null)]
def xb_LawReader_number_18 : List xv_Op := [(.iconst (0), 0, 0, 0, .int (0)), (.istore_n 2, 0, 0, 0, .null), (.iconst (0), 0, 0, 0, .int (0)), (.istore_n 3, 0, 0, 0, .null), (.nop, 22, 0, 0, .null)]
def xb_LawReader_number_22 : List xv_Op := [(.iload_n 3, 0, 0, 0, .null), (.iconst (5), 0, 0, 0, .int (5)), (.if_icmp .ge (25), 49, 0, 0, .null), (.iload_n 1, 0, 0, 0, .null), (.ifCond .lt (21), 49, 0, 0, .null), (.bipush (10), 0, 0, 0, .int (10)), (.iload_n 2, 0, 0, 0, .null), (.imul, 0, 0, 0, .null), (.iload_n 1, 0, 0, 0, .null), (.iadd, 0, 0, 0, .null), (.istore_n 2, 0, 0, 0, .null), (.aload_n 0, 0, 0, 0, .null), (.invokevirtual 92, 252, 0, 499, .int 2), (.istore_n 1, 0, 0, 0, .null), (.iinc 3 (1), 0, 0, 0, .int (1)), (.goto (-24), 22, 0, 0, .null)]
def xb_LawReader_number_49 : List xv_Op := [(.iload_n 1, 0, 0, 0, .null), (.ifCond .lt (14), 64, 0, 0, .null), (.aload_n 0, 0, 0, 0, .null), (.iconst (2), 0, 0, 0, .int (2)), (.aload_n 0, 0, 0, 0, .null), (.invokevirtual 24, 250, 0, 446, .int 2), (.iconst (1), 0, 0, 0, .int (1)), (.isub, 0, 0, 0, .null), (.invokevirtual 27, 257, 2, 450, .int 2), (.nop, 64, 0, 0, .null)]
def xb_LawReader_number_64 : List xv_Op := [(.iload_n 2, 0, 0, 0, .null), (.ireturn, 0, 0, 0, .null)]
def xl_LawReader_number : xv_B := [(0, xb_LawReader_number_0), (18, xb_LawReader_number_18), (22, xb_LawReader_number_22), (49, xb_LawReader_number_49), (64, xb_LawReader_number_64)]
def xm_LawReader_number : xv_M := (⟨"OnionCourt$LawReader", "number", "(LOnionCourt$Tape;)I"⟩, prog_8_method_9_code, 4, (some .int), (99, 0, 1), [], xl_LawReader_number)
def xb_LawReader_canOpen_0 : List xv_Op := [(.iload_n 1, 0, 0, 0, .null), (.bipush (6), 0, 0, 0, .int (6)), (.if_icmp .lt (12), 15, 0, 0, .null), (.aload_n 0, 0, 0, 0, .null), (.iconst (5), 0, 0, 0, .int (5)), (.aload_n 0, 0, 0, 0, .null), (.invokevirtual 24, 250, 0, 446, .int 2), (.invokevirtual 27, 257, 2, 450, .int 2), (.nop, 15, 0, 0, .null)]
def xb_LawReader_canOpen_15 : List xv_Op := [(.iload_n 1, 0, 0, 0, .null), (.bipush (6), 0, 0, 0, .int (6)), (.if_icmp .ge (7), 25, 0, 0, .null), (.iconst (1), 0, 0, 0, .int (1)), (.goto (4), 26, 0, 0, .null)]
def xb_LawReader_canOpen_25 : List xv_Op := [(.iconst (0), 0, 0, 0, .int (0)), (.nop, 26, 0, 0, .null)]
def xb_LawReader_canOpen_26 : List xv_Op := [(.ireturn, 0, 0, 0, .null)]
def xl_LawReader_canOpen : xv_B := [(0, xb_LawReader_canOpen_0), (15, xb_LawReader_canOpen_15), (25, xb_LawReader_canOpen_25), (26, xb_LawReader_canOpen_26)]
def xm_LawReader_canOpen : xv_M := (⟨"OnionCourt$LawReader", "canOpen", "(LOnionCourt$Tape;I)Z"⟩, prog_8_method_10_code, 2, (some .boolean), (99, 0, 2), [], xl_LawReader_canOpen)
def xb_Questions_init_0 : List xv_Op := [(.aload_n 0, 0, 0, 0, .null), (.invokespecial 3, 0, 0, 126, .null), (.aload_n 0, 0, 0, 0, .null), (.bipush (8), 0, 0, 0, .int (8)), (.newarray .int, 0, 0, 120, .null), (.putfield 9, 0, 3, 127, .int 3), (.return_, 0, 0, 0, .null)]
def xl_Questions_init : xv_B := [(0, xb_Questions_init_0)]
def xm_Questions_init : xv_M := (⟨"OnionCourt$Questions", "<init>", "()V"⟩, prog_9_method_1_code, 1, none, (3, 2, 0), [], xl_Questions_init)
def xb_Questions_isTold_0 : List xv_Op := [(.iload_n 1, 0, 0, 0, .null), (.ifCond .lt (25), 26, 0, 0, .null), (.iload_n 1, 0, 0, 0, .null), (.bipush (8), 0, 0, 0, .int (8)), (.if_icmp .ge (19), 26, 0, 0, .null), (.aload_n 0, 0, 0, 0, .null), (.getfield 15, 1, 3, 128, .null), (.iload_n 1, 0, 0, 0, .null), (.ishr, 0, 0, 0, .null), (.iconst (1), 0, 0, 0, .int (1)), (.iand, 0, 0, 0, .null), (.iconst (1), 0, 0, 0, .int (1)), (.if_icmp .ne (7), 26, 0, 0, .null), (.iconst (1), 0, 0, 0, .int (1)), (.goto (4), 27, 0, 0, .null)]
def xb_Questions_isTold_26 : List xv_Op := [(.iconst (0), 0, 0, 0, .int (0)), (.nop, 27, 0, 0, .null)]
def xb_Questions_isTold_27 : List xv_Op := [(.ireturn, 0, 0, 0, .null)]
def xl_Questions_isTold : xv_B := [(0, xb_Questions_isTold_0), (26, xb_Questions_isTold_26), (27, xb_Questions_isTold_27)]
def xm_Questions_isTold : xv_M := (⟨"OnionCourt$Questions", "isTold", "(I)Z"⟩, prog_9_method_2_code, 2, (some .boolean), (3, 1, 1), [], xl_Questions_isTold)
def xb_Questions_toldOnes_0 : List xv_Op := [(.aload_n 0, 0, 0, 0, .null), (.getfield 15, 1, 3, 128, .null), (.ireturn, 0, 0, 0, .null)]
def xl_Questions_toldOnes : xv_B := [(0, xb_Questions_toldOnes_0)]
def xm_Questions_toldOnes : xv_M := (⟨"OnionCourt$Questions", "toldOnes", "()I"⟩, prog_9_method_3_code, 1, (some .int), (3, 1, 0), [], xl_Questions_toldOnes)
def xb_Questions_holds_0 : List xv_Op := [(.iload_n 1, 0, 0, 0, .null), (.ifCond .lt (21), 22, 0, 0, .null), (.iload_n 1, 0, 0, 0, .null), (.aload_n 0, 0, 0, 0, .null), (.getfield 9, 0, 3, 127, .null), (.arraylength, 0, 0, 0, .null), (.if_icmp .ge (12), 22, 0, 0, .null), (.aload_n 0, 0, 0, 0, .null), (.getfield 9, 0, 3, 127, .null), (.iload_n 1, 0, 0, 0, .null), (.iaload, 0, 0, 0, .null), (.goto (4), 23, 0, 0, .null)]
def xb_Questions_holds_22 : List xv_Op := [(.iconst (0), 0, 0, 0, .int (0)), (.nop, 23, 0, 0, .null)]
def xb_Questions_holds_23 : List xv_Op := [(.ireturn, 0, 0, 0, .null)]
def xl_Questions_holds : xv_B := [(0, xb_Questions_holds_0), (22, xb_Questions_holds_22), (23, xb_Questions_holds_23)]
def xm_Questions_holds : xv_M := (⟨"OnionCourt$Questions", "holds", "(I)I"⟩, prog_9_method_4_code, 2, (some .int), (3, 1, 1), [], xl_Questions_holds)
def xb_Questions_tell_0 : List xv_Op := [(.iload_n 1, 0, 0, 0, .null), (.ifCond .lt (31), 32, 0, 0, .null), (.iload_n 1, 0, 0, 0, .null), (.aload_n 0, 0, 0, 0, .null), (.getfield 9, 0, 3, 127, .null), (.arraylength, 0, 0, 0, .null), (.if_icmp .ge (22), 32, 0, 0, .null), (.aload_n 0, 0, 0, 0, .null), (.getfield 9, 0, 3, 127, .null), (.iload_n 1, 0, 0, 0, .null), (.iload_n 2, 0, 0, 0, .null), (.iastore, 0, 0, 0, .null), (.aload_n 0, 0, 0, 0, .null), (.dup, 0, 0, 0, .null), (.getfield 15, 1, 3, 128, .null), (.iconst (1), 0, 0, 0, .int (1)), (.iload_n 1, 0, 0, 0, .null), (.ishl, 0, 0, 0, .null), (.ior, 0, 0, 0, .null), (.putfield 15, 1, 3, 128, .int 0), (.nop, 32, 0, 0, .null)]
def xb_Questions_tell_32 : List xv_Op := [(.return_, 0, 0, 0, .null)]
def xl_Questions_tell : xv_B := [(0, xb_Questions_tell_0), (32, xb_Questions_tell_32)]
def xm_Questions_tell : xv_M := (⟨"OnionCourt$Questions", "tell", "(II)V"⟩, prog_9_method_5_code, 3, none, (3, 1, 2), [], xl_Questions_tell)
def xb_Questions_read_0 : List xv_Op := [(.aload_n 1, 0, 0, 0, .null), (.iconst (0), 0, 0, 0, .int (0)), (.invokestatic 19, 228, 2, 545, .int 0), (.istore_n 2, 0, 0, 0, .null), (.aload_n 1, 0, 0, 0, .null), (.invokevirtual 23, 256, 0, 568, .int 2), (.iload_n 2, 0, 0, 0, .null), (.ireturn, 0, 0, 0, .null)]
def xl_Questions_read : xv_B := [(0, xb_Questions_read_0)]
def xm_Questions_read : xv_M := (⟨"OnionCourt$Questions", "read", "(LOnionCourt$Tape;)I"⟩, prog_9_method_6_code, 3, (some .int), (3, 1, 1), [], xl_Questions_read)
def xb_Questions_sides_0 : List xv_Op := [(.aload_n 0, 0, 0, 0, .null), (.iload_n 1, 0, 0, 0, .null), (.invokestatic 28, 229, 2, 548, .int 0), (.istore_n 2, 0, 0, 0, .null), (.iconst (0), 0, 0, 0, .int (0)), (.istore_n 3, 0, 0, 0, .null), (.nop, 8, 0, 0, .null)]
def xb_Questions_sides_8 : List xv_Op := [(.iload_n 3, 0, 0, 0, .null), (.bipush (60), 0, 0, 0, .int (60)), (.if_icmp .ge (26), 37, 0, 0, .null), (.aload_n 0, 0, 0, 0, .null), (.bipush (124), 0, 0, 0, .int (124)), (.invokevirtual 31, 254, 1, 563, .int 2), (.ifCond .eq (17), 37, 0, 0, .null), (.iload_n 2, 0, 0, 0, .null), (.aload_n 0, 0, 0, 0, .null), (.iload_n 1, 0, 0, 0, .null), (.invokestatic 28, 229, 2, 548, .int 0), (.ior, 0, 0, 0, .null), (.istore_n 2, 0, 0, 0, .null), (.iinc 3 (1), 0, 0, 0, .int (1)), (.goto (-26), 8, 0, 0, .null)]
def xb_Questions_sides_37 : List xv_Op := [(.iload_n 2, 0, 0, 0, .null), (.ireturn, 0, 0, 0, .null)]
def xl_Questions_sides : xv_B := [(0, xb_Questions_sides_0), (8, xb_Questions_sides_8), (37, xb_Questions_sides_37)]
def xm_Questions_sides : xv_M := (⟨"OnionCourt$Questions", "sides", "(LOnionCourt$Tape;I)I"⟩, prog_9_method_7_code, 4, (some .int), (3, 0, 2), [], xl_Questions_sides)
def xb_Questions_odds_0 : List xv_Op := [(.aload_n 0, 0, 0, 0, .null), (.iload_n 1, 0, 0, 0, .null), (.invokestatic 35, 230, 2, 551, .int 0), (.istore_n 2, 0, 0, 0, .null), (.iconst (0), 0, 0, 0, .int (0)), (.istore_n 3, 0, 0, 0, .null), (.nop, 8, 0, 0, .null)]
def xb_Questions_odds_8 : List xv_Op := [(.iload_n 3, 0, 0, 0, .null), (.bipush (60), 0, 0, 0, .int (60)), (.if_icmp .ge (26), 37, 0, 0, .null), (.aload_n 0, 0, 0, 0, .null), (.bipush (94), 0, 0, 0, .int (94)), (.invokevirtual 31, 254, 1, 563, .int 2), (.ifCond .eq (17), 37, 0, 0, .null), (.iload_n 2, 0, 0, 0, .null), (.aload_n 0, 0, 0, 0, .null), (.iload_n 1, 0, 0, 0, .null), (.invokestatic 35, 230, 2, 551, .int 0), (.ixor, 0, 0, 0, .null), (.istore_n 2, 0, 0, 0, .null), (.iinc 3 (1), 0, 0, 0, .int (1)), (.goto (-26), 8, 0, 0, .null)]
def xb_Questions_odds_37 : List xv_Op := [(.iload_n 2, 0, 0, 0, .null), (.ireturn, 0, 0, 0, .null)]
def xl_Questions_odds : xv_B := [(0, xb_Questions_odds_0), (8, xb_Questions_odds_8), (37, xb_Questions_odds_37)]
def xm_Questions_odds : xv_M := (⟨"OnionCourt$Questions", "odds", "(LOnionCourt$Tape;I)I"⟩, prog_9_method_8_code, 4, (some .int), (3, 0, 2), [], xl_Questions_odds)
def xb_Questions_pieces_0 : List xv_Op := [(.aload_n 0, 0, 0, 0, .null), (.iload_n 1, 0, 0, 0, .null), (.invokestatic 38, 231, 2, 554, .int 0), (.istore_n 2, 0, 0, 0, .null), (.iconst (0), 0, 0, 0, .int (0)), (.istore_n 3, 0, 0, 0, .null), (.nop, 8, 0, 0, .null)]
def xb_Questions_pieces_8 : List xv_Op := [(.iload_n 3, 0, 0, 0, .null), (.bipush (60), 0, 0, 0, .int (60)), (.if_icmp .ge (26), 37, 0, 0, .null), (.aload_n 0, 0, 0, 0, .null), (.bipush (38), 0, 0, 0, .int (38)), (.invokevirtual 31, 254, 1, 563, .int 2), (.ifCond .eq (17), 37, 0, 0, .null), (.iload_n 2, 0, 0, 0, .null), (.aload_n 0, 0, 0, 0, .null), (.iload_n 1, 0, 0, 0, .null), (.invokestatic 38, 231, 2, 554, .int 0), (.iand, 0, 0, 0, .null), (.istore_n 2, 0, 0, 0, .null), (.iinc 3 (1), 0, 0, 0, .int (1)), (.goto (-26), 8, 0, 0, .null)]
def xb_Questions_pieces_37 : List xv_Op := [(.iload_n 2, 0, 0, 0, .null), (.ireturn, 0, 0, 0, .null)]
def xl_Questions_pieces : xv_B := [(0, xb_Questions_pieces_0), (8, xb_Questions_pieces_8), (37, xb_Questions_pieces_37)]
def xm_Questions_pieces : xv_M := (⟨"OnionCourt$Questions", "pieces", "(LOnionCourt$Tape;I)I"⟩, prog_9_method_9_code, 4, (some .int), (3, 0, 2), [], xl_Questions_pieces)
def xb_Questions_piece_0 : List xv_Op := [(.aload_n 0, 0, 0, 0, .null), (.invokevirtual 41, 251, 0, 557, .int 2), (.istore_n 2, 0, 0, 0, .null), (.iload_n 2, 0, 0, 0, .null), (.bipush (40), 0, 0, 0, .int (40)), (.if_icmp .eq (9), 17, 0, 0, .null), (.iload_n 2, 0, 0, 0, .null), (.bipush (33), 0, 0, 0, .int (33)), (.if_icmp .ne (9), 23, 0, 0, .null), (.nop, 17, 0, 0, .null)]
def xb_Questions_piece_17 : List xv_Op := [(.aload_n 0, 0, 0, 0, .null), (.iload_n 1, 0, 0, 0, .null), (.invokestatic 45, 232, 2, 558, .int 0), (.ireturn, 0, 0, 0, .null)]
def xb_Questions_piece_23 : List xv_Op := [(.iload_n 2, 0, 0, 0, .null), (.bipush (97), 0, 0, 0, .int (97)), (.isub, 0, 0, 0, .null), (.istore_n 3, 0, 0, 0, .null), (.iload_n 3, 0, 0, 0, .null), (.ifCond .lt (21), 50, 0, 0, .null), (.iload_n 3, 0, 0, 0, .null), (.getstatic 48, 0, 0, 565, .null), (.arraylength, 0, 1, 0, .null), (.if_icmp .ge (13), 50, 0, 0, .null), (.aload_n 0, 0, 0, 0, .null), (.invokevirtual 51, 253, 0, 567, .int 2), (.getstatic 48, 0, 0, 565, .null), (.iload_n 3, 0, 0, 0, .null), (.iaload, 0, 1, 0, .null), (.ireturn, 0, 0, 0, .null)]
def xb_Questions_piece_50 : List xv_Op := [(.aload_n 0, 0, 0, 0, .null), (.bipush (49), 0, 0, 0, .int (49)), (.invokevirtual 31, 254, 1, 563, .int 2), (.ifCond .eq (5), 61, 0, 0, .null), (.iconst (-1), 0, 0, 0, .int (-1)), (.ireturn, 0, 0, 0, .null)]
def xb_Questions_piece_61 : List xv_Op := [(.aload_n 0, 0, 0, 0, .null), (.bipush (48), 0, 0, 0, .int (48)), (.invokevirtual 54, 255, 1, 564, .int 2), (.iconst (0), 0, 0, 0, .int (0)), (.ireturn, 0, 0, 0, .null)]
def xl_Questions_piece : xv_B := [(0, xb_Questions_piece_0), (17, xb_Questions_piece_17), (23, xb_Questions_piece_23), (50, xb_Questions_piece_50), (61, xb_Questions_piece_61)]
def xm_Questions_piece : xv_M := (⟨"OnionCourt$Questions", "piece", "(LOnionCourt$Tape;I)I"⟩, prog_9_method_10_code, 4, (some .int), (3, 0, 2), [], xl_Questions_piece)
def xb_Questions_opened_0 : List xv_Op := [(.iload_n 1, 0, 0, 0, .null), (.bipush (6), 0, 0, 0, .int (6)), (.if_icmp .lt (14), 17, 0, 0, .null), (.aload_n 0, 0, 0, 0, .null), (.iconst (5), 0, 0, 0, .int (5)), (.aload_n 0, 0, 0, 0, .null), (.invokevirtual 58, 250, 0, 561, .int 2), (.invokevirtual 61, 257, 2, 562, .int 2), (.iconst (0), 0, 0, 0, .int (0)), (.ireturn, 0, 0, 0, .null)]
def xb_Questions_opened_17 : List xv_Op := [(.aload_n 0, 0, 0, 0, .null), (.bipush (33), 0, 0, 0, .int (33)), (.invokevirtual 31, 254, 1, 563, .int 2), (.ifCond .eq (13), 36, 0, 0, .null), (.aload_n 0, 0, 0, 0, .null), (.iload_n 1, 0, 0, 0, .null), (.iconst (1), 0, 0, 0, .int (1)), (.iadd, 0, 0, 0, .null), (.invokestatic 38, 231, 2, 554, .int 0), (.iconst (-1), 0, 0, 0, .int (-1)), (.ixor, 0, 0, 0, .null), (.ireturn, 0, 0, 0, .null)]
def xb_Questions_opened_36 : List xv_Op := [(.aload_n 0, 0, 0, 0, .null), (.bipush (40), 0, 0, 0, .int (40)), (.invokevirtual 54, 255, 1, 564, .int 2), (.aload_n 0, 0, 0, 0, .null), (.iload_n 1, 0, 0, 0, .null), (.iconst (1), 0, 0, 0, .int (1)), (.iadd, 0, 0, 0, .null), (.invokestatic 19, 228, 2, 545, .int 0), (.istore_n 2, 0, 0, 0, .null), (.aload_n 0, 0, 0, 0, .null), (.bipush (41), 0, 0, 0, .int (41)), (.invokevirtual 54, 255, 1, 564, .int 2), (.iload_n 2, 0, 0, 0, .null), (.ireturn, 0, 0, 0, .null)]
def xl_Questions_opened : xv_B := [(0, xb_Questions_opened_0), (17, xb_Questions_opened_17), (36, xb_Questions_opened_36)]
def xm_Questions_opened : xv_M := (⟨"OnionCourt$Questions", "opened", "(LOnionCourt$Tape;I)I"⟩, prog_9_method_11_code, 3, (some .int), (3, 0, 2), [], xl_Questions_opened)
def xb_Scales_init_0 : List xv_Op := [(.aload_n 0, 0, 0, 0, .null), (.invokespecial 3, 0, 0, 205, .null), (.aload_n 0, 0, 0, 0, .null), (.iconst (5), 0, 0, 0, .int (5)), (.newarray .int, 0, 0, 120, .null), (.putfield 9, 0, 6, 206, .int 3), (.aload_n 0, 0, 0, 0, .null), (.bipush (32), 0, 0, 0, .int (32)), (.newarray .long, 1, 0, 168, .null), (.putfield 15, 1, 6, 207, .int 3), (.iconst (0), 0, 0, 0, .int (0)), (.istore_n 1, 0, 0, 0, .null), (.nop, 21, 0, 0, .null)]
def xb_Scales_init_21 : List xv_Op := [(.iload_n 1, 0, 0, 0, .null), (.iconst (5), 0, 0, 0, .int (5)), (.if_icmp .ge (16), 39, 0, 0, .null), (.aload_n 0, 0, 0, 0, .null), (.getfield 9, 0, 6, 206, .null), (.iload_n 1, 0, 0, 0, .null), (.iconst (5), 0, 0, 0, .int (5)), (.iastore, 0, 0, 0, .null), (.iinc 1 (1), 0, 0, 0, .int (1)), (.goto (-15), 21, 0, 0, .null)]
def xb_Scales_init_39 : List xv_Op := [(.return_, 0, 0, 0, .null)]
def xl_Scales_init : xv_B := [(0, xb_Scales_init_0), (21, xb_Scales_init_21), (39, xb_Scales_init_39)]
def xm_Scales_init : xv_M := (⟨"OnionCourt$Scales", "<init>", "()V"⟩, prog_10_method_1_code, 2, none, (6, 2, 0), [], xl_Scales_init)
def xb_Scales_believe_0 : List xv_Op := [(.iload_n 1, 0, 0, 0, .null), (.ifCond .lt (15), 16, 0, 0, .null), (.iload_n 1, 0, 0, 0, .null), (.iconst (5), 0, 0, 0, .int (5)), (.if_icmp .ge (10), 16, 0, 0, .null), (.aload_n 0, 0, 0, 0, .null), (.getfield 9, 0, 6, 206, .null), (.iload_n 1, 0, 0, 0, .null), (.iload_n 2, 0, 0, 0, .null), (.iastore, 0, 0, 0, .null), (.nop, 16, 0, 0, .null)]
def xb_Scales_believe_16 : List xv_Op := [(.return_, 0, 0, 0, .null)]
def xl_Scales_believe : xv_B := [(0, xb_Scales_believe_0), (16, xb_Scales_believe_16)]
def xm_Scales_believe : xv_M := (⟨"OnionCourt$Scales", "believe", "(II)V"⟩, prog_10_method_2_code, 3, none, (6, 1, 2), [], xl_Scales_believe)
def xb_Scales_belief_0 : List xv_Op := [(.iload_n 1, 0, 0, 0, .null), (.ifCond .lt (17), 18, 0, 0, .null), (.iload_n 1, 0, 0, 0, .null), (.iconst (5), 0, 0, 0, .int (5)), (.if_icmp .ge (12), 18, 0, 0, .null), (.aload_n 0, 0, 0, 0, .null), (.getfield 9, 0, 6, 206, .null), (.iload_n 1, 0, 0, 0, .null), (.iaload, 0, 0, 0, .null), (.goto (4), 19, 0, 0, .null)]
def xb_Scales_belief_18 : List xv_Op := [(.iconst (0), 0, 0, 0, .int (0)), (.nop, 19, 0, 0, .null)]
def xb_Scales_belief_19 : List xv_Op := [(.ireturn, 0, 0, 0, .null)]
def xl_Scales_belief : xv_B := [(0, xb_Scales_belief_0), (18, xb_Scales_belief_18), (19, xb_Scales_belief_19)]
def xm_Scales_belief : xv_M := (⟨"OnionCourt$Scales", "belief", "(I)I"⟩, prog_10_method_3_code, 2, (some .int), (6, 1, 1), [], xl_Scales_belief)
def xb_Scales_start_0 : List xv_Op := [(.iconst (0), 0, 0, 0, .int (0)), (.istore_n 1, 0, 0, 0, .null), (.nop, 2, 0, 0, .null)]
def xb_Scales_start_2 : List xv_Op := [(.iload_n 1, 0, 0, 0, .null), (.bipush (32), 0, 0, 0, .int (32)), (.if_icmp .ge (67), 72, 0, 0, .null), (.aload_n 0, 0, 0, 0, .null), (.getfield 15, 1, 6, 207, .null), (.iload_n 1, 0, 0, 0, .null), (.lconst 1, 0, 0, 0, .long 1), (.lastore, 0, 0, 0, .null), (.iconst (0), 0, 0, 0, .int (0)), (.istore_n 2, 0, 0, 0, .null), (.nop, 17, 0, 0, .null)]
def xb_Scales_start_17 : List xv_Op := [(.iload_n 2, 0, 0, 0, .null), (.iconst (5), 0, 0, 0, .int (5)), (.if_icmp .ge (47), 66, 0, 0, .null), (.aload_n 0, 0, 0, 0, .null), (.getfield 15, 1, 6, 207, .null), (.iload_n 1, 0, 0, 0, .null), (.dup2, 0, 0, 0, .null), (.laload, 0, 0, 0, .null), (.iload_n 1, 0, 0, 0, .null), (.iload_n 2, 0, 0, 0, .null), (.ishr, 0, 0, 0, .null), (.iconst (1), 0, 0, 0, .int (1)), (.iand, 0, 0, 0, .null), (.iconst (1), 0, 0, 0, .int (1)), (.if_icmp .ne (13), 48, 0, 0, .null), (.aload_n 0, 0, 0, 0, .null), (.getfield 9, 0, 6, 206, .null), (.iload_n 2, 0, 0, 0, .null), (.iaload, 0, 0, 0, .null), (.i2l, 0, 0, 0, .null), (.goto (13), 58, 0, 0, .null)]
def xb_Scales_start_48 : List xv_Op := [(.bipush (10), 0, 0, 0, .int (10)), (.aload_n 0, 0, 0, 0, .null), (.getfield 9, 0, 6, 206, .null), (.iload_n 2, 0, 0, 0, .null), (.iaload, 0, 0, 0, .null), (.isub, 0, 0, 0, .null), (.i2l, 0, 0, 0, .null), (.nop, 58, 0, 0, .null)]
def xb_Scales_start_58 : List xv_Op := [(.lmul, 0, 0, 0, .null), (.lastore, 0, 0, 0, .null), (.iinc 2 (1), 0, 0, 0, .int (1)), (.goto (-46), 17, 0, 0, .null)]
def xb_Scales_start_66 : List xv_Op := [(.iinc 1 (1), 0, 0, 0, .int (1)), (.goto (-67), 2, 0, 0, .null)]
def xb_Scales_start_72 : List xv_Op := [(.return_, 0, 0, 0, .null)]
def xl_Scales_start : xv_B := [(0, xb_Scales_start_0), (2, xb_Scales_start_2), (17, xb_Scales_start_17), (48, xb_Scales_start_48), (58, xb_Scales_start_58), (66, xb_Scales_start_66), (72, xb_Scales_start_72)]
def xm_Scales_start : xv_M := (⟨"OnionCourt$Scales", "start", "()V"⟩, prog_10_method_4_code, 3, none, (6, 1, 0), [], xl_Scales_start)
def xb_Scales_add_0 : List xv_Op := [(.aload_n 1, 0, 0, 0, .null), (.iconst (1), 0, 0, 0, .int (1)), (.aload_n 3, 0, 0, 0, .null), (.aload 4, 0, 0, 0, .null), (.invokevirtual 19, 155, 3, 847, .int 9), (.istore 5, 0, 0, 0, .null), (.aload_n 1, 0, 0, 0, .null), (.iconst (0), 0, 0, 0, .int (0)), (.aload_n 3, 0, 0, 0, .null), (.aload 4, 0, 0, 0, .null), (.invokevirtual 19, 155, 3, 847, .int 9), (.istore 6, 0, 0, 0, .null), (.iconst (0), 0, 0, 0, .int (0)), (.istore 7, 0, 0, 0, .null), (.nop, 23, 0, 0, .null)]
def xb_Scales_add_23 : List xv_Op := [(.iload 7, 0, 0, 0, .null), (.bipush (32), 0, 0, 0, .int (32)), (.if_icmp .ge (38), 65, 0, 0, .null), (.aload_n 0, 0, 0, 0, .null), (.getfield 15, 1, 6, 207, .null), (.iload 7, 0, 0, 0, .null), (.dup2, 0, 0, 0, .null), (.laload, 0, 0, 0, .null), (.iload_n 2, 0, 0, 0, .null), (.iload 7, 0, 0, 0, .null), (.ishr, 0, 0, 0, .null), (.iconst (1), 0, 0, 0, .int (1)), (.iand, 0, 0, 0, .null), (.iconst (1), 0, 0, 0, .int (1)), (.if_icmp .ne (9), 54, 0, 0, .null), (.iload 5, 0, 0, 0, .null), (.i2l, 0, 0, 0, .null), (.goto (6), 57, 0, 0, .null)]
def xb_Scales_add_54 : List xv_Op := [(.iload 6, 0, 0, 0, .null), (.i2l, 0, 0, 0, .null), (.nop, 57, 0, 0, .null)]
def xb_Scales_add_57 : List xv_Op := [(.lmul, 0, 0, 0, .null), (.lastore, 0, 0, 0, .null), (.iinc 7 (1), 0, 0, 0, .int (1)), (.goto (-39), 23, 0, 0, .null)]
def xb_Scales_add_65 : List xv_Op := [(.return_, 0, 0, 0, .null)]
def xl_Scales_add : xv_B := [(0, xb_Scales_add_0), (23, xb_Scales_add_23), (54, xb_Scales_add_54), (57, xb_Scales_add_57), (65, xb_Scales_add_65)]
def xm_Scales_add : xv_M := (⟨"OnionCourt$Scales", "add", "(LOnionCourt$Answer;ILOnionCourt$Law;LOnionCourt$Case;)V"⟩, prog_10_method_5_code, 8, none, (6, 1, 4), [], xl_Scales_add)
def xb_Scales_within_0 : List xv_Op := [(.lconst 0, 0, 0, 0, .long 0), (.lstore_n 2, 0, 0, 0, .null), (.iconst (0), 0, 0, 0, .int (0)), (.istore 4, 0, 0, 0, .null), (.nop, 5, 0, 0, .null)]
def xb_Scales_within_5 : List xv_Op := [(.iload 4, 0, 0, 0, .null), (.bipush (32), 0, 0, 0, .int (32)), (.if_icmp .ge (33), 42, 0, 0, .null), (.lload_n 2, 0, 0, 0, .null), (.iload_n 1, 0, 0, 0, .null), (.iload 4, 0, 0, 0, .null), (.ishr, 0, 0, 0, .null), (.iconst (1), 0, 0, 0, .int (1)), (.iand, 0, 0, 0, .null), (.iconst (1), 0, 0, 0, .int (1)), (.if_icmp .ne (13), 33, 0, 0, .null), (.aload_n 0, 0, 0, 0, .null), (.getfield 15, 1, 6, 207, .null), (.iload 4, 0, 0, 0, .null), (.laload, 0, 0, 0, .null), (.goto (4), 34, 0, 0, .null)]
def xb_Scales_within_33 : List xv_Op := [(.lconst 0, 0, 0, 0, .long 0), (.nop, 34, 0, 0, .null)]
def xb_Scales_within_34 : List xv_Op := [(.ladd, 0, 0, 0, .null), (.lstore_n 2, 0, 0, 0, .null), (.iinc 4 (1), 0, 0, 0, .int (1)), (.goto (-34), 5, 0, 0, .null)]
def xb_Scales_within_42 : List xv_Op := [(.lload_n 2, 0, 0, 0, .null), (.lreturn, 0, 0, 0, .null)]
def xl_Scales_within : xv_B := [(0, xb_Scales_within_0), (5, xb_Scales_within_5), (33, xb_Scales_within_33), (34, xb_Scales_within_34), (42, xb_Scales_within_42)]
def xm_Scales_within : xv_M := (⟨"OnionCourt$Scales", "within", "(I)J"⟩, prog_10_method_6_code, 5, (some .long), (6, 1, 1), [2], xl_Scales_within)
def xb_Scales_all_0 : List xv_Op := [(.aload_n 0, 0, 0, 0, .null), (.iconst (-1), 0, 0, 0, .int (-1)), (.invokevirtual 25, 238, 1, 866, .int 6), (.lreturn, 0, 0, 0, .null)]
def xl_Scales_all : xv_B := [(0, xb_Scales_all_0)]
def xm_Scales_all : xv_M := (⟨"OnionCourt$Scales", "all", "()J"⟩, prog_10_method_7_code, 1, (some .long), (6, 1, 0), [], xl_Scales_all)
def xb_Scales_part_0 : List xv_Op := [(.aload_n 0, 0, 0, 0, .null), (.iload_n 1, 0, 0, 0, .null), (.invokevirtual 25, 238, 1, 866, .int 6), (.lstore_n 3, 0, 0, 0, .null), (.aload_n 0, 0, 0, 0, .null), (.invokevirtual 29, 239, 0, 870, .int 6), (.lstore 5, 0, 0, 0, .null), (.lload 5, 0, 0, 0, .null), (.lconst 0, 0, 0, 0, .long 0), (.lcmp, 0, 0, 0, .null), (.ifCond .ne (7), 23, 0, 0, .null), (.ldc2_w 33, 0, 0, 874, .long (-2)), (.lreturn, 0, 0, 0, .null)]
def xb_Scales_part_23 : List xv_Op := [(.lload_n 3, 0, 0, 0, .null), (.lload 5, 0, 0, 0, .null), (.invokestatic 35, 241, 2, 875, .int 0), (.lstore 7, 0, 0, 0, .null), (.lload 7, 0, 0, 0, .null), (.lconst 0, 0, 0, 0, .long 0), (.lcmp, 0, 0, 0, .null), (.ifCond .ne (7), 42, 0, 0, .null), (.ldc2_w 33, 0, 0, 874, .long (-2)), (.lreturn, 0, 0, 0, .null)]
def xb_Scales_part_42 : List xv_Op := [(.iload_n 2, 0, 0, 0, .null), (.ifCond .eq (7), 50, 0, 0, .null), (.lload_n 3, 0, 0, 0, .null), (.goto (5), 52, 0, 0, .null)]
def xb_Scales_part_50 : List xv_Op := [(.lload 5, 0, 0, 0, .null), (.nop, 52, 0, 0, .null)]
def xb_Scales_part_52 : List xv_Op := [(.lload 7, 0, 0, 0, .null), (.ldiv, 0, 0, 0, .null), (.lreturn, 0, 0, 0, .null)]
def xl_Scales_part : xv_B := [(0, xb_Scales_part_0), (23, xb_Scales_part_23), (42, xb_Scales_part_42), (50, xb_Scales_part_50), (52, xb_Scales_part_52)]
def xm_Scales_part : xv_M := (⟨"OnionCourt$Scales", "part", "(IZ)J"⟩, prog_10_method_8_code, 9, (some .long), (6, 1, 2), [3, 5, 7], xl_Scales_part)
def xb_Scales_commonDivisor_0 : List xv_Op := [(.lload_n 2, 0, 0, 0, .null), (.lstore 4, 0, 0, 0, .null), (.lload_n 0, 0, 0, 0, .null), (.lstore 6, 0, 0, 0, .null), (.iconst (0), 0, 0, 0, .int (0)), (.istore 8, 0, 0, 0, .null), (.nop, 9, 0, 0, .null)]
def xb_Scales_commonDivisor_9 : List xv_Op := [(.iload 8, 0, 0, 0, .null), (.bipush (100), 0, 0, 0, .int (100)), (.if_icmp .ge (31), 44, 0, 0, .null), (.lload 6, 0, 0, 0, .null), (.lconst 0, 0, 0, 0, .long 0), (.lcmp, 0, 0, 0, .null), (.ifCond .eq (24), 44, 0, 0, .null), (.lload 4, 0, 0, 0, .null), (.lload 6, 0, 0, 0, .null), (.lrem, 0, 0, 0, .null), (.lstore 9, 0, 0, 0, .null), (.lload 6, 0, 0, 0, .null), (.lstore 4, 0, 0, 0, .null), (.lload 9, 0, 0, 0, .null), (.lstore 6, 0, 0, 0, .null), (.iinc 8 (1), 0, 0, 0, .int (1)), (.goto (-32), 9, 0, 0, .null)]
def xb_Scales_commonDivisor_44 : List xv_Op := [(.lload 4, 0, 0, 0, .null), (.lreturn, 0, 0, 0, .null)]
def xl_Scales_commonDivisor : xv_B := [(0, xb_Scales_commonDivisor_0), (9, xb_Scales_commonDivisor_9), (44, xb_Scales_commonDivisor_44)]
def xm_Scales_commonDivisor : xv_M := (⟨"OnionCourt$Scales", "commonDivisor", "(JJ)J"⟩, prog_10_method_9_code, 11, (some .long), (6, 0, 2), [0, 2, 4, 6, 9], xl_Scales_commonDivisor)
def xb_Scales_heaviest_0 : List xv_Op := [(.iconst (0), 0, 0, 0, .int (0)), (.istore_n 1, 0, 0, 0, .null), (.iconst (1), 0, 0, 0, .int (1)), (.istore_n 2, 0, 0, 0, .null), (.nop, 4, 0, 0, .null)]
def xb_Scales_heaviest_4 : List xv_Op := [(.iload_n 2, 0, 0, 0, .null), (.bipush (32), 0, 0, 0, .int (32)), (.if_icmp .ge (27), 34, 0, 0, .null), (.aload_n 0, 0, 0, 0, .null), (.getfield 15, 1, 6, 207, .null), (.iload_n 2, 0, 0, 0, .null), (.laload, 0, 0, 0, .null), (.aload_n 0, 0, 0, 0, .null), (.getfield 15, 1, 6, 207, .null), (.iload_n 1, 0, 0, 0, .null), (.laload, 0, 0, 0, .null), (.lcmp, 0, 0, 0, .null), (.ifCond .le (5), 28, 0, 0, .null), (.iload_n 2, 0, 0, 0, .null), (.istore_n 1, 0, 0, 0, .null), (.nop, 28, 0, 0, .null)]
def xb_Scales_heaviest_28 : List xv_Op := [(.iinc 2 (1), 0, 0, 0, .int (1)), (.goto (-27), 4, 0, 0, .null)]
def xb_Scales_heaviest_34 : List xv_Op := [(.iload_n 1, 0, 0, 0, .null), (.ireturn, 0, 0, 0, .null)]
def xl_Scales_heaviest : xv_B := [(0, xb_Scales_heaviest_0), (4, xb_Scales_heaviest_4), (28, xb_Scales_heaviest_28), (34, xb_Scales_heaviest_34)]
def xm_Scales_heaviest : xv_M := (⟨"OnionCourt$Scales", "heaviest", "()I"⟩, prog_10_method_10_code, 3, (some .int), (6, 1, 0), [], xl_Scales_heaviest)
def xb_Scales_likelyFacts_0 : List xv_Op := [(.iconst (0), 0, 0, 0, .int (0)), (.istore_n 1, 0, 0, 0, .null), (.iconst (0), 0, 0, 0, .int (0)), (.istore_n 2, 0, 0, 0, .null), (.nop, 4, 0, 0, .null)]
def xb_Scales_likelyFacts_4 : List xv_Op := [(.iload_n 2, 0, 0, 0, .null), (.iconst (5), 0, 0, 0, .int (5)), (.if_icmp .ge (40), 46, 0, 0, .null), (.iload_n 1, 0, 0, 0, .null), (.ldc2_w 39, 0, 0, 900, .long (2)), (.aload_n 0, 0, 0, 0, .null), (.getstatic 41, 0, 0, 901, .null), (.iload_n 2, 0, 0, 0, .null), (.iaload, 0, 1, 0, .null), (.invokevirtual 25, 238, 1, 866, .int 6), (.lmul, 0, 0, 0, .null), (.aload_n 0, 0, 0, 0, .null), (.invokevirtual 29, 239, 0, 870, .int 6), (.lcmp, 0, 0, 0, .null), (.ifCond .le (9), 37, 0, 0, .null), (.iconst (1), 0, 0, 0, .int (1)), (.iload_n 2, 0, 0, 0, .null), (.ishl, 0, 0, 0, .null), (.goto (4), 38, 0, 0, .null)]
def xb_Scales_likelyFacts_37 : List xv_Op := [(.iconst (0), 0, 0, 0, .int (0)), (.nop, 38, 0, 0, .null)]
def xb_Scales_likelyFacts_38 : List xv_Op := [(.ior, 0, 0, 0, .null), (.istore_n 1, 0, 0, 0, .null), (.iinc 2 (1), 0, 0, 0, .int (1)), (.goto (-39), 4, 0, 0, .null)]
def xb_Scales_likelyFacts_46 : List xv_Op := [(.iload_n 1, 0, 0, 0, .null), (.ireturn, 0, 0, 0, .null)]
def xl_Scales_likelyFacts : xv_B := [(0, xb_Scales_likelyFacts_0), (4, xb_Scales_likelyFacts_4), (37, xb_Scales_likelyFacts_37), (38, xb_Scales_likelyFacts_38), (46, xb_Scales_likelyFacts_46)]
def xm_Scales_likelyFacts : xv_M := (⟨"OnionCourt$Scales", "likelyFacts", "()I"⟩, prog_10_method_11_code, 3, (some .int), (6, 1, 0), [], xl_Scales_likelyFacts)
def xb_Tape_init_0 : List xv_Op := [(.aload_n 0, 0, 0, 0, .null), (.invokespecial 3, 0, 0, 103, .null), (.aload_n 0, 0, 0, 0, .null), (.sipush (260), 0, 0, 0, .int (260)), (.newarray .int, 0, 0, 120, .null), (.putfield 9, 0, 2, 104, .int 3), (.return_, 0, 0, 0, .null)]
def xl_Tape_init : xv_B := [(0, xb_Tape_init_0)]
def xm_Tape_init : xv_M := (⟨"OnionCourt$Tape", "<init>", "()V"⟩, prog_11_method_1_code, 1, none, (2, 2, 0), [], xl_Tape_init)
def xb_Tape_hasRoomFor_0 : List xv_Op := [(.aload_n 0, 0, 0, 0, .null), (.getfield 15, 1, 2, 105, .null), (.iload_n 1, 0, 0, 0, .null), (.iadd, 0, 0, 0, .null), (.sipush (260), 0, 0, 0, .int (260)), (.if_icmp .gt (7), 16, 0, 0, .null), (.iconst (1), 0, 0, 0, .int (1)), (.goto (4), 17, 0, 0, .null)]
def xb_Tape_hasRoomFor_16 : List xv_Op := [(.iconst (0), 0, 0, 0, .int (0)), (.nop, 17, 0, 0, .null)]
def xb_Tape_hasRoomFor_17 : List xv_Op := [(.ireturn, 0, 0, 0, .null)]
def xl_Tape_hasRoomFor : xv_B := [(0, xb_Tape_hasRoomFor_0), (16, xb_Tape_hasRoomFor_16), (17, xb_Tape_hasRoomFor_17)]
def xm_Tape_hasRoomFor : xv_M := (⟨"OnionCourt$Tape", "hasRoomFor", "(I)Z"⟩, prog_11_method_2_code, 2, (some .boolean), (2, 1, 1), [], xl_Tape_hasRoomFor)
def xb_Tape_append_0 : List xv_Op := [(.bipush (24), 0, 0, 0, .int (24)), (.istore_n 2, 0, 0, 0, .null), (.nop, 3, 0, 0, .null)]
def xb_Tape_append_3 : List xv_Op := [(.iload_n 2, 0, 0, 0, .null), (.ifCond .lt (54), 58, 0, 0, .null), (.aload_n 0, 0, 0, 0, .null), (.getfield 15, 1, 2, 105, .null), (.ifCond .lt (41), 52, 0, 0, .null), (.aload_n 0, 0, 0, 0, .null), (.getfield 15, 1, 2, 105, .null), (.aload_n 0, 0, 0, 0, .null), (.getfield 9, 0, 2, 104, .null), (.arraylength, 0, 0, 0, .null), (.if_icmp .ge (29), 52, 0, 0, .null), (.aload_n 0, 0, 0, 0, .null), (.getfield 9, 0, 2, 104, .null), (.aload_n 0, 0, 0, 0, .null), (.getfield 15, 1, 2, 105, .null), (.iload_n 1, 0, 0, 0, .null), (.iload_n 2, 0, 0, 0, .null), (.ishr, 0, 0, 0, .null), (.sipush (255), 0, 0, 0, .int (255)), (.iand, 0, 0, 0, .null), (.iastore, 0, 0, 0, .null), (.aload_n 0, 0, 0, 0, .null), (.dup, 0, 0, 0, .null), (.getfield 15, 1, 2, 105, .null), (.iconst (1), 0, 0, 0, .int (1)), (.iadd, 0, 0, 0, .null), (.putfield 15, 1, 2, 105, .int 0), (.nop, 52, 0, 0, .null)]
def xb_Tape_append_52 : List xv_Op := [(.iinc 2 (-8), 0, 0, 0, .int (-8)), (.goto (-52), 3, 0, 0, .null)]
def xb_Tape_append_58 : List xv_Op := [(.return_, 0, 0, 0, .null)]
def xl_Tape_append : xv_B := [(0, xb_Tape_append_0), (3, xb_Tape_append_3), (52, xb_Tape_append_52), (58, xb_Tape_append_58)]
def xm_Tape_append : xv_M := (⟨"OnionCourt$Tape", "append", "(I)V"⟩, prog_11_method_3_code, 3, none, (2, 1, 1), [], xl_Tape_append)
def xb_Tape_size_0 : List xv_Op := [(.aload_n 0, 0, 0, 0, .null), (.getfield 15, 1, 2, 105, .null), (.ireturn, 0, 0, 0, .null)]
def xl_Tape_size : xv_B := [(0, xb_Tape_size_0)]
def xm_Tape_size : xv_M := (⟨"OnionCourt$Tape", "size", "()I"⟩, prog_11_method_4_code, 1, (some .int), (2, 1, 0), [], xl_Tape_size)
def xb_Tape_cut_0 : List xv_Op := [(.iload_n 1, 0, 0, 0, .null), (.iload_n 2, 0, 0, 0, .null), (.if_icmp .lt (16), 18, 0, 0, .null), (.iload_n 1, 0, 0, 0, .null), (.iload_n 3, 0, 0, 0, .null), (.if_icmp .gt (11), 18, 0, 0, .null), (.iload_n 1, 0, 0, 0, .null), (.aload_n 0, 0, 0, 0, .null), (.getfield 15, 1, 2, 105, .null), (.if_icmp .le (5), 20, 0, 0, .null), (.nop, 18, 0, 0, .null)]
def xb_Tape_cut_18 : List xv_Op := [(.iconst (0), 0, 0, 0, .int (0)), (.ireturn, 0, 0, 0, .null)]
def xb_Tape_cut_20 : List xv_Op := [(.aload_n 0, 0, 0, 0, .null), (.iconst (0), 0, 0, 0, .int (0)), (.putfield 15, 1, 2, 105, .int 0), (.aload_n 0, 0, 0, 0, .null), (.iload_n 1, 0, 0, 0, .null), (.putfield 19, 2, 2, 106, .int 0), (.aload_n 0, 0, 0, 0, .null), (.iconst (0), 0, 0, 0, .int (0)), (.putfield 22, 3, 2, 107, .int 0), (.aload_n 0, 0, 0, 0, .null), (.iconst (0), 0, 0, 0, .int (0)), (.putfield 25, 4, 2, 108, .int 0), (.iconst (1), 0, 0, 0, .int (1)), (.ireturn, 0, 0, 0, .null)]
def xl_Tape_cut : xv_B := [(0, xb_Tape_cut_0), (18, xb_Tape_cut_18), (20, xb_Tape_cut_20)]
def xm_Tape_cut : xv_M := (⟨"OnionCourt$Tape", "cut", "(III)Z"⟩, prog_11_method_5_code, 4, (some .boolean), (2, 1, 3), [], xl_Tape_cut)
def xb_Tape_byteAt_0 : List xv_Op := [(.iload_n 1, 0, 0, 0, .null), (.ifCond .lt (29), 30, 0, 0, .null), (.iload_n 1, 0, 0, 0, .null), (.aload_n 0, 0, 0, 0, .null), (.getfield 19, 2, 2, 106, .null), (.if_icmp .ge (21), 30, 0, 0, .null), (.iload_n 1, 0, 0, 0, .null), (.aload_n 0, 0, 0, 0, .null), (.getfield 9, 0, 2, 104, .null), (.arraylength, 0, 0, 0, .null), (.if_icmp .ge (12), 30, 0, 0, .null), (.aload_n 0, 0, 0, 0, .null), (.getfield 9, 0, 2, 104, .null), (.iload_n 1, 0, 0, 0, .null), (.iaload, 0, 0, 0, .null), (.goto (4), 31, 0, 0, .null)]
def xb_Tape_byteAt_30 : List xv_Op := [(.iconst (0), 0, 0, 0, .int (0)), (.nop, 31, 0, 0, .null)]
def xb_Tape_byteAt_31 : List xv_Op := [(.ireturn, 0, 0, 0, .null)]
def xl_Tape_byteAt : xv_B := [(0, xb_Tape_byteAt_0), (30, xb_Tape_byteAt_30), (31, xb_Tape_byteAt_31)]
def xm_Tape_byteAt : xv_M := (⟨"OnionCourt$Tape", "byteAt", "(I)I"⟩, prog_11_method_6_code, 2, (some .int), (2, 1, 1), [], xl_Tape_byteAt)
def xb_Tape_place_0 : List xv_Op := [(.aload_n 0, 0, 0, 0, .null), (.getfield 22, 3, 2, 107, .null), (.ireturn, 0, 0, 0, .null)]
def xl_Tape_place : xv_B := [(0, xb_Tape_place_0)]
def xm_Tape_place : xv_M := (⟨"OnionCourt$Tape", "place", "()I"⟩, prog_11_method_7_code, 1, (some .int), (2, 1, 0), [], xl_Tape_place)
def xb_Tape_sign_0 : List xv_Op := [(.aload_n 0, 0, 0, 0, .null), (.getfield 25, 4, 2, 108, .null), (.ifCond .ne (26), 30, 0, 0, .null), (.aload_n 0, 0, 0, 0, .null), (.getfield 22, 3, 2, 107, .null), (.aload_n 0, 0, 0, 0, .null), (.getfield 19, 2, 2, 106, .null), (.if_icmp .ge (15), 30, 0, 0, .null), (.aload_n 0, 0, 0, 0, .null), (.getfield 22, 3, 2, 107, .null), (.aload_n 0, 0, 0, 0, .null), (.getfield 9, 0, 2, 104, .null), (.arraylength, 0, 0, 0, .null), (.if_icmp .lt (7), 34, 0, 0, .null), (.nop, 30, 0, 0, .null)]
def xb_Tape_sign_30 : List xv_Op := [(.iconst (-1), 0, 0, 0, .int (-1)), (.goto (12), 43, 0, 0, .null)]
def xb_Tape_sign_34 : List xv_Op := [(.aload_n 0, 0, 0, 0, .null), (.getfield 9, 0, 2, 104, .null), (.aload_n 0, 0, 0, 0, .null), (.getfield 22, 3, 2, 107, .null), (.iaload, 0, 0, 0, .null), (.nop, 43, 0, 0, .null)]
def xb_Tape_sign_43 : List xv_Op := [(.ireturn, 0, 0, 0, .null)]
def xl_Tape_sign : xv_B := [(0, xb_Tape_sign_0), (30, xb_Tape_sign_30), (34, xb_Tape_sign_34), (43, xb_Tape_sign_43)]
def xm_Tape_sign : xv_M := (⟨"OnionCourt$Tape", "sign", "()I"⟩, prog_11_method_8_code, 1, (some .int), (2, 1, 0), [], xl_Tape_sign)
def xb_Tape_digit_0 : List xv_Op := [(.aload_n 0, 0, 0, 0, .null), (.invokevirtual 28, 251, 0, 486, .int 2), (.bipush (48), 0, 0, 0, .int (48)), (.isub, 0, 0, 0, .null), (.istore_n 1, 0, 0, 0, .null), (.iload_n 1, 0, 0, 0, .null), (.ifCond .lt (9), 18, 0, 0, .null), (.iload_n 1, 0, 0, 0, .null), (.bipush (9), 0, 0, 0, .int (9)), (.if_icmp .le (5), 20, 0, 0, .null), (.nop, 18, 0, 0, .null)]
def xb_Tape_digit_18 : List xv_Op := [(.iconst (-1), 0, 0, 0, .int (-1)), (.ireturn, 0, 0, 0, .null)]
def xb_Tape_digit_20 : List xv_Op := [(.aload_n 0, 0, 0, 0, .null), (.dup, 0, 0, 0, .null), (.getfield 22, 3, 2, 107, .null), (.iconst (1), 0, 0, 0, .int (1)), (.iadd, 0, 0, 0, .null), (.putfield 22, 3, 2, 107, .int 0), (.iload_n 1, 0, 0, 0, .null), (.ireturn, 0, 0, 0, .null)]
def xl_Tape_digit : xv_B := [(0, xb_Tape_digit_0), (18, xb_Tape_digit_18), (20, xb_Tape_digit_20)]
def xm_Tape_digit : xv_M := (⟨"OnionCourt$Tape", "digit", "()I"⟩, prog_11_method_9_code, 2, (some .int), (2, 1, 0), [], xl_Tape_digit)
def xb_Tape_step_0 : List xv_Op := [(.aload_n 0, 0, 0, 0, .null), (.getfield 22, 3, 2, 107, .null), (.aload_n 0, 0, 0, 0, .null), (.getfield 19, 2, 2, 106, .null), (.if_icmp .ge (13), 21, 0, 0, .null), (.aload_n 0, 0, 0, 0, .null), (.dup, 0, 0, 0, .null), (.getfield 22, 3, 2, 107, .null), (.iconst (1), 0, 0, 0, .int (1)), (.iadd, 0, 0, 0, .null), (.putfield 22, 3, 2, 107, .int 0), (.nop, 21, 0, 0, .null)]
def xb_Tape_step_21 : List xv_Op := [(.return_, 0, 0, 0, .null)]
def xl_Tape_step : xv_B := [(0, xb_Tape_step_0), (21, xb_Tape_step_21)]
def xm_Tape_step : xv_M := (⟨"OnionCourt$Tape", "step", "()V"⟩, prog_11_method_10_code, 1, none, (2, 1, 0), [], xl_Tape_step)
def xb_Tape_take_0 : List xv_Op := [(.aload_n 0, 0, 0, 0, .null), (.invokevirtual 28, 251, 0, 486, .int 2), (.iload_n 1, 0, 0, 0, .null), (.if_icmp .ne (7), 12, 0, 0, .null), (.iconst (1), 0, 0, 0, .int (1)), (.goto (4), 13, 0, 0, .null)]
def xb_Tape_take_12 : List xv_Op := [(.iconst (0), 0, 0, 0, .int (0)), (.nop, 13, 0, 0, .null)]
def xb_Tape_take_13 : List xv_Op := [(.istore_n 2, 0, 0, 0, .null), (.iload_n 2, 0, 0, 0, .null), (.ifCond .eq (7), 22, 0, 0, .null), (.aload_n 0, 0, 0, 0, .null), (.invokevirtual 32, 253, 0, 487, .int 2), (.nop, 22, 0, 0, .null)]
def xb_Tape_take_22 : List xv_Op := [(.iload_n 2, 0, 0, 0, .null), (.ireturn, 0, 0, 0, .null)]
def xl_Tape_take : xv_B := [(0, xb_Tape_take_0), (12, xb_Tape_take_12), (13, xb_Tape_take_13), (22, xb_Tape_take_22)]
def xm_Tape_take : xv_M := (⟨"OnionCourt$Tape", "take", "(I)Z"⟩, prog_11_method_11_code, 3, (some .boolean), (2, 1, 1), [], xl_Tape_take)
def xb_Tape_expect_0 : List xv_Op := [(.aload_n 0, 0, 0, 0, .null), (.iload_n 1, 0, 0, 0, .null), (.invokevirtual 35, 254, 1, 482, .int 2), (.ifCond .ne (12), 17, 0, 0, .null), (.aload_n 0, 0, 0, 0, .null), (.iconst (1), 0, 0, 0, .int (1)), (.aload_n 0, 0, 0, 0, .null), (.getfield 22, 3, 2, 107, .null), (.invokevirtual 39, 257, 2, 488, .int 2), (.nop, 17, 0, 0, .null)]
def xb_Tape_expect_17 : List xv_Op := [(.return_, 0, 0, 0, .null)]
def xl_Tape_expect : xv_B := [(0, xb_Tape_expect_0), (17, xb_Tape_expect_17)]
def xm_Tape_expect : xv_M := (⟨"OnionCourt$Tape", "expect", "(I)V"⟩, prog_11_method_12_code, 2, none, (2, 1, 1), [], xl_Tape_expect)
def xb_Tape_expectEnd_0 : List xv_Op := [(.aload_n 0, 0, 0, 0, .null), (.invokevirtual 28, 251, 0, 486, .int 2), (.iconst (-1), 0, 0, 0, .int (-1)), (.if_icmp .eq (12), 17, 0, 0, .null), (.aload_n 0, 0, 0, 0, .null), (.iconst (1), 0, 0, 0, .int (1)), (.aload_n 0, 0, 0, 0, .null), (.getfield 22, 3, 2, 107, .null), (.invokevirtual 39, 257, 2, 488, .int 2), (.nop, 17, 0, 0, .null)]
def xb_Tape_expectEnd_17 : List xv_Op := [(.return_, 0, 0, 0, .null)]
def xl_Tape_expectEnd : xv_B := [(0, xb_Tape_expectEnd_0), (17, xb_Tape_expectEnd_17)]
def xm_Tape_expectEnd : xv_M := (⟨"OnionCourt$Tape", "expectEnd", "()V"⟩, prog_11_method_13_code, 1, none, (2, 1, 0), [], xl_Tape_expectEnd)
def xb_Tape_refuse_0 : List xv_Op := [(.aload_n 0, 0, 0, 0, .null), (.getfield 25, 4, 2, 108, .null), (.ifCond .ne (14), 18, 0, 0, .null), (.aload_n 0, 0, 0, 0, .null), (.sipush (-1000), 0, 0, 0, .int (-1000)), (.iload_n 1, 0, 0, 0, .null), (.imul, 0, 0, 0, .null), (.iload_n 2, 0, 0, 0, .null), (.isub, 0, 0, 0, .null), (.putfield 25, 4, 2, 108, .int 0), (.nop, 18, 0, 0, .null)]
def xb_Tape_refuse_18 : List xv_Op := [(.return_, 0, 0, 0, .null)]
def xl_Tape_refuse : xv_B := [(0, xb_Tape_refuse_0), (18, xb_Tape_refuse_18)]
def xm_Tape_refuse : xv_M := (⟨"OnionCourt$Tape", "refuse", "(II)V"⟩, prog_11_method_14_code, 3, none, (2, 1, 2), [], xl_Tape_refuse)
def xb_Tape_isFaulty_0 : List xv_Op := [(.aload_n 0, 0, 0, 0, .null), (.getfield 25, 4, 2, 108, .null), (.ifCond .eq (7), 11, 0, 0, .null), (.iconst (1), 0, 0, 0, .int (1)), (.goto (4), 12, 0, 0, .null)]
def xb_Tape_isFaulty_11 : List xv_Op := [(.iconst (0), 0, 0, 0, .int (0)), (.nop, 12, 0, 0, .null)]
def xb_Tape_isFaulty_12 : List xv_Op := [(.ireturn, 0, 0, 0, .null)]
def xl_Tape_isFaulty : xv_B := [(0, xb_Tape_isFaulty_0), (11, xb_Tape_isFaulty_11), (12, xb_Tape_isFaulty_12)]
def xm_Tape_isFaulty : xv_M := (⟨"OnionCourt$Tape", "isFaulty", "()Z"⟩, prog_11_method_15_code, 1, (some .boolean), (2, 1, 0), [], xl_Tape_isFaulty)
def xb_Tape_fault_0 : List xv_Op := [(.aload_n 0, 0, 0, 0, .null), (.getfield 25, 4, 2, 108, .null), (.ireturn, 0, 0, 0, .null)]
def xl_Tape_fault : xv_B := [(0, xb_Tape_fault_0)]
def xm_Tape_fault : xv_M := (⟨"OnionCourt$Tape", "fault", "()I"⟩, prog_11_method_16_code, 1, (some .int), (2, 1, 0), [], xl_Tape_fault)
def xb_Witness_init_0 : List xv_Op := [(.aload_n 0, 0, 0, 0, .null), (.invokespecial 3, 0, 0, 227, .null), (.aload_n 0, 0, 0, 0, .null), (.bipush (12), 0, 0, 0, .int (12)), (.newarray .int, 0, 0, 120, .null), (.putfield 9, 0, 8, 228, .int 3), (.return_, 0, 0, 0, .null)]
def xl_Witness_init : xv_B := [(0, xb_Witness_init_0)]
def xm_Witness_init : xv_M := (⟨"OnionCourt$Witness", "<init>", "()V"⟩, prog_12_method_1_code, 1, none, (8, 2, 0), [], xl_Witness_init)
def xb_Witness_tell_0 : List xv_Op := [(.aload_n 0, 0, 0, 0, .null), (.iconst (1), 0, 0, 0, .int (1)), (.putfield 15, 3, 8, 231, .int 2), (.aload_n 0, 0, 0, 0, .null), (.iload_n 1, 0, 0, 0, .null), (.putfield 19, 2, 8, 230, .int 0), (.aload_n 0, 0, 0, 0, .null), (.iconst (0), 0, 0, 0, .int (0)), (.putfield 23, 1, 8, 229, .int 0), (.return_, 0, 0, 0, .null)]
def xl_Witness_tell : xv_B := [(0, xb_Witness_tell_0)]
def xm_Witness_tell : xv_M := (⟨"OnionCourt$Witness", "tell", "(I)V"⟩, prog_12_method_2_code, 2, none, (8, 1, 1), [], xl_Witness_tell)
def xb_Witness_copy_0 : List xv_Op := [(.aload_n 0, 0, 0, 0, .null), (.aload_n 1, 0, 0, 0, .null), (.getfield 15, 3, 8, 231, .null), (.putfield 15, 3, 8, 231, .int 2), (.aload_n 0, 0, 0, 0, .null), (.aload_n 1, 0, 0, 0, .null), (.getfield 19, 2, 8, 230, .null), (.putfield 19, 2, 8, 230, .int 0), (.aload_n 0, 0, 0, 0, .null), (.aload_n 1, 0, 0, 0, .null), (.getfield 23, 1, 8, 229, .null), (.putfield 23, 1, 8, 229, .int 0), (.iconst (0), 0, 0, 0, .int (0)), (.istore_n 2, 0, 0, 0, .null), (.nop, 26, 0, 0, .null)]
def xb_Witness_copy_26 : List xv_Op := [(.iload_n 2, 0, 0, 0, .null), (.bipush (12), 0, 0, 0, .int (12)), (.if_icmp .ge (21), 50, 0, 0, .null), (.aload_n 0, 0, 0, 0, .null), (.getfield 9, 0, 8, 228, .null), (.iload_n 2, 0, 0, 0, .null), (.aload_n 1, 0, 0, 0, .null), (.getfield 9, 0, 8, 228, .null), (.iload_n 2, 0, 0, 0, .null), (.iaload, 0, 0, 0, .null), (.iastore, 0, 0, 0, .null), (.iinc 2 (1), 0, 0, 0, .int (1)), (.goto (-21), 26, 0, 0, .null)]
def xb_Witness_copy_50 : List xv_Op := [(.return_, 0, 0, 0, .null)]
def xl_Witness_copy : xv_B := [(0, xb_Witness_copy_0), (26, xb_Witness_copy_26), (50, xb_Witness_copy_50)]
def xm_Witness_copy : xv_M := (⟨"OnionCourt$Witness", "copy", "(LOnionCourt$Witness;)V"⟩, prog_12_method_3_code, 3, none, (8, 1, 1), [], xl_Witness_copy)
def xb_Witness_isTold_0 : List xv_Op := [(.aload_n 0, 0, 0, 0, .null), (.getfield 15, 3, 8, 231, .null), (.ireturn, 0, 0, 0, .null)]
def xl_Witness_isTold : xv_B := [(0, xb_Witness_isTold_0)]
def xm_Witness_isTold : xv_M := (⟨"OnionCourt$Witness", "isTold", "()Z"⟩, prog_12_method_4_code, 1, (some .boolean), (8, 1, 0), [], xl_Witness_isTold)
def xb_Witness_honesty_0 : List xv_Op := [(.aload_n 0, 0, 0, 0, .null), (.getfield 19, 2, 8, 230, .null), (.ireturn, 0, 0, 0, .null)]
def xl_Witness_honesty : xv_B := [(0, xb_Witness_honesty_0)]
def xm_Witness_honesty : xv_M := (⟨"OnionCourt$Witness", "honesty", "()I"⟩, prog_12_method_5_code, 1, (some .int), (8, 1, 0), [], xl_Witness_honesty)
def xb_Witness_layers_0 : List xv_Op := [(.aload_n 0, 0, 0, 0, .null), (.getfield 23, 1, 8, 229, .null), (.ireturn, 0, 0, 0, .null)]
def xl_Witness_layers : xv_B := [(0, xb_Witness_layers_0)]
def xm_Witness_layers : xv_M := (⟨"OnionCourt$Witness", "layers", "()I"⟩, prog_12_method_6_code, 1, (some .int), (8, 1, 0), [], xl_Witness_layers)
def xb_Witness_layer_0 : List xv_Op := [(.iload_n 1, 0, 0, 0, .null), (.ifCond .lt (29), 30, 0, 0, .null), (.iload_n 1, 0, 0, 0, .null), (.aload_n 0, 0, 0, 0, .null), (.getfield 23, 1, 8, 229, .null), (.if_icmp .ge (21), 30, 0, 0, .null), (.iload_n 1, 0, 0, 0, .null), (.aload_n 0, 0, 0, 0, .null), (.getfield 9, 0, 8, 228, .null), (.arraylength, 0, 0, 0, .null), (.if_icmp .ge (12), 30, 0, 0, .null), (.aload_n 0, 0, 0, 0, .null), (.getfield 9, 0, 8, 228, .null), (.iload_n 1, 0, 0, 0, .null), (.iaload, 0, 0, 0, .null), (.goto (4), 31, 0, 0, .null)]
def xb_Witness_layer_30 : List xv_Op := [(.iconst (0), 0, 0, 0, .int (0)), (.nop, 31, 0, 0, .null)]
def xb_Witness_layer_31 : List xv_Op := [(.ireturn, 0, 0, 0, .null)]
def xl_Witness_layer : xv_B := [(0, xb_Witness_layer_0), (30, xb_Witness_layer_30), (31, xb_Witness_layer_31)]
def xm_Witness_layer : xv_M := (⟨"OnionCourt$Witness", "layer", "(I)I"⟩, prog_12_method_7_code, 2, (some .int), (8, 1, 1), [], xl_Witness_layer)
def xb_Witness_first_0 : List xv_Op := [(.iconst (0), 0, 0, 0, .int (0)), (.istore_n 2, 0, 0, 0, .null), (.iconst (0), 0, 0, 0, .int (0)), (.istore_n 3, 0, 0, 0, .null), (.nop, 4, 0, 0, .null)]
def xb_Witness_first_4 : List xv_Op := [(.iload_n 3, 0, 0, 0, .null), (.iload_n 1, 0, 0, 0, .null), (.if_icmp .ge (23), 29, 0, 0, .null), (.iload_n 3, 0, 0, 0, .null), (.bipush (12), 0, 0, 0, .int (12)), (.if_icmp .ge (17), 29, 0, 0, .null), (.iload_n 2, 0, 0, 0, .null), (.aload_n 0, 0, 0, 0, .null), (.iload_n 3, 0, 0, 0, .null), (.invokevirtual 26, 266, 1, 674, .int 8), (.iadd, 0, 0, 0, .null), (.istore_n 2, 0, 0, 0, .null), (.iinc 3 (1), 0, 0, 0, .int (1)), (.goto (-22), 4, 0, 0, .null)]
def xb_Witness_first_29 : List xv_Op := [(.iload_n 2, 0, 0, 0, .null), (.ireturn, 0, 0, 0, .null)]
def xl_Witness_first : xv_B := [(0, xb_Witness_first_0), (4, xb_Witness_first_4), (29, xb_Witness_first_29)]
def xm_Witness_first : xv_M := (⟨"OnionCourt$Witness", "first", "(I)I"⟩, prog_12_method_8_code, 4, (some .int), (8, 1, 1), [], xl_Witness_first)
def xb_Witness_peel_0 : List xv_Op := [(.aload_n 0, 0, 0, 0, .null), (.iconst (0), 0, 0, 0, .int (0)), (.invokevirtual 26, 266, 1, 674, .int 8), (.istore_n 1, 0, 0, 0, .null), (.iconst (1), 0, 0, 0, .int (1)), (.istore_n 2, 0, 0, 0, .null), (.nop, 8, 0, 0, .null)]
def xb_Witness_peel_8 : List xv_Op := [(.iload_n 2, 0, 0, 0, .null), (.bipush (12), 0, 0, 0, .int (12)), (.if_icmp .ge (23), 34, 0, 0, .null), (.aload_n 0, 0, 0, 0, .null), (.getfield 9, 0, 8, 228, .null), (.iload_n 2, 0, 0, 0, .null), (.iconst (1), 0, 0, 0, .int (1)), (.isub, 0, 0, 0, .null), (.aload_n 0, 0, 0, 0, .null), (.getfield 9, 0, 8, 228, .null), (.iload_n 2, 0, 0, 0, .null), (.iaload, 0, 0, 0, .null), (.iastore, 0, 0, 0, .null), (.iinc 2 (1), 0, 0, 0, .int (1)), (.goto (-23), 8, 0, 0, .null)]
def xb_Witness_peel_34 : List xv_Op := [(.aload_n 0, 0, 0, 0, .null), (.iconst (0), 0, 0, 0, .int (0)), (.aload_n 0, 0, 0, 0, .null), (.getfield 23, 1, 8, 229, .null), (.iconst (1), 0, 0, 0, .int (1)), (.isub, 0, 0, 0, .null), (.invokestatic 30, 2, 0, 678, .null), (.putfield 23, 1, 8, 229, .int 0), (.iload_n 1, 0, 0, 0, .null), (.ireturn, 0, 0, 0, .null)]
def xl_Witness_peel : xv_B := [(0, xb_Witness_peel_0), (8, xb_Witness_peel_8), (34, xb_Witness_peel_34)]
def xm_Witness_peel : xv_M := (⟨"OnionCourt$Witness", "peel", "()I"⟩, prog_12_method_9_code, 3, (some .int), (8, 1, 0), [], xl_Witness_peel)
def xb_Witness_sprout_0 : List xv_Op := [(.aload_n 0, 0, 0, 0, .null), (.getfield 23, 1, 8, 229, .null), (.bipush (12), 0, 0, 0, .int (12)), (.if_icmp .lt (5), 11, 0, 0, .null), (.iconst (0), 0, 0, 0, .int (0)), (.ireturn, 0, 0, 0, .null)]
def xb_Witness_sprout_11 : List xv_Op := [(.bipush (11), 0, 0, 0, .int (11)), (.istore_n 1, 0, 0, 0, .null), (.nop, 14, 0, 0, .null)]
def xb_Witness_sprout_14 : List xv_Op := [(.iload_n 1, 0, 0, 0, .null), (.ifCond .le (23), 38, 0, 0, .null), (.aload_n 0, 0, 0, 0, .null), (.getfield 9, 0, 8, 228, .null), (.iload_n 1, 0, 0, 0, .null), (.aload_n 0, 0, 0, 0, .null), (.getfield 9, 0, 8, 228, .null), (.iload_n 1, 0, 0, 0, .null), (.iconst (1), 0, 0, 0, .int (1)), (.isub, 0, 0, 0, .null), (.iaload, 0, 0, 0, .null), (.iastore, 0, 0, 0, .null), (.iinc 1 (-1), 0, 0, 0, .int (-1)), (.goto (-21), 14, 0, 0, .null)]
def xb_Witness_sprout_38 : List xv_Op := [(.aload_n 0, 0, 0, 0, .null), (.getfield 9, 0, 8, 228, .null), (.iconst (0), 0, 0, 0, .int (0)), (.bipush (50), 0, 0, 0, .int (50)), (.iastore, 0, 0, 0, .null), (.aload_n 0, 0, 0, 0, .null), (.dup, 0, 0, 0, .null), (.getfield 23, 1, 8, 229, .null), (.iconst (1), 0, 0, 0, .int (1)), (.iadd, 0, 0, 0, .null), (.putfield 23, 1, 8, 229, .int 0), (.iconst (1), 0, 0, 0, .int (1)), (.ireturn, 0, 0, 0, .null)]
def xl_Witness_sprout : xv_B := [(0, xb_Witness_sprout_0), (11, xb_Witness_sprout_11), (14, xb_Witness_sprout_14), (38, xb_Witness_sprout_38)]
def xm_Witness_sprout : xv_M := (⟨"OnionCourt$Witness", "sprout", "()Z"⟩, prog_12_method_10_code, 2, (some .boolean), (8, 1, 0), [], xl_Witness_sprout)
def xb_Witness_age_0 : List xv_Op := [(.iconst (0), 0, 0, 0, .int (0)), (.istore_n 3, 0, 0, 0, .null), (.iconst (0), 0, 0, 0, .int (0)), (.istore 4, 0, 0, 0, .null), (.nop, 5, 0, 0, .null)]
def xb_Witness_age_5 : List xv_Op := [(.iload 4, 0, 0, 0, .null), (.aload_n 0, 0, 0, 0, .null), (.getfield 23, 1, 8, 229, .null), (.if_icmp .ge (77), 88, 0, 0, .null), (.iload 4, 0, 0, 0, .null), (.bipush (12), 0, 0, 0, .int (12)), (.if_icmp .ge (70), 88, 0, 0, .null), (.aload_n 2, 0, 0, 0, .null), (.aload_n 0, 0, 0, 0, .null), (.getfield 9, 0, 8, 228, .null), (.iload 4, 0, 0, 0, .null), (.iaload, 0, 0, 0, .null), (.aload_n 0, 0, 0, 0, .null), (.getfield 23, 1, 8, 229, .null), (.invokevirtual 36, 189, 2, 729, .int 5), (.aload_n 0, 0, 0, 0, .null), (.getfield 9, 0, 8, 228, .null), (.iload 4, 0, 0, 0, .null), (.iaload, 0, 0, 0, .null), (.aload_n 1, 0, 0, 0, .null), (.bipush (103), 0, 0, 0, .int (103)), (.aload_n 2, 0, 0, 0, .null), (.invokevirtual 42, 210, 2, 733, .int 4), (.iadd, 0, 0, 0, .null), (.aload_n 1, 0, 0, 0, .null), (.bipush (121), 0, 0, 0, .int (121)), (.aload_n 2, 0, 0, 0, .null), (.invokevirtual 42, 210, 2, 733, .int 4), (.isub, 0, 0, 0, .null), (.istore 5, 0, 0, 0, .null), (.iload 5, 0, 0, 0, .null), (.ifCond .le (19), 82, 0, 0, .null), (.aload_n 0, 0, 0, 0, .null), (.getfield 9, 0, 8, 228, .null), (.iload_n 3, 0, 0, 0, .null), (.bipush (99), 0, 0, 0, .int (99)), (.iload 5, 0, 0, 0, .null), (.invokestatic 48, 4, 0, 757, .null), (.iastore, 0, 0, 0, .null), (.iinc 3 (1), 0, 0, 0, .int (1)), (.nop, 82, 0, 0, .null)]
def xb_Witness_age_82 : List xv_Op := [(.iinc 4 (1), 0, 0, 0, .int (1)), (.goto (-80), 5, 0, 0, .null)]
def xb_Witness_age_88 : List xv_Op := [(.aload_n 0, 0, 0, 0, .null), (.getfield 23, 1, 8, 229, .null), (.iload_n 3, 0, 0, 0, .null), (.isub, 0, 0, 0, .null), (.istore 4, 0, 0, 0, .null), (.aload_n 0, 0, 0, 0, .null), (.iload_n 3, 0, 0, 0, .null), (.putfield 23, 1, 8, 229, .int 0), (.iload 4, 0, 0, 0, .null), (.ireturn, 0, 0, 0, .null)]
def xl_Witness_age : xv_B := [(0, xb_Witness_age_0), (5, xb_Witness_age_5), (82, xb_Witness_age_82), (88, xb_Witness_age_88)]
def xm_Witness_age : xv_M := (⟨"OnionCourt$Witness", "age", "(LOnionCourt$Law;LOnionCourt$Case;)I"⟩, prog_12_method_11_code, 6, (some .int), (8, 1, 2), [], xl_Witness_age)
def xb_Witness_read_0 : List xv_Op := [(.aload_n 0, 0, 0, 0, .null), (.iconst (0), 0, 0, 0, .int (0)), (.putfield 23, 1, 8, 229, .int 0), (.aload_n 0, 0, 0, 0, .null), (.aload_n 1, 0, 0, 0, .null), (.invokevirtual 51, 272, 1, 599, .int 8), (.iconst (0), 0, 0, 0, .int (0)), (.istore_n 2, 0, 0, 0, .null), (.nop, 12, 0, 0, .null)]
def xb_Witness_read_12 : List xv_Op := [(.iload_n 2, 0, 0, 0, .null), (.bipush (60), 0, 0, 0, .int (60)), (.if_icmp .ge (23), 38, 0, 0, .null), (.aload_n 1, 0, 0, 0, .null), (.bipush (44), 0, 0, 0, .int (44)), (.invokevirtual 55, 254, 1, 609, .int 2), (.ifCond .eq (14), 38, 0, 0, .null), (.aload_n 0, 0, 0, 0, .null), (.aload_n 1, 0, 0, 0, .null), (.invokevirtual 51, 272, 1, 599, .int 8), (.iinc 2 (1), 0, 0, 0, .int (1)), (.goto (-23), 12, 0, 0, .null)]
def xb_Witness_read_38 : List xv_Op := [(.aload_n 1, 0, 0, 0, .null), (.invokevirtual 61, 256, 0, 610, .int 2), (.return_, 0, 0, 0, .null)]
def xl_Witness_read : xv_B := [(0, xb_Witness_read_0), (12, xb_Witness_read_12), (38, xb_Witness_read_38)]
def xm_Witness_read : xv_M := (⟨"OnionCourt$Witness", "read", "(LOnionCourt$Tape;)V"⟩, prog_12_method_12_code, 3, none, (8, 1, 1), [], xl_Witness_read)
def xb_Witness_item_0 : List xv_Op := [(.aload_n 1, 0, 0, 0, .null), (.invokevirtual 64, 250, 0, 603, .int 2), (.istore_n 2, 0, 0, 0, .null), (.aload_n 1, 0, 0, 0, .null), (.invokevirtual 68, 252, 0, 604, .int 2), (.istore_n 3, 0, 0, 0, .null), (.iload_n 3, 0, 0, 0, .null), (.ifCond .ge (9), 20, 0, 0, .null), (.aload_n 1, 0, 0, 0, .null), (.iconst (1), 0, 0, 0, .int (1)), (.iload_n 2, 0, 0, 0, .null), (.invokevirtual 71, 257, 2, 605, .int 2), (.nop, 20, 0, 0, .null)]
def xb_Witness_item_20 : List xv_Op := [(.aload_n 1, 0, 0, 0, .null), (.invokevirtual 68, 252, 0, 604, .int 2), (.istore 4, 0, 0, 0, .null), (.iload 4, 0, 0, 0, .null), (.ifCond .lt (11), 39, 0, 0, .null), (.bipush (10), 0, 0, 0, .int (10)), (.iload_n 3, 0, 0, 0, .null), (.imul, 0, 0, 0, .null), (.iload 4, 0, 0, 0, .null), (.iadd, 0, 0, 0, .null), (.istore_n 3, 0, 0, 0, .null), (.nop, 39, 0, 0, .null)]
def xb_Witness_item_39 : List xv_Op := [(.iload_n 3, 0, 0, 0, .null), (.ifCond .ne (9), 49, 0, 0, .null), (.aload_n 1, 0, 0, 0, .null), (.iconst (3), 0, 0, 0, .int (3)), (.iload_n 2, 0, 0, 0, .null), (.invokevirtual 71, 257, 2, 605, .int 2), (.nop, 49, 0, 0, .null)]
def xb_Witness_item_49 : List xv_Op := [(.aload_n 1, 0, 0, 0, .null), (.invokestatic 74, 273, 1, 606, .int 0), (.istore 5, 0, 0, 0, .null), (.aload_n 0, 0, 0, 0, .null), (.getfield 23, 1, 8, 229, .null), (.iload 5, 0, 0, 0, .null), (.iadd, 0, 0, 0, .null), (.bipush (12), 0, 0, 0, .int (12)), (.if_icmp .le (10), 74, 0, 0, .null), (.aload_n 1, 0, 0, 0, .null), (.bipush (6), 0, 0, 0, .int (6)), (.iload_n 2, 0, 0, 0, .null), (.invokevirtual 71, 257, 2, 605, .int 2), (.nop, 74, 0, 0, .null)]
def xb_Witness_item_74 : List xv_Op := [(.iconst (0), 0, 0, 0, .int (0)), (.istore 6, 0, 0, 0, .null), (.nop, 77, 0, 0, .null)]
def xb_Witness_item_77 : List xv_Op := [(.iload 6, 0, 0, 0, .null), (.iload 5, 0, 0, 0, .null), (.if_icmp .ge (38), 119, 0, 0, .null), (.aload_n 0, 0, 0, 0, .null), (.getfield 23, 1, 8, 229, .null), (.bipush (12), 0, 0, 0, .int (12)), (.if_icmp .ge (29), 119, 0, 0, .null), (.aload_n 0, 0, 0, 0, .null), (.getfield 9, 0, 8, 228, .null), (.aload_n 0, 0, 0, 0, .null), (.getfield 23, 1, 8, 229, .null), (.iload_n 3, 0, 0, 0, .null), (.iastore, 0, 0, 0, .null), (.aload_n 0, 0, 0, 0, .null), (.dup, 0, 0, 0, .null), (.getfield 23, 1, 8, 229, .null), (.iconst (1), 0, 0, 0, .int (1)), (.iadd, 0, 0, 0, .null), (.putfield 23, 1, 8, 229, .int 0), (.iinc 6 (1), 0, 0, 0, .int (1)), (.goto (-39), 77, 0, 0, .null)]
def xb_Witness_item_119 : List xv_Op := [(.return_, 0, 0, 0, .null)]
def xl_Witness_item : xv_B := [(0, xb_Witness_item_0), (20, xb_Witness_item_20), (39, xb_Witness_item_39), (49, xb_Witness_item_49), (74, xb_Witness_item_74), (77, xb_Witness_item_77), (119, xb_Witness_item_119)]
def xm_Witness_item : xv_M := (⟨"OnionCourt$Witness", "item", "(LOnionCourt$Tape;)V"⟩, prog_12_method_13_code, 7, none, (8, 1, 1), [], xl_Witness_item)
def xb_Witness_times_0 : List xv_Op := [(.aload_n 0, 0, 0, 0, .null), (.bipush (120), 0, 0, 0, .int (120)), (.invokevirtual 55, 254, 1, 609, .int 2), (.ifCond .ne (5), 11, 0, 0, .null), (.iconst (1), 0, 0, 0, .int (1)), (.ireturn, 0, 0, 0, .null)]
def xb_Witness_times_11 : List xv_Op := [(.aload_n 0, 0, 0, 0, .null), (.invokevirtual 64, 250, 0, 603, .int 2), (.istore_n 1, 0, 0, 0, .null), (.aload_n 0, 0, 0, 0, .null), (.invokevirtual 68, 252, 0, 604, .int 2), (.istore_n 2, 0, 0, 0, .null), (.iload_n 2, 0, 0, 0, .null), (.iconst (2), 0, 0, 0, .int (2)), (.if_icmp .ge (9), 32, 0, 0, .null), (.aload_n 0, 0, 0, 0, .null), (.iconst (1), 0, 0, 0, .int (1)), (.iload_n 1, 0, 0, 0, .null), (.invokevirtual 71, 257, 2, 605, .int 2), (.nop, 32, 0, 0, .null)]
def xb_Witness_times_32 : List xv_Op := [(.iload_n 2, 0, 0, 0, .null), (.ireturn, 0, 0, 0, .null)]
def xl_Witness_times : xv_B := [(0, xb_Witness_times_0), (11, xb_Witness_times_11), (32, xb_Witness_times_32)]
def xm_Witness_times : xv_M := (⟨"OnionCourt$Witness", "times", "(LOnionCourt$Tape;)I"⟩, prog_12_method_14_code, 3, (some .int), (8, 0, 1), [], xl_Witness_times)
def xb_Integer_bitCount_0 : List xv_Op := [(.iload_n 0, 0, 0, 0, .null), (.iload_n 0, 0, 0, 0, .null), (.iconst (1), 0, 0, 0, .int (1)), (.iushr, 0, 0, 0, .null), (.ldc_w 265, 0, 0, 576, .int (1431655765)), (.iand, 0, 0, 0, .null), (.isub, 0, 0, 0, .null), (.istore_n 0, 0, 0, 0, .null), (.iload_n 0, 0, 0, 0, .null), (.ldc_w 266, 0, 0, 577, .int (858993459)), (.iand, 0, 0, 0, .null), (.iload_n 0, 0, 0, 0, .null), (.iconst (2), 0, 0, 0, .int (2)), (.iushr, 0, 0, 0, .null), (.ldc_w 266, 0, 0, 577, .int (858993459)), (.iand, 0, 0, 0, .null), (.iadd, 0, 0, 0, .null), (.istore_n 0, 0, 0, 0, .null), (.iload_n 0, 0, 0, 0, .null), (.iload_n 0, 0, 0, 0, .null), (.iconst (4), 0, 0, 0, .int (4)), (.iushr, 0, 0, 0, .null), (.iadd, 0, 0, 0, .null), (.ldc_w 267, 0, 0, 578, .int (252645135)), (.iand, 0, 0, 0, .null), (.istore_n 0, 0, 0, 0, .null), (.iload_n 0, 0, 0, 0, .null), (.iload_n 0, 0, 0, 0, .null), (.bipush (8), 0, 0, 0, .int (8)), (.iushr, 0, 0, 0, .null), (.iadd, 0, 0, 0, .null), (.istore_n 0, 0, 0, 0, .null), (.iload_n 0, 0, 0, 0, .null), (.iload_n 0, 0, 0, 0, .null), (.bipush (16), 0, 0, 0, .int (16)), (.iushr, 0, 0, 0, .null), (.iadd, 0, 0, 0, .null), (.istore_n 0, 0, 0, 0, .null), (.iload_n 0, 0, 0, 0, .null), (.bipush (63), 0, 0, 0, .int (63)), (.iand, 0, 0, 0, .null), (.ireturn, 0, 0, 0, .null)]
def xl_Integer_bitCount : xv_B := [(0, xb_Integer_bitCount_0)]
def xm_Integer_bitCount : xv_M := (⟨"java/lang/Integer", "bitCount", "(I)I"⟩, prog_15_method_49_code, 1, (some .int), (99, 0, 1), [], xl_Integer_bitCount)
end
section
/-! THE METHODS, resolved: printed by program out of the listing -/
def xb_Mo_init_0 : List xv_Op := [(.aload_n 0, 0, 0, 0, .null), (.invokespecial 1, 0, 0, 1096, .null), (.aload_n 0, 0, 0, 0, .null), (.sipush (304), 0, 0, 0, .int (304)), (.newarray .int, 0, 0, 120, .null), (.putfield 7, 0, 0, 1097, .int 3), (.aload_n 0, 0, 0, 0, .null), (.sipush (304), 0, 0, 0, .int (304)), (.newarray .int, 0, 0, 120, .null), (.putfield 13, 1, 0, 1098, .int 3), (.aload_n 0, 0, 0, 0, .null), (.sipush (304), 0, 0, 0, .int (304)), (.newarray .int, 0, 0, 120, .null), (.putfield 16, 2, 0, 1099, .int 3), (.aload_n 0, 0, 0, 0, .null), (.iconst (5), 0, 0, 0, .int (5)), (.newarray .int, 0, 0, 120, .null), (.putfield 19, 3, 0, 1100, .int 3), (.aload_n 0, 0, 0, 0, .null), (.bipush (8), 0, 0, 0, .int (8)), (.newarray .long, 1, 0, 168, .null), (.putfield 22, 4, 0, 1101, .int 3), (.aload_n 0, 0, 0, 0, .null), (.sipush (260), 0, 0, 0, .int (260)), (.newarray .byte, 2, 0, 1254, .null), (.putfield 26, 6, 0, 1103, .int 3), (.aload_n 0, 0, 0, 0, .null), (.sipush (260), 0, 0, 0, .int (260)), (.newarray .int, 0, 0, 120, .null), (.putfield 30, 17, 0, 1114, .int 3), (.aload_n 0, 0, 0, 0, .null), (.sipush (260), 0, 0, 0, .int (260)), (.newarray .int, 0, 0, 120, .null), (.putfield 33, 18, 0, 1115, .int 3), (.aload_n 0, 0, 0, 0, .null), (.bipush (16), 0, 0, 0, .int (16)), (.newarray .int, 0, 0, 120, .null), (.putfield 36, 19, 0, 1116, .int 3), (.aload_n 0, 0, 0, 0, .null), (.bipush (16), 0, 0, 0, .int (16)), (.newarray .int, 0, 0, 120, .null), (.putfield 39, 20, 0, 1117, .int 3), (.aload_n 0, 0, 0, 0, .null), (.bipush (16), 0, 0, 0, .int (16)), (.newarray .int, 0, 0, 120, .null), (.putfield 42, 21, 0, 1118, .int 3), (.aload_n 0, 0, 0, 0, .null), (.bipush (16), 0, 0, 0, .int (16)), (.newarray .int, 0, 0, 120, .null), (.putfield 45, 22, 0, 1119, .int 3), (.aload_n 0, 0, 0, 0, .null), (.sipush (260), 0, 0, 0, .int (260)), (.newarray .int, 0, 0, 120, .null), (.putfield 48, 23, 0, 1120, .int 3), (.aload_n 0, 0, 0, 0, .null), (.bipush (16), 0, 0, 0, .int (16)), (.newarray .int, 0, 0, 120, .null), (.putfield 51, 24, 0, 1121, .int 3), (.aload_n 0, 0, 0, 0, .null), (.bipush (16), 0, 0, 0, .int (16)), (.newarray .int, 0, 0, 120, .null), (.putfield 54, 25, 0, 1122, .int 3), (.aload_n 0, 0, 0, 0, .null), (.bipush (16), 0, 0, 0, .int (16)), (.newarray .int, 0, 0, 120, .null), (.putfield 57, 26, 0, 1123, .int 3), (.aload_n 0, 0, 0, 0, .null), (.bipush (16), 0, 0, 0, .int (16)), (.newarray .int, 0, 0, 120, .null), (.putfield 60, 27, 0, 1124, .int 3), (.aload_n 0, 0, 0, 0, .null), (.sipush (260), 0, 0, 0, .int (260)), (.newarray .int, 0, 0, 120, .null), (.putfield 63, 28, 0, 1125, .int 3), (.aload_n 0, 0, 0, 0, .null), (.bipush (8), 0, 0, 0, .int (8)), (.newarray .int, 0, 0, 120, .null), (.putfield 66, 29, 0, 1126, .int 3), (.aload_n 0, 0, 0, 0, .null), (.bipush (60), 0, 0, 0, .int (60)), (.newarray .int, 0, 0, 120, .null), (.putfield 69, 30, 0, 1127, .int 3), (.aload_n 0, 0, 0, 0, .null), (.bipush (60), 0, 0, 0, .int (60)), (.newarray .long, 1, 0, 168, .null), (.putfield 72, 31, 0, 1128, .int 3), (.aload_n 0, 0, 0, 0, .null), (.bipush (12), 0, 0, 0, .int (12)), (.newarray .int, 0, 0, 120, .null), (.putfield 75, 36, 0, 1133, .int 3), (.aload_n 0, 0, 0, 0, .null), (.bipush (20), 0, 0, 0, .int (20)), (.newarray .int, 0, 0, 120, .null), (.putfield 78, 38, 0, 1135, .int 3), (.aload_n 0, 0, 0, 0, .null), (.bipush (20), 0, 0, 0, .int (20)), (.newarray .int, 0, 0, 120, .null), (.putfield 81, 39, 0, 1136, .int 3), (.aload_n 0, 0, 0, 0, .null), (.bipush (20), 0, 0, 0, .int (20)), (.newarray .int, 0, 0, 120, .null), (.putfield 84, 40, 0, 1137, .int 3), (.aload_n 0, 0, 0, 0, .null), (.bipush (10), 0, 0, 0, .int (10)), (.newarray .int, 0, 0, 120, .null), (.putfield 87, 41, 0, 1138, .int 3), (.aload_n 0, 0, 0, 0, .null), (.bipush (32), 0, 0, 0, .int (32)), (.newarray .long, 1, 0, 168, .null), (.putfield 90, 45, 0, 1142, .int 3), (.aload_n 0, 0, 0, 0, .null), (.bipush (10), 0, 0, 0, .int (10)), (.newarray .int, 0, 0, 120, .null), (.putfield 93, 46, 0, 1143, .int 3), (.aload_n 0, 0, 0, 0, .null), (.bipush (11), 0, 0, 0, .int (11)), (.newarray .int, 0, 0, 120, .null), (.putfield 96, 47, 0, 1144, .int 3), (.aload_n 0, 0, 0, 0, .null), (.iconst (5), 0, 0, 0, .int (5)), (.newarray .int, 0, 0, 120, .null), (.putfield 99, 48, 0, 1145, .int 3), (.aload_n 0, 0, 0, 0, .null), (.iconst (5), 0, 0, 0, .int (5)), (.newarray .int, 0, 0, 120, .null), (.putfield 102, 49, 0, 1146, .int 3), (.aload_n 0, 0, 0, 0, .null), (.iconst (5), 0, 0, 0, .int (5)), (.newarray .int, 0, 0, 120, .null), (.putfield 105, 50, 0, 1147, .int 3), (.aload_n 0, 0, 0, 0, .null), (.getfield 7, 0, 0, 1097, .null), (.sipush (303), 0, 0, 0, .int (303)), (.iconst (1), 0, 0, 0, .int (1)), (.iastore, 0, 0, 0, .null), (.iconst (0), 0, 0, 0, .int (0)), (.istore_n 1, 0, 0, 0, .null), (.nop, 275, 0, 0, .null)]
def xb_Mo_init_275 : List xv_Op := [(.iload_n 1, 0, 0, 0, .null), (.iconst (5), 0, 0, 0, .int (5)), (.if_icmp .ge (16), 293, 0, 0, .null), (.aload_n 0, 0, 0, 0, .null), (.getfield 19, 3, 0, 1100, .null), (.iload_n 1, 0, 0, 0, .null), (.iconst (5), 0, 0, 0, .int (5)), (.iastore, 0, 0, 0, .null), (.iinc 1 (1), 0, 0, 0, .int (1)), (.goto (-15), 275, 0, 0, .null)]
def xb_Mo_init_293 : List xv_Op := [(.return_, 0, 0, 0, .null)]
def xl_Mo_init : xv_B := [(0, xb_Mo_init_0), (275, xb_Mo_init_275), (293, xb_Mo_init_293)]
def xm_Mo_init : xv_M := (⟨"OnionCourtModel", "<init>", "()V"⟩, prog_14_method_1_code, 2, none, (0, 2, 0), [], xl_Mo_init)
def xb_Mo_in_0 : List xv_Op := [(.iload_n 0, 0, 0, 0, .null), (.iload_n 1, 0, 0, 0, .null), (.if_icmp .lt (12), 14, 0, 0, .null), (.iload_n 0, 0, 0, 0, .null), (.iload_n 2, 0, 0, 0, .null), (.if_icmp .gt (7), 14, 0, 0, .null), (.iconst (1), 0, 0, 0, .int (1)), (.goto (4), 15, 0, 0, .null)]
def xb_Mo_in_14 : List xv_Op := [(.iconst (0), 0, 0, 0, .int (0)), (.nop, 15, 0, 0, .null)]
def xb_Mo_in_15 : List xv_Op := [(.ireturn, 0, 0, 0, .null)]
def xl_Mo_in : xv_B := [(0, xb_Mo_in_0), (14, xb_Mo_in_14), (15, xb_Mo_in_15)]
def xm_Mo_in : xv_M := (⟨"OnionCourtModel", "in", "(III)Z"⟩, prog_14_method_2_code, 3, (some .boolean), (0, 0, 3), [], xl_Mo_in)
def xb_Mo_min_0 : List xv_Op := [(.iload_n 0, 0, 0, 0, .null), (.iload_n 1, 0, 0, 0, .null), (.if_icmp .ge (7), 9, 0, 0, .null), (.iload_n 0, 0, 0, 0, .null), (.goto (4), 10, 0, 0, .null)]
def xb_Mo_min_9 : List xv_Op := [(.iload_n 1, 0, 0, 0, .null), (.nop, 10, 0, 0, .null)]
def xb_Mo_min_10 : List xv_Op := [(.ireturn, 0, 0, 0, .null)]
def xl_Mo_min : xv_B := [(0, xb_Mo_min_0), (9, xb_Mo_min_9), (10, xb_Mo_min_10)]
def xm_Mo_min : xv_M := (⟨"OnionCourtModel", "min", "(II)I"⟩, prog_14_method_3_code, 2, (some .int), (0, 0, 2), [], xl_Mo_min)
def xb_Mo_max_0 : List xv_Op := [(.iload_n 0, 0, 0, 0, .null), (.iload_n 1, 0, 0, 0, .null), (.if_icmp .le (7), 9, 0, 0, .null), (.iload_n 0, 0, 0, 0, .null), (.goto (4), 10, 0, 0, .null)]
def xb_Mo_max_9 : List xv_Op := [(.iload_n 1, 0, 0, 0, .null), (.nop, 10, 0, 0, .null)]
def xb_Mo_max_10 : List xv_Op := [(.ireturn, 0, 0, 0, .null)]
def xl_Mo_max : xv_B := [(0, xb_Mo_max_0), (9, xb_Mo_max_9), (10, xb_Mo_max_10)]
def xm_Mo_max : xv_M := (⟨"OnionCourtModel", "max", "(II)I"⟩, prog_14_method_4_code, 2, (some .int), (0, 0, 2), [], xl_Mo_max)
def xb_Mo_size_0 : List xv_Op := [(.iload_n 0, 0, 0, 0, .null), (.ifCond .ge (8), 9, 0, 0, .null), (.iload_n 0, 0, 0, 0, .null), (.ineg, 0, 0, 0, .null), (.goto (4), 10, 0, 0, .null)]
def xb_Mo_size_9 : List xv_Op := [(.iload_n 0, 0, 0, 0, .null), (.nop, 10, 0, 0, .null)]
def xb_Mo_size_10 : List xv_Op := [(.ireturn, 0, 0, 0, .null)]
def xl_Mo_size : xv_B := [(0, xb_Mo_size_0), (9, xb_Mo_size_9), (10, xb_Mo_size_10)]
def xm_Mo_size : xv_M := (⟨"OnionCourtModel", "size", "(I)I"⟩, prog_14_method_5_code, 1, (some .int), (0, 0, 1), [], xl_Mo_size)
def xb_Mo_has_0 : List xv_Op := [(.lload_n 0, 0, 0, 0, .null), (.iload_n 2, 0, 0, 0, .null), (.lshr, 0, 0, 0, .null), (.lconst 1, 0, 0, 0, .long 1), (.land, 0, 0, 0, .null), (.lconst 1, 0, 0, 0, .long 1), (.lcmp, 0, 0, 0, .null), (.ifCond .ne (7), 14, 0, 0, .null), (.iconst (1), 0, 0, 0, .int (1)), (.goto (4), 15, 0, 0, .null)]
def xb_Mo_has_14 : List xv_Op := [(.iconst (0), 0, 0, 0, .int (0)), (.nop, 15, 0, 0, .null)]
def xb_Mo_has_15 : List xv_Op := [(.ireturn, 0, 0, 0, .null)]
def xl_Mo_has : xv_B := [(0, xb_Mo_has_0), (14, xb_Mo_has_14), (15, xb_Mo_has_15)]
def xm_Mo_has : xv_M := (⟨"OnionCourtModel", "has", "(JI)Z"⟩, prog_14_method_6_code, 3, (some .boolean), (0, 0, 2), [0], xl_Mo_has)
def xb_Mo_bits_0 : List xv_Op := [(.iconst (0), 0, 0, 0, .int (0)), (.istore_n 2, 0, 0, 0, .null), (.iconst (0), 0, 0, 0, .int (0)), (.istore_n 3, 0, 0, 0, .null), (.nop, 4, 0, 0, .null)]
def xb_Mo_bits_4 : List xv_Op := [(.iload_n 3, 0, 0, 0, .null), (.bipush (32), 0, 0, 0, .int (32)), (.if_icmp .ge (25), 32, 0, 0, .null), (.iload_n 2, 0, 0, 0, .null), (.lload_n 0, 0, 0, 0, .null), (.iload_n 3, 0, 0, 0, .null), (.invokestatic 108, 44, 2, 1373, .int 0), (.ifCond .eq (7), 23, 0, 0, .null), (.iconst (1), 0, 0, 0, .int (1)), (.goto (4), 24, 0, 0, .null)]
def xb_Mo_bits_23 : List xv_Op := [(.iconst (0), 0, 0, 0, .int (0)), (.nop, 24, 0, 0, .null)]
def xb_Mo_bits_24 : List xv_Op := [(.iadd, 0, 0, 0, .null), (.istore_n 2, 0, 0, 0, .null), (.iinc 3 (1), 0, 0, 0, .int (1)), (.goto (-25), 4, 0, 0, .null)]
def xb_Mo_bits_32 : List xv_Op := [(.iload_n 2, 0, 0, 0, .null), (.ireturn, 0, 0, 0, .null)]
def xl_Mo_bits : xv_B := [(0, xb_Mo_bits_0), (4, xb_Mo_bits_4), (23, xb_Mo_bits_23), (24, xb_Mo_bits_24), (32, xb_Mo_bits_32)]
def xm_Mo_bits : xv_M := (⟨"OnionCourtModel", "bits", "(J)I"⟩, prog_14_method_7_code, 4, (some .int), (0, 0, 1), [0], xl_Mo_bits)
def xb_Mo_copies_0 : List xv_Op := [(.iconst (0), 0, 0, 0, .int (0)), (.istore_n 2, 0, 0, 0, .null), (.nop, 2, 0, 0, .null)]
def xb_Mo_copies_2 : List xv_Op := [(.iload_n 2, 0, 0, 0, .null), (.sipush (304), 0, 0, 0, .int (304)), (.if_icmp .ge (15), 21, 0, 0, .null), (.aload_n 1, 0, 0, 0, .null), (.iload_n 2, 0, 0, 0, .null), (.aload_n 0, 0, 0, 0, .null), (.iload_n 2, 0, 0, 0, .null), (.iaload, 0, 0, 0, .null), (.iastore, 0, 0, 0, .null), (.iinc 2 (1), 0, 0, 0, .int (1)), (.goto (-16), 2, 0, 0, .null)]
def xb_Mo_copies_21 : List xv_Op := [(.return_, 0, 0, 0, .null)]
def xl_Mo_copies : xv_B := [(0, xb_Mo_copies_0), (2, xb_Mo_copies_2), (21, xb_Mo_copies_21)]
def xm_Mo_copies : xv_M := (⟨"OnionCourtModel", "copies", "([I[I)V"⟩, prog_14_method_8_code, 3, none, (0, 0, 2), [], xl_Mo_copies)
def xb_Mo_isWitness_0 : List xv_Op := [(.iload_n 1, 0, 0, 0, .null), (.iconst (0), 0, 0, 0, .int (0)), (.bipush (9), 0, 0, 0, .int (9)), (.invokestatic 112, 40, 3, 1259, .int 0), (.ifCond .eq (23), 30, 0, 0, .null), (.aload_n 0, 0, 0, 0, .null), (.getfield 7, 0, 0, 1097, .null), (.sipush (300), 0, 0, 0, .int (300)), (.iaload, 0, 0, 0, .null), (.i2l, 0, 0, 0, .null), (.iload_n 1, 0, 0, 0, .null), (.invokestatic 108, 44, 2, 1373, .int 0), (.ifCond .eq (7), 30, 0, 0, .null), (.iconst (1), 0, 0, 0, .int (1)), (.goto (4), 31, 0, 0, .null)]
def xb_Mo_isWitness_30 : List xv_Op := [(.iconst (0), 0, 0, 0, .int (0)), (.nop, 31, 0, 0, .null)]
def xb_Mo_isWitness_31 : List xv_Op := [(.ireturn, 0, 0, 0, .null)]
def xl_Mo_isWitness : xv_B := [(0, xb_Mo_isWitness_0), (30, xb_Mo_isWitness_30), (31, xb_Mo_isWitness_31)]
def xm_Mo_isWitness : xv_M := (⟨"OnionCourtModel", "isWitness", "(I)Z"⟩, prog_14_method_9_code, 2, (some .boolean), (0, 1, 1), [], xl_Mo_isWitness)
def xb_Mo_isQuestion_0 : List xv_Op := [(.iload_n 1, 0, 0, 0, .null), (.iconst (0), 0, 0, 0, .int (0)), (.bipush (7), 0, 0, 0, .int (7)), (.invokestatic 112, 40, 3, 1259, .int 0), (.ifCond .eq (19), 26, 0, 0, .null), (.aload_n 0, 0, 0, 0, .null), (.getfield 116, 5, 0, 1102, .null), (.i2l, 0, 0, 0, .null), (.iload_n 1, 0, 0, 0, .null), (.invokestatic 108, 44, 2, 1373, .int 0), (.ifCond .eq (7), 26, 0, 0, .null), (.iconst (1), 0, 0, 0, .int (1)), (.goto (4), 27, 0, 0, .null)]
def xb_Mo_isQuestion_26 : List xv_Op := [(.iconst (0), 0, 0, 0, .int (0)), (.nop, 27, 0, 0, .null)]
def xb_Mo_isQuestion_27 : List xv_Op := [(.ireturn, 0, 0, 0, .null)]
def xl_Mo_isQuestion : xv_B := [(0, xb_Mo_isQuestion_0), (26, xb_Mo_isQuestion_26), (27, xb_Mo_isQuestion_27)]
def xm_Mo_isQuestion : xv_M := (⟨"OnionCourtModel", "isQuestion", "(I)Z"⟩, prog_14_method_10_code, 2, (some .boolean), (0, 1, 1), [], xl_Mo_isQuestion)
def xb_Mo_areAnswers_0 : List xv_Op := [(.iload_n 1, 0, 0, 0, .null), (.ifCond .lt (21), 22, 0, 0, .null), (.iload_n 1, 0, 0, 0, .null), (.iconst (1), 0, 0, 0, .int (1)), (.aload_n 0, 0, 0, 0, .null), (.getfield 7, 0, 0, 1097, .null), (.sipush (301), 0, 0, 0, .int (301)), (.iaload, 0, 0, 0, .null), (.ishl, 0, 0, 0, .null), (.if_icmp .ge (7), 22, 0, 0, .null), (.iconst (1), 0, 0, 0, .int (1)), (.goto (4), 23, 0, 0, .null)]
def xb_Mo_areAnswers_22 : List xv_Op := [(.iconst (0), 0, 0, 0, .int (0)), (.nop, 23, 0, 0, .null)]
def xb_Mo_areAnswers_23 : List xv_Op := [(.ireturn, 0, 0, 0, .null)]
def xl_Mo_areAnswers : xv_B := [(0, xb_Mo_areAnswers_0), (22, xb_Mo_areAnswers_22), (23, xb_Mo_areAnswers_23)]
def xm_Mo_areAnswers : xv_M := (⟨"OnionCourtModel", "areAnswers", "(I)Z"⟩, prog_14_method_11_code, 2, (some .boolean), (0, 1, 1), [], xl_Mo_areAnswers)
def xb_Mo_layerOf_0 : List xv_Op := [(.aload_n 0, 0, 0, 0, .null), (.getfield 7, 0, 0, 1097, .null), (.iconst (0), 0, 0, 0, .int (0)), (.bipush (12), 0, 0, 0, .int (12)), (.iload_n 1, 0, 0, 0, .null), (.imul, 0, 0, 0, .null), (.iadd, 0, 0, 0, .null), (.iload_n 2, 0, 0, 0, .null), (.iadd, 0, 0, 0, .null), (.iaload, 0, 0, 0, .null), (.ireturn, 0, 0, 0, .null)]
def xl_Mo_layerOf : xv_B := [(0, xb_Mo_layerOf_0)]
def xm_Mo_layerOf : xv_M := (⟨"OnionCourtModel", "layerOf", "(II)I"⟩, prog_14_method_12_code, 3, (some .int), (0, 1, 2), [], xl_Mo_layerOf)
def xb_Mo_together_0 : List xv_Op := [(.iconst (0), 0, 0, 0, .int (0)), (.istore_n 2, 0, 0, 0, .null), (.iconst (0), 0, 0, 0, .int (0)), (.istore_n 3, 0, 0, 0, .null), (.nop, 4, 0, 0, .null)]
def xb_Mo_together_4 : List xv_Op := [(.iload_n 3, 0, 0, 0, .null), (.aload_n 0, 0, 0, 0, .null), (.getfield 7, 0, 0, 1097, .null), (.bipush (120), 0, 0, 0, .int (120)), (.iload_n 1, 0, 0, 0, .null), (.iadd, 0, 0, 0, .null), (.iaload, 0, 0, 0, .null), (.if_icmp .ge (18), 32, 0, 0, .null), (.iload_n 2, 0, 0, 0, .null), (.aload_n 0, 0, 0, 0, .null), (.iload_n 1, 0, 0, 0, .null), (.iload_n 3, 0, 0, 0, .null), (.invokevirtual 120, 50, 2, 1432, .int 0), (.iadd, 0, 0, 0, .null), (.istore_n 2, 0, 0, 0, .null), (.iinc 3 (1), 0, 0, 0, .int (1)), (.goto (-25), 4, 0, 0, .null)]
def xb_Mo_together_32 : List xv_Op := [(.iload_n 2, 0, 0, 0, .null), (.ireturn, 0, 0, 0, .null)]
def xl_Mo_together : xv_B := [(0, xb_Mo_together_0), (4, xb_Mo_together_4), (32, xb_Mo_together_32)]
def xm_Mo_together : xv_M := (⟨"OnionCourtModel", "together", "(I)I"⟩, prog_14_method_13_code, 4, (some .int), (0, 1, 1), [], xl_Mo_together)
def xb_Mo_prior_0 : List xv_Op := [(.iload_n 1, 0, 0, 0, .null), (.iconst (0), 0, 0, 0, .int (0)), (.iconst (4), 0, 0, 0, .int (4)), (.invokestatic 112, 40, 3, 1259, .int 0), (.ifCond .eq (13), 19, 0, 0, .null), (.iload_n 2, 0, 0, 0, .null), (.iconst (0), 0, 0, 0, .int (0)), (.bipush (10), 0, 0, 0, .int (10)), (.invokestatic 112, 40, 3, 1259, .int 0), (.ifCond .ne (5), 21, 0, 0, .null), (.nop, 19, 0, 0, .null)]
def xb_Mo_prior_19 : List xv_Op := [(.iconst (0), 0, 0, 0, .int (0)), (.ireturn, 0, 0, 0, .null)]
def xb_Mo_prior_21 : List xv_Op := [(.aload_n 0, 0, 0, 0, .null), (.getfield 19, 3, 0, 1100, .null), (.iload_n 1, 0, 0, 0, .null), (.iload_n 2, 0, 0, 0, .null), (.iastore, 0, 0, 0, .null), (.iconst (1), 0, 0, 0, .int (1)), (.ireturn, 0, 0, 0, .null)]
def xl_Mo_prior : xv_B := [(0, xb_Mo_prior_0), (19, xb_Mo_prior_19), (21, xb_Mo_prior_21)]
def xm_Mo_prior : xv_M := (⟨"OnionCourtModel", "prior", "(II)Z"⟩, prog_14_method_14_code, 3, (some .boolean), (0, 1, 2), [], xl_Mo_prior)
def xb_Mo_witness_0 : List xv_Op := [(.iload_n 1, 0, 0, 0, .null), (.iconst (0), 0, 0, 0, .int (0)), (.bipush (9), 0, 0, 0, .int (9)), (.invokestatic 112, 40, 3, 1259, .int 0), (.ifCond .eq (13), 20, 0, 0, .null), (.iload_n 2, 0, 0, 0, .null), (.iconst (0), 0, 0, 0, .int (0)), (.bipush (9), 0, 0, 0, .int (9)), (.invokestatic 112, 40, 3, 1259, .int 0), (.ifCond .ne (5), 22, 0, 0, .null), (.nop, 20, 0, 0, .null)]
def xb_Mo_witness_20 : List xv_Op := [(.iconst (0), 0, 0, 0, .int (0)), (.ireturn, 0, 0, 0, .null)]
def xb_Mo_witness_22 : List xv_Op := [(.aload_n 0, 0, 0, 0, .null), (.getfield 7, 0, 0, 1097, .null), (.sipush (300), 0, 0, 0, .int (300)), (.aload_n 0, 0, 0, 0, .null), (.getfield 7, 0, 0, 1097, .null), (.sipush (300), 0, 0, 0, .int (300)), (.iaload, 0, 0, 0, .null), (.iconst (1), 0, 0, 0, .int (1)), (.iload_n 1, 0, 0, 0, .null), (.ishl, 0, 0, 0, .null), (.ior, 0, 0, 0, .null), (.iastore, 0, 0, 0, .null), (.aload_n 0, 0, 0, 0, .null), (.getfield 7, 0, 0, 1097, .null), (.sipush (130), 0, 0, 0, .int (130)), (.iload_n 1, 0, 0, 0, .null), (.iadd, 0, 0, 0, .null), (.iload_n 2, 0, 0, 0, .null), (.iastore, 0, 0, 0, .null), (.aload_n 0, 0, 0, 0, .null), (.getfield 7, 0, 0, 1097, .null), (.bipush (120), 0, 0, 0, .int (120)), (.iload_n 1, 0, 0, 0, .null), (.iadd, 0, 0, 0, .null), (.iconst (0), 0, 0, 0, .int (0)), (.iastore, 0, 0, 0, .null), (.iconst (1), 0, 0, 0, .int (1)), (.ireturn, 0, 0, 0, .null)]
def xl_Mo_witness : xv_B := [(0, xb_Mo_witness_0), (20, xb_Mo_witness_20), (22, xb_Mo_witness_22)]
def xm_Mo_witness : xv_M := (⟨"OnionCourtModel", "witness", "(II)Z"⟩, prog_14_method_15_code, 3, (some .boolean), (0, 1, 2), [], xl_Mo_witness)
def xb_Mo_types_0 : List xv_Op := [(.iconst (3), 0, 0, 0, .int (3)), (.istore_n 2, 0, 0, 0, .null), (.nop, 2, 0, 0, .null)]
def xb_Mo_types_2 : List xv_Op := [(.iload_n 2, 0, 0, 0, .null), (.ifCond .lt (35), 38, 0, 0, .null), (.aload_n 0, 0, 0, 0, .null), (.getfield 26, 6, 0, 1103, .null), (.aload_n 0, 0, 0, 0, .null), (.getfield 124, 7, 0, 1104, .null), (.iload_n 1, 0, 0, 0, .null), (.bipush (8), 0, 0, 0, .int (8)), (.iload_n 2, 0, 0, 0, .null), (.imul, 0, 0, 0, .null), (.ishr, 0, 0, 0, .null), (.i2b, 0, 0, 0, .null), (.bastore, 0, 0, 0, .null), (.aload_n 0, 0, 0, 0, .null), (.aload_n 0, 0, 0, 0, .null), (.getfield 124, 7, 0, 1104, .null), (.iconst (1), 0, 0, 0, .int (1)), (.iadd, 0, 0, 0, .null), (.putfield 124, 7, 0, 1104, .int 0), (.iinc 2 (-1), 0, 0, 0, .int (-1)), (.goto (-33), 2, 0, 0, .null)]
def xb_Mo_types_38 : List xv_Op := [(.return_, 0, 0, 0, .null)]
def xl_Mo_types : xv_B := [(0, xb_Mo_types_0), (2, xb_Mo_types_2), (38, xb_Mo_types_38)]
def xm_Mo_types : xv_M := (⟨"OnionCourtModel", "types", "(I)V"⟩, prog_14_method_16_code, 3, none, (0, 1, 1), [], xl_Mo_types)
def xb_Mo_feed_0 : List xv_Op := [(.aload_n 0, 0, 0, 0, .null), (.getfield 124, 7, 0, 1104, .null), (.bipush (20), 0, 0, 0, .int (20)), (.iadd, 0, 0, 0, .null), (.sipush (260), 0, 0, 0, .int (260)), (.if_icmp .le (5), 15, 0, 0, .null), (.iconst (-1), 0, 0, 0, .int (-1)), (.ireturn, 0, 0, 0, .null)]
def xb_Mo_feed_15 : List xv_Op := [(.aload_n 0, 0, 0, 0, .null), (.iload_n 1, 0, 0, 0, .null), (.invokevirtual 127, 54, 1, 1270, .int 0), (.aload_n 0, 0, 0, 0, .null), (.iload_n 2, 0, 0, 0, .null), (.invokevirtual 127, 54, 1, 1270, .int 0), (.aload_n 0, 0, 0, 0, .null), (.iload_n 3, 0, 0, 0, .null), (.invokevirtual 127, 54, 1, 1270, .int 0), (.aload_n 0, 0, 0, 0, .null), (.iload 4, 0, 0, 0, .null), (.invokevirtual 127, 54, 1, 1270, .int 0), (.aload_n 0, 0, 0, 0, .null), (.iload 5, 0, 0, 0, .null), (.invokevirtual 127, 54, 1, 1270, .int 0), (.aload_n 0, 0, 0, 0, .null), (.getfield 124, 7, 0, 1104, .null), (.ireturn, 0, 0, 0, .null)]
def xl_Mo_feed : xv_B := [(0, xb_Mo_feed_0), (15, xb_Mo_feed_15)]
def xm_Mo_feed : xv_M := (⟨"OnionCourtModel", "feed", "(IIIII)I"⟩, prog_14_method_17_code, 6, (some .int), (0, 1, 5), [], xl_Mo_feed)
def xb_Mo_here_0 : List xv_Op := [(.aload_n 0, 0, 0, 0, .null), (.getfield 131, 8, 0, 1105, .null), (.aload_n 0, 0, 0, 0, .null), (.getfield 134, 9, 0, 1106, .null), (.if_icmp .ge (19), 27, 0, 0, .null), (.aload_n 0, 0, 0, 0, .null), (.getfield 26, 6, 0, 1103, .null), (.aload_n 0, 0, 0, 0, .null), (.getfield 131, 8, 0, 1105, .null), (.baload, 0, 0, 0, .null), (.sipush (255), 0, 0, 0, .int (255)), (.iand, 0, 0, 0, .null), (.goto (4), 28, 0, 0, .null)]
def xb_Mo_here_27 : List xv_Op := [(.iconst (-1), 0, 0, 0, .int (-1)), (.nop, 28, 0, 0, .null)]
def xb_Mo_here_28 : List xv_Op := [(.ireturn, 0, 0, 0, .null)]
def xl_Mo_here : xv_B := [(0, xb_Mo_here_0), (27, xb_Mo_here_27), (28, xb_Mo_here_28)]
def xm_Mo_here : xv_M := (⟨"OnionCourtModel", "here", "()I"⟩, prog_14_method_18_code, 1, (some .int), (0, 1, 0), [], xl_Mo_here)
def xb_Mo_isDigit_0 : List xv_Op := [(.aload_n 0, 0, 0, 0, .null), (.invokevirtual 137, 56, 0, 1286, .int 0), (.bipush (48), 0, 0, 0, .int (48)), (.if_icmp .lt (16), 22, 0, 0, .null), (.aload_n 0, 0, 0, 0, .null), (.invokevirtual 137, 56, 0, 1286, .int 0), (.bipush (57), 0, 0, 0, .int (57)), (.if_icmp .gt (7), 22, 0, 0, .null), (.iconst (1), 0, 0, 0, .int (1)), (.goto (4), 23, 0, 0, .null)]
def xb_Mo_isDigit_22 : List xv_Op := [(.iconst (0), 0, 0, 0, .int (0)), (.nop, 23, 0, 0, .null)]
def xb_Mo_isDigit_23 : List xv_Op := [(.ireturn, 0, 0, 0, .null)]
def xl_Mo_isDigit : xv_B := [(0, xb_Mo_isDigit_0), (22, xb_Mo_isDigit_22), (23, xb_Mo_isDigit_23)]
def xm_Mo_isDigit : xv_M := (⟨"OnionCourtModel", "isDigit", "()Z"⟩, prog_14_method_19_code, 1, (some .boolean), (0, 1, 0), [], xl_Mo_isDigit)
def xb_Mo_wrongAt_0 : List xv_Op := [(.aload_n 0, 0, 0, 0, .null), (.sipush (-1000), 0, 0, 0, .int (-1000)), (.iload_n 1, 0, 0, 0, .null), (.imul, 0, 0, 0, .null), (.iload_n 2, 0, 0, 0, .null), (.isub, 0, 0, 0, .null), (.putfield 141, 10, 0, 1107, .int 0), (.iconst (0), 0, 0, 0, .int (0)), (.ireturn, 0, 0, 0, .null)]
def xl_Mo_wrongAt : xv_B := [(0, xb_Mo_wrongAt_0)]
def xm_Mo_wrongAt : xv_M := (⟨"OnionCourtModel", "wrongAt", "(II)Z"⟩, prog_14_method_20_code, 3, (some .boolean), (0, 1, 2), [], xl_Mo_wrongAt)
def xb_Mo_takes_0 : List xv_Op := [(.aload_n 0, 0, 0, 0, .null), (.invokevirtual 137, 56, 0, 1286, .int 0), (.iload_n 1, 0, 0, 0, .null), (.if_icmp .eq (13), 18, 0, 0, .null), (.aload_n 0, 0, 0, 0, .null), (.iconst (1), 0, 0, 0, .int (1)), (.aload_n 0, 0, 0, 0, .null), (.getfield 131, 8, 0, 1105, .null), (.invokevirtual 144, 58, 2, 1290, .int 0), (.ireturn, 0, 0, 0, .null)]
def xb_Mo_takes_18 : List xv_Op := [(.aload_n 0, 0, 0, 0, .null), (.aload_n 0, 0, 0, 0, .null), (.getfield 131, 8, 0, 1105, .null), (.iconst (1), 0, 0, 0, .int (1)), (.iadd, 0, 0, 0, .null), (.putfield 131, 8, 0, 1105, .int 0), (.iconst (1), 0, 0, 0, .int (1)), (.ireturn, 0, 0, 0, .null)]
def xl_Mo_takes : xv_B := [(0, xb_Mo_takes_0), (18, xb_Mo_takes_18)]
def xm_Mo_takes : xv_M := (⟨"OnionCourtModel", "takes", "(I)Z"⟩, prog_14_method_21_code, 2, (some .boolean), (0, 1, 1), [], xl_Mo_takes)
def xb_Mo_readsNumber_0 : List xv_Op := [(.aload_n 0, 0, 0, 0, .null), (.getfield 131, 8, 0, 1105, .null), (.istore_n 1, 0, 0, 0, .null), (.aload_n 0, 0, 0, 0, .null), (.iconst (0), 0, 0, 0, .int (0)), (.putfield 148, 11, 0, 1108, .int 0), (.nop, 10, 0, 0, .null)]
def xb_Mo_readsNumber_10 : List xv_Op := [(.aload_n 0, 0, 0, 0, .null), (.invokevirtual 151, 57, 0, 1307, .int 0), (.ifCond .eq (55), 69, 0, 0, .null), (.aload_n 0, 0, 0, 0, .null), (.getfield 131, 8, 0, 1105, .null), (.iload_n 1, 0, 0, 0, .null), (.iconst (5), 0, 0, 0, .int (5)), (.iadd, 0, 0, 0, .null), (.if_icmp .ne (13), 37, 0, 0, .null), (.aload_n 0, 0, 0, 0, .null), (.iconst (2), 0, 0, 0, .int (2)), (.aload_n 0, 0, 0, 0, .null), (.getfield 131, 8, 0, 1105, .null), (.invokevirtual 144, 58, 2, 1290, .int 0), (.ireturn, 0, 0, 0, .null)]
def xb_Mo_readsNumber_37 : List xv_Op := [(.aload_n 0, 0, 0, 0, .null), (.bipush (10), 0, 0, 0, .int (10)), (.aload_n 0, 0, 0, 0, .null), (.getfield 148, 11, 0, 1108, .null), (.imul, 0, 0, 0, .null), (.aload_n 0, 0, 0, 0, .null), (.invokevirtual 137, 56, 0, 1286, .int 0), (.iadd, 0, 0, 0, .null), (.bipush (48), 0, 0, 0, .int (48)), (.isub, 0, 0, 0, .null), (.putfield 148, 11, 0, 1108, .int 0), (.aload_n 0, 0, 0, 0, .null), (.aload_n 0, 0, 0, 0, .null), (.getfield 131, 8, 0, 1105, .null), (.iconst (1), 0, 0, 0, .int (1)), (.iadd, 0, 0, 0, .null), (.putfield 131, 8, 0, 1105, .int 0), (.goto (-56), 10, 0, 0, .null)]
def xb_Mo_readsNumber_69 : List xv_Op := [(.iconst (1), 0, 0, 0, .int (1)), (.ireturn, 0, 0, 0, .null)]
def xl_Mo_readsNumber : xv_B := [(0, xb_Mo_readsNumber_0), (10, xb_Mo_readsNumber_10), (37, xb_Mo_readsNumber_37), (69, xb_Mo_readsNumber_69)]
def xm_Mo_readsNumber : xv_M := (⟨"OnionCourtModel", "readsNumber", "()Z"⟩, prog_14_method_22_code, 2, (some .boolean), (0, 1, 0), [], xl_Mo_readsNumber)
def xb_Mo_notes_0 : List xv_Op := [(.aload_n 0, 0, 0, 0, .null), (.getfield 30, 17, 0, 1114, .null), (.aload_n 0, 0, 0, 0, .null), (.getfield 155, 13, 0, 1110, .null), (.ldc 158, 0, 0, 1306, .int (1048576)), (.iload_n 1, 0, 0, 0, .null), (.imul, 0, 0, 0, .null), (.iload_n 2, 0, 0, 0, .null), (.iadd, 0, 0, 0, .null), (.iastore, 0, 0, 0, .null), (.aload_n 0, 0, 0, 0, .null), (.aload_n 0, 0, 0, 0, .null), (.getfield 155, 13, 0, 1110, .null), (.iconst (1), 0, 0, 0, .int (1)), (.iadd, 0, 0, 0, .null), (.putfield 155, 13, 0, 1110, .int 0), (.return_, 0, 0, 0, .null)]
def xl_Mo_notes : xv_B := [(0, xb_Mo_notes_0)]
def xm_Mo_notes : xv_M := (⟨"OnionCourtModel", "notes", "(II)V"⟩, prog_14_method_23_code, 3, none, (0, 1, 2), [], xl_Mo_notes)
def xb_Mo_opens_0 : List xv_Op := [(.aload_n 0, 0, 0, 0, .null), (.getfield 159, 12, 0, 1109, .null), (.bipush (6), 0, 0, 0, .int (6)), (.if_icmp .ne (13), 19, 0, 0, .null), (.aload_n 0, 0, 0, 0, .null), (.iconst (5), 0, 0, 0, .int (5)), (.aload_n 0, 0, 0, 0, .null), (.getfield 131, 8, 0, 1105, .null), (.invokevirtual 144, 58, 2, 1290, .int 0), (.ireturn, 0, 0, 0, .null)]
def xb_Mo_opens_19 : List xv_Op := [(.aload_n 0, 0, 0, 0, .null), (.aload_n 0, 0, 0, 0, .null), (.getfield 159, 12, 0, 1109, .null), (.iconst (1), 0, 0, 0, .int (1)), (.iadd, 0, 0, 0, .null), (.putfield 159, 12, 0, 1109, .int 0), (.aload_n 0, 0, 0, 0, .null), (.getfield 33, 18, 0, 1115, .null), (.aload_n 0, 0, 0, 0, .null), (.getfield 162, 14, 0, 1111, .null), (.ldc 158, 0, 0, 1306, .int (1048576)), (.iload_n 1, 0, 0, 0, .null), (.imul, 0, 0, 0, .null), (.iastore, 0, 0, 0, .null), (.aload_n 0, 0, 0, 0, .null), (.aload_n 0, 0, 0, 0, .null), (.getfield 162, 14, 0, 1111, .null), (.iconst (1), 0, 0, 0, .int (1)), (.iadd, 0, 0, 0, .null), (.putfield 162, 14, 0, 1111, .int 0), (.aload_n 0, 0, 0, 0, .null), (.aload_n 0, 0, 0, 0, .null), (.getfield 131, 8, 0, 1105, .null), (.iconst (1), 0, 0, 0, .int (1)), (.iadd, 0, 0, 0, .null), (.putfield 131, 8, 0, 1105, .int 0), (.iconst (1), 0, 0, 0, .int (1)), (.ireturn, 0, 0, 0, .null)]
def xl_Mo_opens : xv_B := [(0, xb_Mo_opens_0), (19, xb_Mo_opens_19)]
def xm_Mo_opens : xv_M := (⟨"OnionCourtModel", "opens", "(I)Z"⟩, prog_14_method_24_code, 2, (some .boolean), (0, 1, 1), [], xl_Mo_opens)
def xb_Mo_waitTop_0 : List xv_Op := [(.aload_n 0, 0, 0, 0, .null), (.getfield 162, 14, 0, 1111, .null), (.ifCond .ne (7), 11, 0, 0, .null), (.iconst (-1), 0, 0, 0, .int (-1)), (.goto (17), 25, 0, 0, .null)]
def xb_Mo_waitTop_11 : List xv_Op := [(.aload_n 0, 0, 0, 0, .null), (.getfield 33, 18, 0, 1115, .null), (.aload_n 0, 0, 0, 0, .null), (.getfield 162, 14, 0, 1111, .null), (.iconst (1), 0, 0, 0, .int (1)), (.isub, 0, 0, 0, .null), (.iaload, 0, 0, 0, .null), (.ldc 158, 0, 0, 1306, .int (1048576)), (.idiv, 0, 0, 0, .null), (.nop, 25, 0, 0, .null)]
def xb_Mo_waitTop_25 : List xv_Op := [(.ireturn, 0, 0, 0, .null)]
def xl_Mo_waitTop : xv_B := [(0, xb_Mo_waitTop_0), (11, xb_Mo_waitTop_11), (25, xb_Mo_waitTop_25)]
def xm_Mo_waitTop : xv_M := (⟨"OnionCourtModel", "waitTop", "()I"⟩, prog_14_method_25_code, 1, (some .int), (0, 1, 0), [], xl_Mo_waitTop)
def xb_Mo_factOf_0 : List xv_Op := [(.iload_n 0, 0, 0, 0, .null), (.tableswitch (117) (102) (122) #[109, 117, 101, 117, 105, 107, 117, 117, 117, 117, 117, 117, 117, 103, 114, 117, 117, 99, 117, 117, 111], 1, 0, 0, .null)]
def xb_Mo_factOf_100 : List xv_Op := [(.iconst (0), 0, 0, 0, .int (0)), (.ireturn, 0, 0, 0, .null)]
def xb_Mo_factOf_102 : List xv_Op := [(.iconst (1), 0, 0, 0, .int (1)), (.ireturn, 0, 0, 0, .null)]
def xb_Mo_factOf_104 : List xv_Op := [(.iconst (2), 0, 0, 0, .int (2)), (.ireturn, 0, 0, 0, .null)]
def xb_Mo_factOf_106 : List xv_Op := [(.iconst (3), 0, 0, 0, .int (3)), (.ireturn, 0, 0, 0, .null)]
def xb_Mo_factOf_108 : List xv_Op := [(.iconst (4), 0, 0, 0, .int (4)), (.ireturn, 0, 0, 0, .null)]
def xb_Mo_factOf_110 : List xv_Op := [(.iconst (5), 0, 0, 0, .int (5)), (.ireturn, 0, 0, 0, .null)]
def xb_Mo_factOf_112 : List xv_Op := [(.bipush (6), 0, 0, 0, .int (6)), (.ireturn, 0, 0, 0, .null)]
def xb_Mo_factOf_115 : List xv_Op := [(.bipush (7), 0, 0, 0, .int (7)), (.ireturn, 0, 0, 0, .null)]
def xb_Mo_factOf_118 : List xv_Op := [(.iconst (-1), 0, 0, 0, .int (-1)), (.ireturn, 0, 0, 0, .null)]
def xl_Mo_factOf : xv_B := [(0, xb_Mo_factOf_0), (100, xb_Mo_factOf_100), (102, xb_Mo_factOf_102), (104, xb_Mo_factOf_104), (106, xb_Mo_factOf_106), (108, xb_Mo_factOf_108), (110, xb_Mo_factOf_110), (112, xb_Mo_factOf_112), (115, xb_Mo_factOf_115), (118, xb_Mo_factOf_118)]
def xm_Mo_factOf : xv_M := (⟨"OnionCourtModel", "factOf", "(I)I"⟩, prog_14_method_26_code, 1, (some .int), (0, 0, 1), [], xl_Mo_factOf)
def xb_Mo_sumSign_0 : List xv_Op := [(.iload_n 0, 0, 0, 0, .null), (.bipush (43), 0, 0, 0, .int (43)), (.if_icmp .ne (7), 10, 0, 0, .null), (.iconst (2), 0, 0, 0, .int (2)), (.goto (45), 52, 0, 0, .null)]
def xb_Mo_sumSign_10 : List xv_Op := [(.iload_n 0, 0, 0, 0, .null), (.bipush (45), 0, 0, 0, .int (45)), (.if_icmp .ne (7), 20, 0, 0, .null), (.iconst (3), 0, 0, 0, .int (3)), (.goto (35), 52, 0, 0, .null)]
def xb_Mo_sumSign_20 : List xv_Op := [(.iload_n 0, 0, 0, 0, .null), (.bipush (42), 0, 0, 0, .int (42)), (.if_icmp .ne (7), 30, 0, 0, .null), (.iconst (4), 0, 0, 0, .int (4)), (.goto (25), 52, 0, 0, .null)]
def xb_Mo_sumSign_30 : List xv_Op := [(.iload_n 0, 0, 0, 0, .null), (.bipush (47), 0, 0, 0, .int (47)), (.if_icmp .ne (7), 40, 0, 0, .null), (.iconst (5), 0, 0, 0, .int (5)), (.goto (15), 52, 0, 0, .null)]
def xb_Mo_sumSign_40 : List xv_Op := [(.iload_n 0, 0, 0, 0, .null), (.bipush (37), 0, 0, 0, .int (37)), (.if_icmp .ne (8), 51, 0, 0, .null), (.bipush (6), 0, 0, 0, .int (6)), (.goto (4), 52, 0, 0, .null)]
def xb_Mo_sumSign_51 : List xv_Op := [(.iconst (-1), 0, 0, 0, .int (-1)), (.nop, 52, 0, 0, .null)]
def xb_Mo_sumSign_52 : List xv_Op := [(.ireturn, 0, 0, 0, .null)]
def xl_Mo_sumSign : xv_B := [(0, xb_Mo_sumSign_0), (10, xb_Mo_sumSign_10), (20, xb_Mo_sumSign_20), (30, xb_Mo_sumSign_30), (40, xb_Mo_sumSign_40), (51, xb_Mo_sumSign_51), (52, xb_Mo_sumSign_52)]
def xm_Mo_sumSign : xv_M := (⟨"OnionCourtModel", "sumSign", "(I)I"⟩, prog_14_method_27_code, 1, (some .int), (0, 0, 1), [], xl_Mo_sumSign)
def xb_Mo_closesSums_0 : List xv_Op := [(.aload_n 0, 0, 0, 0, .null), (.invokevirtual 165, 63, 0, 1329, .int 0), (.iconst (4), 0, 0, 0, .int (4)), (.if_icmp .lt (12), 17, 0, 0, .null), (.aload_n 0, 0, 0, 0, .null), (.invokevirtual 165, 63, 0, 1329, .int 0), (.bipush (6), 0, 0, 0, .int (6)), (.if_icmp .le (23), 37, 0, 0, .null), (.nop, 17, 0, 0, .null)]
def xb_Mo_closesSums_17 : List xv_Op := [(.iload_n 1, 0, 0, 0, .null), (.ifCond .eq (41), 59, 0, 0, .null), (.aload_n 0, 0, 0, 0, .null), (.invokevirtual 165, 63, 0, 1329, .int 0), (.iconst (2), 0, 0, 0, .int (2)), (.if_icmp .eq (11), 37, 0, 0, .null), (.aload_n 0, 0, 0, 0, .null), (.invokevirtual 165, 63, 0, 1329, .int 0), (.iconst (3), 0, 0, 0, .int (3)), (.if_icmp .ne (25), 59, 0, 0, .null), (.nop, 37, 0, 0, .null)]
def xb_Mo_closesSums_37 : List xv_Op := [(.aload_n 0, 0, 0, 0, .null), (.aload_n 0, 0, 0, 0, .null), (.invokevirtual 165, 63, 0, 1329, .int 0), (.iconst (0), 0, 0, 0, .int (0)), (.invokevirtual 168, 61, 2, 1315, .int 0), (.aload_n 0, 0, 0, 0, .null), (.aload_n 0, 0, 0, 0, .null), (.getfield 162, 14, 0, 1111, .null), (.iconst (1), 0, 0, 0, .int (1)), (.isub, 0, 0, 0, .null), (.putfield 162, 14, 0, 1111, .int 0), (.goto (-56), 0, 0, 0, .null)]
def xb_Mo_closesSums_59 : List xv_Op := [(.return_, 0, 0, 0, .null)]
def xl_Mo_closesSums : xv_B := [(0, xb_Mo_closesSums_0), (17, xb_Mo_closesSums_17), (37, xb_Mo_closesSums_37), (59, xb_Mo_closesSums_59)]
def xm_Mo_closesSums : xv_M := (⟨"OnionCourtModel", "closesSums", "(Z)V"⟩, prog_14_method_28_code, 2, none, (0, 1, 1), [], xl_Mo_closesSums)
def xb_Mo_readsFactor_0 : List xv_Op := [(.aload_n 0, 0, 0, 0, .null), (.invokevirtual 137, 56, 0, 1286, .int 0), (.bipush (91), 0, 0, 0, .int (91)), (.if_icmp .ne (14), 20, 0, 0, .null), (.aload_n 0, 0, 0, 0, .null), (.bipush (14), 0, 0, 0, .int (14)), (.invokevirtual 172, 62, 1, 1302, .int 0), (.ifCond .ne (-15), 0, 0, 0, .null), (.iconst (0), 0, 0, 0, .int (0)), (.ireturn, 0, 0, 0, .null)]
def xb_Mo_readsFactor_20 : List xv_Op := [(.aload_n 0, 0, 0, 0, .null), (.invokevirtual 151, 57, 0, 1307, .int 0), (.ifCond .eq (23), 47, 0, 0, .null), (.aload_n 0, 0, 0, 0, .null), (.invokevirtual 176, 60, 0, 1311, .int 0), (.ifCond .ne (5), 36, 0, 0, .null), (.iconst (0), 0, 0, 0, .int (0)), (.ireturn, 0, 0, 0, .null)]
def xb_Mo_readsFactor_36 : List xv_Op := [(.aload_n 0, 0, 0, 0, .null), (.iconst (0), 0, 0, 0, .int (0)), (.aload_n 0, 0, 0, 0, .null), (.getfield 148, 11, 0, 1108, .null), (.invokevirtual 168, 61, 2, 1315, .int 0), (.iconst (1), 0, 0, 0, .int (1)), (.ireturn, 0, 0, 0, .null)]
def xb_Mo_readsFactor_47 : List xv_Op := [(.aload_n 0, 0, 0, 0, .null), (.invokevirtual 137, 56, 0, 1286, .int 0), (.invokestatic 179, 64, 1, 1319, .int 0), (.istore_n 1, 0, 0, 0, .null), (.iload_n 1, 0, 0, 0, .null), (.iconst (-1), 0, 0, 0, .int (-1)), (.if_icmp .ne (13), 70, 0, 0, .null), (.aload_n 0, 0, 0, 0, .null), (.iconst (1), 0, 0, 0, .int (1)), (.aload_n 0, 0, 0, 0, .null), (.getfield 131, 8, 0, 1105, .null), (.invokevirtual 144, 58, 2, 1290, .int 0), (.ireturn, 0, 0, 0, .null)]
def xb_Mo_readsFactor_70 : List xv_Op := [(.aload_n 0, 0, 0, 0, .null), (.iconst (1), 0, 0, 0, .int (1)), (.iload_n 1, 0, 0, 0, .null), (.invokevirtual 168, 61, 2, 1315, .int 0), (.aload_n 0, 0, 0, 0, .null), (.aload_n 0, 0, 0, 0, .null), (.getfield 131, 8, 0, 1105, .null), (.iconst (1), 0, 0, 0, .int (1)), (.iadd, 0, 0, 0, .null), (.putfield 131, 8, 0, 1105, .int 0), (.iconst (1), 0, 0, 0, .int (1)), (.ireturn, 0, 0, 0, .null)]
def xl_Mo_readsFactor : xv_B := [(0, xb_Mo_readsFactor_0), (20, xb_Mo_readsFactor_20), (36, xb_Mo_readsFactor_36), (47, xb_Mo_readsFactor_47), (70, xb_Mo_readsFactor_70)]
def xm_Mo_readsFactor : xv_M := (⟨"OnionCourtModel", "readsFactor", "()Z"⟩, prog_14_method_29_code, 2, (some .boolean), (0, 1, 0), [], xl_Mo_readsFactor)
def xb_Mo_hasOpenSum_0 : List xv_Op := [(.iload_n 1, 0, 0, 0, .null), (.istore_n 2, 0, 0, 0, .null), (.nop, 2, 0, 0, .null)]
def xb_Mo_hasOpenSum_2 : List xv_Op := [(.iload_n 2, 0, 0, 0, .null), (.aload_n 0, 0, 0, 0, .null), (.getfield 162, 14, 0, 1111, .null), (.if_icmp .ge (25), 32, 0, 0, .null), (.aload_n 0, 0, 0, 0, .null), (.getfield 33, 18, 0, 1115, .null), (.iload_n 2, 0, 0, 0, .null), (.iaload, 0, 0, 0, .null), (.ldc 158, 0, 0, 1306, .int (1048576)), (.idiv, 0, 0, 0, .null), (.bipush (14), 0, 0, 0, .int (14)), (.if_icmp .ne (5), 26, 0, 0, .null), (.iconst (1), 0, 0, 0, .int (1)), (.ireturn, 0, 0, 0, .null)]
def xb_Mo_hasOpenSum_26 : List xv_Op := [(.iinc 2 (1), 0, 0, 0, .int (1)), (.goto (-27), 2, 0, 0, .null)]
def xb_Mo_hasOpenSum_32 : List xv_Op := [(.iconst (0), 0, 0, 0, .int (0)), (.ireturn, 0, 0, 0, .null)]
def xl_Mo_hasOpenSum : xv_B := [(0, xb_Mo_hasOpenSum_0), (2, xb_Mo_hasOpenSum_2), (26, xb_Mo_hasOpenSum_26), (32, xb_Mo_hasOpenSum_32)]
def xm_Mo_hasOpenSum : xv_M := (⟨"OnionCourtModel", "hasOpenSum", "(I)Z"⟩, prog_14_method_30_code, 3, (some .boolean), (0, 1, 1), [], xl_Mo_hasOpenSum)
def xb_Mo_readsSum_0 : List xv_Op := [(.aload_n 0, 0, 0, 0, .null), (.getfield 162, 14, 0, 1111, .null), (.istore_n 1, 0, 0, 0, .null), (.aload_n 0, 0, 0, 0, .null), (.invokevirtual 183, 67, 0, 1298, .int 0), (.ifCond .ne (5), 14, 0, 0, .null), (.iconst (0), 0, 0, 0, .int (0)), (.ireturn, 0, 0, 0, .null)]
def xb_Mo_readsSum_14 : List xv_Op := [(.aload_n 0, 0, 0, 0, .null), (.invokevirtual 137, 56, 0, 1286, .int 0), (.invokestatic 186, 65, 1, 1322, .int 0), (.istore_n 2, 0, 0, 0, .null), (.iload_n 2, 0, 0, 0, .null), (.iconst (-1), 0, 0, 0, .int (-1)), (.if_icmp .eq (59), 83, 0, 0, .null), (.aload_n 0, 0, 0, 0, .null), (.iload_n 2, 0, 0, 0, .null), (.iconst (4), 0, 0, 0, .int (4)), (.if_icmp .ge (7), 37, 0, 0, .null), (.iconst (1), 0, 0, 0, .int (1)), (.goto (4), 38, 0, 0, .null)]
def xb_Mo_readsSum_37 : List xv_Op := [(.iconst (0), 0, 0, 0, .int (0)), (.nop, 38, 0, 0, .null)]
def xb_Mo_readsSum_38 : List xv_Op := [(.invokevirtual 189, 66, 1, 1325, .int 0), (.aload_n 0, 0, 0, 0, .null), (.getfield 33, 18, 0, 1115, .null), (.aload_n 0, 0, 0, 0, .null), (.getfield 162, 14, 0, 1111, .null), (.ldc 158, 0, 0, 1306, .int (1048576)), (.iload_n 2, 0, 0, 0, .null), (.imul, 0, 0, 0, .null), (.iastore, 0, 0, 0, .null), (.aload_n 0, 0, 0, 0, .null), (.aload_n 0, 0, 0, 0, .null), (.getfield 162, 14, 0, 1111, .null), (.iconst (1), 0, 0, 0, .int (1)), (.iadd, 0, 0, 0, .null), (.putfield 162, 14, 0, 1111, .int 0), (.aload_n 0, 0, 0, 0, .null), (.aload_n 0, 0, 0, 0, .null), (.getfield 131, 8, 0, 1105, .null), (.iconst (1), 0, 0, 0, .int (1)), (.iadd, 0, 0, 0, .null), (.putfield 131, 8, 0, 1105, .int 0), (.aload_n 0, 0, 0, 0, .null), (.invokevirtual 183, 67, 0, 1298, .int 0), (.ifCond .ne (85), 163, 0, 0, .null), (.iconst (0), 0, 0, 0, .int (0)), (.ireturn, 0, 0, 0, .null)]
def xb_Mo_readsSum_83 : List xv_Op := [(.aload_n 0, 0, 0, 0, .null), (.invokevirtual 137, 56, 0, 1286, .int 0), (.bipush (93), 0, 0, 0, .int (93)), (.if_icmp .ne (49), 138, 0, 0, .null), (.aload_n 0, 0, 0, 0, .null), (.iload_n 1, 0, 0, 0, .null), (.invokevirtual 193, 68, 1, 1333, .int 0), (.ifCond .eq (41), 138, 0, 0, .null), (.aload_n 0, 0, 0, 0, .null), (.iconst (1), 0, 0, 0, .int (1)), (.invokevirtual 189, 66, 1, 1325, .int 0), (.aload_n 0, 0, 0, 0, .null), (.aload_n 0, 0, 0, 0, .null), (.getfield 162, 14, 0, 1111, .null), (.iconst (1), 0, 0, 0, .int (1)), (.isub, 0, 0, 0, .null), (.putfield 162, 14, 0, 1111, .int 0), (.aload_n 0, 0, 0, 0, .null), (.aload_n 0, 0, 0, 0, .null), (.getfield 159, 12, 0, 1109, .null), (.iconst (1), 0, 0, 0, .int (1)), (.isub, 0, 0, 0, .null), (.putfield 159, 12, 0, 1109, .int 0), (.aload_n 0, 0, 0, 0, .null), (.aload_n 0, 0, 0, 0, .null), (.getfield 131, 8, 0, 1105, .null), (.iconst (1), 0, 0, 0, .int (1)), (.iadd, 0, 0, 0, .null), (.putfield 131, 8, 0, 1105, .int 0), (.goto (28), 163, 0, 0, .null)]
def xb_Mo_readsSum_138 : List xv_Op := [(.aload_n 0, 0, 0, 0, .null), (.iload_n 1, 0, 0, 0, .null), (.invokevirtual 193, 68, 1, 1333, .int 0), (.ifCond .eq (13), 156, 0, 0, .null), (.aload_n 0, 0, 0, 0, .null), (.iconst (1), 0, 0, 0, .int (1)), (.aload_n 0, 0, 0, 0, .null), (.getfield 131, 8, 0, 1105, .null), (.invokevirtual 144, 58, 2, 1290, .int 0), (.ireturn, 0, 0, 0, .null)]
def xb_Mo_readsSum_156 : List xv_Op := [(.aload_n 0, 0, 0, 0, .null), (.iconst (1), 0, 0, 0, .int (1)), (.invokevirtual 189, 66, 1, 1325, .int 0), (.iconst (1), 0, 0, 0, .int (1)), (.ireturn, 0, 0, 0, .null)]
def xb_Mo_readsSum_163 : List xv_Op := [(.goto (-149), 14, 0, 0, .null)]
def xl_Mo_readsSum : xv_B := [(0, xb_Mo_readsSum_0), (14, xb_Mo_readsSum_14), (37, xb_Mo_readsSum_37), (38, xb_Mo_readsSum_38), (83, xb_Mo_readsSum_83), (138, xb_Mo_readsSum_138), (156, xb_Mo_readsSum_156), (163, xb_Mo_readsSum_163)]
def xm_Mo_readsSum : xv_M := (⟨"OnionCourtModel", "readsSum", "()Z"⟩, prog_14_method_31_code, 3, (some .boolean), (0, 1, 0), [], xl_Mo_readsSum)
def xb_Mo_endsPiece_0 : List xv_Op := [(.aload_n 0, 0, 0, 0, .null), (.invokevirtual 165, 63, 0, 1329, .int 0), (.bipush (10), 0, 0, 0, .int (10)), (.if_icmp .ne (33), 39, 0, 0, .null), (.aload_n 0, 0, 0, 0, .null), (.bipush (10), 0, 0, 0, .int (10)), (.iconst (0), 0, 0, 0, .int (0)), (.invokevirtual 168, 61, 2, 1315, .int 0), (.aload_n 0, 0, 0, 0, .null), (.aload_n 0, 0, 0, 0, .null), (.getfield 162, 14, 0, 1111, .null), (.iconst (1), 0, 0, 0, .int (1)), (.isub, 0, 0, 0, .null), (.putfield 162, 14, 0, 1111, .int 0), (.aload_n 0, 0, 0, 0, .null), (.aload_n 0, 0, 0, 0, .null), (.getfield 159, 12, 0, 1109, .null), (.iconst (1), 0, 0, 0, .int (1)), (.isub, 0, 0, 0, .null), (.putfield 159, 12, 0, 1109, .int 0), (.goto (-36), 0, 0, 0, .null)]
def xb_Mo_endsPiece_39 : List xv_Op := [(.return_, 0, 0, 0, .null)]
def xl_Mo_endsPiece : xv_B := [(0, xb_Mo_endsPiece_0), (39, xb_Mo_endsPiece_39)]
def xm_Mo_endsPiece : xv_M := (⟨"OnionCourtModel", "endsPiece", "()V"⟩, prog_14_method_32_code, 1, none, (0, 1, 0), [], xl_Mo_endsPiece)
def xb_Mo_lands_0 : List xv_Op := [(.aload_n 0, 0, 0, 0, .null), (.invokevirtual 165, 63, 0, 1329, .int 0), (.bipush (11), 0, 0, 0, .int (11)), (.if_icmp .eq (16), 22, 0, 0, .null), (.iload_n 1, 0, 0, 0, .null), (.ifCond .eq (63), 73, 0, 0, .null), (.aload_n 0, 0, 0, 0, .null), (.invokevirtual 165, 63, 0, 1329, .int 0), (.bipush (12), 0, 0, 0, .int (12)), (.if_icmp .ne (54), 73, 0, 0, .null), (.nop, 22, 0, 0, .null)]
def xb_Mo_lands_22 : List xv_Op := [(.aload_n 0, 0, 0, 0, .null), (.getfield 33, 18, 0, 1115, .null), (.aload_n 0, 0, 0, 0, .null), (.getfield 162, 14, 0, 1111, .null), (.iconst (1), 0, 0, 0, .int (1)), (.isub, 0, 0, 0, .null), (.iaload, 0, 0, 0, .null), (.ldc 158, 0, 0, 1306, .int (1048576)), (.irem, 0, 0, 0, .null), (.istore_n 2, 0, 0, 0, .null), (.aload_n 0, 0, 0, 0, .null), (.getfield 30, 17, 0, 1114, .null), (.iload_n 2, 0, 0, 0, .null), (.ldc 158, 0, 0, 1306, .int (1048576)), (.aload_n 0, 0, 0, 0, .null), (.getfield 30, 17, 0, 1114, .null), (.iload_n 2, 0, 0, 0, .null), (.iaload, 0, 0, 0, .null), (.ldc 158, 0, 0, 1306, .int (1048576)), (.idiv, 0, 0, 0, .null), (.imul, 0, 0, 0, .null), (.aload_n 0, 0, 0, 0, .null), (.getfield 155, 13, 0, 1110, .null), (.iadd, 0, 0, 0, .null), (.iastore, 0, 0, 0, .null), (.aload_n 0, 0, 0, 0, .null), (.aload_n 0, 0, 0, 0, .null), (.getfield 162, 14, 0, 1111, .null), (.iconst (1), 0, 0, 0, .int (1)), (.isub, 0, 0, 0, .null), (.putfield 162, 14, 0, 1111, .int 0), (.goto (-70), 0, 0, 0, .null)]
def xb_Mo_lands_73 : List xv_Op := [(.return_, 0, 0, 0, .null)]
def xl_Mo_lands : xv_B := [(0, xb_Mo_lands_0), (22, xb_Mo_lands_22), (73, xb_Mo_lands_73)]
def xm_Mo_lands : xv_M := (⟨"OnionCourtModel", "lands", "(Z)V"⟩, prog_14_method_33_code, 3, none, (0, 1, 1), [], xl_Mo_lands)
def xb_Mo_jumps_0 : List xv_Op := [(.aload_n 0, 0, 0, 0, .null), (.getfield 33, 18, 0, 1115, .null), (.aload_n 0, 0, 0, 0, .null), (.getfield 162, 14, 0, 1111, .null), (.ldc 158, 0, 0, 1306, .int (1048576)), (.iload_n 1, 0, 0, 0, .null), (.imul, 0, 0, 0, .null), (.aload_n 0, 0, 0, 0, .null), (.getfield 155, 13, 0, 1110, .null), (.iadd, 0, 0, 0, .null), (.iastore, 0, 0, 0, .null), (.aload_n 0, 0, 0, 0, .null), (.aload_n 0, 0, 0, 0, .null), (.getfield 162, 14, 0, 1111, .null), (.iconst (1), 0, 0, 0, .int (1)), (.iadd, 0, 0, 0, .null), (.putfield 162, 14, 0, 1111, .int 0), (.aload_n 0, 0, 0, 0, .null), (.iload_n 1, 0, 0, 0, .null), (.iconst (0), 0, 0, 0, .int (0)), (.invokevirtual 168, 61, 2, 1315, .int 0), (.aload_n 0, 0, 0, 0, .null), (.aload_n 0, 0, 0, 0, .null), (.getfield 131, 8, 0, 1105, .null), (.iconst (1), 0, 0, 0, .int (1)), (.iadd, 0, 0, 0, .null), (.putfield 131, 8, 0, 1105, .int 0), (.return_, 0, 0, 0, .null)]
def xl_Mo_jumps : xv_B := [(0, xb_Mo_jumps_0)]
def xm_Mo_jumps : xv_M := (⟨"OnionCourtModel", "jumps", "(I)V"⟩, prog_14_method_34_code, 2, none, (0, 1, 1), [], xl_Mo_jumps)
def xb_Mo_readsCompared_0 : List xv_Op := [(.aload_n 0, 0, 0, 0, .null), (.invokevirtual 196, 69, 0, 1294, .int 0), (.ifCond .ne (5), 9, 0, 0, .null), (.iconst (0), 0, 0, 0, .int (0)), (.ireturn, 0, 0, 0, .null)]
def xb_Mo_readsCompared_9 : List xv_Op := [(.aload_n 0, 0, 0, 0, .null), (.invokevirtual 137, 56, 0, 1286, .int 0), (.bipush (60), 0, 0, 0, .int (60)), (.if_icmp .ne (8), 23, 0, 0, .null), (.bipush (7), 0, 0, 0, .int (7)), (.goto (32), 52, 0, 0, .null)]
def xb_Mo_readsCompared_23 : List xv_Op := [(.aload_n 0, 0, 0, 0, .null), (.invokevirtual 137, 56, 0, 1286, .int 0), (.bipush (62), 0, 0, 0, .int (62)), (.if_icmp .ne (8), 37, 0, 0, .null), (.bipush (8), 0, 0, 0, .int (8)), (.goto (18), 52, 0, 0, .null)]
def xb_Mo_readsCompared_37 : List xv_Op := [(.aload_n 0, 0, 0, 0, .null), (.invokevirtual 137, 56, 0, 1286, .int 0), (.bipush (61), 0, 0, 0, .int (61)), (.if_icmp .ne (8), 51, 0, 0, .null), (.bipush (9), 0, 0, 0, .int (9)), (.goto (4), 52, 0, 0, .null)]
def xb_Mo_readsCompared_51 : List xv_Op := [(.iconst (-1), 0, 0, 0, .int (-1)), (.nop, 52, 0, 0, .null)]
def xb_Mo_readsCompared_52 : List xv_Op := [(.istore_n 1, 0, 0, 0, .null), (.iload_n 1, 0, 0, 0, .null), (.iconst (-1), 0, 0, 0, .int (-1)), (.if_icmp .ne (13), 68, 0, 0, .null), (.aload_n 0, 0, 0, 0, .null), (.iconst (1), 0, 0, 0, .int (1)), (.aload_n 0, 0, 0, 0, .null), (.getfield 131, 8, 0, 1105, .null), (.invokevirtual 144, 58, 2, 1290, .int 0), (.ireturn, 0, 0, 0, .null)]
def xb_Mo_readsCompared_68 : List xv_Op := [(.aload_n 0, 0, 0, 0, .null), (.aload_n 0, 0, 0, 0, .null), (.getfield 131, 8, 0, 1105, .null), (.iconst (1), 0, 0, 0, .int (1)), (.iadd, 0, 0, 0, .null), (.putfield 131, 8, 0, 1105, .int 0), (.aload_n 0, 0, 0, 0, .null), (.invokevirtual 196, 69, 0, 1294, .int 0), (.ifCond .ne (5), 87, 0, 0, .null), (.iconst (0), 0, 0, 0, .int (0)), (.ireturn, 0, 0, 0, .null)]
def xb_Mo_readsCompared_87 : List xv_Op := [(.aload_n 0, 0, 0, 0, .null), (.iload_n 1, 0, 0, 0, .null), (.iconst (0), 0, 0, 0, .int (0)), (.invokevirtual 168, 61, 2, 1315, .int 0), (.aload_n 0, 0, 0, 0, .null), (.invokevirtual 199, 70, 0, 1345, .int 0), (.iconst (1), 0, 0, 0, .int (1)), (.ireturn, 0, 0, 0, .null)]
def xl_Mo_readsCompared : xv_B := [(0, xb_Mo_readsCompared_0), (9, xb_Mo_readsCompared_9), (23, xb_Mo_readsCompared_23), (37, xb_Mo_readsCompared_37), (51, xb_Mo_readsCompared_51), (52, xb_Mo_readsCompared_52), (68, xb_Mo_readsCompared_68), (87, xb_Mo_readsCompared_87)]
def xm_Mo_readsCompared : xv_M := (⟨"OnionCourtModel", "readsCompared", "()Z"⟩, prog_14_method_35_code, 2, (some .boolean), (0, 1, 0), [], xl_Mo_readsCompared)
def xb_Mo_readsCondition_0 : List xv_Op := [(.aload_n 0, 0, 0, 0, .null), (.invokevirtual 137, 56, 0, 1286, .int 0), (.bipush (40), 0, 0, 0, .int (40)), (.if_icmp .eq (13), 19, 0, 0, .null), (.aload_n 0, 0, 0, 0, .null), (.iconst (1), 0, 0, 0, .int (1)), (.aload_n 0, 0, 0, 0, .null), (.getfield 131, 8, 0, 1105, .null), (.invokevirtual 144, 58, 2, 1290, .int 0), (.ireturn, 0, 0, 0, .null)]
def xb_Mo_readsCondition_19 : List xv_Op := [(.aload_n 0, 0, 0, 0, .null), (.iconst (0), 0, 0, 0, .int (0)), (.putfield 159, 12, 0, 1109, .int 0), (.aload_n 0, 0, 0, 0, .null), (.iconst (0), 0, 0, 0, .int (0)), (.putfield 162, 14, 0, 1111, .int 0), (.aload_n 0, 0, 0, 0, .null), (.bipush (13), 0, 0, 0, .int (13)), (.invokevirtual 172, 62, 1, 1302, .int 0), (.ifCond .ne (5), 40, 0, 0, .null), (.iconst (0), 0, 0, 0, .int (0)), (.ireturn, 0, 0, 0, .null)]
def xb_Mo_readsCondition_40 : List xv_Op := [(.aload_n 0, 0, 0, 0, .null), (.invokevirtual 137, 56, 0, 1286, .int 0), (.bipush (33), 0, 0, 0, .int (33)), (.if_icmp .eq (12), 58, 0, 0, .null), (.aload_n 0, 0, 0, 0, .null), (.invokevirtual 137, 56, 0, 1286, .int 0), (.bipush (40), 0, 0, 0, .int (40)), (.if_icmp .ne (28), 83, 0, 0, .null), (.nop, 58, 0, 0, .null)]
def xb_Mo_readsCondition_58 : List xv_Op := [(.aload_n 0, 0, 0, 0, .null), (.aload_n 0, 0, 0, 0, .null), (.invokevirtual 137, 56, 0, 1286, .int 0), (.bipush (33), 0, 0, 0, .int (33)), (.if_icmp .ne (8), 73, 0, 0, .null), (.bipush (10), 0, 0, 0, .int (10)), (.goto (5), 75, 0, 0, .null)]
def xb_Mo_readsCondition_73 : List xv_Op := [(.bipush (13), 0, 0, 0, .int (13)), (.nop, 75, 0, 0, .null)]
def xb_Mo_readsCondition_75 : List xv_Op := [(.invokevirtual 172, 62, 1, 1302, .int 0), (.ifCond .ne (-38), 40, 0, 0, .null), (.iconst (0), 0, 0, 0, .int (0)), (.ireturn, 0, 0, 0, .null)]
def xb_Mo_readsCondition_83 : List xv_Op := [(.aload_n 0, 0, 0, 0, .null), (.invokevirtual 202, 73, 0, 1341, .int 0), (.ifCond .ne (5), 92, 0, 0, .null), (.iconst (0), 0, 0, 0, .int (0)), (.ireturn, 0, 0, 0, .null)]
def xb_Mo_readsCondition_92 : List xv_Op := [(.aload_n 0, 0, 0, 0, .null), (.invokevirtual 137, 56, 0, 1286, .int 0), (.bipush (41), 0, 0, 0, .int (41)), (.if_icmp .ne (54), 152, 0, 0, .null), (.aload_n 0, 0, 0, 0, .null), (.iconst (1), 0, 0, 0, .int (1)), (.invokevirtual 205, 71, 1, 1349, .int 0), (.aload_n 0, 0, 0, 0, .null), (.aload_n 0, 0, 0, 0, .null), (.getfield 162, 14, 0, 1111, .null), (.iconst (1), 0, 0, 0, .int (1)), (.isub, 0, 0, 0, .null), (.putfield 162, 14, 0, 1111, .int 0), (.aload_n 0, 0, 0, 0, .null), (.aload_n 0, 0, 0, 0, .null), (.getfield 159, 12, 0, 1109, .null), (.iconst (1), 0, 0, 0, .int (1)), (.isub, 0, 0, 0, .null), (.putfield 159, 12, 0, 1109, .int 0), (.aload_n 0, 0, 0, 0, .null), (.aload_n 0, 0, 0, 0, .null), (.getfield 131, 8, 0, 1105, .null), (.iconst (1), 0, 0, 0, .int (1)), (.iadd, 0, 0, 0, .null), (.putfield 131, 8, 0, 1105, .int 0), (.aload_n 0, 0, 0, 0, .null), (.getfield 162, 14, 0, 1111, .null), (.ifCond .ne (5), 145, 0, 0, .null), (.iconst (1), 0, 0, 0, .int (1)), (.ireturn, 0, 0, 0, .null)]
def xb_Mo_readsCondition_145 : List xv_Op := [(.aload_n 0, 0, 0, 0, .null), (.invokevirtual 199, 70, 0, 1345, .int 0), (.goto (-57), 92, 0, 0, .null)]
def xb_Mo_readsCondition_152 : List xv_Op := [(.aload_n 0, 0, 0, 0, .null), (.invokevirtual 137, 56, 0, 1286, .int 0), (.bipush (38), 0, 0, 0, .int (38)), (.if_icmp .eq (22), 180, 0, 0, .null), (.aload_n 0, 0, 0, 0, .null), (.invokevirtual 137, 56, 0, 1286, .int 0), (.bipush (124), 0, 0, 0, .int (124)), (.if_icmp .eq (13), 180, 0, 0, .null), (.aload_n 0, 0, 0, 0, .null), (.iconst (1), 0, 0, 0, .int (1)), (.aload_n 0, 0, 0, 0, .null), (.getfield 131, 8, 0, 1105, .null), (.invokevirtual 144, 58, 2, 1290, .int 0), (.ireturn, 0, 0, 0, .null)]
def xb_Mo_readsCondition_180 : List xv_Op := [(.aload_n 0, 0, 0, 0, .null), (.aload_n 0, 0, 0, 0, .null), (.invokevirtual 137, 56, 0, 1286, .int 0), (.bipush (124), 0, 0, 0, .int (124)), (.if_icmp .ne (7), 194, 0, 0, .null), (.iconst (1), 0, 0, 0, .int (1)), (.goto (4), 195, 0, 0, .null)]
def xb_Mo_readsCondition_194 : List xv_Op := [(.iconst (0), 0, 0, 0, .int (0)), (.nop, 195, 0, 0, .null)]
def xb_Mo_readsCondition_195 : List xv_Op := [(.invokevirtual 205, 71, 1, 1349, .int 0), (.aload_n 0, 0, 0, 0, .null), (.aload_n 0, 0, 0, 0, .null), (.invokevirtual 137, 56, 0, 1286, .int 0), (.bipush (38), 0, 0, 0, .int (38)), (.if_icmp .ne (8), 213, 0, 0, .null), (.bipush (11), 0, 0, 0, .int (11)), (.goto (5), 215, 0, 0, .null)]
def xb_Mo_readsCondition_213 : List xv_Op := [(.bipush (12), 0, 0, 0, .int (12)), (.nop, 215, 0, 0, .null)]
def xb_Mo_readsCondition_215 : List xv_Op := [(.invokevirtual 208, 72, 1, 1353, .int 0), (.goto (-178), 40, 0, 0, .null)]
def xl_Mo_readsCondition : xv_B := [(0, xb_Mo_readsCondition_0), (19, xb_Mo_readsCondition_19), (40, xb_Mo_readsCondition_40), (58, xb_Mo_readsCondition_58), (73, xb_Mo_readsCondition_73), (75, xb_Mo_readsCondition_75), (83, xb_Mo_readsCondition_83), (92, xb_Mo_readsCondition_92), (145, xb_Mo_readsCondition_145), (152, xb_Mo_readsCondition_152), (180, xb_Mo_readsCondition_180), (194, xb_Mo_readsCondition_194), (195, xb_Mo_readsCondition_195), (213, xb_Mo_readsCondition_213), (215, xb_Mo_readsCondition_215)]
def xm_Mo_readsCondition : xv_M := (⟨"OnionCourtModel", "readsCondition", "()Z"⟩, prog_14_method_36_code, 1, (some .boolean), (0, 1, 0), [], xl_Mo_readsCondition)
def xb_Mo_readsRule_0 : List xv_Op := [(.aload_n 0, 0, 0, 0, .null), (.invokevirtual 137, 56, 0, 1286, .int 0), (.istore_n 1, 0, 0, 0, .null), (.iload_n 1, 0, 0, 0, .null), (.bipush (108), 0, 0, 0, .int (108)), (.if_icmp .eq (37), 45, 0, 0, .null), (.iload_n 1, 0, 0, 0, .null), (.bipush (99), 0, 0, 0, .int (99)), (.if_icmp .eq (31), 45, 0, 0, .null), (.iload_n 1, 0, 0, 0, .null), (.bipush (103), 0, 0, 0, .int (103)), (.if_icmp .eq (25), 45, 0, 0, .null), (.iload_n 1, 0, 0, 0, .null), (.bipush (121), 0, 0, 0, .int (121)), (.if_icmp .eq (19), 45, 0, 0, .null), (.iload_n 1, 0, 0, 0, .null), (.bipush (98), 0, 0, 0, .int (98)), (.if_icmp .eq (13), 45, 0, 0, .null), (.aload_n 0, 0, 0, 0, .null), (.iconst (1), 0, 0, 0, .int (1)), (.aload_n 0, 0, 0, 0, .null), (.getfield 131, 8, 0, 1105, .null), (.invokevirtual 144, 58, 2, 1290, .int 0), (.ireturn, 0, 0, 0, .null)]
def xb_Mo_readsRule_45 : List xv_Op := [(.aload_n 0, 0, 0, 0, .null), (.getfield 211, 15, 0, 1112, .null), (.bipush (16), 0, 0, 0, .int (16)), (.if_icmp .ne (13), 64, 0, 0, .null), (.aload_n 0, 0, 0, 0, .null), (.iconst (4), 0, 0, 0, .int (4)), (.aload_n 0, 0, 0, 0, .null), (.getfield 131, 8, 0, 1105, .null), (.invokevirtual 144, 58, 2, 1290, .int 0), (.ireturn, 0, 0, 0, .null)]
def xb_Mo_readsRule_64 : List xv_Op := [(.aload_n 0, 0, 0, 0, .null), (.getfield 36, 19, 0, 1116, .null), (.aload_n 0, 0, 0, 0, .null), (.getfield 211, 15, 0, 1112, .null), (.iload_n 1, 0, 0, 0, .null), (.iastore, 0, 0, 0, .null), (.aload_n 0, 0, 0, 0, .null), (.aload_n 0, 0, 0, 0, .null), (.getfield 131, 8, 0, 1105, .null), (.iconst (1), 0, 0, 0, .int (1)), (.iadd, 0, 0, 0, .null), (.putfield 131, 8, 0, 1105, .int 0), (.aload_n 0, 0, 0, 0, .null), (.getfield 39, 20, 0, 1117, .null), (.aload_n 0, 0, 0, 0, .null), (.getfield 211, 15, 0, 1112, .null), (.aload_n 0, 0, 0, 0, .null), (.getfield 155, 13, 0, 1110, .null), (.iastore, 0, 0, 0, .null), (.aload_n 0, 0, 0, 0, .null), (.iconst (0), 0, 0, 0, .int (0)), (.putfield 159, 12, 0, 1109, .int 0), (.aload_n 0, 0, 0, 0, .null), (.iconst (0), 0, 0, 0, .int (0)), (.putfield 162, 14, 0, 1111, .int 0), (.aload_n 0, 0, 0, 0, .null), (.invokevirtual 196, 69, 0, 1294, .int 0), (.ifCond .ne (5), 116, 0, 0, .null), (.iconst (0), 0, 0, 0, .int (0)), (.ireturn, 0, 0, 0, .null)]
def xb_Mo_readsRule_116 : List xv_Op := [(.aload_n 0, 0, 0, 0, .null), (.getfield 42, 21, 0, 1118, .null), (.aload_n 0, 0, 0, 0, .null), (.getfield 211, 15, 0, 1112, .null), (.aload_n 0, 0, 0, 0, .null), (.getfield 155, 13, 0, 1110, .null), (.iastore, 0, 0, 0, .null), (.aload_n 0, 0, 0, 0, .null), (.invokevirtual 214, 74, 0, 1337, .int 0), (.ifCond .ne (5), 138, 0, 0, .null), (.iconst (0), 0, 0, 0, .int (0)), (.ireturn, 0, 0, 0, .null)]
def xb_Mo_readsRule_138 : List xv_Op := [(.aload_n 0, 0, 0, 0, .null), (.getfield 45, 22, 0, 1119, .null), (.aload_n 0, 0, 0, 0, .null), (.getfield 211, 15, 0, 1112, .null), (.aload_n 0, 0, 0, 0, .null), (.getfield 155, 13, 0, 1110, .null), (.iastore, 0, 0, 0, .null), (.aload_n 0, 0, 0, 0, .null), (.aload_n 0, 0, 0, 0, .null), (.getfield 211, 15, 0, 1112, .null), (.iconst (1), 0, 0, 0, .int (1)), (.iadd, 0, 0, 0, .null), (.putfield 211, 15, 0, 1112, .int 0), (.iconst (1), 0, 0, 0, .int (1)), (.ireturn, 0, 0, 0, .null)]
def xl_Mo_readsRule : xv_B := [(0, xb_Mo_readsRule_0), (45, xb_Mo_readsRule_45), (64, xb_Mo_readsRule_64), (116, xb_Mo_readsRule_116), (138, xb_Mo_readsRule_138)]
def xm_Mo_readsRule : xv_M := (⟨"OnionCourtModel", "readsRule", "()Z"⟩, prog_14_method_37_code, 2, (some .boolean), (0, 1, 0), [], xl_Mo_readsRule)
def xb_Mo_beginsText_0 : List xv_Op := [(.aload_n 0, 0, 0, 0, .null), (.iconst (0), 0, 0, 0, .int (0)), (.putfield 131, 8, 0, 1105, .int 0), (.aload_n 0, 0, 0, 0, .null), (.iload_n 1, 0, 0, 0, .null), (.putfield 134, 9, 0, 1106, .int 0), (.aload_n 0, 0, 0, 0, .null), (.iconst (0), 0, 0, 0, .int (0)), (.putfield 155, 13, 0, 1110, .int 0), (.aload_n 0, 0, 0, 0, .null), (.iconst (0), 0, 0, 0, .int (0)), (.putfield 211, 15, 0, 1112, .int 0), (.return_, 0, 0, 0, .null)]
def xl_Mo_beginsText : xv_B := [(0, xb_Mo_beginsText_0)]
def xm_Mo_beginsText : xv_M := (⟨"OnionCourtModel", "beginsText", "(I)V"⟩, prog_14_method_38_code, 2, none, (0, 1, 1), [], xl_Mo_beginsText)
def xb_Mo_law_0 : List xv_Op := [(.iload_n 1, 0, 0, 0, .null), (.iconst (1), 0, 0, 0, .int (1)), (.sipush (240), 0, 0, 0, .int (240)), (.invokestatic 112, 40, 3, 1259, .int 0), (.ifCond .eq (11), 19, 0, 0, .null), (.iload_n 1, 0, 0, 0, .null), (.aload_n 0, 0, 0, 0, .null), (.getfield 124, 7, 0, 1104, .null), (.if_icmp .le (5), 21, 0, 0, .null), (.nop, 19, 0, 0, .null)]
def xb_Mo_law_19 : List xv_Op := [(.iconst (-1), 0, 0, 0, .int (-1)), (.ireturn, 0, 0, 0, .null)]
def xb_Mo_law_21 : List xv_Op := [(.aload_n 0, 0, 0, 0, .null), (.iload_n 1, 0, 0, 0, .null), (.invokevirtual 217, 76, 1, 1278, .int 0), (.aload_n 0, 0, 0, 0, .null), (.invokevirtual 220, 75, 0, 1282, .int 0), (.istore_n 2, 0, 0, 0, .null), (.nop, 31, 0, 0, .null)]
def xb_Mo_law_31 : List xv_Op := [(.iload_n 2, 0, 0, 0, .null), (.ifCond .eq (39), 71, 0, 0, .null), (.aload_n 0, 0, 0, 0, .null), (.getfield 131, 8, 0, 1105, .null), (.aload_n 0, 0, 0, 0, .null), (.getfield 134, 9, 0, 1106, .null), (.if_icmp .ge (28), 71, 0, 0, .null), (.aload_n 0, 0, 0, 0, .null), (.bipush (59), 0, 0, 0, .int (59)), (.invokevirtual 223, 59, 1, 1357, .int 0), (.ifCond .eq (14), 66, 0, 0, .null), (.aload_n 0, 0, 0, 0, .null), (.invokevirtual 220, 75, 0, 1282, .int 0), (.ifCond .eq (7), 66, 0, 0, .null), (.iconst (1), 0, 0, 0, .int (1)), (.goto (4), 67, 0, 0, .null)]
def xb_Mo_law_66 : List xv_Op := [(.iconst (0), 0, 0, 0, .int (0)), (.nop, 67, 0, 0, .null)]
def xb_Mo_law_67 : List xv_Op := [(.istore_n 2, 0, 0, 0, .null), (.goto (-37), 31, 0, 0, .null)]
def xb_Mo_law_71 : List xv_Op := [(.aload_n 0, 0, 0, 0, .null), (.iconst (0), 0, 0, 0, .int (0)), (.putfield 124, 7, 0, 1104, .int 0), (.iload_n 2, 0, 0, 0, .null), (.ifCond .ne (8), 85, 0, 0, .null), (.aload_n 0, 0, 0, 0, .null), (.getfield 141, 10, 0, 1107, .null), (.ireturn, 0, 0, 0, .null)]
def xb_Mo_law_85 : List xv_Op := [(.aload_n 0, 0, 0, 0, .null), (.aload_n 0, 0, 0, 0, .null), (.getfield 211, 15, 0, 1112, .null), (.putfield 226, 16, 0, 1113, .int 0), (.iconst (0), 0, 0, 0, .int (0)), (.istore_n 3, 0, 0, 0, .null), (.nop, 95, 0, 0, .null)]
def xb_Mo_law_95 : List xv_Op := [(.iload_n 3, 0, 0, 0, .null), (.aload_n 0, 0, 0, 0, .null), (.getfield 155, 13, 0, 1110, .null), (.if_icmp .ge (21), 121, 0, 0, .null), (.aload_n 0, 0, 0, 0, .null), (.getfield 48, 23, 0, 1120, .null), (.iload_n 3, 0, 0, 0, .null), (.aload_n 0, 0, 0, 0, .null), (.getfield 30, 17, 0, 1114, .null), (.iload_n 3, 0, 0, 0, .null), (.iaload, 0, 0, 0, .null), (.iastore, 0, 0, 0, .null), (.iinc 3 (1), 0, 0, 0, .int (1)), (.goto (-23), 95, 0, 0, .null)]
def xb_Mo_law_121 : List xv_Op := [(.iconst (0), 0, 0, 0, .int (0)), (.istore_n 3, 0, 0, 0, .null), (.nop, 123, 0, 0, .null)]
def xb_Mo_law_123 : List xv_Op := [(.iload_n 3, 0, 0, 0, .null), (.aload_n 0, 0, 0, 0, .null), (.getfield 211, 15, 0, 1112, .null), (.if_icmp .ge (57), 185, 0, 0, .null), (.aload_n 0, 0, 0, 0, .null), (.getfield 51, 24, 0, 1121, .null), (.iload_n 3, 0, 0, 0, .null), (.aload_n 0, 0, 0, 0, .null), (.getfield 36, 19, 0, 1116, .null), (.iload_n 3, 0, 0, 0, .null), (.iaload, 0, 0, 0, .null), (.iastore, 0, 0, 0, .null), (.aload_n 0, 0, 0, 0, .null), (.getfield 54, 25, 0, 1122, .null), (.iload_n 3, 0, 0, 0, .null), (.aload_n 0, 0, 0, 0, .null), (.getfield 39, 20, 0, 1117, .null), (.iload_n 3, 0, 0, 0, .null), (.iaload, 0, 0, 0, .null), (.iastore, 0, 0, 0, .null), (.aload_n 0, 0, 0, 0, .null), (.getfield 57, 26, 0, 1123, .null), (.iload_n 3, 0, 0, 0, .null), (.aload_n 0, 0, 0, 0, .null), (.getfield 42, 21, 0, 1118, .null), (.iload_n 3, 0, 0, 0, .null), (.iaload, 0, 0, 0, .null), (.iastore, 0, 0, 0, .null), (.aload_n 0, 0, 0, 0, .null), (.getfield 60, 27, 0, 1124, .null), (.iload_n 3, 0, 0, 0, .null), (.aload_n 0, 0, 0, 0, .null), (.getfield 45, 22, 0, 1119, .null), (.iload_n 3, 0, 0, 0, .null), (.iaload, 0, 0, 0, .null), (.iastore, 0, 0, 0, .null), (.iinc 3 (1), 0, 0, 0, .int (1)), (.goto (-59), 123, 0, 0, .null)]
def xb_Mo_law_185 : List xv_Op := [(.aload_n 0, 0, 0, 0, .null), (.getfield 211, 15, 0, 1112, .null), (.ireturn, 0, 0, 0, .null)]
def xl_Mo_law : xv_B := [(0, xb_Mo_law_0), (19, xb_Mo_law_19), (21, xb_Mo_law_21), (31, xb_Mo_law_31), (66, xb_Mo_law_66), (67, xb_Mo_law_67), (71, xb_Mo_law_71), (85, xb_Mo_law_85), (95, xb_Mo_law_95), (121, xb_Mo_law_121), (123, xb_Mo_law_123), (185, xb_Mo_law_185)]
def xm_Mo_law : xv_M := (⟨"OnionCourtModel", "law", "(I)I"⟩, prog_14_method_39_code, 4, (some .int), (0, 1, 1), [], xl_Mo_law)
def xb_Mo_reckon_0 : List xv_Op := [(.iload_n 0, 0, 0, 0, .null), (.tableswitch (85) (2) (8) #[43, 47, 51, 55, 59, 63, 74], 1, 0, 0, .null)]
def xb_Mo_reckon_44 : List xv_Op := [(.iload_n 1, 0, 0, 0, .null), (.iload_n 2, 0, 0, 0, .null), (.iadd, 0, 0, 0, .null), (.ireturn, 0, 0, 0, .null)]
def xb_Mo_reckon_48 : List xv_Op := [(.iload_n 1, 0, 0, 0, .null), (.iload_n 2, 0, 0, 0, .null), (.isub, 0, 0, 0, .null), (.ireturn, 0, 0, 0, .null)]
def xb_Mo_reckon_52 : List xv_Op := [(.iload_n 1, 0, 0, 0, .null), (.iload_n 2, 0, 0, 0, .null), (.imul, 0, 0, 0, .null), (.ireturn, 0, 0, 0, .null)]
def xb_Mo_reckon_56 : List xv_Op := [(.iload_n 1, 0, 0, 0, .null), (.iload_n 2, 0, 0, 0, .null), (.idiv, 0, 0, 0, .null), (.ireturn, 0, 0, 0, .null)]
def xb_Mo_reckon_60 : List xv_Op := [(.iload_n 1, 0, 0, 0, .null), (.iload_n 2, 0, 0, 0, .null), (.irem, 0, 0, 0, .null), (.ireturn, 0, 0, 0, .null)]
def xb_Mo_reckon_64 : List xv_Op := [(.iload_n 1, 0, 0, 0, .null), (.iload_n 2, 0, 0, 0, .null), (.if_icmp .ge (7), 73, 0, 0, .null), (.iconst (1), 0, 0, 0, .int (1)), (.goto (4), 74, 0, 0, .null)]
def xb_Mo_reckon_73 : List xv_Op := [(.iconst (0), 0, 0, 0, .int (0)), (.nop, 74, 0, 0, .null)]
def xb_Mo_reckon_74 : List xv_Op := [(.ireturn, 0, 0, 0, .null)]
def xb_Mo_reckon_75 : List xv_Op := [(.iload_n 1, 0, 0, 0, .null), (.iload_n 2, 0, 0, 0, .null), (.if_icmp .le (7), 84, 0, 0, .null), (.iconst (1), 0, 0, 0, .int (1)), (.goto (4), 85, 0, 0, .null)]
def xb_Mo_reckon_84 : List xv_Op := [(.iconst (0), 0, 0, 0, .int (0)), (.nop, 85, 0, 0, .null)]
def xb_Mo_reckon_85 : List xv_Op := [(.ireturn, 0, 0, 0, .null)]
def xb_Mo_reckon_86 : List xv_Op := [(.iload_n 1, 0, 0, 0, .null), (.iload_n 2, 0, 0, 0, .null), (.if_icmp .ne (7), 95, 0, 0, .null), (.iconst (1), 0, 0, 0, .int (1)), (.goto (4), 96, 0, 0, .null)]
def xb_Mo_reckon_95 : List xv_Op := [(.iconst (0), 0, 0, 0, .int (0)), (.nop, 96, 0, 0, .null)]
def xb_Mo_reckon_96 : List xv_Op := [(.ireturn, 0, 0, 0, .null)]
def xl_Mo_reckon : xv_B := [(0, xb_Mo_reckon_0), (44, xb_Mo_reckon_44), (48, xb_Mo_reckon_48), (52, xb_Mo_reckon_52), (56, xb_Mo_reckon_56), (60, xb_Mo_reckon_60), (64, xb_Mo_reckon_64), (73, xb_Mo_reckon_73), (74, xb_Mo_reckon_74), (75, xb_Mo_reckon_75), (84, xb_Mo_reckon_84), (85, xb_Mo_reckon_85), (86, xb_Mo_reckon_86), (95, xb_Mo_reckon_95), (96, xb_Mo_reckon_96)]
def xm_Mo_reckon : xv_M := (⟨"OnionCourtModel", "reckon", "(III)I"⟩, prog_14_method_40_code, 3, (some .int), (0, 0, 3), [], xl_Mo_reckon)
def xb_Mo_comesTo_0 : List xv_Op := [(.iconst (0), 0, 0, 0, .int (0)), (.istore_n 3, 0, 0, 0, .null), (.sipush (260), 0, 0, 0, .int (260)), (.iload_n 1, 0, 0, 0, .null), (.sipush (260), 0, 0, 0, .int (260)), (.idiv, 0, 0, 0, .null), (.imul, 0, 0, 0, .null), (.istore 4, 0, 0, 0, .null), (.iload_n 1, 0, 0, 0, .null), (.istore 5, 0, 0, 0, .null), (.nop, 16, 0, 0, .null)]
def xb_Mo_comesTo_16 : List xv_Op := [(.iload 5, 0, 0, 0, .null), (.iload_n 2, 0, 0, 0, .null), (.if_icmp .ge (214), 233, 0, 0, .null), (.aload_n 0, 0, 0, 0, .null), (.getfield 48, 23, 0, 1120, .null), (.iload 5, 0, 0, 0, .null), (.iaload, 0, 0, 0, .null), (.ldc 158, 0, 0, 1306, .int (1048576)), (.idiv, 0, 0, 0, .null), (.istore 6, 0, 0, 0, .null), (.aload_n 0, 0, 0, 0, .null), (.getfield 48, 23, 0, 1120, .null), (.iload 5, 0, 0, 0, .null), (.iaload, 0, 0, 0, .null), (.ldc 158, 0, 0, 1306, .int (1048576)), (.irem, 0, 0, 0, .null), (.istore 7, 0, 0, 0, .null), (.iload 5, 0, 0, 0, .null), (.iconst (1), 0, 0, 0, .int (1)), (.iadd, 0, 0, 0, .null), (.istore 5, 0, 0, 0, .null), (.iload 6, 0, 0, 0, .null), (.ifCond .eq (9), 63, 0, 0, .null), (.iload 6, 0, 0, 0, .null), (.iconst (1), 0, 0, 0, .int (1)), (.if_icmp .ne (33), 93, 0, 0, .null), (.nop, 63, 0, 0, .null)]
def xb_Mo_comesTo_63 : List xv_Op := [(.aload_n 0, 0, 0, 0, .null), (.getfield 63, 28, 0, 1125, .null), (.iload_n 3, 0, 0, 0, .null), (.iload 6, 0, 0, 0, .null), (.ifCond .ne (8), 78, 0, 0, .null), (.iload 7, 0, 0, 0, .null), (.goto (10), 85, 0, 0, .null)]
def xb_Mo_comesTo_78 : List xv_Op := [(.aload_n 0, 0, 0, 0, .null), (.getfield 66, 29, 0, 1126, .null), (.iload 7, 0, 0, 0, .null), (.iaload, 0, 0, 0, .null), (.nop, 85, 0, 0, .null)]
def xb_Mo_comesTo_85 : List xv_Op := [(.iastore, 0, 0, 0, .null), (.iload_n 3, 0, 0, 0, .null), (.iconst (1), 0, 0, 0, .int (1)), (.iadd, 0, 0, 0, .null), (.istore_n 3, 0, 0, 0, .null), (.goto (140), 230, 0, 0, .null)]
def xb_Mo_comesTo_93 : List xv_Op := [(.iload 6, 0, 0, 0, .null), (.bipush (10), 0, 0, 0, .int (10)), (.if_icmp .ne (24), 121, 0, 0, .null), (.aload_n 0, 0, 0, 0, .null), (.getfield 63, 28, 0, 1125, .null), (.iload_n 3, 0, 0, 0, .null), (.iconst (1), 0, 0, 0, .int (1)), (.isub, 0, 0, 0, .null), (.iconst (1), 0, 0, 0, .int (1)), (.aload_n 0, 0, 0, 0, .null), (.getfield 63, 28, 0, 1125, .null), (.iload_n 3, 0, 0, 0, .null), (.iconst (1), 0, 0, 0, .int (1)), (.isub, 0, 0, 0, .null), (.iaload, 0, 0, 0, .null), (.isub, 0, 0, 0, .null), (.iastore, 0, 0, 0, .null), (.goto (112), 230, 0, 0, .null)]
def xb_Mo_comesTo_121 : List xv_Op := [(.iload 6, 0, 0, 0, .null), (.bipush (11), 0, 0, 0, .int (11)), (.if_icmp .eq (10), 135, 0, 0, .null), (.iload 6, 0, 0, 0, .null), (.bipush (12), 0, 0, 0, .int (12)), (.if_icmp .ne (43), 175, 0, 0, .null), (.nop, 135, 0, 0, .null)]
def xb_Mo_comesTo_135 : List xv_Op := [(.aload_n 0, 0, 0, 0, .null), (.getfield 63, 28, 0, 1125, .null), (.iload_n 3, 0, 0, 0, .null), (.iconst (1), 0, 0, 0, .int (1)), (.isub, 0, 0, 0, .null), (.iaload, 0, 0, 0, .null), (.iload 6, 0, 0, 0, .null), (.bipush (12), 0, 0, 0, .int (12)), (.if_icmp .ne (7), 154, 0, 0, .null), (.iconst (1), 0, 0, 0, .int (1)), (.goto (4), 155, 0, 0, .null)]
def xb_Mo_comesTo_154 : List xv_Op := [(.iconst (0), 0, 0, 0, .int (0)), (.nop, 155, 0, 0, .null)]
def xb_Mo_comesTo_155 : List xv_Op := [(.if_icmp .ne (13), 168, 0, 0, .null), (.iload 4, 0, 0, 0, .null), (.iload 7, 0, 0, 0, .null), (.iadd, 0, 0, 0, .null), (.istore 5, 0, 0, 0, .null), (.goto (65), 230, 0, 0, .null)]
def xb_Mo_comesTo_168 : List xv_Op := [(.iload_n 3, 0, 0, 0, .null), (.iconst (1), 0, 0, 0, .int (1)), (.isub, 0, 0, 0, .null), (.istore_n 3, 0, 0, 0, .null), (.goto (58), 230, 0, 0, .null)]
def xb_Mo_comesTo_175 : List xv_Op := [(.iload_n 3, 0, 0, 0, .null), (.iconst (1), 0, 0, 0, .int (1)), (.isub, 0, 0, 0, .null), (.istore_n 3, 0, 0, 0, .null), (.iload 6, 0, 0, 0, .null), (.iconst (5), 0, 0, 0, .int (5)), (.if_icmp .eq (10), 192, 0, 0, .null), (.iload 6, 0, 0, 0, .null), (.bipush (6), 0, 0, 0, .int (6)), (.if_icmp .ne (14), 203, 0, 0, .null), (.nop, 192, 0, 0, .null)]
def xb_Mo_comesTo_192 : List xv_Op := [(.aload_n 0, 0, 0, 0, .null), (.getfield 63, 28, 0, 1125, .null), (.iload_n 3, 0, 0, 0, .null), (.iaload, 0, 0, 0, .null), (.ifCond .ne (5), 203, 0, 0, .null), (.iconst (0), 0, 0, 0, .int (0)), (.ireturn, 0, 0, 0, .null)]
def xb_Mo_comesTo_203 : List xv_Op := [(.aload_n 0, 0, 0, 0, .null), (.getfield 63, 28, 0, 1125, .null), (.iload_n 3, 0, 0, 0, .null), (.iconst (1), 0, 0, 0, .int (1)), (.isub, 0, 0, 0, .null), (.iload 6, 0, 0, 0, .null), (.aload_n 0, 0, 0, 0, .null), (.getfield 63, 28, 0, 1125, .null), (.iload_n 3, 0, 0, 0, .null), (.iconst (1), 0, 0, 0, .int (1)), (.isub, 0, 0, 0, .null), (.iaload, 0, 0, 0, .null), (.aload_n 0, 0, 0, 0, .null), (.getfield 63, 28, 0, 1125, .null), (.iload_n 3, 0, 0, 0, .null), (.iaload, 0, 0, 0, .null), (.invokestatic 229, 78, 3, 1472, .int 0), (.iastore, 0, 0, 0, .null), (.nop, 230, 0, 0, .null)]
def xb_Mo_comesTo_230 : List xv_Op := [(.goto (-214), 16, 0, 0, .null)]
def xb_Mo_comesTo_233 : List xv_Op := [(.aload_n 0, 0, 0, 0, .null), (.getfield 63, 28, 0, 1125, .null), (.iconst (0), 0, 0, 0, .int (0)), (.iaload, 0, 0, 0, .null), (.ireturn, 0, 0, 0, .null)]
def xl_Mo_comesTo : xv_B := [(0, xb_Mo_comesTo_0), (16, xb_Mo_comesTo_16), (63, xb_Mo_comesTo_63), (78, xb_Mo_comesTo_78), (85, xb_Mo_comesTo_85), (93, xb_Mo_comesTo_93), (121, xb_Mo_comesTo_121), (135, xb_Mo_comesTo_135), (154, xb_Mo_comesTo_154), (155, xb_Mo_comesTo_155), (168, xb_Mo_comesTo_168), (175, xb_Mo_comesTo_175), (192, xb_Mo_comesTo_192), (203, xb_Mo_comesTo_203), (230, xb_Mo_comesTo_230), (233, xb_Mo_comesTo_233)]
def xm_Mo_comesTo : xv_M := (⟨"OnionCourtModel", "comesTo", "(II)I"⟩, prog_14_method_41_code, 8, (some .int), (0, 1, 2), [], xl_Mo_comesTo)
def xb_Mo_byLaw_0 : List xv_Op := [(.iconst (0), 0, 0, 0, .int (0)), (.istore_n 3, 0, 0, 0, .null), (.nop, 2, 0, 0, .null)]
def xb_Mo_byLaw_2 : List xv_Op := [(.iload_n 3, 0, 0, 0, .null), (.aload_n 0, 0, 0, 0, .null), (.getfield 226, 16, 0, 1113, .null), (.if_icmp .ge (82), 89, 0, 0, .null), (.aload_n 0, 0, 0, 0, .null), (.getfield 51, 24, 0, 1121, .null), (.iload_n 3, 0, 0, 0, .null), (.iaload, 0, 0, 0, .null), (.iload_n 1, 0, 0, 0, .null), (.if_icmp .ne (66), 83, 0, 0, .null), (.aload_n 0, 0, 0, 0, .null), (.aload_n 0, 0, 0, 0, .null), (.getfield 57, 26, 0, 1123, .null), (.iload_n 3, 0, 0, 0, .null), (.iaload, 0, 0, 0, .null), (.aload_n 0, 0, 0, 0, .null), (.getfield 60, 27, 0, 1124, .null), (.iload_n 3, 0, 0, 0, .null), (.iaload, 0, 0, 0, .null), (.invokevirtual 233, 79, 2, 1468, .int 0), (.iconst (1), 0, 0, 0, .int (1)), (.if_icmp .eq (6), 43, 0, 0, .null), (.goto (43), 83, 0, 0, .null)]
def xb_Mo_byLaw_43 : List xv_Op := [(.aload_n 0, 0, 0, 0, .null), (.aload_n 0, 0, 0, 0, .null), (.getfield 54, 25, 0, 1122, .null), (.iload_n 3, 0, 0, 0, .null), (.iaload, 0, 0, 0, .null), (.aload_n 0, 0, 0, 0, .null), (.getfield 57, 26, 0, 1123, .null), (.iload_n 3, 0, 0, 0, .null), (.iaload, 0, 0, 0, .null), (.invokevirtual 233, 79, 2, 1468, .int 0), (.istore 4, 0, 0, 0, .null), (.iload 4, 0, 0, 0, .null), (.ifCond .ge (7), 70, 0, 0, .null), (.iconst (0), 0, 0, 0, .int (0)), (.goto (15), 82, 0, 0, .null)]
def xb_Mo_byLaw_70 : List xv_Op := [(.iload 4, 0, 0, 0, .null), (.iload_n 2, 0, 0, 0, .null), (.if_icmp .le (7), 80, 0, 0, .null), (.iload_n 2, 0, 0, 0, .null), (.goto (5), 82, 0, 0, .null)]
def xb_Mo_byLaw_80 : List xv_Op := [(.iload 4, 0, 0, 0, .null), (.nop, 82, 0, 0, .null)]
def xb_Mo_byLaw_82 : List xv_Op := [(.ireturn, 0, 0, 0, .null)]
def xb_Mo_byLaw_83 : List xv_Op := [(.iinc 3 (1), 0, 0, 0, .int (1)), (.goto (-84), 2, 0, 0, .null)]
def xb_Mo_byLaw_89 : List xv_Op := [(.iconst (0), 0, 0, 0, .int (0)), (.ireturn, 0, 0, 0, .null)]
def xl_Mo_byLaw : xv_B := [(0, xb_Mo_byLaw_0), (2, xb_Mo_byLaw_2), (43, xb_Mo_byLaw_43), (70, xb_Mo_byLaw_70), (80, xb_Mo_byLaw_80), (82, xb_Mo_byLaw_82), (83, xb_Mo_byLaw_83), (89, xb_Mo_byLaw_89)]
def xm_Mo_byLaw : xv_M := (⟨"OnionCourtModel", "byLaw", "(II)I"⟩, prog_14_method_42_code, 5, (some .int), (0, 1, 2), [], xl_Mo_byLaw)
def xb_Mo_feels_0 : List xv_Op := [(.iconst (0), 0, 0, 0, .int (0)), (.istore 6, 0, 0, 0, .null), (.nop, 3, 0, 0, .null)]
def xb_Mo_feels_3 : List xv_Op := [(.iload 6, 0, 0, 0, .null), (.bipush (8), 0, 0, 0, .int (8)), (.if_icmp .ge (17), 24, 0, 0, .null), (.aload_n 0, 0, 0, 0, .null), (.getfield 66, 29, 0, 1126, .null), (.iload 6, 0, 0, 0, .null), (.iconst (0), 0, 0, 0, .int (0)), (.iastore, 0, 0, 0, .null), (.iinc 6 (1), 0, 0, 0, .int (1)), (.goto (-18), 3, 0, 0, .null)]
def xb_Mo_feels_24 : List xv_Op := [(.aload_n 0, 0, 0, 0, .null), (.getfield 66, 29, 0, 1126, .null), (.iconst (0), 0, 0, 0, .int (0)), (.iload_n 1, 0, 0, 0, .null), (.iastore, 0, 0, 0, .null), (.aload_n 0, 0, 0, 0, .null), (.getfield 66, 29, 0, 1126, .null), (.iconst (1), 0, 0, 0, .int (1)), (.iload_n 2, 0, 0, 0, .null), (.iastore, 0, 0, 0, .null), (.aload_n 0, 0, 0, 0, .null), (.getfield 66, 29, 0, 1126, .null), (.iconst (2), 0, 0, 0, .int (2)), (.iload_n 3, 0, 0, 0, .null), (.iastore, 0, 0, 0, .null), (.aload_n 0, 0, 0, 0, .null), (.getfield 66, 29, 0, 1126, .null), (.iconst (3), 0, 0, 0, .int (3)), (.iload 4, 0, 0, 0, .null), (.iastore, 0, 0, 0, .null), (.aload_n 0, 0, 0, 0, .null), (.getfield 66, 29, 0, 1126, .null), (.bipush (7), 0, 0, 0, .int (7)), (.iload 5, 0, 0, 0, .null), (.iastore, 0, 0, 0, .null), (.return_, 0, 0, 0, .null)]
def xl_Mo_feels : xv_B := [(0, xb_Mo_feels_0), (3, xb_Mo_feels_3), (24, xb_Mo_feels_24)]
def xm_Mo_feels : xv_M := (⟨"OnionCourtModel", "feels", "(IIIII)V"⟩, prog_14_method_43_code, 7, none, (0, 1, 5), [], xl_Mo_feels)
def xb_Mo_lastSign_0 : List xv_Op := [(.aload_n 0, 0, 0, 0, .null), (.getfield 236, 32, 0, 1129, .null), (.ifCond .ne (7), 11, 0, 0, .null), (.iconst (-1), 0, 0, 0, .int (-1)), (.goto (14), 22, 0, 0, .null)]
def xb_Mo_lastSign_11 : List xv_Op := [(.aload_n 0, 0, 0, 0, .null), (.getfield 69, 30, 0, 1127, .null), (.aload_n 0, 0, 0, 0, .null), (.getfield 236, 32, 0, 1129, .null), (.iconst (1), 0, 0, 0, .int (1)), (.isub, 0, 0, 0, .null), (.iaload, 0, 0, 0, .null), (.nop, 22, 0, 0, .null)]
def xb_Mo_lastSign_22 : List xv_Op := [(.ireturn, 0, 0, 0, .null)]
def xl_Mo_lastSign : xv_B := [(0, xb_Mo_lastSign_0), (11, xb_Mo_lastSign_11), (22, xb_Mo_lastSign_22)]
def xm_Mo_lastSign : xv_M := (⟨"OnionCourtModel", "lastSign", "()I"⟩, prog_14_method_44_code, 1, (some .int), (0, 1, 0), [], xl_Mo_lastSign)
def xb_Mo_waitsFor_0 : List xv_Op := [(.aload_n 0, 0, 0, 0, .null), (.getfield 69, 30, 0, 1127, .null), (.aload_n 0, 0, 0, 0, .null), (.getfield 236, 32, 0, 1129, .null), (.iload_n 1, 0, 0, 0, .null), (.iastore, 0, 0, 0, .null), (.aload_n 0, 0, 0, 0, .null), (.aload_n 0, 0, 0, 0, .null), (.getfield 236, 32, 0, 1129, .null), (.iconst (1), 0, 0, 0, .int (1)), (.iadd, 0, 0, 0, .null), (.putfield 236, 32, 0, 1129, .int 0), (.return_, 0, 0, 0, .null)]
def xl_Mo_waitsFor : xv_B := [(0, xb_Mo_waitsFor_0)]
def xm_Mo_waitsFor : xv_M := (⟨"OnionCourtModel", "waitsFor", "(I)V"⟩, prog_14_method_45_code, 2, none, (0, 1, 1), [], xl_Mo_waitsFor)
def xb_Mo_joinsLast_0 : List xv_Op := [(.aload_n 0, 0, 0, 0, .null), (.aload_n 0, 0, 0, 0, .null), (.getfield 236, 32, 0, 1129, .null), (.iconst (1), 0, 0, 0, .int (1)), (.isub, 0, 0, 0, .null), (.putfield 236, 32, 0, 1129, .int 0), (.aload_n 0, 0, 0, 0, .null), (.getfield 69, 30, 0, 1127, .null), (.aload_n 0, 0, 0, 0, .null), (.getfield 236, 32, 0, 1129, .null), (.iaload, 0, 0, 0, .null), (.istore_n 1, 0, 0, 0, .null), (.iload_n 1, 0, 0, 0, .null), (.bipush (33), 0, 0, 0, .int (33)), (.if_icmp .ne (34), 57, 0, 0, .null), (.aload_n 0, 0, 0, 0, .null), (.getfield 72, 31, 0, 1128, .null), (.aload_n 0, 0, 0, 0, .null), (.getfield 239, 33, 0, 1130, .null), (.iconst (1), 0, 0, 0, .int (1)), (.isub, 0, 0, 0, .null), (.ldc2_w 242, 0, 0, 1372, .long (4294967295)), (.aload_n 0, 0, 0, 0, .null), (.getfield 72, 31, 0, 1128, .null), (.aload_n 0, 0, 0, 0, .null), (.getfield 239, 33, 0, 1130, .null), (.iconst (1), 0, 0, 0, .int (1)), (.isub, 0, 0, 0, .null), (.laload, 0, 0, 0, .null), (.ldc2_w 244, 0, 0, 1388, .long (-1)), (.lxor, 0, 0, 0, .null), (.land, 0, 0, 0, .null), (.lastore, 0, 0, 0, .null), (.return_, 0, 0, 0, .null)]
def xb_Mo_joinsLast_57 : List xv_Op := [(.aload_n 0, 0, 0, 0, .null), (.aload_n 0, 0, 0, 0, .null), (.getfield 239, 33, 0, 1130, .null), (.iconst (1), 0, 0, 0, .int (1)), (.isub, 0, 0, 0, .null), (.putfield 239, 33, 0, 1130, .int 0), (.aload_n 0, 0, 0, 0, .null), (.getfield 72, 31, 0, 1128, .null), (.aload_n 0, 0, 0, 0, .null), (.getfield 239, 33, 0, 1130, .null), (.iconst (1), 0, 0, 0, .int (1)), (.isub, 0, 0, 0, .null), (.laload, 0, 0, 0, .null), (.lstore_n 2, 0, 0, 0, .null), (.aload_n 0, 0, 0, 0, .null), (.getfield 72, 31, 0, 1128, .null), (.aload_n 0, 0, 0, 0, .null), (.getfield 239, 33, 0, 1130, .null), (.laload, 0, 0, 0, .null), (.lstore 4, 0, 0, 0, .null), (.aload_n 0, 0, 0, 0, .null), (.getfield 72, 31, 0, 1128, .null), (.aload_n 0, 0, 0, 0, .null), (.getfield 239, 33, 0, 1130, .null), (.iconst (1), 0, 0, 0, .int (1)), (.isub, 0, 0, 0, .null), (.iload_n 1, 0, 0, 0, .null), (.bipush (30), 0, 0, 0, .int (30)), (.if_icmp .ne (10), 113, 0, 0, .null), (.lload_n 2, 0, 0, 0, .null), (.lload 4, 0, 0, 0, .null), (.land, 0, 0, 0, .null), (.goto (20), 130, 0, 0, .null)]
def xb_Mo_joinsLast_113 : List xv_Op := [(.iload_n 1, 0, 0, 0, .null), (.bipush (31), 0, 0, 0, .int (31)), (.if_icmp .ne (10), 126, 0, 0, .null), (.lload_n 2, 0, 0, 0, .null), (.lload 4, 0, 0, 0, .null), (.lxor, 0, 0, 0, .null), (.goto (7), 130, 0, 0, .null)]
def xb_Mo_joinsLast_126 : List xv_Op := [(.lload_n 2, 0, 0, 0, .null), (.lload 4, 0, 0, 0, .null), (.lor, 0, 0, 0, .null), (.nop, 130, 0, 0, .null)]
def xb_Mo_joinsLast_130 : List xv_Op := [(.lastore, 0, 0, 0, .null), (.return_, 0, 0, 0, .null)]
def xl_Mo_joinsLast : xv_B := [(0, xb_Mo_joinsLast_0), (57, xb_Mo_joinsLast_57), (113, xb_Mo_joinsLast_113), (126, xb_Mo_joinsLast_126), (130, xb_Mo_joinsLast_130)]
def xm_Mo_joinsLast : xv_M := (⟨"OnionCourtModel", "joinsLast", "()V"⟩, prog_14_method_46_code, 6, none, (0, 1, 0), [2, 4], xl_Mo_joinsLast)
def xb_Mo_joinsTo_0 : List xv_Op := [(.aload_n 0, 0, 0, 0, .null), (.invokevirtual 246, 82, 0, 1380, .int 0), (.bipush (30), 0, 0, 0, .int (30)), (.iload_n 1, 0, 0, 0, .null), (.invokestatic 112, 40, 3, 1259, .int 0), (.ifCond .eq (10), 20, 0, 0, .null), (.aload_n 0, 0, 0, 0, .null), (.invokevirtual 249, 84, 0, 1384, .int 0), (.goto (-17), 0, 0, 0, .null)]
def xb_Mo_joinsTo_20 : List xv_Op := [(.return_, 0, 0, 0, .null)]
def xl_Mo_joinsTo : xv_B := [(0, xb_Mo_joinsTo_0), (20, xb_Mo_joinsTo_20)]
def xm_Mo_joinsTo : xv_M := (⟨"OnionCourtModel", "joinsTo", "(I)V"⟩, prog_14_method_47_code, 2, none, (0, 1, 1), [], xl_Mo_joinsTo)
def xb_Mo_endsTruth_0 : List xv_Op := [(.aload_n 0, 0, 0, 0, .null), (.invokevirtual 246, 82, 0, 1380, .int 0), (.bipush (33), 0, 0, 0, .int (33)), (.if_icmp .ne (20), 26, 0, 0, .null), (.aload_n 0, 0, 0, 0, .null), (.invokevirtual 249, 84, 0, 1384, .int 0), (.aload_n 0, 0, 0, 0, .null), (.aload_n 0, 0, 0, 0, .null), (.getfield 252, 34, 0, 1131, .null), (.iconst (1), 0, 0, 0, .int (1)), (.isub, 0, 0, 0, .null), (.putfield 252, 34, 0, 1131, .int 0), (.goto (-23), 0, 0, 0, .null)]
def xb_Mo_endsTruth_26 : List xv_Op := [(.aload_n 0, 0, 0, 0, .null), (.iconst (0), 0, 0, 0, .int (0)), (.putfield 255, 35, 0, 1132, .int 2), (.return_, 0, 0, 0, .null)]
def xl_Mo_endsTruth : xv_B := [(0, xb_Mo_endsTruth_0), (26, xb_Mo_endsTruth_26)]
def xm_Mo_endsTruth : xv_M := (⟨"OnionCourtModel", "endsTruth", "()V"⟩, prog_14_method_48_code, 1, none, (0, 1, 0), [], xl_Mo_endsTruth)
def xb_Mo_worldsOf_0 : List xv_Op := [(.iload_n 0, 0, 0, 0, .null), (.bipush (48), 0, 0, 0, .int (48)), (.if_icmp .ne (5), 8, 0, 0, .null), (.lconst 0, 0, 0, 0, .long 0), (.lreturn, 0, 0, 0, .null)]
def xb_Mo_worldsOf_8 : List xv_Op := [(.iload_n 0, 0, 0, 0, .null), (.bipush (49), 0, 0, 0, .int (49)), (.if_icmp .ne (7), 18, 0, 0, .null), (.ldc2_w 242, 0, 0, 1372, .long (4294967295)), (.lreturn, 0, 0, 0, .null)]
def xb_Mo_worldsOf_18 : List xv_Op := [(.lconst 0, 0, 0, 0, .long 0), (.lstore_n 1, 0, 0, 0, .null), (.iconst (0), 0, 0, 0, .int (0)), (.istore_n 3, 0, 0, 0, .null), (.nop, 22, 0, 0, .null)]
def xb_Mo_worldsOf_22 : List xv_Op := [(.iload_n 3, 0, 0, 0, .null), (.bipush (32), 0, 0, 0, .int (32)), (.if_icmp .ge (27), 52, 0, 0, .null), (.iload_n 3, 0, 0, 0, .null), (.i2l, 0, 0, 0, .null), (.iload_n 0, 0, 0, 0, .null), (.bipush (97), 0, 0, 0, .int (97)), (.isub, 0, 0, 0, .null), (.invokestatic 108, 44, 2, 1373, .int 0), (.ifCond .eq (9), 46, 0, 0, .null), (.lload_n 1, 0, 0, 0, .null), (.lconst 1, 0, 0, 0, .long 1), (.iload_n 3, 0, 0, 0, .null), (.lshl, 0, 0, 0, .null), (.lor, 0, 0, 0, .null), (.lstore_n 1, 0, 0, 0, .null), (.nop, 46, 0, 0, .null)]
def xb_Mo_worldsOf_46 : List xv_Op := [(.iinc 3 (1), 0, 0, 0, .int (1)), (.goto (-27), 22, 0, 0, .null)]
def xb_Mo_worldsOf_52 : List xv_Op := [(.lload_n 1, 0, 0, 0, .null), (.lreturn, 0, 0, 0, .null)]
def xl_Mo_worldsOf : xv_B := [(0, xb_Mo_worldsOf_0), (8, xb_Mo_worldsOf_8), (18, xb_Mo_worldsOf_18), (22, xb_Mo_worldsOf_22), (46, xb_Mo_worldsOf_46), (52, xb_Mo_worldsOf_52)]
def xm_Mo_worldsOf : xv_M := (⟨"OnionCourtModel", "worldsOf", "(I)J"⟩, prog_14_method_49_code, 4, (some .long), (0, 0, 1), [1], xl_Mo_worldsOf)
def xb_Mo_readsTruth_0 : List xv_Op := [(.aload_n 0, 0, 0, 0, .null), (.invokevirtual 137, 56, 0, 1286, .int 0), (.istore_n 1, 0, 0, 0, .null), (.iload_n 1, 0, 0, 0, .null), (.bipush (97), 0, 0, 0, .int (97)), (.bipush (101), 0, 0, 0, .int (101)), (.invokestatic 112, 40, 3, 1259, .int 0), (.ifCond .ne (15), 28, 0, 0, .null), (.iload_n 1, 0, 0, 0, .null), (.bipush (48), 0, 0, 0, .int (48)), (.if_icmp .eq (9), 28, 0, 0, .null), (.iload_n 1, 0, 0, 0, .null), (.bipush (49), 0, 0, 0, .int (49)), (.if_icmp .ne (42), 67, 0, 0, .null), (.nop, 28, 0, 0, .null)]
def xb_Mo_readsTruth_28 : List xv_Op := [(.aload_n 0, 0, 0, 0, .null), (.getfield 72, 31, 0, 1128, .null), (.aload_n 0, 0, 0, 0, .null), (.getfield 239, 33, 0, 1130, .null), (.iload_n 1, 0, 0, 0, .null), (.invokestatic 259, 87, 1, 1369, .int 0), (.lastore, 0, 0, 0, .null), (.aload_n 0, 0, 0, 0, .null), (.aload_n 0, 0, 0, 0, .null), (.getfield 239, 33, 0, 1130, .null), (.iconst (1), 0, 0, 0, .int (1)), (.iadd, 0, 0, 0, .null), (.putfield 239, 33, 0, 1130, .int 0), (.aload_n 0, 0, 0, 0, .null), (.aload_n 0, 0, 0, 0, .null), (.getfield 131, 8, 0, 1105, .null), (.iconst (1), 0, 0, 0, .int (1)), (.iadd, 0, 0, 0, .null), (.putfield 131, 8, 0, 1105, .int 0), (.aload_n 0, 0, 0, 0, .null), (.invokevirtual 263, 86, 0, 1376, .int 0), (.iconst (1), 0, 0, 0, .int (1)), (.ireturn, 0, 0, 0, .null)]
def xb_Mo_readsTruth_67 : List xv_Op := [(.iload_n 1, 0, 0, 0, .null), (.bipush (33), 0, 0, 0, .int (33)), (.if_icmp .eq (19), 89, 0, 0, .null), (.iload_n 1, 0, 0, 0, .null), (.bipush (40), 0, 0, 0, .int (40)), (.if_icmp .eq (13), 89, 0, 0, .null), (.aload_n 0, 0, 0, 0, .null), (.iconst (1), 0, 0, 0, .int (1)), (.aload_n 0, 0, 0, 0, .null), (.getfield 131, 8, 0, 1105, .null), (.invokevirtual 144, 58, 2, 1290, .int 0), (.ireturn, 0, 0, 0, .null)]
def xb_Mo_readsTruth_89 : List xv_Op := [(.aload_n 0, 0, 0, 0, .null), (.getfield 252, 34, 0, 1131, .null), (.bipush (6), 0, 0, 0, .int (6)), (.if_icmp .ne (13), 108, 0, 0, .null), (.aload_n 0, 0, 0, 0, .null), (.iconst (5), 0, 0, 0, .int (5)), (.aload_n 0, 0, 0, 0, .null), (.getfield 131, 8, 0, 1105, .null), (.invokevirtual 144, 58, 2, 1290, .int 0), (.ireturn, 0, 0, 0, .null)]
def xb_Mo_readsTruth_108 : List xv_Op := [(.aload_n 0, 0, 0, 0, .null), (.aload_n 0, 0, 0, 0, .null), (.getfield 252, 34, 0, 1131, .null), (.iconst (1), 0, 0, 0, .int (1)), (.iadd, 0, 0, 0, .null), (.putfield 252, 34, 0, 1131, .int 0), (.aload_n 0, 0, 0, 0, .null), (.iload_n 1, 0, 0, 0, .null), (.bipush (33), 0, 0, 0, .int (33)), (.if_icmp .ne (8), 130, 0, 0, .null), (.bipush (33), 0, 0, 0, .int (33)), (.goto (5), 132, 0, 0, .null)]
def xb_Mo_readsTruth_130 : List xv_Op := [(.bipush (90), 0, 0, 0, .int (90)), (.nop, 132, 0, 0, .null)]
def xb_Mo_readsTruth_132 : List xv_Op := [(.invokevirtual 266, 83, 1, 1389, .int 0), (.aload_n 0, 0, 0, 0, .null), (.aload_n 0, 0, 0, 0, .null), (.getfield 131, 8, 0, 1105, .null), (.iconst (1), 0, 0, 0, .int (1)), (.iadd, 0, 0, 0, .null), (.putfield 131, 8, 0, 1105, .int 0), (.iconst (1), 0, 0, 0, .int (1)), (.ireturn, 0, 0, 0, .null)]
def xl_Mo_readsTruth : xv_B := [(0, xb_Mo_readsTruth_0), (28, xb_Mo_readsTruth_28), (67, xb_Mo_readsTruth_67), (89, xb_Mo_readsTruth_89), (108, xb_Mo_readsTruth_108), (130, xb_Mo_readsTruth_130), (132, xb_Mo_readsTruth_132)]
def xm_Mo_readsTruth : xv_M := (⟨"OnionCourtModel", "readsTruth", "()Z"⟩, prog_14_method_50_code, 2, (some .boolean), (0, 1, 0), [], xl_Mo_readsTruth)
def xb_Mo_readsSign_0 : List xv_Op := [(.aload_n 0, 0, 0, 0, .null), (.invokevirtual 137, 56, 0, 1286, .int 0), (.istore_n 1, 0, 0, 0, .null), (.iload_n 1, 0, 0, 0, .null), (.bipush (41), 0, 0, 0, .int (41)), (.if_icmp .ne (64), 72, 0, 0, .null), (.aload_n 0, 0, 0, 0, .null), (.bipush (32), 0, 0, 0, .int (32)), (.invokevirtual 269, 85, 1, 1397, .int 0), (.aload_n 0, 0, 0, 0, .null), (.invokevirtual 246, 82, 0, 1380, .int 0), (.bipush (90), 0, 0, 0, .int (90)), (.if_icmp .eq (13), 36, 0, 0, .null), (.aload_n 0, 0, 0, 0, .null), (.iconst (1), 0, 0, 0, .int (1)), (.aload_n 0, 0, 0, 0, .null), (.getfield 131, 8, 0, 1105, .null), (.invokevirtual 144, 58, 2, 1290, .int 0), (.ireturn, 0, 0, 0, .null)]
def xb_Mo_readsSign_36 : List xv_Op := [(.aload_n 0, 0, 0, 0, .null), (.aload_n 0, 0, 0, 0, .null), (.getfield 236, 32, 0, 1129, .null), (.iconst (1), 0, 0, 0, .int (1)), (.isub, 0, 0, 0, .null), (.putfield 236, 32, 0, 1129, .int 0), (.aload_n 0, 0, 0, 0, .null), (.aload_n 0, 0, 0, 0, .null), (.getfield 252, 34, 0, 1131, .null), (.iconst (1), 0, 0, 0, .int (1)), (.isub, 0, 0, 0, .null), (.putfield 252, 34, 0, 1131, .int 0), (.aload_n 0, 0, 0, 0, .null), (.aload_n 0, 0, 0, 0, .null), (.getfield 131, 8, 0, 1105, .null), (.iconst (1), 0, 0, 0, .int (1)), (.iadd, 0, 0, 0, .null), (.putfield 131, 8, 0, 1105, .int 0), (.aload_n 0, 0, 0, 0, .null), (.invokevirtual 263, 86, 0, 1376, .int 0), (.iconst (1), 0, 0, 0, .int (1)), (.ireturn, 0, 0, 0, .null)]
def xb_Mo_readsSign_72 : List xv_Op := [(.iload_n 1, 0, 0, 0, .null), (.bipush (38), 0, 0, 0, .int (38)), (.if_icmp .ne (8), 83, 0, 0, .null), (.bipush (30), 0, 0, 0, .int (30)), (.goto (26), 106, 0, 0, .null)]
def xb_Mo_readsSign_83 : List xv_Op := [(.iload_n 1, 0, 0, 0, .null), (.bipush (94), 0, 0, 0, .int (94)), (.if_icmp .ne (8), 94, 0, 0, .null), (.bipush (31), 0, 0, 0, .int (31)), (.goto (15), 106, 0, 0, .null)]
def xb_Mo_readsSign_94 : List xv_Op := [(.iload_n 1, 0, 0, 0, .null), (.bipush (124), 0, 0, 0, .int (124)), (.if_icmp .ne (8), 105, 0, 0, .null), (.bipush (32), 0, 0, 0, .int (32)), (.goto (4), 106, 0, 0, .null)]
def xb_Mo_readsSign_105 : List xv_Op := [(.iconst (-1), 0, 0, 0, .int (-1)), (.nop, 106, 0, 0, .null)]
def xb_Mo_readsSign_106 : List xv_Op := [(.istore_n 2, 0, 0, 0, .null), (.iload_n 2, 0, 0, 0, .null), (.iconst (-1), 0, 0, 0, .int (-1)), (.if_icmp .ne (13), 122, 0, 0, .null), (.aload_n 0, 0, 0, 0, .null), (.iconst (1), 0, 0, 0, .int (1)), (.aload_n 0, 0, 0, 0, .null), (.getfield 131, 8, 0, 1105, .null), (.invokevirtual 144, 58, 2, 1290, .int 0), (.ireturn, 0, 0, 0, .null)]
def xb_Mo_readsSign_122 : List xv_Op := [(.aload_n 0, 0, 0, 0, .null), (.iload_n 2, 0, 0, 0, .null), (.invokevirtual 269, 85, 1, 1397, .int 0), (.aload_n 0, 0, 0, 0, .null), (.iload_n 2, 0, 0, 0, .null), (.invokevirtual 266, 83, 1, 1389, .int 0), (.aload_n 0, 0, 0, 0, .null), (.aload_n 0, 0, 0, 0, .null), (.getfield 131, 8, 0, 1105, .null), (.iconst (1), 0, 0, 0, .int (1)), (.iadd, 0, 0, 0, .null), (.putfield 131, 8, 0, 1105, .int 0), (.aload_n 0, 0, 0, 0, .null), (.iconst (1), 0, 0, 0, .int (1)), (.putfield 255, 35, 0, 1132, .int 2), (.iconst (1), 0, 0, 0, .int (1)), (.ireturn, 0, 0, 0, .null)]
def xl_Mo_readsSign : xv_B := [(0, xb_Mo_readsSign_0), (36, xb_Mo_readsSign_36), (72, xb_Mo_readsSign_72), (83, xb_Mo_readsSign_83), (94, xb_Mo_readsSign_94), (105, xb_Mo_readsSign_105), (106, xb_Mo_readsSign_106), (122, xb_Mo_readsSign_122)]
def xm_Mo_readsSign : xv_M := (⟨"OnionCourtModel", "readsSign", "()Z"⟩, prog_14_method_51_code, 3, (some .boolean), (0, 1, 0), [], xl_Mo_readsSign)
def xb_Mo_question_0 : List xv_Op := [(.iload_n 1, 0, 0, 0, .null), (.iconst (0), 0, 0, 0, .int (0)), (.bipush (7), 0, 0, 0, .int (7)), (.invokestatic 112, 40, 3, 1259, .int 0), (.ifCond .eq (21), 28, 0, 0, .null), (.iload_n 2, 0, 0, 0, .null), (.iconst (1), 0, 0, 0, .int (1)), (.bipush (60), 0, 0, 0, .int (60)), (.invokestatic 112, 40, 3, 1259, .int 0), (.ifCond .eq (11), 28, 0, 0, .null), (.iload_n 2, 0, 0, 0, .null), (.aload_n 0, 0, 0, 0, .null), (.getfield 124, 7, 0, 1104, .null), (.if_icmp .le (5), 30, 0, 0, .null), (.nop, 28, 0, 0, .null)]
def xb_Mo_question_28 : List xv_Op := [(.iconst (-1), 0, 0, 0, .int (-1)), (.ireturn, 0, 0, 0, .null)]
def xb_Mo_question_30 : List xv_Op := [(.aload_n 0, 0, 0, 0, .null), (.iconst (0), 0, 0, 0, .int (0)), (.putfield 131, 8, 0, 1105, .int 0), (.aload_n 0, 0, 0, 0, .null), (.iload_n 2, 0, 0, 0, .null), (.putfield 134, 9, 0, 1106, .int 0), (.aload_n 0, 0, 0, 0, .null), (.iconst (0), 0, 0, 0, .int (0)), (.putfield 124, 7, 0, 1104, .int 0), (.aload_n 0, 0, 0, 0, .null), (.iconst (0), 0, 0, 0, .int (0)), (.putfield 236, 32, 0, 1129, .int 0), (.aload_n 0, 0, 0, 0, .null), (.iconst (0), 0, 0, 0, .int (0)), (.putfield 239, 33, 0, 1130, .int 0), (.aload_n 0, 0, 0, 0, .null), (.iconst (0), 0, 0, 0, .int (0)), (.putfield 252, 34, 0, 1131, .int 0), (.aload_n 0, 0, 0, 0, .null), (.iconst (1), 0, 0, 0, .int (1)), (.putfield 255, 35, 0, 1132, .int 2), (.iconst (1), 0, 0, 0, .int (1)), (.istore_n 3, 0, 0, 0, .null), (.nop, 67, 0, 0, .null)]
def xb_Mo_question_67 : List xv_Op := [(.iload_n 3, 0, 0, 0, .null), (.ifCond .eq (36), 104, 0, 0, .null), (.aload_n 0, 0, 0, 0, .null), (.getfield 131, 8, 0, 1105, .null), (.aload_n 0, 0, 0, 0, .null), (.getfield 134, 9, 0, 1106, .null), (.if_icmp .ge (25), 104, 0, 0, .null), (.aload_n 0, 0, 0, 0, .null), (.getfield 255, 35, 0, 1132, .null), (.ifCond .eq (10), 96, 0, 0, .null), (.aload_n 0, 0, 0, 0, .null), (.invokevirtual 272, 88, 0, 1365, .int 0), (.goto (7), 100, 0, 0, .null)]
def xb_Mo_question_96 : List xv_Op := [(.aload_n 0, 0, 0, 0, .null), (.invokevirtual 275, 89, 0, 1393, .int 0), (.nop, 100, 0, 0, .null)]
def xb_Mo_question_100 : List xv_Op := [(.istore_n 3, 0, 0, 0, .null), (.goto (-34), 67, 0, 0, .null)]
def xb_Mo_question_104 : List xv_Op := [(.iload_n 3, 0, 0, 0, .null), (.ifCond .ne (8), 113, 0, 0, .null), (.aload_n 0, 0, 0, 0, .null), (.getfield 141, 10, 0, 1107, .null), (.ireturn, 0, 0, 0, .null)]
def xb_Mo_question_113 : List xv_Op := [(.aload_n 0, 0, 0, 0, .null), (.getfield 255, 35, 0, 1132, .null), (.ifCond .ne (9), 126, 0, 0, .null), (.aload_n 0, 0, 0, 0, .null), (.bipush (32), 0, 0, 0, .int (32)), (.invokevirtual 269, 85, 1, 1397, .int 0), (.nop, 126, 0, 0, .null)]
def xb_Mo_question_126 : List xv_Op := [(.aload_n 0, 0, 0, 0, .null), (.getfield 255, 35, 0, 1132, .null), (.ifCond .ne (10), 140, 0, 0, .null), (.aload_n 0, 0, 0, 0, .null), (.getfield 236, 32, 0, 1129, .null), (.ifCond .le (18), 155, 0, 0, .null), (.nop, 140, 0, 0, .null)]
def xb_Mo_question_140 : List xv_Op := [(.aload_n 0, 0, 0, 0, .null), (.iconst (1), 0, 0, 0, .int (1)), (.aload_n 0, 0, 0, 0, .null), (.getfield 131, 8, 0, 1105, .null), (.invokevirtual 144, 58, 2, 1290, .int 0), (.pop, 0, 0, 0, .null), (.aload_n 0, 0, 0, 0, .null), (.getfield 141, 10, 0, 1107, .null), (.ireturn, 0, 0, 0, .null)]
def xb_Mo_question_155 : List xv_Op := [(.aload_n 0, 0, 0, 0, .null), (.aload_n 0, 0, 0, 0, .null), (.getfield 116, 5, 0, 1102, .null), (.iconst (1), 0, 0, 0, .int (1)), (.iload_n 1, 0, 0, 0, .null), (.ishl, 0, 0, 0, .null), (.ior, 0, 0, 0, .null), (.putfield 116, 5, 0, 1102, .int 0), (.aload_n 0, 0, 0, 0, .null), (.getfield 22, 4, 0, 1101, .null), (.iload_n 1, 0, 0, 0, .null), (.aload_n 0, 0, 0, 0, .null), (.getfield 72, 31, 0, 1128, .null), (.iconst (0), 0, 0, 0, .int (0)), (.laload, 0, 0, 0, .null), (.lastore, 0, 0, 0, .null), (.aload_n 0, 0, 0, 0, .null), (.getfield 72, 31, 0, 1128, .null), (.iconst (0), 0, 0, 0, .int (0)), (.laload, 0, 0, 0, .null), (.invokestatic 278, 45, 1, 1401, .int 0), (.ireturn, 0, 0, 0, .null)]
def xl_Mo_question : xv_B := [(0, xb_Mo_question_0), (28, xb_Mo_question_28), (30, xb_Mo_question_30), (67, xb_Mo_question_67), (96, xb_Mo_question_96), (100, xb_Mo_question_100), (104, xb_Mo_question_104), (113, xb_Mo_question_113), (126, xb_Mo_question_126), (140, xb_Mo_question_140), (155, xb_Mo_question_155)]
def xm_Mo_question : xv_M := (⟨"OnionCourtModel", "question", "(II)I"⟩, prog_14_method_52_code, 4, (some .int), (0, 1, 2), [], xl_Mo_question)
def xb_Mo_readsItem_0 : List xv_Op := [(.aload_n 0, 0, 0, 0, .null), (.getfield 131, 8, 0, 1105, .null), (.istore_n 1, 0, 0, 0, .null), (.iconst (0), 0, 0, 0, .int (0)), (.istore_n 2, 0, 0, 0, .null), (.aload_n 0, 0, 0, 0, .null), (.invokevirtual 151, 57, 0, 1307, .int 0), (.ifCond .ne (13), 24, 0, 0, .null), (.aload_n 0, 0, 0, 0, .null), (.iconst (1), 0, 0, 0, .int (1)), (.aload_n 0, 0, 0, 0, .null), (.getfield 131, 8, 0, 1105, .null), (.invokevirtual 144, 58, 2, 1290, .int 0), (.ireturn, 0, 0, 0, .null)]
def xb_Mo_readsItem_24 : List xv_Op := [(.aload_n 0, 0, 0, 0, .null), (.invokevirtual 151, 57, 0, 1307, .int 0), (.ifCond .eq (39), 67, 0, 0, .null), (.aload_n 0, 0, 0, 0, .null), (.getfield 131, 8, 0, 1105, .null), (.iload_n 1, 0, 0, 0, .null), (.iconst (2), 0, 0, 0, .int (2)), (.iadd, 0, 0, 0, .null), (.if_icmp .ge (29), 67, 0, 0, .null), (.bipush (10), 0, 0, 0, .int (10)), (.iload_n 2, 0, 0, 0, .null), (.imul, 0, 0, 0, .null), (.aload_n 0, 0, 0, 0, .null), (.invokevirtual 137, 56, 0, 1286, .int 0), (.iadd, 0, 0, 0, .null), (.bipush (48), 0, 0, 0, .int (48)), (.isub, 0, 0, 0, .null), (.istore_n 2, 0, 0, 0, .null), (.aload_n 0, 0, 0, 0, .null), (.aload_n 0, 0, 0, 0, .null), (.getfield 131, 8, 0, 1105, .null), (.iconst (1), 0, 0, 0, .int (1)), (.iadd, 0, 0, 0, .null), (.putfield 131, 8, 0, 1105, .int 0), (.goto (-40), 24, 0, 0, .null)]
def xb_Mo_readsItem_67 : List xv_Op := [(.iload_n 2, 0, 0, 0, .null), (.ifCond .ne (10), 78, 0, 0, .null), (.aload_n 0, 0, 0, 0, .null), (.iconst (3), 0, 0, 0, .int (3)), (.iload_n 1, 0, 0, 0, .null), (.invokevirtual 144, 58, 2, 1290, .int 0), (.ireturn, 0, 0, 0, .null)]
def xb_Mo_readsItem_78 : List xv_Op := [(.iconst (1), 0, 0, 0, .int (1)), (.istore_n 3, 0, 0, 0, .null), (.aload_n 0, 0, 0, 0, .null), (.invokevirtual 137, 56, 0, 1286, .int 0), (.bipush (120), 0, 0, 0, .int (120)), (.if_icmp .ne (55), 141, 0, 0, .null), (.aload_n 0, 0, 0, 0, .null), (.aload_n 0, 0, 0, 0, .null), (.getfield 131, 8, 0, 1105, .null), (.iconst (1), 0, 0, 0, .int (1)), (.iadd, 0, 0, 0, .null), (.putfield 131, 8, 0, 1105, .int 0), (.aload_n 0, 0, 0, 0, .null), (.invokevirtual 137, 56, 0, 1286, .int 0), (.bipush (50), 0, 0, 0, .int (50)), (.bipush (57), 0, 0, 0, .int (57)), (.invokestatic 112, 40, 3, 1259, .int 0), (.ifCond .ne (13), 123, 0, 0, .null), (.aload_n 0, 0, 0, 0, .null), (.iconst (1), 0, 0, 0, .int (1)), (.aload_n 0, 0, 0, 0, .null), (.getfield 131, 8, 0, 1105, .null), (.invokevirtual 144, 58, 2, 1290, .int 0), (.ireturn, 0, 0, 0, .null)]
def xb_Mo_readsItem_123 : List xv_Op := [(.aload_n 0, 0, 0, 0, .null), (.invokevirtual 137, 56, 0, 1286, .int 0), (.bipush (48), 0, 0, 0, .int (48)), (.isub, 0, 0, 0, .null), (.istore_n 3, 0, 0, 0, .null), (.aload_n 0, 0, 0, 0, .null), (.aload_n 0, 0, 0, 0, .null), (.getfield 131, 8, 0, 1105, .null), (.iconst (1), 0, 0, 0, .int (1)), (.iadd, 0, 0, 0, .null), (.putfield 131, 8, 0, 1105, .int 0), (.nop, 141, 0, 0, .null)]
def xb_Mo_readsItem_141 : List xv_Op := [(.aload_n 0, 0, 0, 0, .null), (.getfield 282, 37, 0, 1134, .null), (.iload_n 3, 0, 0, 0, .null), (.iadd, 0, 0, 0, .null), (.bipush (12), 0, 0, 0, .int (12)), (.if_icmp .le (11), 160, 0, 0, .null), (.aload_n 0, 0, 0, 0, .null), (.bipush (6), 0, 0, 0, .int (6)), (.iload_n 1, 0, 0, 0, .null), (.invokevirtual 144, 58, 2, 1290, .int 0), (.ireturn, 0, 0, 0, .null)]
def xb_Mo_readsItem_160 : List xv_Op := [(.iconst (0), 0, 0, 0, .int (0)), (.istore 4, 0, 0, 0, .null), (.nop, 163, 0, 0, .null)]
def xb_Mo_readsItem_163 : List xv_Op := [(.iload 4, 0, 0, 0, .null), (.iload_n 3, 0, 0, 0, .null), (.if_icmp .ge (22), 188, 0, 0, .null), (.aload_n 0, 0, 0, 0, .null), (.getfield 75, 36, 0, 1133, .null), (.aload_n 0, 0, 0, 0, .null), (.getfield 282, 37, 0, 1134, .null), (.iload 4, 0, 0, 0, .null), (.iadd, 0, 0, 0, .null), (.iload_n 2, 0, 0, 0, .null), (.iastore, 0, 0, 0, .null), (.iinc 4 (1), 0, 0, 0, .int (1)), (.goto (-22), 163, 0, 0, .null)]
def xb_Mo_readsItem_188 : List xv_Op := [(.aload_n 0, 0, 0, 0, .null), (.aload_n 0, 0, 0, 0, .null), (.getfield 282, 37, 0, 1134, .null), (.iload_n 3, 0, 0, 0, .null), (.iadd, 0, 0, 0, .null), (.putfield 282, 37, 0, 1134, .int 0), (.iconst (1), 0, 0, 0, .int (1)), (.ireturn, 0, 0, 0, .null)]
def xl_Mo_readsItem : xv_B := [(0, xb_Mo_readsItem_0), (24, xb_Mo_readsItem_24), (67, xb_Mo_readsItem_67), (78, xb_Mo_readsItem_78), (123, xb_Mo_readsItem_123), (141, xb_Mo_readsItem_141), (160, xb_Mo_readsItem_160), (163, xb_Mo_readsItem_163), (188, xb_Mo_readsItem_188)]
def xm_Mo_readsItem : xv_M := (⟨"OnionCourtModel", "readsItem", "()Z"⟩, prog_14_method_53_code, 5, (some .boolean), (0, 1, 0), [], xl_Mo_readsItem)
def xb_Mo_onion_0 : List xv_Op := [(.aload_n 0, 0, 0, 0, .null), (.iload_n 1, 0, 0, 0, .null), (.invokevirtual 285, 47, 1, 1408, .int 0), (.ifCond .eq (21), 26, 0, 0, .null), (.iload_n 2, 0, 0, 0, .null), (.iconst (1), 0, 0, 0, .int (1)), (.bipush (60), 0, 0, 0, .int (60)), (.invokestatic 112, 40, 3, 1259, .int 0), (.ifCond .eq (11), 26, 0, 0, .null), (.iload_n 2, 0, 0, 0, .null), (.aload_n 0, 0, 0, 0, .null), (.getfield 124, 7, 0, 1104, .null), (.if_icmp .le (5), 28, 0, 0, .null), (.nop, 26, 0, 0, .null)]
def xb_Mo_onion_26 : List xv_Op := [(.iconst (-1), 0, 0, 0, .int (-1)), (.ireturn, 0, 0, 0, .null)]
def xb_Mo_onion_28 : List xv_Op := [(.aload_n 0, 0, 0, 0, .null), (.iload_n 2, 0, 0, 0, .null), (.invokevirtual 217, 76, 1, 1278, .int 0), (.aload_n 0, 0, 0, 0, .null), (.iconst (0), 0, 0, 0, .int (0)), (.putfield 282, 37, 0, 1134, .int 0), (.aload_n 0, 0, 0, 0, .null), (.invokevirtual 288, 91, 0, 1412, .int 0), (.istore_n 3, 0, 0, 0, .null), (.nop, 43, 0, 0, .null)]
def xb_Mo_onion_43 : List xv_Op := [(.iload_n 3, 0, 0, 0, .null), (.ifCond .eq (39), 83, 0, 0, .null), (.aload_n 0, 0, 0, 0, .null), (.getfield 131, 8, 0, 1105, .null), (.aload_n 0, 0, 0, 0, .null), (.getfield 134, 9, 0, 1106, .null), (.if_icmp .ge (28), 83, 0, 0, .null), (.aload_n 0, 0, 0, 0, .null), (.bipush (44), 0, 0, 0, .int (44)), (.invokevirtual 223, 59, 1, 1357, .int 0), (.ifCond .eq (14), 78, 0, 0, .null), (.aload_n 0, 0, 0, 0, .null), (.invokevirtual 288, 91, 0, 1412, .int 0), (.ifCond .eq (7), 78, 0, 0, .null), (.iconst (1), 0, 0, 0, .int (1)), (.goto (4), 79, 0, 0, .null)]
def xb_Mo_onion_78 : List xv_Op := [(.iconst (0), 0, 0, 0, .int (0)), (.nop, 79, 0, 0, .null)]
def xb_Mo_onion_79 : List xv_Op := [(.istore_n 3, 0, 0, 0, .null), (.goto (-37), 43, 0, 0, .null)]
def xb_Mo_onion_83 : List xv_Op := [(.aload_n 0, 0, 0, 0, .null), (.iconst (0), 0, 0, 0, .int (0)), (.putfield 124, 7, 0, 1104, .int 0), (.iload_n 3, 0, 0, 0, .null), (.ifCond .ne (8), 97, 0, 0, .null), (.aload_n 0, 0, 0, 0, .null), (.getfield 141, 10, 0, 1107, .null), (.ireturn, 0, 0, 0, .null)]
def xb_Mo_onion_97 : List xv_Op := [(.aload_n 0, 0, 0, 0, .null), (.getfield 7, 0, 0, 1097, .null), (.bipush (120), 0, 0, 0, .int (120)), (.iload_n 1, 0, 0, 0, .null), (.iadd, 0, 0, 0, .null), (.aload_n 0, 0, 0, 0, .null), (.getfield 282, 37, 0, 1134, .null), (.iastore, 0, 0, 0, .null), (.iconst (0), 0, 0, 0, .int (0)), (.istore 4, 0, 0, 0, .null), (.nop, 113, 0, 0, .null)]
def xb_Mo_onion_113 : List xv_Op := [(.iload 4, 0, 0, 0, .null), (.aload_n 0, 0, 0, 0, .null), (.getfield 282, 37, 0, 1134, .null), (.if_icmp .ge (30), 149, 0, 0, .null), (.aload_n 0, 0, 0, 0, .null), (.getfield 7, 0, 0, 1097, .null), (.iconst (0), 0, 0, 0, .int (0)), (.bipush (12), 0, 0, 0, .int (12)), (.iload_n 1, 0, 0, 0, .null), (.imul, 0, 0, 0, .null), (.iadd, 0, 0, 0, .null), (.iload 4, 0, 0, 0, .null), (.iadd, 0, 0, 0, .null), (.aload_n 0, 0, 0, 0, .null), (.getfield 75, 36, 0, 1133, .null), (.iload 4, 0, 0, 0, .null), (.iaload, 0, 0, 0, .null), (.iastore, 0, 0, 0, .null), (.iinc 4 (1), 0, 0, 0, .int (1)), (.goto (-33), 113, 0, 0, .null)]
def xb_Mo_onion_149 : List xv_Op := [(.aload_n 0, 0, 0, 0, .null), (.getfield 282, 37, 0, 1134, .null), (.ireturn, 0, 0, 0, .null)]
def xl_Mo_onion : xv_B := [(0, xb_Mo_onion_0), (26, xb_Mo_onion_26), (28, xb_Mo_onion_28), (43, xb_Mo_onion_43), (78, xb_Mo_onion_78), (79, xb_Mo_onion_79), (83, xb_Mo_onion_83), (97, xb_Mo_onion_97), (113, xb_Mo_onion_113), (149, xb_Mo_onion_149)]
def xm_Mo_onion : xv_M := (⟨"OnionCourtModel", "onion", "(II)I"⟩, prog_14_method_54_code, 5, (some .int), (0, 1, 2), [], xl_Mo_onion)
def xb_Mo_readsLine_0 : List xv_Op := [(.aload_n 0, 0, 0, 0, .null), (.invokevirtual 151, 57, 0, 1307, .int 0), (.ifCond .ne (13), 17, 0, 0, .null), (.aload_n 0, 0, 0, 0, .null), (.iconst (1), 0, 0, 0, .int (1)), (.aload_n 0, 0, 0, 0, .null), (.getfield 131, 8, 0, 1105, .null), (.invokevirtual 144, 58, 2, 1290, .int 0), (.ireturn, 0, 0, 0, .null)]
def xb_Mo_readsLine_17 : List xv_Op := [(.aload_n 0, 0, 0, 0, .null), (.getfield 7, 0, 0, 1097, .null), (.sipush (301), 0, 0, 0, .int (301)), (.iaload, 0, 0, 0, .null), (.aload_n 0, 0, 0, 0, .null), (.getfield 291, 42, 0, 1139, .null), (.iadd, 0, 0, 0, .null), (.bipush (20), 0, 0, 0, .int (20)), (.if_icmp .ne (13), 45, 0, 0, .null), (.aload_n 0, 0, 0, 0, .null), (.iconst (4), 0, 0, 0, .int (4)), (.aload_n 0, 0, 0, 0, .null), (.getfield 131, 8, 0, 1105, .null), (.invokevirtual 144, 58, 2, 1290, .int 0), (.ireturn, 0, 0, 0, .null)]
def xb_Mo_readsLine_45 : List xv_Op := [(.aload_n 0, 0, 0, 0, .null), (.invokevirtual 137, 56, 0, 1286, .int 0), (.bipush (48), 0, 0, 0, .int (48)), (.isub, 0, 0, 0, .null), (.istore_n 1, 0, 0, 0, .null), (.aload_n 0, 0, 0, 0, .null), (.iload_n 1, 0, 0, 0, .null), (.invokevirtual 285, 47, 1, 1408, .int 0), (.ifCond .ne (14), 72, 0, 0, .null), (.aload_n 0, 0, 0, 0, .null), (.bipush (7), 0, 0, 0, .int (7)), (.aload_n 0, 0, 0, 0, .null), (.getfield 131, 8, 0, 1105, .null), (.invokevirtual 144, 58, 2, 1290, .int 0), (.ireturn, 0, 0, 0, .null)]
def xb_Mo_readsLine_72 : List xv_Op := [(.aload_n 0, 0, 0, 0, .null), (.getfield 87, 41, 0, 1138, .null), (.iload_n 1, 0, 0, 0, .null), (.iaload, 0, 0, 0, .null), (.aload_n 0, 0, 0, 0, .null), (.getfield 7, 0, 0, 1097, .null), (.bipush (120), 0, 0, 0, .int (120)), (.iload_n 1, 0, 0, 0, .null), (.iadd, 0, 0, 0, .null), (.iaload, 0, 0, 0, .null), (.if_icmp .ne (14), 101, 0, 0, .null), (.aload_n 0, 0, 0, 0, .null), (.bipush (8), 0, 0, 0, .int (8)), (.aload_n 0, 0, 0, 0, .null), (.getfield 131, 8, 0, 1105, .null), (.invokevirtual 144, 58, 2, 1290, .int 0), (.ireturn, 0, 0, 0, .null)]
def xb_Mo_readsLine_101 : List xv_Op := [(.aload_n 0, 0, 0, 0, .null), (.aload_n 0, 0, 0, 0, .null), (.getfield 131, 8, 0, 1105, .null), (.iconst (1), 0, 0, 0, .int (1)), (.iadd, 0, 0, 0, .null), (.putfield 131, 8, 0, 1105, .int 0), (.aload_n 0, 0, 0, 0, .null), (.invokevirtual 137, 56, 0, 1286, .int 0), (.bipush (65), 0, 0, 0, .int (65)), (.isub, 0, 0, 0, .null), (.istore_n 2, 0, 0, 0, .null), (.iload_n 2, 0, 0, 0, .null), (.iconst (0), 0, 0, 0, .int (0)), (.bipush (7), 0, 0, 0, .int (7)), (.invokestatic 112, 40, 3, 1259, .int 0), (.ifCond .ne (13), 139, 0, 0, .null), (.aload_n 0, 0, 0, 0, .null), (.iconst (1), 0, 0, 0, .int (1)), (.aload_n 0, 0, 0, 0, .null), (.getfield 131, 8, 0, 1105, .null), (.invokevirtual 144, 58, 2, 1290, .int 0), (.ireturn, 0, 0, 0, .null)]
def xb_Mo_readsLine_139 : List xv_Op := [(.aload_n 0, 0, 0, 0, .null), (.iload_n 2, 0, 0, 0, .null), (.invokevirtual 294, 48, 1, 1424, .int 0), (.ifCond .ne (14), 158, 0, 0, .null), (.aload_n 0, 0, 0, 0, .null), (.bipush (7), 0, 0, 0, .int (7)), (.aload_n 0, 0, 0, 0, .null), (.getfield 131, 8, 0, 1105, .null), (.invokevirtual 144, 58, 2, 1290, .int 0), (.ireturn, 0, 0, 0, .null)]
def xb_Mo_readsLine_158 : List xv_Op := [(.aload_n 0, 0, 0, 0, .null), (.aload_n 0, 0, 0, 0, .null), (.getfield 131, 8, 0, 1105, .null), (.iconst (1), 0, 0, 0, .int (1)), (.iadd, 0, 0, 0, .null), (.putfield 131, 8, 0, 1105, .int 0), (.aload_n 0, 0, 0, 0, .null), (.invokevirtual 137, 56, 0, 1286, .int 0), (.bipush (43), 0, 0, 0, .int (43)), (.if_icmp .ne (7), 181, 0, 0, .null), (.iconst (1), 0, 0, 0, .int (1)), (.goto (17), 195, 0, 0, .null)]
def xb_Mo_readsLine_181 : List xv_Op := [(.aload_n 0, 0, 0, 0, .null), (.invokevirtual 137, 56, 0, 1286, .int 0), (.bipush (45), 0, 0, 0, .int (45)), (.if_icmp .ne (7), 194, 0, 0, .null), (.iconst (0), 0, 0, 0, .int (0)), (.goto (4), 195, 0, 0, .null)]
def xb_Mo_readsLine_194 : List xv_Op := [(.iconst (-1), 0, 0, 0, .int (-1)), (.nop, 195, 0, 0, .null)]
def xb_Mo_readsLine_195 : List xv_Op := [(.istore_n 3, 0, 0, 0, .null), (.iload_n 3, 0, 0, 0, .null), (.iconst (-1), 0, 0, 0, .int (-1)), (.if_icmp .ne (13), 211, 0, 0, .null), (.aload_n 0, 0, 0, 0, .null), (.iconst (1), 0, 0, 0, .int (1)), (.aload_n 0, 0, 0, 0, .null), (.getfield 131, 8, 0, 1105, .null), (.invokevirtual 144, 58, 2, 1290, .int 0), (.ireturn, 0, 0, 0, .null)]
def xb_Mo_readsLine_211 : List xv_Op := [(.aload_n 0, 0, 0, 0, .null), (.aload_n 0, 0, 0, 0, .null), (.getfield 131, 8, 0, 1105, .null), (.iconst (1), 0, 0, 0, .int (1)), (.iadd, 0, 0, 0, .null), (.putfield 131, 8, 0, 1105, .int 0), (.aload_n 0, 0, 0, 0, .null), (.invokevirtual 137, 56, 0, 1286, .int 0), (.bipush (42), 0, 0, 0, .int (42)), (.if_icmp .ne (7), 234, 0, 0, .null), (.iconst (2), 0, 0, 0, .int (2)), (.goto (4), 235, 0, 0, .null)]
def xb_Mo_readsLine_234 : List xv_Op := [(.iconst (0), 0, 0, 0, .int (0)), (.nop, 235, 0, 0, .null)]
def xb_Mo_readsLine_235 : List xv_Op := [(.istore 4, 0, 0, 0, .null), (.iload 4, 0, 0, 0, .null), (.ifCond .le (13), 252, 0, 0, .null), (.aload_n 0, 0, 0, 0, .null), (.aload_n 0, 0, 0, 0, .null), (.getfield 131, 8, 0, 1105, .null), (.iconst (1), 0, 0, 0, .int (1)), (.iadd, 0, 0, 0, .null), (.putfield 131, 8, 0, 1105, .int 0), (.nop, 252, 0, 0, .null)]
def xb_Mo_readsLine_252 : List xv_Op := [(.aload_n 0, 0, 0, 0, .null), (.getfield 87, 41, 0, 1138, .null), (.iload_n 1, 0, 0, 0, .null), (.aload_n 0, 0, 0, 0, .null), (.getfield 87, 41, 0, 1138, .null), (.iload_n 1, 0, 0, 0, .null), (.iaload, 0, 0, 0, .null), (.iconst (1), 0, 0, 0, .int (1)), (.iadd, 0, 0, 0, .null), (.iastore, 0, 0, 0, .null), (.aload_n 0, 0, 0, 0, .null), (.getfield 78, 38, 0, 1135, .null), (.aload_n 0, 0, 0, 0, .null), (.getfield 291, 42, 0, 1139, .null), (.iload_n 1, 0, 0, 0, .null), (.iastore, 0, 0, 0, .null), (.aload_n 0, 0, 0, 0, .null), (.getfield 81, 39, 0, 1136, .null), (.aload_n 0, 0, 0, 0, .null), (.getfield 291, 42, 0, 1139, .null), (.iload_n 2, 0, 0, 0, .null), (.iastore, 0, 0, 0, .null), (.aload_n 0, 0, 0, 0, .null), (.getfield 84, 40, 0, 1137, .null), (.aload_n 0, 0, 0, 0, .null), (.getfield 291, 42, 0, 1139, .null), (.iload_n 3, 0, 0, 0, .null), (.iload 4, 0, 0, 0, .null), (.iadd, 0, 0, 0, .null), (.iastore, 0, 0, 0, .null), (.aload_n 0, 0, 0, 0, .null), (.aload_n 0, 0, 0, 0, .null), (.getfield 291, 42, 0, 1139, .null), (.iconst (1), 0, 0, 0, .int (1)), (.iadd, 0, 0, 0, .null), (.putfield 291, 42, 0, 1139, .int 0), (.iconst (1), 0, 0, 0, .int (1)), (.ireturn, 0, 0, 0, .null)]
def xl_Mo_readsLine : xv_B := [(0, xb_Mo_readsLine_0), (17, xb_Mo_readsLine_17), (45, xb_Mo_readsLine_45), (72, xb_Mo_readsLine_72), (101, xb_Mo_readsLine_101), (139, xb_Mo_readsLine_139), (158, xb_Mo_readsLine_158), (181, xb_Mo_readsLine_181), (194, xb_Mo_readsLine_194), (195, xb_Mo_readsLine_195), (211, xb_Mo_readsLine_211), (234, xb_Mo_readsLine_234), (235, xb_Mo_readsLine_235), (252, xb_Mo_readsLine_252)]
def xm_Mo_readsLine : xv_M := (⟨"OnionCourtModel", "readsLine", "()Z"⟩, prog_14_method_55_code, 5, (some .boolean), (0, 1, 0), [], xl_Mo_readsLine)
def xb_Mo_transcript_0 : List xv_Op := [(.iload_n 1, 0, 0, 0, .null), (.iconst (1), 0, 0, 0, .int (1)), (.bipush (100), 0, 0, 0, .int (100)), (.invokestatic 112, 40, 3, 1259, .int 0), (.ifCond .eq (11), 18, 0, 0, .null), (.iload_n 1, 0, 0, 0, .null), (.aload_n 0, 0, 0, 0, .null), (.getfield 124, 7, 0, 1104, .null), (.if_icmp .le (5), 20, 0, 0, .null), (.nop, 18, 0, 0, .null)]
def xb_Mo_transcript_18 : List xv_Op := [(.iconst (-1), 0, 0, 0, .int (-1)), (.ireturn, 0, 0, 0, .null)]
def xb_Mo_transcript_20 : List xv_Op := [(.aload_n 0, 0, 0, 0, .null), (.iload_n 1, 0, 0, 0, .null), (.invokevirtual 217, 76, 1, 1278, .int 0), (.aload_n 0, 0, 0, 0, .null), (.iconst (0), 0, 0, 0, .int (0)), (.putfield 291, 42, 0, 1139, .int 0), (.iconst (0), 0, 0, 0, .int (0)), (.istore_n 2, 0, 0, 0, .null), (.nop, 32, 0, 0, .null)]
def xb_Mo_transcript_32 : List xv_Op := [(.iload_n 2, 0, 0, 0, .null), (.bipush (10), 0, 0, 0, .int (10)), (.if_icmp .ge (16), 51, 0, 0, .null), (.aload_n 0, 0, 0, 0, .null), (.getfield 87, 41, 0, 1138, .null), (.iload_n 2, 0, 0, 0, .null), (.iconst (0), 0, 0, 0, .int (0)), (.iastore, 0, 0, 0, .null), (.iinc 2 (1), 0, 0, 0, .int (1)), (.goto (-16), 32, 0, 0, .null)]
def xb_Mo_transcript_51 : List xv_Op := [(.aload_n 0, 0, 0, 0, .null), (.invokevirtual 297, 93, 0, 1420, .int 0), (.istore_n 2, 0, 0, 0, .null), (.nop, 56, 0, 0, .null)]
def xb_Mo_transcript_56 : List xv_Op := [(.iload_n 2, 0, 0, 0, .null), (.ifCond .eq (39), 96, 0, 0, .null), (.aload_n 0, 0, 0, 0, .null), (.getfield 131, 8, 0, 1105, .null), (.aload_n 0, 0, 0, 0, .null), (.getfield 134, 9, 0, 1106, .null), (.if_icmp .ge (28), 96, 0, 0, .null), (.aload_n 0, 0, 0, 0, .null), (.bipush (59), 0, 0, 0, .int (59)), (.invokevirtual 223, 59, 1, 1357, .int 0), (.ifCond .eq (14), 91, 0, 0, .null), (.aload_n 0, 0, 0, 0, .null), (.invokevirtual 297, 93, 0, 1420, .int 0), (.ifCond .eq (7), 91, 0, 0, .null), (.iconst (1), 0, 0, 0, .int (1)), (.goto (4), 92, 0, 0, .null)]
def xb_Mo_transcript_91 : List xv_Op := [(.iconst (0), 0, 0, 0, .int (0)), (.nop, 92, 0, 0, .null)]
def xb_Mo_transcript_92 : List xv_Op := [(.istore_n 2, 0, 0, 0, .null), (.goto (-37), 56, 0, 0, .null)]
def xb_Mo_transcript_96 : List xv_Op := [(.aload_n 0, 0, 0, 0, .null), (.iconst (0), 0, 0, 0, .int (0)), (.putfield 124, 7, 0, 1104, .int 0), (.iload_n 2, 0, 0, 0, .null), (.ifCond .ne (8), 110, 0, 0, .null), (.aload_n 0, 0, 0, 0, .null), (.getfield 141, 10, 0, 1107, .null), (.ireturn, 0, 0, 0, .null)]
def xb_Mo_transcript_110 : List xv_Op := [(.iconst (0), 0, 0, 0, .int (0)), (.istore_n 3, 0, 0, 0, .null), (.nop, 112, 0, 0, .null)]
def xb_Mo_transcript_112 : List xv_Op := [(.iload_n 3, 0, 0, 0, .null), (.aload_n 0, 0, 0, 0, .null), (.getfield 291, 42, 0, 1139, .null), (.if_icmp .ge (42), 159, 0, 0, .null), (.aload_n 0, 0, 0, 0, .null), (.aload_n 0, 0, 0, 0, .null), (.getfield 78, 38, 0, 1135, .null), (.iload_n 3, 0, 0, 0, .null), (.iaload, 0, 0, 0, .null), (.aload_n 0, 0, 0, 0, .null), (.getfield 81, 39, 0, 1136, .null), (.iload_n 3, 0, 0, 0, .null), (.iaload, 0, 0, 0, .null), (.aload_n 0, 0, 0, 0, .null), (.getfield 84, 40, 0, 1137, .null), (.iload_n 3, 0, 0, 0, .null), (.iaload, 0, 0, 0, .null), (.iconst (2), 0, 0, 0, .int (2)), (.irem, 0, 0, 0, .null), (.aload_n 0, 0, 0, 0, .null), (.getfield 84, 40, 0, 1137, .null), (.iload_n 3, 0, 0, 0, .null), (.iaload, 0, 0, 0, .null), (.iconst (2), 0, 0, 0, .int (2)), (.idiv, 0, 0, 0, .null), (.invokevirtual 300, 95, 4, 1428, .int 0), (.pop, 0, 0, 0, .null), (.iinc 3 (1), 0, 0, 0, .int (1)), (.goto (-44), 112, 0, 0, .null)]
def xb_Mo_transcript_159 : List xv_Op := [(.aload_n 0, 0, 0, 0, .null), (.getfield 7, 0, 0, 1097, .null), (.sipush (301), 0, 0, 0, .int (301)), (.iaload, 0, 0, 0, .null), (.ireturn, 0, 0, 0, .null)]
def xl_Mo_transcript : xv_B := [(0, xb_Mo_transcript_0), (18, xb_Mo_transcript_18), (20, xb_Mo_transcript_20), (32, xb_Mo_transcript_32), (51, xb_Mo_transcript_51), (56, xb_Mo_transcript_56), (91, xb_Mo_transcript_91), (92, xb_Mo_transcript_92), (96, xb_Mo_transcript_96), (110, xb_Mo_transcript_110), (112, xb_Mo_transcript_112), (159, xb_Mo_transcript_159)]
def xm_Mo_transcript : xv_M := (⟨"OnionCourtModel", "transcript", "(I)I"⟩, prog_14_method_56_code, 4, (some .int), (0, 1, 1), [], xl_Mo_transcript)
def xb_Mo_answersNow_0 : List xv_Op := [(.aload_n 0, 0, 0, 0, .null), (.getfield 7, 0, 0, 1097, .null), (.sipush (301), 0, 0, 0, .int (301)), (.iaload, 0, 0, 0, .null), (.istore 5, 0, 0, 0, .null), (.aload_n 0, 0, 0, 0, .null), (.iload_n 1, 0, 0, 0, .null), (.iconst (0), 0, 0, 0, .int (0)), (.invokevirtual 120, 50, 2, 1432, .int 0), (.istore 6, 0, 0, 0, .null), (.aload_n 0, 0, 0, 0, .null), (.getfield 7, 0, 0, 1097, .null), (.sipush (140), 0, 0, 0, .int (140)), (.iload 5, 0, 0, 0, .null), (.iadd, 0, 0, 0, .null), (.iload_n 1, 0, 0, 0, .null), (.iastore, 0, 0, 0, .null), (.aload_n 0, 0, 0, 0, .null), (.getfield 7, 0, 0, 1097, .null), (.sipush (160), 0, 0, 0, .int (160)), (.iload 5, 0, 0, 0, .null), (.iadd, 0, 0, 0, .null), (.iload_n 2, 0, 0, 0, .null), (.iastore, 0, 0, 0, .null), (.aload_n 0, 0, 0, 0, .null), (.getfield 7, 0, 0, 1097, .null), (.sipush (180), 0, 0, 0, .int (180)), (.iload 5, 0, 0, 0, .null), (.iadd, 0, 0, 0, .null), (.iload_n 3, 0, 0, 0, .null), (.iastore, 0, 0, 0, .null), (.aload_n 0, 0, 0, 0, .null), (.getfield 7, 0, 0, 1097, .null), (.sipush (200), 0, 0, 0, .int (200)), (.iload 5, 0, 0, 0, .null), (.iadd, 0, 0, 0, .null), (.iload 4, 0, 0, 0, .null), (.iastore, 0, 0, 0, .null), (.aload_n 0, 0, 0, 0, .null), (.getfield 7, 0, 0, 1097, .null), (.sipush (220), 0, 0, 0, .int (220)), (.iload 5, 0, 0, 0, .null), (.iadd, 0, 0, 0, .null), (.iload 6, 0, 0, 0, .null), (.iastore, 0, 0, 0, .null), (.aload_n 0, 0, 0, 0, .null), (.getfield 7, 0, 0, 1097, .null), (.sipush (240), 0, 0, 0, .int (240)), (.iload 5, 0, 0, 0, .null), (.iadd, 0, 0, 0, .null), (.aload_n 0, 0, 0, 0, .null), (.getfield 7, 0, 0, 1097, .null), (.bipush (120), 0, 0, 0, .int (120)), (.iload_n 1, 0, 0, 0, .null), (.iadd, 0, 0, 0, .null), (.iaload, 0, 0, 0, .null), (.iastore, 0, 0, 0, .null), (.aload_n 0, 0, 0, 0, .null), (.getfield 7, 0, 0, 1097, .null), (.sipush (260), 0, 0, 0, .int (260)), (.iload 5, 0, 0, 0, .null), (.iadd, 0, 0, 0, .null), (.aload_n 0, 0, 0, 0, .null), (.getfield 7, 0, 0, 1097, .null), (.sipush (302), 0, 0, 0, .int (302)), (.iaload, 0, 0, 0, .null), (.iastore, 0, 0, 0, .null), (.aload_n 0, 0, 0, 0, .null), (.getfield 7, 0, 0, 1097, .null), (.sipush (280), 0, 0, 0, .int (280)), (.iload 5, 0, 0, 0, .null), (.iadd, 0, 0, 0, .null), (.aload_n 0, 0, 0, 0, .null), (.getfield 7, 0, 0, 1097, .null), (.sipush (130), 0, 0, 0, .int (130)), (.iload_n 1, 0, 0, 0, .null), (.iadd, 0, 0, 0, .null), (.iaload, 0, 0, 0, .null), (.iastore, 0, 0, 0, .null), (.aload_n 0, 0, 0, 0, .null), (.getfield 7, 0, 0, 1097, .null), (.sipush (301), 0, 0, 0, .int (301)), (.iload 5, 0, 0, 0, .null), (.iconst (1), 0, 0, 0, .int (1)), (.iadd, 0, 0, 0, .null), (.iastore, 0, 0, 0, .null), (.aload_n 0, 0, 0, 0, .null), (.getfield 7, 0, 0, 1097, .null), (.bipush (120), 0, 0, 0, .int (120)), (.iload_n 1, 0, 0, 0, .null), (.iadd, 0, 0, 0, .null), (.aload_n 0, 0, 0, 0, .null), (.getfield 7, 0, 0, 1097, .null), (.bipush (120), 0, 0, 0, .int (120)), (.iload_n 1, 0, 0, 0, .null), (.iadd, 0, 0, 0, .null), (.iaload, 0, 0, 0, .null), (.iconst (1), 0, 0, 0, .int (1)), (.isub, 0, 0, 0, .null), (.iastore, 0, 0, 0, .null), (.iconst (0), 0, 0, 0, .int (0)), (.istore 7, 0, 0, 0, .null), (.nop, 175, 0, 0, .null)]
def xb_Mo_answersNow_175 : List xv_Op := [(.iload 7, 0, 0, 0, .null), (.aload_n 0, 0, 0, 0, .null), (.getfield 7, 0, 0, 1097, .null), (.bipush (120), 0, 0, 0, .int (120)), (.iload_n 1, 0, 0, 0, .null), (.iadd, 0, 0, 0, .null), (.iaload, 0, 0, 0, .null), (.if_icmp .ge (32), 218, 0, 0, .null), (.aload_n 0, 0, 0, 0, .null), (.getfield 7, 0, 0, 1097, .null), (.iconst (0), 0, 0, 0, .int (0)), (.bipush (12), 0, 0, 0, .int (12)), (.iload_n 1, 0, 0, 0, .null), (.imul, 0, 0, 0, .null), (.iadd, 0, 0, 0, .null), (.iload 7, 0, 0, 0, .null), (.iadd, 0, 0, 0, .null), (.aload_n 0, 0, 0, 0, .null), (.iload_n 1, 0, 0, 0, .null), (.iload 7, 0, 0, 0, .null), (.iconst (1), 0, 0, 0, .int (1)), (.iadd, 0, 0, 0, .null), (.invokevirtual 120, 50, 2, 1432, .int 0), (.iastore, 0, 0, 0, .null), (.iinc 7 (1), 0, 0, 0, .int (1)), (.goto (-40), 175, 0, 0, .null)]
def xb_Mo_answersNow_218 : List xv_Op := [(.iload 6, 0, 0, 0, .null), (.ireturn, 0, 0, 0, .null)]
def xl_Mo_answersNow : xv_B := [(0, xb_Mo_answersNow_0), (175, xb_Mo_answersNow_175), (218, xb_Mo_answersNow_218)]
def xm_Mo_answersNow : xv_M := (⟨"OnionCourtModel", "answersNow", "(IIII)I"⟩, prog_14_method_57_code, 8, (some .int), (0, 1, 4), [], xl_Mo_answersNow)
def xb_Mo_answers_0 : List xv_Op := [(.aload_n 0, 0, 0, 0, .null), (.iload_n 1, 0, 0, 0, .null), (.invokevirtual 285, 47, 1, 1408, .int 0), (.ifCond .eq (11), 16, 0, 0, .null), (.aload_n 0, 0, 0, 0, .null), (.iload_n 2, 0, 0, 0, .null), (.invokevirtual 294, 48, 1, 1424, .int 0), (.ifCond .ne (5), 18, 0, 0, .null), (.nop, 16, 0, 0, .null)]
def xb_Mo_answers_16 : List xv_Op := [(.iconst (-1), 0, 0, 0, .int (-1)), (.ireturn, 0, 0, 0, .null)]
def xb_Mo_answers_18 : List xv_Op := [(.aload_n 0, 0, 0, 0, .null), (.getfield 7, 0, 0, 1097, .null), (.sipush (301), 0, 0, 0, .int (301)), (.iaload, 0, 0, 0, .null), (.bipush (20), 0, 0, 0, .int (20)), (.if_icmp .ne (6), 34, 0, 0, .null), (.bipush (-2), 0, 0, 0, .int (-2)), (.ireturn, 0, 0, 0, .null)]
def xb_Mo_answers_34 : List xv_Op := [(.aload_n 0, 0, 0, 0, .null), (.getfield 7, 0, 0, 1097, .null), (.bipush (120), 0, 0, 0, .int (120)), (.iload_n 1, 0, 0, 0, .null), (.iadd, 0, 0, 0, .null), (.iaload, 0, 0, 0, .null), (.ifCond .ne (6), 49, 0, 0, .null), (.bipush (-3), 0, 0, 0, .int (-3)), (.ireturn, 0, 0, 0, .null)]
def xb_Mo_answers_49 : List xv_Op := [(.aload_n 0, 0, 0, 0, .null), (.iload_n 1, 0, 0, 0, .null), (.iload_n 2, 0, 0, 0, .null), (.iload_n 3, 0, 0, 0, .null), (.ifCond .eq (7), 60, 0, 0, .null), (.iconst (1), 0, 0, 0, .int (1)), (.goto (4), 61, 0, 0, .null)]
def xb_Mo_answers_60 : List xv_Op := [(.iconst (0), 0, 0, 0, .int (0)), (.nop, 61, 0, 0, .null)]
def xb_Mo_answers_61 : List xv_Op := [(.iload 4, 0, 0, 0, .null), (.ifCond .eq (7), 70, 0, 0, .null), (.iconst (1), 0, 0, 0, .int (1)), (.goto (4), 71, 0, 0, .null)]
def xb_Mo_answers_70 : List xv_Op := [(.iconst (0), 0, 0, 0, .int (0)), (.nop, 71, 0, 0, .null)]
def xb_Mo_answers_71 : List xv_Op := [(.invokevirtual 300, 95, 4, 1428, .int 0), (.ireturn, 0, 0, 0, .null)]
def xl_Mo_answers : xv_B := [(0, xb_Mo_answers_0), (16, xb_Mo_answers_16), (18, xb_Mo_answers_18), (34, xb_Mo_answers_34), (49, xb_Mo_answers_49), (60, xb_Mo_answers_60), (61, xb_Mo_answers_61), (70, xb_Mo_answers_70), (71, xb_Mo_answers_71)]
def xm_Mo_answers : xv_M := (⟨"OnionCourtModel", "answers", "(IIZZ)I"⟩, prog_14_method_58_code, 5, (some .int), (0, 1, 4), [], xl_Mo_answers)
def xb_Mo_strike_0 : List xv_Op := [(.aload_n 0, 0, 0, 0, .null), (.getfield 7, 0, 0, 1097, .null), (.sipush (301), 0, 0, 0, .int (301)), (.iaload, 0, 0, 0, .null), (.ifCond .ne (6), 14, 0, 0, .null), (.bipush (-2), 0, 0, 0, .int (-2)), (.ireturn, 0, 0, 0, .null)]
def xb_Mo_strike_14 : List xv_Op := [(.aload_n 0, 0, 0, 0, .null), (.getfield 7, 0, 0, 1097, .null), (.sipush (301), 0, 0, 0, .int (301)), (.aload_n 0, 0, 0, 0, .null), (.getfield 7, 0, 0, 1097, .null), (.sipush (301), 0, 0, 0, .int (301)), (.iaload, 0, 0, 0, .null), (.iconst (1), 0, 0, 0, .int (1)), (.isub, 0, 0, 0, .null), (.iastore, 0, 0, 0, .null), (.aload_n 0, 0, 0, 0, .null), (.getfield 7, 0, 0, 1097, .null), (.sipush (301), 0, 0, 0, .int (301)), (.iaload, 0, 0, 0, .null), (.ireturn, 0, 0, 0, .null)]
def xl_Mo_strike : xv_B := [(0, xb_Mo_strike_0), (14, xb_Mo_strike_14)]
def xm_Mo_strike : xv_M := (⟨"OnionCourtModel", "strike", "()I"⟩, prog_14_method_59_code, 1, (some .int), (0, 1, 0), [], xl_Mo_strike)
def xb_Mo_grows_0 : List xv_Op := [(.aload_n 0, 0, 0, 0, .null), (.getfield 7, 0, 0, 1097, .null), (.bipush (120), 0, 0, 0, .int (120)), (.iload_n 1, 0, 0, 0, .null), (.iadd, 0, 0, 0, .null), (.iaload, 0, 0, 0, .null), (.istore_n 2, 0, 0, 0, .null), (.iconst (0), 0, 0, 0, .int (0)), (.istore_n 3, 0, 0, 0, .null), (.iconst (0), 0, 0, 0, .int (0)), (.istore 4, 0, 0, 0, .null), (.nop, 15, 0, 0, .null)]
def xb_Mo_grows_15 : List xv_Op := [(.iload 4, 0, 0, 0, .null), (.iload_n 2, 0, 0, 0, .null), (.if_icmp .ge (121), 139, 0, 0, .null), (.aload_n 0, 0, 0, 0, .null), (.iload_n 1, 0, 0, 0, .null), (.aload_n 0, 0, 0, 0, .null), (.getfield 7, 0, 0, 1097, .null), (.sipush (130), 0, 0, 0, .int (130)), (.iload_n 1, 0, 0, 0, .null), (.iadd, 0, 0, 0, .null), (.iaload, 0, 0, 0, .null), (.aload_n 0, 0, 0, 0, .null), (.iload_n 1, 0, 0, 0, .null), (.iload 4, 0, 0, 0, .null), (.invokevirtual 120, 50, 2, 1432, .int 0), (.iload_n 2, 0, 0, 0, .null), (.aload_n 0, 0, 0, 0, .null), (.getfield 7, 0, 0, 1097, .null), (.sipush (302), 0, 0, 0, .int (302)), (.iaload, 0, 0, 0, .null), (.invokevirtual 304, 81, 5, 1460, .int 0), (.aload_n 0, 0, 0, 0, .null), (.bipush (103), 0, 0, 0, .int (103)), (.bipush (20), 0, 0, 0, .int (20)), (.invokevirtual 308, 80, 2, 1464, .int 0), (.istore 5, 0, 0, 0, .null), (.aload_n 0, 0, 0, 0, .null), (.bipush (121), 0, 0, 0, .int (121)), (.bipush (20), 0, 0, 0, .int (20)), (.invokevirtual 308, 80, 2, 1464, .int 0), (.istore 6, 0, 0, 0, .null), (.iconst (0), 0, 0, 0, .int (0)), (.bipush (99), 0, 0, 0, .int (99)), (.aload_n 0, 0, 0, 0, .null), (.iload_n 1, 0, 0, 0, .null), (.iload 4, 0, 0, 0, .null), (.invokevirtual 120, 50, 2, 1432, .int 0), (.iload 5, 0, 0, 0, .null), (.iadd, 0, 0, 0, .null), (.iload 6, 0, 0, 0, .null), (.isub, 0, 0, 0, .null), (.invokestatic 311, 41, 2, 1475, .int 0), (.invokestatic 314, 42, 2, 1478, .int 0), (.istore 7, 0, 0, 0, .null), (.iload 7, 0, 0, 0, .null), (.ifCond .ne (16), 114, 0, 0, .null), (.aload_n 0, 0, 0, 0, .null), (.aload_n 0, 0, 0, 0, .null), (.getfield 317, 44, 0, 1141, .null), (.iconst (1), 0, 0, 0, .int (1)), (.iadd, 0, 0, 0, .null), (.putfield 317, 44, 0, 1141, .int 0), (.goto (22), 133, 0, 0, .null)]
def xb_Mo_grows_114 : List xv_Op := [(.aload_n 0, 0, 0, 0, .null), (.getfield 7, 0, 0, 1097, .null), (.iconst (0), 0, 0, 0, .int (0)), (.bipush (12), 0, 0, 0, .int (12)), (.iload_n 1, 0, 0, 0, .null), (.imul, 0, 0, 0, .null), (.iadd, 0, 0, 0, .null), (.iload_n 3, 0, 0, 0, .null), (.iadd, 0, 0, 0, .null), (.iload 7, 0, 0, 0, .null), (.iastore, 0, 0, 0, .null), (.iload_n 3, 0, 0, 0, .null), (.iconst (1), 0, 0, 0, .int (1)), (.iadd, 0, 0, 0, .null), (.istore_n 3, 0, 0, 0, .null), (.nop, 133, 0, 0, .null)]
def xb_Mo_grows_133 : List xv_Op := [(.iinc 4 (1), 0, 0, 0, .int (1)), (.goto (-121), 15, 0, 0, .null)]
def xb_Mo_grows_139 : List xv_Op := [(.aload_n 0, 0, 0, 0, .null), (.getfield 7, 0, 0, 1097, .null), (.bipush (120), 0, 0, 0, .int (120)), (.iload_n 1, 0, 0, 0, .null), (.iadd, 0, 0, 0, .null), (.iload_n 3, 0, 0, 0, .null), (.iastore, 0, 0, 0, .null), (.return_, 0, 0, 0, .null)]
def xl_Mo_grows : xv_B := [(0, xb_Mo_grows_0), (15, xb_Mo_grows_15), (114, xb_Mo_grows_114), (133, xb_Mo_grows_133), (139, xb_Mo_grows_139)]
def xm_Mo_grows : xv_M := (⟨"OnionCourtModel", "grows", "(I)V"⟩, prog_14_method_60_code, 8, none, (0, 1, 1), [], xl_Mo_grows)
def xb_Mo_maySprout_0 : List xv_Op := [(.aload_n 0, 0, 0, 0, .null), (.getfield 7, 0, 0, 1097, .null), (.bipush (120), 0, 0, 0, .int (120)), (.iload_n 1, 0, 0, 0, .null), (.iadd, 0, 0, 0, .null), (.iaload, 0, 0, 0, .null), (.istore_n 2, 0, 0, 0, .null), (.aload_n 0, 0, 0, 0, .null), (.iload_n 1, 0, 0, 0, .null), (.aload_n 0, 0, 0, 0, .null), (.getfield 7, 0, 0, 1097, .null), (.sipush (130), 0, 0, 0, .int (130)), (.iload_n 1, 0, 0, 0, .null), (.iadd, 0, 0, 0, .null), (.iaload, 0, 0, 0, .null), (.aload_n 0, 0, 0, 0, .null), (.iload_n 1, 0, 0, 0, .null), (.iconst (0), 0, 0, 0, .int (0)), (.invokevirtual 120, 50, 2, 1432, .int 0), (.iload_n 2, 0, 0, 0, .null), (.aload_n 0, 0, 0, 0, .null), (.getfield 7, 0, 0, 1097, .null), (.sipush (302), 0, 0, 0, .int (302)), (.iaload, 0, 0, 0, .null), (.invokevirtual 304, 81, 5, 1460, .int 0), (.aload_n 0, 0, 0, 0, .null), (.getfield 7, 0, 0, 1097, .null), (.sipush (303), 0, 0, 0, .int (303)), (.sipush (25173), 0, 0, 0, .int (25173)), (.aload_n 0, 0, 0, 0, .null), (.getfield 7, 0, 0, 1097, .null), (.sipush (303), 0, 0, 0, .int (303)), (.iaload, 0, 0, 0, .null), (.imul, 0, 0, 0, .null), (.sipush (13849), 0, 0, 0, .int (13849)), (.iadd, 0, 0, 0, .null), (.ldc_w 320, 0, 0, 1485, .int (65536)), (.irem, 0, 0, 0, .null), (.iastore, 0, 0, 0, .null), (.aload_n 0, 0, 0, 0, .null), (.getfield 7, 0, 0, 1097, .null), (.sipush (303), 0, 0, 0, .int (303)), (.iaload, 0, 0, 0, .null), (.bipush (10), 0, 0, 0, .int (10)), (.irem, 0, 0, 0, .null), (.aload_n 0, 0, 0, 0, .null), (.bipush (98), 0, 0, 0, .int (98)), (.bipush (10), 0, 0, 0, .int (10)), (.invokevirtual 308, 80, 2, 1464, .int 0), (.if_icmp .ge (9), 96, 0, 0, .null), (.iload_n 2, 0, 0, 0, .null), (.bipush (12), 0, 0, 0, .int (12)), (.if_icmp .ne (4), 97, 0, 0, .null), (.nop, 96, 0, 0, .null)]
def xb_Mo_maySprout_96 : List xv_Op := [(.return_, 0, 0, 0, .null)]
def xb_Mo_maySprout_97 : List xv_Op := [(.iload_n 2, 0, 0, 0, .null), (.istore_n 3, 0, 0, 0, .null), (.nop, 99, 0, 0, .null)]
def xb_Mo_maySprout_99 : List xv_Op := [(.iload_n 3, 0, 0, 0, .null), (.ifCond .le (30), 130, 0, 0, .null), (.aload_n 0, 0, 0, 0, .null), (.getfield 7, 0, 0, 1097, .null), (.iconst (0), 0, 0, 0, .int (0)), (.bipush (12), 0, 0, 0, .int (12)), (.iload_n 1, 0, 0, 0, .null), (.imul, 0, 0, 0, .null), (.iadd, 0, 0, 0, .null), (.iload_n 3, 0, 0, 0, .null), (.iadd, 0, 0, 0, .null), (.aload_n 0, 0, 0, 0, .null), (.iload_n 1, 0, 0, 0, .null), (.iload_n 3, 0, 0, 0, .null), (.iconst (1), 0, 0, 0, .int (1)), (.isub, 0, 0, 0, .null), (.invokevirtual 120, 50, 2, 1432, .int 0), (.iastore, 0, 0, 0, .null), (.iinc 3 (-1), 0, 0, 0, .int (-1)), (.goto (-28), 99, 0, 0, .null)]
def xb_Mo_maySprout_130 : List xv_Op := [(.aload_n 0, 0, 0, 0, .null), (.getfield 7, 0, 0, 1097, .null), (.iconst (0), 0, 0, 0, .int (0)), (.bipush (12), 0, 0, 0, .int (12)), (.iload_n 1, 0, 0, 0, .null), (.imul, 0, 0, 0, .null), (.iadd, 0, 0, 0, .null), (.bipush (50), 0, 0, 0, .int (50)), (.iastore, 0, 0, 0, .null), (.aload_n 0, 0, 0, 0, .null), (.getfield 7, 0, 0, 1097, .null), (.bipush (120), 0, 0, 0, .int (120)), (.iload_n 1, 0, 0, 0, .null), (.iadd, 0, 0, 0, .null), (.iload_n 2, 0, 0, 0, .null), (.iconst (1), 0, 0, 0, .int (1)), (.iadd, 0, 0, 0, .null), (.iastore, 0, 0, 0, .null), (.aload_n 0, 0, 0, 0, .null), (.aload_n 0, 0, 0, 0, .null), (.getfield 321, 43, 0, 1140, .null), (.iconst (1), 0, 0, 0, .int (1)), (.iadd, 0, 0, 0, .null), (.putfield 321, 43, 0, 1140, .int 0), (.return_, 0, 0, 0, .null)]
def xl_Mo_maySprout : xv_B := [(0, xb_Mo_maySprout_0), (96, xb_Mo_maySprout_96), (97, xb_Mo_maySprout_97), (99, xb_Mo_maySprout_99), (130, xb_Mo_maySprout_130)]
def xm_Mo_maySprout : xv_M := (⟨"OnionCourtModel", "maySprout", "(I)V"⟩, prog_14_method_61_code, 4, none, (0, 1, 1), [], xl_Mo_maySprout)
def xb_Mo_weekGoes_0 : List xv_Op := [(.iconst (0), 0, 0, 0, .int (0)), (.istore_n 1, 0, 0, 0, .null), (.nop, 2, 0, 0, .null)]
def xb_Mo_weekGoes_2 : List xv_Op := [(.iload_n 1, 0, 0, 0, .null), (.bipush (10), 0, 0, 0, .int (10)), (.if_icmp .ge (54), 59, 0, 0, .null), (.aload_n 0, 0, 0, 0, .null), (.iload_n 1, 0, 0, 0, .null), (.invokevirtual 285, 47, 1, 1408, .int 0), (.ifCond .eq (40), 53, 0, 0, .null), (.aload_n 0, 0, 0, 0, .null), (.getfield 7, 0, 0, 1097, .null), (.bipush (120), 0, 0, 0, .int (120)), (.iload_n 1, 0, 0, 0, .null), (.iadd, 0, 0, 0, .null), (.iaload, 0, 0, 0, .null), (.ifCond .ne (6), 31, 0, 0, .null), (.goto (25), 53, 0, 0, .null)]
def xb_Mo_weekGoes_31 : List xv_Op := [(.aload_n 0, 0, 0, 0, .null), (.iload_n 1, 0, 0, 0, .null), (.invokevirtual 324, 98, 1, 1456, .int 0), (.aload_n 0, 0, 0, 0, .null), (.getfield 7, 0, 0, 1097, .null), (.bipush (120), 0, 0, 0, .int (120)), (.iload_n 1, 0, 0, 0, .null), (.iadd, 0, 0, 0, .null), (.iaload, 0, 0, 0, .null), (.ifCond .le (8), 53, 0, 0, .null), (.aload_n 0, 0, 0, 0, .null), (.iload_n 1, 0, 0, 0, .null), (.invokevirtual 327, 99, 1, 1481, .int 0), (.nop, 53, 0, 0, .null)]
def xb_Mo_weekGoes_53 : List xv_Op := [(.iinc 1 (1), 0, 0, 0, .int (1)), (.goto (-54), 2, 0, 0, .null)]
def xb_Mo_weekGoes_59 : List xv_Op := [(.aload_n 0, 0, 0, 0, .null), (.getfield 7, 0, 0, 1097, .null), (.sipush (302), 0, 0, 0, .int (302)), (.aload_n 0, 0, 0, 0, .null), (.getfield 7, 0, 0, 1097, .null), (.sipush (302), 0, 0, 0, .int (302)), (.iaload, 0, 0, 0, .null), (.iconst (1), 0, 0, 0, .int (1)), (.iadd, 0, 0, 0, .null), (.iastore, 0, 0, 0, .null), (.return_, 0, 0, 0, .null)]
def xl_Mo_weekGoes : xv_B := [(0, xb_Mo_weekGoes_0), (2, xb_Mo_weekGoes_2), (31, xb_Mo_weekGoes_31), (53, xb_Mo_weekGoes_53), (59, xb_Mo_weekGoes_59)]
def xm_Mo_weekGoes : xv_M := (⟨"OnionCourtModel", "weekGoes", "()V"⟩, prog_14_method_62_code, 2, none, (0, 1, 0), [], xl_Mo_weekGoes)
def xb_Mo_weeksGo_0 : List xv_Op := [(.aload_n 0, 0, 0, 0, .null), (.iconst (0), 0, 0, 0, .int (0)), (.putfield 321, 43, 0, 1140, .int 0), (.aload_n 0, 0, 0, 0, .null), (.iconst (0), 0, 0, 0, .int (0)), (.putfield 317, 44, 0, 1141, .int 0), (.iconst (0), 0, 0, 0, .int (0)), (.istore_n 2, 0, 0, 0, .null), (.nop, 12, 0, 0, .null)]
def xb_Mo_weeksGo_12 : List xv_Op := [(.iload_n 2, 0, 0, 0, .null), (.iload_n 1, 0, 0, 0, .null), (.if_icmp .ge (27), 41, 0, 0, .null), (.aload_n 0, 0, 0, 0, .null), (.getfield 7, 0, 0, 1097, .null), (.sipush (302), 0, 0, 0, .int (302)), (.iaload, 0, 0, 0, .null), (.sipush (999), 0, 0, 0, .int (999)), (.if_icmp .ge (13), 41, 0, 0, .null), (.aload_n 0, 0, 0, 0, .null), (.invokevirtual 330, 100, 0, 1452, .int 0), (.iinc 2 (1), 0, 0, 0, .int (1)), (.goto (-26), 12, 0, 0, .null)]
def xb_Mo_weeksGo_41 : List xv_Op := [(.return_, 0, 0, 0, .null)]
def xl_Mo_weeksGo : xv_B := [(0, xb_Mo_weeksGo_0), (12, xb_Mo_weeksGo_12), (41, xb_Mo_weeksGo_41)]
def xm_Mo_weeksGo : xv_M := (⟨"OnionCourtModel", "weeksGo", "(I)V"⟩, prog_14_method_63_code, 3, none, (0, 1, 1), [], xl_Mo_weeksGo)
def xb_Mo_weeks_0 : List xv_Op := [(.iload_n 1, 0, 0, 0, .null), (.iconst (1), 0, 0, 0, .int (1)), (.bipush (60), 0, 0, 0, .int (60)), (.invokestatic 112, 40, 3, 1259, .int 0), (.ifCond .ne (5), 12, 0, 0, .null), (.iconst (-1), 0, 0, 0, .int (-1)), (.ireturn, 0, 0, 0, .null)]
def xb_Mo_weeks_12 : List xv_Op := [(.aload_n 0, 0, 0, 0, .null), (.iload_n 1, 0, 0, 0, .null), (.invokevirtual 333, 101, 1, 1448, .int 0), (.aload_n 0, 0, 0, 0, .null), (.getfield 321, 43, 0, 1140, .null), (.ireturn, 0, 0, 0, .null)]
def xl_Mo_weeks : xv_B := [(0, xb_Mo_weeks_0), (12, xb_Mo_weeks_12)]
def xm_Mo_weeks : xv_M := (⟨"OnionCourtModel", "weeks", "(I)I"⟩, prog_14_method_64_code, 2, (some .int), (0, 1, 1), [], xl_Mo_weeks)
def xb_Mo_tried_0 : List xv_Op := [(.iload_n 1, 0, 0, 0, .null), (.iconst (1), 0, 0, 0, .int (1)), (.bipush (60), 0, 0, 0, .int (60)), (.invokestatic 112, 40, 3, 1259, .int 0), (.ifCond .eq (56), 63, 0, 0, .null), (.iload_n 2, 0, 0, 0, .null), (.iconst (0), 0, 0, 0, .int (0)), (.iconst (1), 0, 0, 0, .int (1)), (.invokestatic 112, 40, 3, 1259, .int 0), (.ifCond .ne (49), 65, 0, 0, .null), (.iload_n 2, 0, 0, 0, .null), (.bipush (10), 0, 0, 0, .int (10)), (.bipush (19), 0, 0, 0, .int (19)), (.invokestatic 112, 40, 3, 1259, .int 0), (.ifCond .eq (14), 41, 0, 0, .null), (.aload_n 0, 0, 0, 0, .null), (.iload_n 2, 0, 0, 0, .null), (.bipush (10), 0, 0, 0, .int (10)), (.isub, 0, 0, 0, .null), (.invokevirtual 285, 47, 1, 1408, .int 0), (.ifCond .ne (27), 65, 0, 0, .null), (.nop, 41, 0, 0, .null)]
def xb_Mo_tried_41 : List xv_Op := [(.iload_n 2, 0, 0, 0, .null), (.bipush (20), 0, 0, 0, .int (20)), (.bipush (29), 0, 0, 0, .int (29)), (.invokestatic 112, 40, 3, 1259, .int 0), (.ifCond .eq (14), 63, 0, 0, .null), (.aload_n 0, 0, 0, 0, .null), (.iload_n 2, 0, 0, 0, .null), (.bipush (20), 0, 0, 0, .int (20)), (.isub, 0, 0, 0, .null), (.invokevirtual 285, 47, 1, 1408, .int 0), (.ifCond .ne (5), 65, 0, 0, .null), (.nop, 63, 0, 0, .null)]
def xb_Mo_tried_63 : List xv_Op := [(.iconst (-1), 0, 0, 0, .int (-1)), (.ireturn, 0, 0, 0, .null)]
def xb_Mo_tried_65 : List xv_Op := [(.aload_n 0, 0, 0, 0, .null), (.getfield 7, 0, 0, 1097, .null), (.aload_n 0, 0, 0, 0, .null), (.getfield 13, 1, 0, 1098, .null), (.invokestatic 336, 46, 2, 1490, .int 0), (.aload_n 0, 0, 0, 0, .null), (.iload_n 1, 0, 0, 0, .null), (.invokevirtual 333, 101, 1, 1448, .int 0), (.iload_n 2, 0, 0, 0, .null), (.ifCond .ne (10), 92, 0, 0, .null), (.aload_n 0, 0, 0, 0, .null), (.getfield 321, 43, 0, 1140, .null), (.goto (44), 133, 0, 0, .null)]
def xb_Mo_tried_92 : List xv_Op := [(.iload_n 2, 0, 0, 0, .null), (.iconst (1), 0, 0, 0, .int (1)), (.if_icmp .ne (10), 104, 0, 0, .null), (.aload_n 0, 0, 0, 0, .null), (.getfield 317, 44, 0, 1141, .null), (.goto (32), 133, 0, 0, .null)]
def xb_Mo_tried_104 : List xv_Op := [(.iload_n 2, 0, 0, 0, .null), (.bipush (20), 0, 0, 0, .int (20)), (.if_icmp .ge (18), 125, 0, 0, .null), (.aload_n 0, 0, 0, 0, .null), (.getfield 7, 0, 0, 1097, .null), (.bipush (120), 0, 0, 0, .int (120)), (.iload_n 2, 0, 0, 0, .null), (.iadd, 0, 0, 0, .null), (.bipush (10), 0, 0, 0, .int (10)), (.isub, 0, 0, 0, .null), (.iaload, 0, 0, 0, .null), (.goto (11), 133, 0, 0, .null)]
def xb_Mo_tried_125 : List xv_Op := [(.aload_n 0, 0, 0, 0, .null), (.iload_n 2, 0, 0, 0, .null), (.bipush (20), 0, 0, 0, .int (20)), (.isub, 0, 0, 0, .null), (.invokevirtual 340, 51, 1, 1493, .int 0), (.nop, 133, 0, 0, .null)]
def xb_Mo_tried_133 : List xv_Op := [(.istore_n 3, 0, 0, 0, .null), (.aload_n 0, 0, 0, 0, .null), (.getfield 13, 1, 0, 1098, .null), (.aload_n 0, 0, 0, 0, .null), (.getfield 7, 0, 0, 1097, .null), (.invokestatic 336, 46, 2, 1490, .int 0), (.iload_n 3, 0, 0, 0, .null), (.ireturn, 0, 0, 0, .null)]
def xl_Mo_tried : xv_B := [(0, xb_Mo_tried_0), (41, xb_Mo_tried_41), (63, xb_Mo_tried_63), (65, xb_Mo_tried_65), (92, xb_Mo_tried_92), (104, xb_Mo_tried_104), (125, xb_Mo_tried_125), (133, xb_Mo_tried_133)]
def xm_Mo_tried : xv_M := (⟨"OnionCourtModel", "tried", "(II)I"⟩, prog_14_method_65_code, 4, (some .int), (0, 1, 2), [], xl_Mo_tried)
def xb_Mo_tearsOf_0 : List xv_Op := [(.iconst (0), 0, 0, 0, .int (0)), (.istore_n 3, 0, 0, 0, .null), (.iconst (0), 0, 0, 0, .int (0)), (.istore 4, 0, 0, 0, .null), (.nop, 5, 0, 0, .null)]
def xb_Mo_tearsOf_5 : List xv_Op := [(.iload 4, 0, 0, 0, .null), (.aload_n 0, 0, 0, 0, .null), (.getfield 7, 0, 0, 1097, .null), (.sipush (301), 0, 0, 0, .int (301)), (.iaload, 0, 0, 0, .null), (.if_icmp .ge (40), 55, 0, 0, .null), (.iload_n 3, 0, 0, 0, .null), (.aload_n 0, 0, 0, 0, .null), (.getfield 7, 0, 0, 1097, .null), (.iload_n 1, 0, 0, 0, .null), (.iload 4, 0, 0, 0, .null), (.iadd, 0, 0, 0, .null), (.iaload, 0, 0, 0, .null), (.iload_n 2, 0, 0, 0, .null), (.if_icmp .ne (17), 46, 0, 0, .null), (.aload_n 0, 0, 0, 0, .null), (.getfield 7, 0, 0, 1097, .null), (.sipush (200), 0, 0, 0, .int (200)), (.iload 4, 0, 0, 0, .null), (.iadd, 0, 0, 0, .null), (.iaload, 0, 0, 0, .null), (.goto (4), 47, 0, 0, .null)]
def xb_Mo_tearsOf_46 : List xv_Op := [(.iconst (0), 0, 0, 0, .int (0)), (.nop, 47, 0, 0, .null)]
def xb_Mo_tearsOf_47 : List xv_Op := [(.iadd, 0, 0, 0, .null), (.istore_n 3, 0, 0, 0, .null), (.iinc 4 (1), 0, 0, 0, .int (1)), (.goto (-47), 5, 0, 0, .null)]
def xb_Mo_tearsOf_55 : List xv_Op := [(.iload_n 3, 0, 0, 0, .null), (.ireturn, 0, 0, 0, .null)]
def xl_Mo_tearsOf : xv_B := [(0, xb_Mo_tearsOf_0), (5, xb_Mo_tearsOf_5), (46, xb_Mo_tearsOf_46), (47, xb_Mo_tearsOf_47), (55, xb_Mo_tearsOf_55)]
def xm_Mo_tearsOf : xv_M := (⟨"OnionCourtModel", "tearsOf", "(II)I"⟩, prog_14_method_66_code, 5, (some .int), (0, 1, 2), [], xl_Mo_tearsOf)
def xb_Mo_answersOf_0 : List xv_Op := [(.iconst (0), 0, 0, 0, .int (0)), (.istore_n 2, 0, 0, 0, .null), (.iconst (0), 0, 0, 0, .int (0)), (.istore_n 3, 0, 0, 0, .null), (.nop, 4, 0, 0, .null)]
def xb_Mo_answersOf_4 : List xv_Op := [(.iload_n 3, 0, 0, 0, .null), (.aload_n 0, 0, 0, 0, .null), (.getfield 7, 0, 0, 1097, .null), (.sipush (301), 0, 0, 0, .int (301)), (.iaload, 0, 0, 0, .null), (.if_icmp .ge (31), 44, 0, 0, .null), (.iload_n 2, 0, 0, 0, .null), (.aload_n 0, 0, 0, 0, .null), (.getfield 7, 0, 0, 1097, .null), (.sipush (140), 0, 0, 0, .int (140)), (.iload_n 3, 0, 0, 0, .null), (.iadd, 0, 0, 0, .null), (.iaload, 0, 0, 0, .null), (.iload_n 1, 0, 0, 0, .null), (.if_icmp .ne (7), 35, 0, 0, .null), (.iconst (1), 0, 0, 0, .int (1)), (.goto (4), 36, 0, 0, .null)]
def xb_Mo_answersOf_35 : List xv_Op := [(.iconst (0), 0, 0, 0, .int (0)), (.nop, 36, 0, 0, .null)]
def xb_Mo_answersOf_36 : List xv_Op := [(.iadd, 0, 0, 0, .null), (.istore_n 2, 0, 0, 0, .null), (.iinc 3 (1), 0, 0, 0, .int (1)), (.goto (-37), 4, 0, 0, .null)]
def xb_Mo_answersOf_44 : List xv_Op := [(.iload_n 2, 0, 0, 0, .null), (.ireturn, 0, 0, 0, .null)]
def xl_Mo_answersOf : xv_B := [(0, xb_Mo_answersOf_0), (4, xb_Mo_answersOf_4), (35, xb_Mo_answersOf_35), (36, xb_Mo_answersOf_36), (44, xb_Mo_answersOf_44)]
def xm_Mo_answersOf : xv_M := (⟨"OnionCourtModel", "answersOf", "(I)I"⟩, prog_14_method_67_code, 4, (some .int), (0, 1, 1), [], xl_Mo_answersOf)
def xb_Mo_witnessIs_0 : List xv_Op := [(.aload_n 0, 0, 0, 0, .null), (.iload_n 1, 0, 0, 0, .null), (.invokevirtual 285, 47, 1, 1408, .int 0), (.ifCond .ne (5), 10, 0, 0, .null), (.iconst (-1), 0, 0, 0, .int (-1)), (.ireturn, 0, 0, 0, .null)]
def xb_Mo_witnessIs_10 : List xv_Op := [(.aload_n 0, 0, 0, 0, .null), (.getfield 7, 0, 0, 1097, .null), (.bipush (120), 0, 0, 0, .int (120)), (.iload_n 1, 0, 0, 0, .null), (.iadd, 0, 0, 0, .null), (.iaload, 0, 0, 0, .null), (.istore_n 3, 0, 0, 0, .null), (.iload_n 2, 0, 0, 0, .null), (.tableswitch (93) (0) (5) #[39, 50, 52, 58, 78, 87], 21, 0, 0, .null)]
def xb_Mo_witnessIs_60 : List xv_Op := [(.aload_n 0, 0, 0, 0, .null), (.getfield 7, 0, 0, 1097, .null), (.sipush (130), 0, 0, 0, .int (130)), (.iload_n 1, 0, 0, 0, .null), (.iadd, 0, 0, 0, .null), (.iaload, 0, 0, 0, .null), (.ireturn, 0, 0, 0, .null)]
def xb_Mo_witnessIs_71 : List xv_Op := [(.iload_n 3, 0, 0, 0, .null), (.ireturn, 0, 0, 0, .null)]
def xb_Mo_witnessIs_73 : List xv_Op := [(.aload_n 0, 0, 0, 0, .null), (.iload_n 1, 0, 0, 0, .null), (.invokevirtual 340, 51, 1, 1493, .int 0), (.ireturn, 0, 0, 0, .null)]
def xb_Mo_witnessIs_79 : List xv_Op := [(.iload_n 3, 0, 0, 0, .null), (.ifCond .ne (8), 88, 0, 0, .null), (.bipush (-2), 0, 0, 0, .int (-2)), (.goto (13), 98, 0, 0, .null)]
def xb_Mo_witnessIs_88 : List xv_Op := [(.aload_n 0, 0, 0, 0, .null), (.iload_n 1, 0, 0, 0, .null), (.iload_n 3, 0, 0, 0, .null), (.iconst (1), 0, 0, 0, .int (1)), (.isub, 0, 0, 0, .null), (.iconst (2), 0, 0, 0, .int (2)), (.idiv, 0, 0, 0, .null), (.invokevirtual 120, 50, 2, 1432, .int 0), (.nop, 98, 0, 0, .null)]
def xb_Mo_witnessIs_98 : List xv_Op := [(.ireturn, 0, 0, 0, .null)]
def xb_Mo_witnessIs_99 : List xv_Op := [(.aload_n 0, 0, 0, 0, .null), (.sipush (140), 0, 0, 0, .int (140)), (.iload_n 1, 0, 0, 0, .null), (.invokevirtual 343, 104, 2, 1501, .int 0), (.ireturn, 0, 0, 0, .null)]
def xb_Mo_witnessIs_108 : List xv_Op := [(.aload_n 0, 0, 0, 0, .null), (.iload_n 1, 0, 0, 0, .null), (.invokevirtual 346, 105, 1, 1505, .int 0), (.ireturn, 0, 0, 0, .null)]
def xb_Mo_witnessIs_114 : List xv_Op := [(.iload_n 2, 0, 0, 0, .null), (.bipush (10), 0, 0, 0, .int (10)), (.bipush (21), 0, 0, 0, .int (21)), (.invokestatic 112, 40, 3, 1259, .int 0), (.ifCond .ne (5), 127, 0, 0, .null), (.iconst (-1), 0, 0, 0, .int (-1)), (.ireturn, 0, 0, 0, .null)]
def xb_Mo_witnessIs_127 : List xv_Op := [(.iload_n 2, 0, 0, 0, .null), (.bipush (10), 0, 0, 0, .int (10)), (.isub, 0, 0, 0, .null), (.iload_n 3, 0, 0, 0, .null), (.if_icmp .ge (15), 147, 0, 0, .null), (.aload_n 0, 0, 0, 0, .null), (.iload_n 1, 0, 0, 0, .null), (.iload_n 2, 0, 0, 0, .null), (.bipush (10), 0, 0, 0, .int (10)), (.isub, 0, 0, 0, .null), (.invokevirtual 120, 50, 2, 1432, .int 0), (.goto (5), 149, 0, 0, .null)]
def xb_Mo_witnessIs_147 : List xv_Op := [(.bipush (-2), 0, 0, 0, .int (-2)), (.nop, 149, 0, 0, .null)]
def xb_Mo_witnessIs_149 : List xv_Op := [(.ireturn, 0, 0, 0, .null)]
def xl_Mo_witnessIs : xv_B := [(0, xb_Mo_witnessIs_0), (10, xb_Mo_witnessIs_10), (60, xb_Mo_witnessIs_60), (71, xb_Mo_witnessIs_71), (73, xb_Mo_witnessIs_73), (79, xb_Mo_witnessIs_79), (88, xb_Mo_witnessIs_88), (98, xb_Mo_witnessIs_98), (99, xb_Mo_witnessIs_99), (108, xb_Mo_witnessIs_108), (114, xb_Mo_witnessIs_114), (127, xb_Mo_witnessIs_127), (147, xb_Mo_witnessIs_147), (149, xb_Mo_witnessIs_149)]
def xm_Mo_witnessIs : xv_M := (⟨"OnionCourtModel", "witnessIs", "(II)I"⟩, prog_14_method_68_code, 4, (some .int), (0, 1, 2), [], xl_Mo_witnessIs)
def xb_Mo_answerIs_0 : List xv_Op := [(.iload_n 1, 0, 0, 0, .null), (.iconst (0), 0, 0, 0, .int (0)), (.aload_n 0, 0, 0, 0, .null), (.getfield 7, 0, 0, 1097, .null), (.sipush (301), 0, 0, 0, .int (301)), (.iaload, 0, 0, 0, .null), (.iconst (1), 0, 0, 0, .int (1)), (.isub, 0, 0, 0, .null), (.invokestatic 112, 40, 3, 1259, .int 0), (.ifCond .eq (13), 28, 0, 0, .null), (.iload_n 2, 0, 0, 0, .null), (.iconst (0), 0, 0, 0, .int (0)), (.bipush (6), 0, 0, 0, .int (6)), (.invokestatic 112, 40, 3, 1259, .int 0), (.ifCond .ne (5), 30, 0, 0, .null), (.nop, 28, 0, 0, .null)]
def xb_Mo_answerIs_28 : List xv_Op := [(.iconst (-1), 0, 0, 0, .int (-1)), (.ireturn, 0, 0, 0, .null)]
def xb_Mo_answerIs_30 : List xv_Op := [(.aload_n 0, 0, 0, 0, .null), (.getfield 7, 0, 0, 1097, .null), (.sipush (140), 0, 0, 0, .int (140)), (.bipush (20), 0, 0, 0, .int (20)), (.iload_n 2, 0, 0, 0, .null), (.imul, 0, 0, 0, .null), (.iadd, 0, 0, 0, .null), (.iload_n 1, 0, 0, 0, .null), (.iadd, 0, 0, 0, .null), (.iaload, 0, 0, 0, .null), (.ireturn, 0, 0, 0, .null)]
def xl_Mo_answerIs : xv_B := [(0, xb_Mo_answerIs_0), (28, xb_Mo_answerIs_28), (30, xb_Mo_answerIs_30)]
def xm_Mo_answerIs : xv_M := (⟨"OnionCourtModel", "answerIs", "(II)I"⟩, prog_14_method_69_code, 3, (some .int), (0, 1, 2), [], xl_Mo_answerIs)
def xb_Mo_weighsBy_0 : List xv_Op := [(.aload_n 0, 0, 0, 0, .null), (.getfield 22, 4, 0, 1101, .null), (.aload_n 0, 0, 0, 0, .null), (.getfield 7, 0, 0, 1097, .null), (.sipush (160), 0, 0, 0, .int (160)), (.iload_n 1, 0, 0, 0, .null), (.iadd, 0, 0, 0, .null), (.iaload, 0, 0, 0, .null), (.laload, 0, 0, 0, .null), (.iload_n 2, 0, 0, 0, .null), (.invokestatic 108, 44, 2, 1373, .int 0), (.ifCond .eq (7), 26, 0, 0, .null), (.iconst (1), 0, 0, 0, .int (1)), (.goto (4), 27, 0, 0, .null)]
def xb_Mo_weighsBy_26 : List xv_Op := [(.iconst (0), 0, 0, 0, .int (0)), (.nop, 27, 0, 0, .null)]
def xb_Mo_weighsBy_27 : List xv_Op := [(.istore_n 3, 0, 0, 0, .null), (.aload_n 0, 0, 0, 0, .null), (.getfield 7, 0, 0, 1097, .null), (.sipush (180), 0, 0, 0, .int (180)), (.iload_n 1, 0, 0, 0, .null), (.iadd, 0, 0, 0, .null), (.iaload, 0, 0, 0, .null), (.iload_n 3, 0, 0, 0, .null), (.if_icmp .ne (7), 46, 0, 0, .null), (.iconst (0), 0, 0, 0, .int (0)), (.goto (4), 47, 0, 0, .null)]
def xb_Mo_weighsBy_46 : List xv_Op := [(.iconst (1), 0, 0, 0, .int (1)), (.nop, 47, 0, 0, .null)]
def xb_Mo_weighsBy_47 : List xv_Op := [(.istore 4, 0, 0, 0, .null), (.aload_n 0, 0, 0, 0, .null), (.aload_n 0, 0, 0, 0, .null), (.getfield 7, 0, 0, 1097, .null), (.sipush (140), 0, 0, 0, .int (140)), (.iload_n 1, 0, 0, 0, .null), (.iadd, 0, 0, 0, .null), (.iaload, 0, 0, 0, .null), (.aload_n 0, 0, 0, 0, .null), (.getfield 7, 0, 0, 1097, .null), (.sipush (280), 0, 0, 0, .int (280)), (.iload_n 1, 0, 0, 0, .null), (.iadd, 0, 0, 0, .null), (.iaload, 0, 0, 0, .null), (.aload_n 0, 0, 0, 0, .null), (.getfield 7, 0, 0, 1097, .null), (.sipush (220), 0, 0, 0, .int (220)), (.iload_n 1, 0, 0, 0, .null), (.iadd, 0, 0, 0, .null), (.iaload, 0, 0, 0, .null), (.aload_n 0, 0, 0, 0, .null), (.getfield 7, 0, 0, 1097, .null), (.sipush (240), 0, 0, 0, .int (240)), (.iload_n 1, 0, 0, 0, .null), (.iadd, 0, 0, 0, .null), (.iaload, 0, 0, 0, .null), (.aload_n 0, 0, 0, 0, .null), (.getfield 7, 0, 0, 1097, .null), (.sipush (260), 0, 0, 0, .int (260)), (.iload_n 1, 0, 0, 0, .null), (.iadd, 0, 0, 0, .null), (.iaload, 0, 0, 0, .null), (.invokevirtual 304, 81, 5, 1460, .int 0), (.aload_n 0, 0, 0, 0, .null), (.getfield 66, 29, 0, 1126, .null), (.iconst (4), 0, 0, 0, .int (4)), (.aload_n 0, 0, 0, 0, .null), (.getfield 7, 0, 0, 1097, .null), (.sipush (160), 0, 0, 0, .int (160)), (.iload_n 1, 0, 0, 0, .null), (.iadd, 0, 0, 0, .null), (.iaload, 0, 0, 0, .null), (.iastore, 0, 0, 0, .null), (.aload_n 0, 0, 0, 0, .null), (.getfield 66, 29, 0, 1126, .null), (.iconst (5), 0, 0, 0, .int (5)), (.iload_n 3, 0, 0, 0, .null), (.iastore, 0, 0, 0, .null), (.aload_n 0, 0, 0, 0, .null), (.bipush (108), 0, 0, 0, .int (108)), (.bipush (10), 0, 0, 0, .int (10)), (.invokevirtual 308, 80, 2, 1464, .int 0), (.istore 5, 0, 0, 0, .null), (.aload_n 0, 0, 0, 0, .null), (.getfield 66, 29, 0, 1126, .null), (.bipush (6), 0, 0, 0, .int (6)), (.iload 4, 0, 0, 0, .null), (.iastore, 0, 0, 0, .null), (.aload_n 0, 0, 0, 0, .null), (.bipush (99), 0, 0, 0, .int (99)), (.bipush (10), 0, 0, 0, .int (10)), (.invokevirtual 308, 80, 2, 1464, .int 0), (.istore 6, 0, 0, 0, .null), (.iload 4, 0, 0, 0, .null), (.iconst (1), 0, 0, 0, .int (1)), (.if_icmp .ne (8), 166, 0, 0, .null), (.iload 5, 0, 0, 0, .null), (.goto (8), 171, 0, 0, .null)]
def xb_Mo_weighsBy_166 : List xv_Op := [(.bipush (10), 0, 0, 0, .int (10)), (.iload 5, 0, 0, 0, .null), (.isub, 0, 0, 0, .null), (.nop, 171, 0, 0, .null)]
def xb_Mo_weighsBy_171 : List xv_Op := [(.i2l, 0, 0, 0, .null), (.aload_n 0, 0, 0, 0, .null), (.getfield 7, 0, 0, 1097, .null), (.sipush (200), 0, 0, 0, .int (200)), (.iload_n 1, 0, 0, 0, .null), (.iadd, 0, 0, 0, .null), (.iaload, 0, 0, 0, .null), (.iconst (1), 0, 0, 0, .int (1)), (.if_icmp .ne (8), 191, 0, 0, .null), (.iload 6, 0, 0, 0, .null), (.goto (8), 196, 0, 0, .null)]
def xb_Mo_weighsBy_191 : List xv_Op := [(.bipush (10), 0, 0, 0, .int (10)), (.iload 6, 0, 0, 0, .null), (.isub, 0, 0, 0, .null), (.nop, 196, 0, 0, .null)]
def xb_Mo_weighsBy_196 : List xv_Op := [(.i2l, 0, 0, 0, .null), (.lmul, 0, 0, 0, .null), (.lreturn, 0, 0, 0, .null)]
def xl_Mo_weighsBy : xv_B := [(0, xb_Mo_weighsBy_0), (26, xb_Mo_weighsBy_26), (27, xb_Mo_weighsBy_27), (46, xb_Mo_weighsBy_46), (47, xb_Mo_weighsBy_47), (166, xb_Mo_weighsBy_166), (171, xb_Mo_weighsBy_171), (191, xb_Mo_weighsBy_191), (196, xb_Mo_weighsBy_196)]
def xm_Mo_weighsBy : xv_M := (⟨"OnionCourtModel", "weighsBy", "(II)J"⟩, prog_14_method_70_code, 7, (some .long), (0, 1, 2), [], xl_Mo_weighsBy)
def xb_Mo_weighs_0 : List xv_Op := [(.lconst 0, 0, 0, 0, .long 0), (.lstore_n 2, 0, 0, 0, .null), (.iconst (0), 0, 0, 0, .int (0)), (.istore 4, 0, 0, 0, .null), (.nop, 5, 0, 0, .null)]
def xb_Mo_weighs_5 : List xv_Op := [(.iload 4, 0, 0, 0, .null), (.bipush (32), 0, 0, 0, .int (32)), (.if_icmp .ge (120), 129, 0, 0, .null), (.lconst 1, 0, 0, 0, .long 1), (.lstore 5, 0, 0, 0, .null), (.iconst (0), 0, 0, 0, .int (0)), (.istore 7, 0, 0, 0, .null), (.nop, 18, 0, 0, .null)]
def xb_Mo_weighs_18 : List xv_Op := [(.iload 7, 0, 0, 0, .null), (.iconst (5), 0, 0, 0, .int (5)), (.if_icmp .ge (46), 67, 0, 0, .null), (.lload 5, 0, 0, 0, .null), (.iload 4, 0, 0, 0, .null), (.i2l, 0, 0, 0, .null), (.iload 7, 0, 0, 0, .null), (.invokestatic 108, 44, 2, 1373, .int 0), (.ifCond .eq (13), 47, 0, 0, .null), (.aload_n 0, 0, 0, 0, .null), (.getfield 19, 3, 0, 1100, .null), (.iload 7, 0, 0, 0, .null), (.iaload, 0, 0, 0, .null), (.goto (13), 57, 0, 0, .null)]
def xb_Mo_weighs_47 : List xv_Op := [(.bipush (10), 0, 0, 0, .int (10)), (.aload_n 0, 0, 0, 0, .null), (.getfield 19, 3, 0, 1100, .null), (.iload 7, 0, 0, 0, .null), (.iaload, 0, 0, 0, .null), (.isub, 0, 0, 0, .null), (.nop, 57, 0, 0, .null)]
def xb_Mo_weighs_57 : List xv_Op := [(.i2l, 0, 0, 0, .null), (.lmul, 0, 0, 0, .null), (.lstore 5, 0, 0, 0, .null), (.iinc 7 (1), 0, 0, 0, .int (1)), (.goto (-46), 18, 0, 0, .null)]
def xb_Mo_weighs_67 : List xv_Op := [(.iconst (0), 0, 0, 0, .int (0)), (.istore 7, 0, 0, 0, .null), (.nop, 70, 0, 0, .null)]
def xb_Mo_weighs_70 : List xv_Op := [(.iload 7, 0, 0, 0, .null), (.bipush (20), 0, 0, 0, .int (20)), (.if_icmp .ge (35), 109, 0, 0, .null), (.iload_n 1, 0, 0, 0, .null), (.i2l, 0, 0, 0, .null), (.iload 7, 0, 0, 0, .null), (.invokestatic 108, 44, 2, 1373, .int 0), (.ifCond .ne (6), 90, 0, 0, .null), (.goto (16), 103, 0, 0, .null)]
def xb_Mo_weighs_90 : List xv_Op := [(.lload 5, 0, 0, 0, .null), (.aload_n 0, 0, 0, 0, .null), (.iload 7, 0, 0, 0, .null), (.iload 4, 0, 0, 0, .null), (.invokevirtual 349, 108, 2, 1533, .int 0), (.lmul, 0, 0, 0, .null), (.lstore 5, 0, 0, 0, .null), (.nop, 103, 0, 0, .null)]
def xb_Mo_weighs_103 : List xv_Op := [(.iinc 7 (1), 0, 0, 0, .int (1)), (.goto (-36), 70, 0, 0, .null)]
def xb_Mo_weighs_109 : List xv_Op := [(.aload_n 0, 0, 0, 0, .null), (.getfield 90, 45, 0, 1142, .null), (.iload 4, 0, 0, 0, .null), (.lload 5, 0, 0, 0, .null), (.lastore, 0, 0, 0, .null), (.lload_n 2, 0, 0, 0, .null), (.lload 5, 0, 0, 0, .null), (.ladd, 0, 0, 0, .null), (.lstore_n 2, 0, 0, 0, .null), (.iinc 4 (1), 0, 0, 0, .int (1)), (.goto (-121), 5, 0, 0, .null)]
def xb_Mo_weighs_129 : List xv_Op := [(.lload_n 2, 0, 0, 0, .null), (.lreturn, 0, 0, 0, .null)]
def xl_Mo_weighs : xv_B := [(0, xb_Mo_weighs_0), (5, xb_Mo_weighs_5), (18, xb_Mo_weighs_18), (47, xb_Mo_weighs_47), (57, xb_Mo_weighs_57), (67, xb_Mo_weighs_67), (70, xb_Mo_weighs_70), (90, xb_Mo_weighs_90), (103, xb_Mo_weighs_103), (109, xb_Mo_weighs_109), (129, xb_Mo_weighs_129)]
def xm_Mo_weighs : xv_M := (⟨"OnionCourtModel", "weighs", "(I)J"⟩, prog_14_method_71_code, 8, (some .long), (0, 1, 1), [2, 5], xl_Mo_weighs)
def xb_Mo_weightIn_0 : List xv_Op := [(.lconst 0, 0, 0, 0, .long 0), (.lstore_n 3, 0, 0, 0, .null), (.iconst (0), 0, 0, 0, .int (0)), (.istore 5, 0, 0, 0, .null), (.nop, 5, 0, 0, .null)]
def xb_Mo_weightIn_5 : List xv_Op := [(.iload 5, 0, 0, 0, .null), (.bipush (32), 0, 0, 0, .int (32)), (.if_icmp .ge (31), 40, 0, 0, .null), (.lload_n 1, 0, 0, 0, .null), (.iload 5, 0, 0, 0, .null), (.invokestatic 108, 44, 2, 1373, .int 0), (.ifCond .ne (6), 24, 0, 0, .null), (.goto (13), 34, 0, 0, .null)]
def xb_Mo_weightIn_24 : List xv_Op := [(.lload_n 3, 0, 0, 0, .null), (.aload_n 0, 0, 0, 0, .null), (.getfield 90, 45, 0, 1142, .null), (.iload 5, 0, 0, 0, .null), (.laload, 0, 0, 0, .null), (.ladd, 0, 0, 0, .null), (.lstore_n 3, 0, 0, 0, .null), (.nop, 34, 0, 0, .null)]
def xb_Mo_weightIn_34 : List xv_Op := [(.iinc 5 (1), 0, 0, 0, .int (1)), (.goto (-32), 5, 0, 0, .null)]
def xb_Mo_weightIn_40 : List xv_Op := [(.lload_n 3, 0, 0, 0, .null), (.lreturn, 0, 0, 0, .null)]
def xl_Mo_weightIn : xv_B := [(0, xb_Mo_weightIn_0), (5, xb_Mo_weightIn_5), (24, xb_Mo_weightIn_24), (34, xb_Mo_weightIn_34), (40, xb_Mo_weightIn_40)]
def xm_Mo_weightIn : xv_M := (⟨"OnionCourtModel", "weightIn", "(J)J"⟩, prog_14_method_72_code, 6, (some .long), (0, 1, 1), [1, 3], xl_Mo_weightIn)
def xb_Mo_gcd_0 : List xv_Op := [(.lload_n 0, 0, 0, 0, .null), (.lstore 4, 0, 0, 0, .null), (.lload_n 2, 0, 0, 0, .null), (.lstore 6, 0, 0, 0, .null), (.nop, 6, 0, 0, .null)]
def xb_Mo_gcd_6 : List xv_Op := [(.lload 6, 0, 0, 0, .null), (.lconst 0, 0, 0, 0, .long 0), (.lcmp, 0, 0, 0, .null), (.ifCond .eq (21), 31, 0, 0, .null), (.lload 4, 0, 0, 0, .null), (.lload 6, 0, 0, 0, .null), (.lrem, 0, 0, 0, .null), (.lstore 8, 0, 0, 0, .null), (.lload 6, 0, 0, 0, .null), (.lstore 4, 0, 0, 0, .null), (.lload 8, 0, 0, 0, .null), (.lstore 6, 0, 0, 0, .null), (.goto (-22), 6, 0, 0, .null)]
def xb_Mo_gcd_31 : List xv_Op := [(.lload 4, 0, 0, 0, .null), (.lreturn, 0, 0, 0, .null)]
def xl_Mo_gcd : xv_B := [(0, xb_Mo_gcd_0), (6, xb_Mo_gcd_6), (31, xb_Mo_gcd_31)]
def xm_Mo_gcd : xv_M := (⟨"OnionCourtModel", "gcd", "(JJ)J"⟩, prog_14_method_73_code, 10, (some .long), (0, 0, 2), [0, 2, 4, 6, 8], xl_Mo_gcd)
def xb_Mo_areWeighed_0 : List xv_Op := [(.aload_n 0, 0, 0, 0, .null), (.iload_n 1, 0, 0, 0, .null), (.invokevirtual 353, 49, 1, 1521, .int 0), (.ifCond .eq (17), 22, 0, 0, .null), (.iload_n 1, 0, 0, 0, .null), (.i2l, 0, 0, 0, .null), (.invokestatic 278, 45, 1, 1401, .int 0), (.bipush (6), 0, 0, 0, .int (6)), (.if_icmp .gt (7), 22, 0, 0, .null), (.iconst (1), 0, 0, 0, .int (1)), (.goto (4), 23, 0, 0, .null)]
def xb_Mo_areWeighed_22 : List xv_Op := [(.iconst (0), 0, 0, 0, .int (0)), (.nop, 23, 0, 0, .null)]
def xb_Mo_areWeighed_23 : List xv_Op := [(.ireturn, 0, 0, 0, .null)]
def xl_Mo_areWeighed : xv_B := [(0, xb_Mo_areWeighed_0), (22, xb_Mo_areWeighed_22), (23, xb_Mo_areWeighed_23)]
def xm_Mo_areWeighed : xv_M := (⟨"OnionCourtModel", "areWeighed", "(I)Z"⟩, prog_14_method_74_code, 2, (some .boolean), (0, 1, 1), [], xl_Mo_areWeighed)
def xb_Mo_oddsOf_0 : List xv_Op := [(.aload_n 0, 0, 0, 0, .null), (.iload_n 3, 0, 0, 0, .null), (.invokevirtual 356, 109, 1, 1529, .int 0), (.lstore 5, 0, 0, 0, .null), (.lload 5, 0, 0, 0, .null), (.lconst 0, 0, 0, 0, .long 0), (.lcmp, 0, 0, 0, .null), (.ifCond .ne (7), 18, 0, 0, .null), (.ldc2_w 359, 0, 0, 1537, .long (-2)), (.lreturn, 0, 0, 0, .null)]
def xb_Mo_oddsOf_18 : List xv_Op := [(.aload_n 0, 0, 0, 0, .null), (.lload_n 1, 0, 0, 0, .null), (.invokevirtual 361, 110, 1, 1538, .int 0), (.lstore 7, 0, 0, 0, .null), (.lload 5, 0, 0, 0, .null), (.lload 7, 0, 0, 0, .null), (.invokestatic 365, 111, 2, 1542, .int 0), (.lstore 9, 0, 0, 0, .null), (.iload 4, 0, 0, 0, .null), (.ifCond .ne (11), 47, 0, 0, .null), (.lload 7, 0, 0, 0, .null), (.lload 9, 0, 0, 0, .null), (.ldiv, 0, 0, 0, .null), (.goto (8), 52, 0, 0, .null)]
def xb_Mo_oddsOf_47 : List xv_Op := [(.lload 5, 0, 0, 0, .null), (.lload 9, 0, 0, 0, .null), (.ldiv, 0, 0, 0, .null), (.nop, 52, 0, 0, .null)]
def xb_Mo_oddsOf_52 : List xv_Op := [(.lreturn, 0, 0, 0, .null)]
def xl_Mo_oddsOf : xv_B := [(0, xb_Mo_oddsOf_0), (18, xb_Mo_oddsOf_18), (47, xb_Mo_oddsOf_47), (52, xb_Mo_oddsOf_52)]
def xm_Mo_oddsOf : xv_M := (⟨"OnionCourtModel", "oddsOf", "(JII)J"⟩, prog_14_method_75_code, 11, (some .long), (0, 1, 3), [1, 5, 7, 9], xl_Mo_oddsOf)
def xb_Mo_likely_0 : List xv_Op := [(.aload_n 0, 0, 0, 0, .null), (.iload_n 1, 0, 0, 0, .null), (.invokevirtual 294, 48, 1, 1424, .int 0), (.ifCond .eq (35), 40, 0, 0, .null), (.aload_n 0, 0, 0, 0, .null), (.iload_n 2, 0, 0, 0, .null), (.invokevirtual 369, 112, 1, 1517, .int 0), (.ifCond .eq (27), 40, 0, 0, .null), (.iload_n 3, 0, 0, 0, .null), (.iconst (0), 0, 0, 0, .int (0)), (.iconst (1), 0, 0, 0, .int (1)), (.invokestatic 112, 40, 3, 1259, .int 0), (.ifCond .eq (18), 40, 0, 0, .null), (.aload_n 0, 0, 0, 0, .null), (.aload_n 0, 0, 0, 0, .null), (.getfield 22, 4, 0, 1101, .null), (.iload_n 1, 0, 0, 0, .null), (.laload, 0, 0, 0, .null), (.iload_n 2, 0, 0, 0, .null), (.iload_n 3, 0, 0, 0, .null), (.invokevirtual 372, 113, 3, 1525, .int 0), (.goto (6), 43, 0, 0, .null)]
def xb_Mo_likely_40 : List xv_Op := [(.ldc2_w 244, 0, 0, 1388, .long (-1)), (.nop, 43, 0, 0, .null)]
def xb_Mo_likely_43 : List xv_Op := [(.lreturn, 0, 0, 0, .null)]
def xl_Mo_likely : xv_B := [(0, xb_Mo_likely_0), (40, xb_Mo_likely_40), (43, xb_Mo_likely_43)]
def xm_Mo_likely : xv_M := (⟨"OnionCourtModel", "likely", "(III)J"⟩, prog_14_method_76_code, 4, (some .long), (0, 1, 3), [], xl_Mo_likely)
def xb_Mo_lie_0 : List xv_Op := [(.iload_n 1, 0, 0, 0, .null), (.iconst (0), 0, 0, 0, .int (0)), (.aload_n 0, 0, 0, 0, .null), (.getfield 7, 0, 0, 1097, .null), (.sipush (301), 0, 0, 0, .int (301)), (.iaload, 0, 0, 0, .null), (.iconst (1), 0, 0, 0, .int (1)), (.isub, 0, 0, 0, .null), (.invokestatic 112, 40, 3, 1259, .int 0), (.ifCond .eq (20), 35, 0, 0, .null), (.aload_n 0, 0, 0, 0, .null), (.iload_n 2, 0, 0, 0, .null), (.invokevirtual 369, 112, 1, 1517, .int 0), (.ifCond .eq (12), 35, 0, 0, .null), (.iload_n 3, 0, 0, 0, .null), (.iconst (0), 0, 0, 0, .int (0)), (.iconst (1), 0, 0, 0, .int (1)), (.invokestatic 112, 40, 3, 1259, .int 0), (.ifCond .ne (7), 39, 0, 0, .null), (.nop, 35, 0, 0, .null)]
def xb_Mo_lie_35 : List xv_Op := [(.ldc2_w 244, 0, 0, 1388, .long (-1)), (.lreturn, 0, 0, 0, .null)]
def xb_Mo_lie_39 : List xv_Op := [(.aload_n 0, 0, 0, 0, .null), (.ldc2_w 242, 0, 0, 1372, .long (4294967295)), (.aload_n 0, 0, 0, 0, .null), (.iload_n 1, 0, 0, 0, .null), (.invokevirtual 376, 118, 1, 1549, .int 0), (.ldc2_w 244, 0, 0, 1388, .long (-1)), (.lxor, 0, 0, 0, .null), (.land, 0, 0, 0, .null), (.iload_n 2, 0, 0, 0, .null), (.iload_n 3, 0, 0, 0, .null), (.invokevirtual 372, 113, 3, 1525, .int 0), (.lreturn, 0, 0, 0, .null)]
def xl_Mo_lie : xv_B := [(0, xb_Mo_lie_0), (35, xb_Mo_lie_35), (39, xb_Mo_lie_39)]
def xm_Mo_lie : xv_M := (⟨"OnionCourtModel", "lie", "(III)J"⟩, prog_14_method_77_code, 4, (some .long), (0, 1, 3), [], xl_Mo_lie)
def xb_Mo_world_0 : List xv_Op := [(.aload_n 0, 0, 0, 0, .null), (.iload_n 1, 0, 0, 0, .null), (.invokevirtual 369, 112, 1, 1517, .int 0), (.ifCond .eq (12), 17, 0, 0, .null), (.iload_n 2, 0, 0, 0, .null), (.iconst (0), 0, 0, 0, .int (0)), (.iconst (1), 0, 0, 0, .int (1)), (.invokestatic 112, 40, 3, 1259, .int 0), (.ifCond .ne (5), 19, 0, 0, .null), (.nop, 17, 0, 0, .null)]
def xb_Mo_world_17 : List xv_Op := [(.iconst (-1), 0, 0, 0, .int (-1)), (.ireturn, 0, 0, 0, .null)]
def xb_Mo_world_19 : List xv_Op := [(.aload_n 0, 0, 0, 0, .null), (.iload_n 1, 0, 0, 0, .null), (.invokevirtual 356, 109, 1, 1529, .int 0), (.lstore_n 3, 0, 0, 0, .null), (.lload_n 3, 0, 0, 0, .null), (.lconst 0, 0, 0, 0, .long 0), (.lcmp, 0, 0, 0, .null), (.ifCond .ne (6), 34, 0, 0, .null), (.bipush (-2), 0, 0, 0, .int (-2)), (.ireturn, 0, 0, 0, .null)]
def xb_Mo_world_34 : List xv_Op := [(.iconst (0), 0, 0, 0, .int (0)), (.istore 5, 0, 0, 0, .null), (.iconst (0), 0, 0, 0, .int (0)), (.istore 6, 0, 0, 0, .null), (.iconst (1), 0, 0, 0, .int (1)), (.istore 7, 0, 0, 0, .null), (.nop, 43, 0, 0, .null)]
def xb_Mo_world_43 : List xv_Op := [(.iload 7, 0, 0, 0, .null), (.bipush (32), 0, 0, 0, .int (32)), (.if_icmp .ge (31), 78, 0, 0, .null), (.aload_n 0, 0, 0, 0, .null), (.getfield 90, 45, 0, 1142, .null), (.iload 7, 0, 0, 0, .null), (.laload, 0, 0, 0, .null), (.aload_n 0, 0, 0, 0, .null), (.getfield 90, 45, 0, 1142, .null), (.iload 5, 0, 0, 0, .null), (.laload, 0, 0, 0, .null), (.lcmp, 0, 0, 0, .null), (.ifCond .le (7), 72, 0, 0, .null), (.iload 7, 0, 0, 0, .null), (.istore 5, 0, 0, 0, .null), (.nop, 72, 0, 0, .null)]
def xb_Mo_world_72 : List xv_Op := [(.iinc 7 (1), 0, 0, 0, .int (1)), (.goto (-32), 43, 0, 0, .null)]
def xb_Mo_world_78 : List xv_Op := [(.iconst (0), 0, 0, 0, .int (0)), (.istore 7, 0, 0, 0, .null), (.nop, 81, 0, 0, .null)]
def xb_Mo_world_81 : List xv_Op := [(.iload 7, 0, 0, 0, .null), (.iconst (5), 0, 0, 0, .int (5)), (.if_icmp .ge (39), 123, 0, 0, .null), (.ldc2_w 379, 0, 0, 1557, .long (2)), (.aload_n 0, 0, 0, 0, .null), (.bipush (97), 0, 0, 0, .int (97)), (.iload 7, 0, 0, 0, .null), (.iadd, 0, 0, 0, .null), (.invokestatic 259, 87, 1, 1369, .int 0), (.invokevirtual 361, 110, 1, 1538, .int 0), (.lmul, 0, 0, 0, .null), (.lload_n 3, 0, 0, 0, .null), (.lcmp, 0, 0, 0, .null), (.ifCond .le (12), 117, 0, 0, .null), (.iload 6, 0, 0, 0, .null), (.iconst (1), 0, 0, 0, .int (1)), (.iload 7, 0, 0, 0, .null), (.ishl, 0, 0, 0, .null), (.ior, 0, 0, 0, .null), (.istore 6, 0, 0, 0, .null), (.nop, 117, 0, 0, .null)]
def xb_Mo_world_117 : List xv_Op := [(.iinc 7 (1), 0, 0, 0, .int (1)), (.goto (-39), 81, 0, 0, .null)]
def xb_Mo_world_123 : List xv_Op := [(.iload_n 2, 0, 0, 0, .null), (.ifCond .ne (8), 132, 0, 0, .null), (.iload 5, 0, 0, 0, .null), (.goto (5), 134, 0, 0, .null)]
def xb_Mo_world_132 : List xv_Op := [(.iload 6, 0, 0, 0, .null), (.nop, 134, 0, 0, .null)]
def xb_Mo_world_134 : List xv_Op := [(.ireturn, 0, 0, 0, .null)]
def xl_Mo_world : xv_B := [(0, xb_Mo_world_0), (17, xb_Mo_world_17), (19, xb_Mo_world_19), (34, xb_Mo_world_34), (43, xb_Mo_world_43), (72, xb_Mo_world_72), (78, xb_Mo_world_78), (81, xb_Mo_world_81), (117, xb_Mo_world_117), (123, xb_Mo_world_123), (132, xb_Mo_world_132), (134, xb_Mo_world_134)]
def xm_Mo_world : xv_M := (⟨"OnionCourtModel", "world", "(II)I"⟩, prog_14_method_78_code, 8, (some .int), (0, 1, 2), [3], xl_Mo_world)
def xb_Mo_askNext_0 : List xv_Op := [(.aload_n 0, 0, 0, 0, .null), (.iload_n 1, 0, 0, 0, .null), (.invokevirtual 369, 112, 1, 1517, .int 0), (.ifCond .ne (5), 10, 0, 0, .null), (.iconst (-1), 0, 0, 0, .int (-1)), (.ireturn, 0, 0, 0, .null)]
def xb_Mo_askNext_10 : List xv_Op := [(.aload_n 0, 0, 0, 0, .null), (.iload_n 1, 0, 0, 0, .null), (.invokevirtual 356, 109, 1, 1529, .int 0), (.lstore_n 2, 0, 0, 0, .null), (.bipush (-2), 0, 0, 0, .int (-2)), (.istore 4, 0, 0, 0, .null), (.lconst 0, 0, 0, 0, .long 0), (.lstore 5, 0, 0, 0, .null), (.iconst (0), 0, 0, 0, .int (0)), (.istore 7, 0, 0, 0, .null), (.nop, 26, 0, 0, .null)]
def xb_Mo_askNext_26 : List xv_Op := [(.iload 7, 0, 0, 0, .null), (.bipush (8), 0, 0, 0, .int (8)), (.if_icmp .ge (84), 114, 0, 0, .null), (.lload_n 2, 0, 0, 0, .null), (.lconst 0, 0, 0, 0, .long 0), (.lcmp, 0, 0, 0, .null), (.ifCond .le (78), 114, 0, 0, .null), (.aload_n 0, 0, 0, 0, .null), (.iload 7, 0, 0, 0, .null), (.invokevirtual 294, 48, 1, 1424, .int 0), (.ifCond .ne (6), 51, 0, 0, .null), (.goto (60), 108, 0, 0, .null)]
def xb_Mo_askNext_51 : List xv_Op := [(.ldc2_w 379, 0, 0, 1557, .long (2)), (.aload_n 0, 0, 0, 0, .null), (.aload_n 0, 0, 0, 0, .null), (.getfield 22, 4, 0, 1101, .null), (.iload 7, 0, 0, 0, .null), (.laload, 0, 0, 0, .null), (.invokevirtual 361, 110, 1, 1538, .int 0), (.lmul, 0, 0, 0, .null), (.lload_n 2, 0, 0, 0, .null), (.lsub, 0, 0, 0, .null), (.lstore 8, 0, 0, 0, .null), (.lload 8, 0, 0, 0, .null), (.lconst 0, 0, 0, 0, .long 0), (.lcmp, 0, 0, 0, .null), (.ifCond .ge (8), 82, 0, 0, .null), (.lload 8, 0, 0, 0, .null), (.lneg, 0, 0, 0, .null), (.lstore 8, 0, 0, 0, .null), (.nop, 82, 0, 0, .null)]
def xb_Mo_askNext_82 : List xv_Op := [(.iload 4, 0, 0, 0, .null), (.bipush (-2), 0, 0, 0, .int (-2)), (.if_icmp .eq (14), 100, 0, 0, .null), (.lload 8, 0, 0, 0, .null), (.lload 5, 0, 0, 0, .null), (.lcmp, 0, 0, 0, .null), (.ifCond .lt (6), 100, 0, 0, .null), (.goto (11), 108, 0, 0, .null)]
def xb_Mo_askNext_100 : List xv_Op := [(.iload 7, 0, 0, 0, .null), (.istore 4, 0, 0, 0, .null), (.lload 8, 0, 0, 0, .null), (.lstore 5, 0, 0, 0, .null), (.nop, 108, 0, 0, .null)]
def xb_Mo_askNext_108 : List xv_Op := [(.iinc 7 (1), 0, 0, 0, .int (1)), (.goto (-85), 26, 0, 0, .null)]
def xb_Mo_askNext_114 : List xv_Op := [(.iload 4, 0, 0, 0, .null), (.ireturn, 0, 0, 0, .null)]
def xl_Mo_askNext : xv_B := [(0, xb_Mo_askNext_0), (10, xb_Mo_askNext_10), (26, xb_Mo_askNext_26), (51, xb_Mo_askNext_51), (82, xb_Mo_askNext_82), (100, xb_Mo_askNext_100), (108, xb_Mo_askNext_108), (114, xb_Mo_askNext_114)]
def xm_Mo_askNext : xv_M := (⟨"OnionCourtModel", "askNext", "(I)I"⟩, prog_14_method_79_code, 10, (some .int), (0, 1, 1), [2, 5, 8], xl_Mo_askNext)
def xb_Mo_fitsOf_0 : List xv_Op := [(.aload_n 0, 0, 0, 0, .null), (.getfield 22, 4, 0, 1101, .null), (.aload_n 0, 0, 0, 0, .null), (.getfield 7, 0, 0, 1097, .null), (.sipush (160), 0, 0, 0, .int (160)), (.iload_n 1, 0, 0, 0, .null), (.iadd, 0, 0, 0, .null), (.iaload, 0, 0, 0, .null), (.laload, 0, 0, 0, .null), (.lstore_n 2, 0, 0, 0, .null), (.aload_n 0, 0, 0, 0, .null), (.getfield 7, 0, 0, 1097, .null), (.sipush (180), 0, 0, 0, .int (180)), (.iload_n 1, 0, 0, 0, .null), (.iadd, 0, 0, 0, .null), (.iaload, 0, 0, 0, .null), (.iconst (1), 0, 0, 0, .int (1)), (.if_icmp .ne (7), 34, 0, 0, .null), (.lload_n 2, 0, 0, 0, .null), (.goto (12), 43, 0, 0, .null)]
def xb_Mo_fitsOf_34 : List xv_Op := [(.ldc2_w 242, 0, 0, 1372, .long (4294967295)), (.lload_n 2, 0, 0, 0, .null), (.ldc2_w 244, 0, 0, 1388, .long (-1)), (.lxor, 0, 0, 0, .null), (.land, 0, 0, 0, .null), (.nop, 43, 0, 0, .null)]
def xb_Mo_fitsOf_43 : List xv_Op := [(.lreturn, 0, 0, 0, .null)]
def xl_Mo_fitsOf : xv_B := [(0, xb_Mo_fitsOf_0), (34, xb_Mo_fitsOf_34), (43, xb_Mo_fitsOf_43)]
def xm_Mo_fitsOf : xv_M := (⟨"OnionCourtModel", "fitsOf", "(I)J"⟩, prog_14_method_80_code, 4, (some .long), (0, 1, 1), [2], xl_Mo_fitsOf)
def xb_Mo_fitsAll_0 : List xv_Op := [(.ldc2_w 242, 0, 0, 1372, .long (4294967295)), (.lstore_n 2, 0, 0, 0, .null), (.iconst (0), 0, 0, 0, .int (0)), (.istore 4, 0, 0, 0, .null), (.nop, 7, 0, 0, .null)]
def xb_Mo_fitsAll_7 : List xv_Op := [(.iload 4, 0, 0, 0, .null), (.aload_n 0, 0, 0, 0, .null), (.getfield 7, 0, 0, 1097, .null), (.sipush (301), 0, 0, 0, .int (301)), (.iaload, 0, 0, 0, .null), (.if_icmp .ge (31), 48, 0, 0, .null), (.iload_n 1, 0, 0, 0, .null), (.i2l, 0, 0, 0, .null), (.iload 4, 0, 0, 0, .null), (.invokestatic 108, 44, 2, 1373, .int 0), (.ifCond .ne (6), 33, 0, 0, .null), (.goto (12), 42, 0, 0, .null)]
def xb_Mo_fitsAll_33 : List xv_Op := [(.lload_n 2, 0, 0, 0, .null), (.aload_n 0, 0, 0, 0, .null), (.iload 4, 0, 0, 0, .null), (.invokevirtual 376, 118, 1, 1549, .int 0), (.land, 0, 0, 0, .null), (.lstore_n 2, 0, 0, 0, .null), (.nop, 42, 0, 0, .null)]
def xb_Mo_fitsAll_42 : List xv_Op := [(.iinc 4 (1), 0, 0, 0, .int (1)), (.goto (-38), 7, 0, 0, .null)]
def xb_Mo_fitsAll_48 : List xv_Op := [(.lload_n 2, 0, 0, 0, .null), (.lreturn, 0, 0, 0, .null)]
def xl_Mo_fitsAll : xv_B := [(0, xb_Mo_fitsAll_0), (7, xb_Mo_fitsAll_7), (33, xb_Mo_fitsAll_33), (42, xb_Mo_fitsAll_42), (48, xb_Mo_fitsAll_48)]
def xm_Mo_fitsAll : xv_M := (⟨"OnionCourtModel", "fitsAll", "(I)J"⟩, prog_14_method_81_code, 5, (some .long), (0, 1, 1), [2], xl_Mo_fitsAll)
def xb_Mo_ifTrue_0 : List xv_Op := [(.aload_n 0, 0, 0, 0, .null), (.iload_n 1, 0, 0, 0, .null), (.invokevirtual 353, 49, 1, 1521, .int 0), (.ifCond .eq (11), 16, 0, 0, .null), (.aload_n 0, 0, 0, 0, .null), (.iload_n 1, 0, 0, 0, .null), (.invokevirtual 381, 119, 1, 1566, .int 0), (.goto (6), 19, 0, 0, .null)]
def xb_Mo_ifTrue_16 : List xv_Op := [(.ldc2_w 244, 0, 0, 1388, .long (-1)), (.nop, 19, 0, 0, .null)]
def xb_Mo_ifTrue_19 : List xv_Op := [(.lreturn, 0, 0, 0, .null)]
def xl_Mo_ifTrue : xv_B := [(0, xb_Mo_ifTrue_0), (16, xb_Mo_ifTrue_16), (19, xb_Mo_ifTrue_19)]
def xm_Mo_ifTrue : xv_M := (⟨"OnionCourtModel", "ifTrue", "(I)J"⟩, prog_14_method_82_code, 2, (some .long), (0, 1, 1), [], xl_Mo_ifTrue)
def xb_Mo_answersWithout_0 : List xv_Op := [(.iconst (0), 0, 0, 0, .int (0)), (.istore_n 2, 0, 0, 0, .null), (.iconst (0), 0, 0, 0, .int (0)), (.istore_n 3, 0, 0, 0, .null), (.nop, 4, 0, 0, .null)]
def xb_Mo_answersWithout_4 : List xv_Op := [(.iload_n 3, 0, 0, 0, .null), (.aload_n 0, 0, 0, 0, .null), (.getfield 7, 0, 0, 1097, .null), (.sipush (301), 0, 0, 0, .int (301)), (.iaload, 0, 0, 0, .null), (.if_icmp .ge (36), 49, 0, 0, .null), (.iload_n 1, 0, 0, 0, .null), (.i2l, 0, 0, 0, .null), (.aload_n 0, 0, 0, 0, .null), (.getfield 7, 0, 0, 1097, .null), (.sipush (140), 0, 0, 0, .int (140)), (.iload_n 3, 0, 0, 0, .null), (.iadd, 0, 0, 0, .null), (.iaload, 0, 0, 0, .null), (.invokestatic 108, 44, 2, 1373, .int 0), (.ifCond .eq (6), 37, 0, 0, .null), (.goto (9), 43, 0, 0, .null)]
def xb_Mo_answersWithout_37 : List xv_Op := [(.iload_n 2, 0, 0, 0, .null), (.iconst (1), 0, 0, 0, .int (1)), (.iload_n 3, 0, 0, 0, .null), (.ishl, 0, 0, 0, .null), (.ior, 0, 0, 0, .null), (.istore_n 2, 0, 0, 0, .null), (.nop, 43, 0, 0, .null)]
def xb_Mo_answersWithout_43 : List xv_Op := [(.iinc 3 (1), 0, 0, 0, .int (1)), (.goto (-42), 4, 0, 0, .null)]
def xb_Mo_answersWithout_49 : List xv_Op := [(.iload_n 2, 0, 0, 0, .null), (.ireturn, 0, 0, 0, .null)]
def xl_Mo_answersWithout : xv_B := [(0, xb_Mo_answersWithout_0), (4, xb_Mo_answersWithout_4), (37, xb_Mo_answersWithout_37), (43, xb_Mo_answersWithout_43), (49, xb_Mo_answersWithout_49)]
def xm_Mo_answersWithout : xv_M := (⟨"OnionCourtModel", "answersWithout", "(I)I"⟩, prog_14_method_83_code, 4, (some .int), (0, 1, 1), [], xl_Mo_answersWithout)
def xb_Mo_liars_0 : List xv_Op := [(.iload_n 1, 0, 0, 0, .null), (.iconst (0), 0, 0, 0, .int (0)), (.iconst (1), 0, 0, 0, .int (1)), (.invokestatic 112, 40, 3, 1259, .int 0), (.ifCond .ne (5), 11, 0, 0, .null), (.iconst (-1), 0, 0, 0, .int (-1)), (.ireturn, 0, 0, 0, .null)]
def xb_Mo_liars_11 : List xv_Op := [(.bipush (-2), 0, 0, 0, .int (-2)), (.istore_n 2, 0, 0, 0, .null), (.iconst (0), 0, 0, 0, .int (0)), (.istore_n 3, 0, 0, 0, .null), (.nop, 16, 0, 0, .null)]
def xb_Mo_liars_16 : List xv_Op := [(.iload_n 3, 0, 0, 0, .null), (.sipush (1024), 0, 0, 0, .int (1024)), (.if_icmp .ge (47), 67, 0, 0, .null), (.iload_n 2, 0, 0, 0, .null), (.bipush (-2), 0, 0, 0, .int (-2)), (.if_icmp .eq (19), 45, 0, 0, .null), (.iload_n 3, 0, 0, 0, .null), (.i2l, 0, 0, 0, .null), (.invokestatic 278, 45, 1, 1401, .int 0), (.iload_n 2, 0, 0, 0, .null), (.i2l, 0, 0, 0, .null), (.invokestatic 278, 45, 1, 1401, .int 0), (.if_icmp .lt (6), 45, 0, 0, .null), (.goto (19), 61, 0, 0, .null)]
def xb_Mo_liars_45 : List xv_Op := [(.aload_n 0, 0, 0, 0, .null), (.aload_n 0, 0, 0, 0, .null), (.iload_n 3, 0, 0, 0, .null), (.invokevirtual 384, 121, 1, 1574, .int 0), (.invokevirtual 381, 119, 1, 1566, .int 0), (.lconst 0, 0, 0, 0, .long 0), (.lcmp, 0, 0, 0, .null), (.ifCond .eq (5), 61, 0, 0, .null), (.iload_n 3, 0, 0, 0, .null), (.istore_n 2, 0, 0, 0, .null), (.nop, 61, 0, 0, .null)]
def xb_Mo_liars_61 : List xv_Op := [(.iinc 3 (1), 0, 0, 0, .int (1)), (.goto (-48), 16, 0, 0, .null)]
def xb_Mo_liars_67 : List xv_Op := [(.iload_n 1, 0, 0, 0, .null), (.iconst (1), 0, 0, 0, .int (1)), (.if_icmp .ne (7), 76, 0, 0, .null), (.iload_n 2, 0, 0, 0, .null), (.goto (8), 81, 0, 0, .null)]
def xb_Mo_liars_76 : List xv_Op := [(.iload_n 2, 0, 0, 0, .null), (.i2l, 0, 0, 0, .null), (.invokestatic 278, 45, 1, 1401, .int 0), (.nop, 81, 0, 0, .null)]
def xb_Mo_liars_81 : List xv_Op := [(.ireturn, 0, 0, 0, .null)]
def xl_Mo_liars : xv_B := [(0, xb_Mo_liars_0), (11, xb_Mo_liars_11), (16, xb_Mo_liars_16), (45, xb_Mo_liars_45), (61, xb_Mo_liars_61), (67, xb_Mo_liars_67), (76, xb_Mo_liars_76), (81, xb_Mo_liars_81)]
def xm_Mo_liars : xv_M := (⟨"OnionCourtModel", "liars", "(I)I"⟩, prog_14_method_84_code, 4, (some .int), (0, 1, 1), [], xl_Mo_liars)
def xb_Mo_against_0 : List xv_Op := [(.iconst (0), 0, 0, 0, .int (0)), (.istore_n 1, 0, 0, 0, .null), (.iconst (0), 0, 0, 0, .int (0)), (.istore_n 2, 0, 0, 0, .null), (.nop, 4, 0, 0, .null)]
def xb_Mo_against_4 : List xv_Op := [(.iload_n 2, 0, 0, 0, .null), (.aload_n 0, 0, 0, 0, .null), (.getfield 7, 0, 0, 1097, .null), (.sipush (301), 0, 0, 0, .int (301)), (.iaload, 0, 0, 0, .null), (.if_icmp .ge (47), 60, 0, 0, .null), (.aload_n 0, 0, 0, 0, .null), (.iload_n 2, 0, 0, 0, .null), (.invokevirtual 376, 118, 1, 1549, .int 0), (.lstore_n 3, 0, 0, 0, .null), (.iconst (0), 0, 0, 0, .int (0)), (.istore 5, 0, 0, 0, .null), (.nop, 25, 0, 0, .null)]
def xb_Mo_against_25 : List xv_Op := [(.iload 5, 0, 0, 0, .null), (.iload_n 2, 0, 0, 0, .null), (.if_icmp .ge (26), 54, 0, 0, .null), (.lload_n 3, 0, 0, 0, .null), (.aload_n 0, 0, 0, 0, .null), (.iload 5, 0, 0, 0, .null), (.invokevirtual 376, 118, 1, 1549, .int 0), (.land, 0, 0, 0, .null), (.lconst 0, 0, 0, 0, .long 0), (.lcmp, 0, 0, 0, .null), (.ifCond .ne (7), 48, 0, 0, .null), (.iload_n 1, 0, 0, 0, .null), (.iconst (1), 0, 0, 0, .int (1)), (.iadd, 0, 0, 0, .null), (.istore_n 1, 0, 0, 0, .null), (.nop, 48, 0, 0, .null)]
def xb_Mo_against_48 : List xv_Op := [(.iinc 5 (1), 0, 0, 0, .int (1)), (.goto (-26), 25, 0, 0, .null)]
def xb_Mo_against_54 : List xv_Op := [(.iinc 2 (1), 0, 0, 0, .int (1)), (.goto (-53), 4, 0, 0, .null)]
def xb_Mo_against_60 : List xv_Op := [(.iload_n 1, 0, 0, 0, .null), (.ireturn, 0, 0, 0, .null)]
def xl_Mo_against : xv_B := [(0, xb_Mo_against_0), (4, xb_Mo_against_4), (25, xb_Mo_against_25), (48, xb_Mo_against_48), (54, xb_Mo_against_54), (60, xb_Mo_against_60)]
def xm_Mo_against : xv_M := (⟨"OnionCourtModel", "against", "()I"⟩, prog_14_method_85_code, 6, (some .int), (0, 1, 0), [3], xl_Mo_against)
def xb_Mo_follows_0 : List xv_Op := [(.aload_n 0, 0, 0, 0, .null), (.iload_n 1, 0, 0, 0, .null), (.invokevirtual 353, 49, 1, 1521, .int 0), (.ifCond .eq (12), 17, 0, 0, .null), (.iload_n 2, 0, 0, 0, .null), (.iconst (0), 0, 0, 0, .int (0)), (.iconst (1), 0, 0, 0, .int (1)), (.invokestatic 112, 40, 3, 1259, .int 0), (.ifCond .ne (5), 19, 0, 0, .null), (.nop, 17, 0, 0, .null)]
def xb_Mo_follows_17 : List xv_Op := [(.iconst (-1), 0, 0, 0, .int (-1)), (.ireturn, 0, 0, 0, .null)]
def xb_Mo_follows_19 : List xv_Op := [(.aload_n 0, 0, 0, 0, .null), (.iload_n 1, 0, 0, 0, .null), (.invokevirtual 381, 119, 1, 1566, .int 0), (.lstore_n 3, 0, 0, 0, .null), (.iconst (0), 0, 0, 0, .int (0)), (.istore 5, 0, 0, 0, .null), (.iconst (0), 0, 0, 0, .int (0)), (.istore 6, 0, 0, 0, .null), (.nop, 31, 0, 0, .null)]
def xb_Mo_follows_31 : List xv_Op := [(.iload 6, 0, 0, 0, .null), (.bipush (8), 0, 0, 0, .int (8)), (.if_icmp .ge (71), 106, 0, 0, .null), (.iload_n 2, 0, 0, 0, .null), (.ifCond .ne (13), 52, 0, 0, .null), (.aload_n 0, 0, 0, 0, .null), (.getfield 22, 4, 0, 1101, .null), (.iload 6, 0, 0, 0, .null), (.laload, 0, 0, 0, .null), (.goto (18), 67, 0, 0, .null)]
def xb_Mo_follows_52 : List xv_Op := [(.ldc2_w 242, 0, 0, 1372, .long (4294967295)), (.aload_n 0, 0, 0, 0, .null), (.getfield 22, 4, 0, 1101, .null), (.iload 6, 0, 0, 0, .null), (.laload, 0, 0, 0, .null), (.ldc2_w 244, 0, 0, 1388, .long (-1)), (.lxor, 0, 0, 0, .null), (.land, 0, 0, 0, .null), (.nop, 67, 0, 0, .null)]
def xb_Mo_follows_67 : List xv_Op := [(.lstore 7, 0, 0, 0, .null), (.aload_n 0, 0, 0, 0, .null), (.iload 6, 0, 0, 0, .null), (.invokevirtual 294, 48, 1, 1424, .int 0), (.ifCond .eq (25), 100, 0, 0, .null), (.lload_n 3, 0, 0, 0, .null), (.lload 7, 0, 0, 0, .null), (.ldc2_w 244, 0, 0, 1388, .long (-1)), (.lxor, 0, 0, 0, .null), (.land, 0, 0, 0, .null), (.lconst 0, 0, 0, 0, .long 0), (.lcmp, 0, 0, 0, .null), (.ifCond .ne (12), 100, 0, 0, .null), (.iload 5, 0, 0, 0, .null), (.iconst (1), 0, 0, 0, .int (1)), (.iload 6, 0, 0, 0, .null), (.ishl, 0, 0, 0, .null), (.ior, 0, 0, 0, .null), (.istore 5, 0, 0, 0, .null), (.nop, 100, 0, 0, .null)]
def xb_Mo_follows_100 : List xv_Op := [(.iinc 6 (1), 0, 0, 0, .int (1)), (.goto (-72), 31, 0, 0, .null)]
def xb_Mo_follows_106 : List xv_Op := [(.iload 5, 0, 0, 0, .null), (.ireturn, 0, 0, 0, .null)]
def xl_Mo_follows : xv_B := [(0, xb_Mo_follows_0), (17, xb_Mo_follows_17), (19, xb_Mo_follows_19), (31, xb_Mo_follows_31), (52, xb_Mo_follows_52), (67, xb_Mo_follows_67), (100, xb_Mo_follows_100), (106, xb_Mo_follows_106)]
def xm_Mo_follows : xv_M := (⟨"OnionCourtModel", "follows", "(II)I"⟩, prog_14_method_86_code, 9, (some .int), (0, 1, 2), [3, 7], xl_Mo_follows)
def xb_Mo_lastOf_0 : List xv_Op := [(.aload_n 0, 0, 0, 0, .null), (.getfield 7, 0, 0, 1097, .null), (.sipush (301), 0, 0, 0, .int (301)), (.iaload, 0, 0, 0, .null), (.iconst (1), 0, 0, 0, .int (1)), (.isub, 0, 0, 0, .null), (.istore_n 3, 0, 0, 0, .null), (.nop, 11, 0, 0, .null)]
def xb_Mo_lastOf_11 : List xv_Op := [(.iload_n 3, 0, 0, 0, .null), (.ifCond .lt (39), 51, 0, 0, .null), (.aload_n 0, 0, 0, 0, .null), (.getfield 7, 0, 0, 1097, .null), (.sipush (140), 0, 0, 0, .int (140)), (.iload_n 3, 0, 0, 0, .null), (.iadd, 0, 0, 0, .null), (.iaload, 0, 0, 0, .null), (.iload_n 1, 0, 0, 0, .null), (.if_icmp .ne (19), 45, 0, 0, .null), (.aload_n 0, 0, 0, 0, .null), (.getfield 7, 0, 0, 1097, .null), (.sipush (160), 0, 0, 0, .int (160)), (.iload_n 3, 0, 0, 0, .null), (.iadd, 0, 0, 0, .null), (.iaload, 0, 0, 0, .null), (.iload_n 2, 0, 0, 0, .null), (.if_icmp .ne (5), 45, 0, 0, .null), (.iload_n 3, 0, 0, 0, .null), (.ireturn, 0, 0, 0, .null)]
def xb_Mo_lastOf_45 : List xv_Op := [(.iinc 3 (-1), 0, 0, 0, .int (-1)), (.goto (-37), 11, 0, 0, .null)]
def xb_Mo_lastOf_51 : List xv_Op := [(.iconst (-1), 0, 0, 0, .int (-1)), (.ireturn, 0, 0, 0, .null)]
def xl_Mo_lastOf : xv_B := [(0, xb_Mo_lastOf_0), (11, xb_Mo_lastOf_11), (45, xb_Mo_lastOf_45), (51, xb_Mo_lastOf_51)]
def xm_Mo_lastOf : xv_M := (⟨"OnionCourtModel", "lastOf", "(II)I"⟩, prog_14_method_87_code, 4, (some .int), (0, 1, 2), [], xl_Mo_lastOf)
def xb_Mo_agree_0 : List xv_Op := [(.aload_n 0, 0, 0, 0, .null), (.iload_n 1, 0, 0, 0, .null), (.invokevirtual 285, 47, 1, 1408, .int 0), (.ifCond .eq (25), 30, 0, 0, .null), (.aload_n 0, 0, 0, 0, .null), (.iload_n 2, 0, 0, 0, .null), (.invokevirtual 285, 47, 1, 1408, .int 0), (.ifCond .eq (17), 30, 0, 0, .null), (.iload_n 1, 0, 0, 0, .null), (.iload_n 2, 0, 0, 0, .null), (.if_icmp .eq (12), 30, 0, 0, .null), (.iload_n 3, 0, 0, 0, .null), (.iconst (0), 0, 0, 0, .int (0)), (.iconst (1), 0, 0, 0, .int (1)), (.invokestatic 112, 40, 3, 1259, .int 0), (.ifCond .ne (5), 32, 0, 0, .null), (.nop, 30, 0, 0, .null)]
def xb_Mo_agree_30 : List xv_Op := [(.iconst (-1), 0, 0, 0, .int (-1)), (.ireturn, 0, 0, 0, .null)]
def xb_Mo_agree_32 : List xv_Op := [(.iconst (0), 0, 0, 0, .int (0)), (.istore 4, 0, 0, 0, .null), (.iconst (0), 0, 0, 0, .int (0)), (.istore 5, 0, 0, 0, .null), (.iconst (0), 0, 0, 0, .int (0)), (.istore 6, 0, 0, 0, .null), (.nop, 41, 0, 0, .null)]
def xb_Mo_agree_41 : List xv_Op := [(.iload 6, 0, 0, 0, .null), (.bipush (8), 0, 0, 0, .int (8)), (.if_icmp .ge (82), 127, 0, 0, .null), (.aload_n 0, 0, 0, 0, .null), (.iload_n 1, 0, 0, 0, .null), (.iload 6, 0, 0, 0, .null), (.invokevirtual 387, 125, 2, 1590, .int 0), (.istore 7, 0, 0, 0, .null), (.aload_n 0, 0, 0, 0, .null), (.iload_n 2, 0, 0, 0, .null), (.iload 6, 0, 0, 0, .null), (.invokevirtual 387, 125, 2, 1590, .int 0), (.istore 8, 0, 0, 0, .null), (.iload 7, 0, 0, 0, .null), (.iconst (-1), 0, 0, 0, .int (-1)), (.if_icmp .eq (52), 121, 0, 0, .null), (.iload 8, 0, 0, 0, .null), (.iconst (-1), 0, 0, 0, .int (-1)), (.if_icmp .ne (6), 81, 0, 0, .null), (.goto (43), 121, 0, 0, .null)]
def xb_Mo_agree_81 : List xv_Op := [(.aload_n 0, 0, 0, 0, .null), (.getfield 7, 0, 0, 1097, .null), (.sipush (180), 0, 0, 0, .int (180)), (.iload 7, 0, 0, 0, .null), (.iadd, 0, 0, 0, .null), (.iaload, 0, 0, 0, .null), (.aload_n 0, 0, 0, 0, .null), (.getfield 7, 0, 0, 1097, .null), (.sipush (180), 0, 0, 0, .int (180)), (.iload 8, 0, 0, 0, .null), (.iadd, 0, 0, 0, .null), (.iaload, 0, 0, 0, .null), (.if_icmp .ne (12), 115, 0, 0, .null), (.iload 4, 0, 0, 0, .null), (.iconst (1), 0, 0, 0, .int (1)), (.iadd, 0, 0, 0, .null), (.istore 4, 0, 0, 0, .null), (.goto (9), 121, 0, 0, .null)]
def xb_Mo_agree_115 : List xv_Op := [(.iload 5, 0, 0, 0, .null), (.iconst (1), 0, 0, 0, .int (1)), (.iadd, 0, 0, 0, .null), (.istore 5, 0, 0, 0, .null), (.nop, 121, 0, 0, .null)]
def xb_Mo_agree_121 : List xv_Op := [(.iinc 6 (1), 0, 0, 0, .int (1)), (.goto (-83), 41, 0, 0, .null)]
def xb_Mo_agree_127 : List xv_Op := [(.iload_n 3, 0, 0, 0, .null), (.ifCond .ne (8), 136, 0, 0, .null), (.iload 4, 0, 0, 0, .null), (.goto (5), 138, 0, 0, .null)]
def xb_Mo_agree_136 : List xv_Op := [(.iload 5, 0, 0, 0, .null), (.nop, 138, 0, 0, .null)]
def xb_Mo_agree_138 : List xv_Op := [(.ireturn, 0, 0, 0, .null)]
def xl_Mo_agree : xv_B := [(0, xb_Mo_agree_0), (30, xb_Mo_agree_30), (32, xb_Mo_agree_32), (41, xb_Mo_agree_41), (81, xb_Mo_agree_81), (115, xb_Mo_agree_115), (121, xb_Mo_agree_121), (127, xb_Mo_agree_127), (136, xb_Mo_agree_136), (138, xb_Mo_agree_138)]
def xm_Mo_agree : xv_M := (⟨"OnionCourtModel", "agree", "(III)I"⟩, prog_14_method_88_code, 9, (some .int), (0, 1, 3), [], xl_Mo_agree)
def xb_Mo_tears_0 : List xv_Op := [(.aload_n 0, 0, 0, 0, .null), (.iload_n 1, 0, 0, 0, .null), (.invokevirtual 294, 48, 1, 1424, .int 0), (.ifCond .eq (14), 19, 0, 0, .null), (.aload_n 0, 0, 0, 0, .null), (.sipush (160), 0, 0, 0, .int (160)), (.iload_n 1, 0, 0, 0, .null), (.invokevirtual 343, 104, 2, 1501, .int 0), (.goto (4), 20, 0, 0, .null)]
def xb_Mo_tears_19 : List xv_Op := [(.iconst (-1), 0, 0, 0, .int (-1)), (.nop, 20, 0, 0, .null)]
def xb_Mo_tears_20 : List xv_Op := [(.ireturn, 0, 0, 0, .null)]
def xl_Mo_tears : xv_B := [(0, xb_Mo_tears_0), (19, xb_Mo_tears_19), (20, xb_Mo_tears_20)]
def xm_Mo_tears : xv_M := (⟨"OnionCourtModel", "tears", "(I)I"⟩, prog_14_method_89_code, 2, (some .int), (0, 1, 1), [], xl_Mo_tears)
def xb_Mo_areTrue_0 : List xv_Op := [(.aload_n 0, 0, 0, 0, .null), (.getfield 26, 6, 0, 1103, .null), (.iconst (2), 0, 0, 0, .int (2)), (.iload_n 1, 0, 0, 0, .null), (.imul, 0, 0, 0, .null), (.baload, 0, 0, 0, .null), (.sipush (255), 0, 0, 0, .int (255)), (.iand, 0, 0, 0, .null), (.aload_n 0, 0, 0, 0, .null), (.getfield 26, 6, 0, 1103, .null), (.iconst (2), 0, 0, 0, .int (2)), (.iload_n 2, 0, 0, 0, .null), (.imul, 0, 0, 0, .null), (.baload, 0, 0, 0, .null), (.sipush (255), 0, 0, 0, .int (255)), (.iand, 0, 0, 0, .null), (.isub, 0, 0, 0, .null), (.invokestatic 390, 43, 1, 1610, .int 0), (.istore 4, 0, 0, 0, .null), (.aload_n 0, 0, 0, 0, .null), (.getfield 26, 6, 0, 1103, .null), (.iconst (2), 0, 0, 0, .int (2)), (.iload_n 1, 0, 0, 0, .null), (.imul, 0, 0, 0, .null), (.iconst (1), 0, 0, 0, .int (1)), (.iadd, 0, 0, 0, .null), (.baload, 0, 0, 0, .null), (.sipush (255), 0, 0, 0, .int (255)), (.iand, 0, 0, 0, .null), (.aload_n 0, 0, 0, 0, .null), (.getfield 26, 6, 0, 1103, .null), (.iconst (2), 0, 0, 0, .int (2)), (.iload_n 2, 0, 0, 0, .null), (.imul, 0, 0, 0, .null), (.iconst (1), 0, 0, 0, .int (1)), (.iadd, 0, 0, 0, .null), (.baload, 0, 0, 0, .null), (.sipush (255), 0, 0, 0, .int (255)), (.iand, 0, 0, 0, .null), (.isub, 0, 0, 0, .null), (.invokestatic 390, 43, 1, 1610, .int 0), (.iload 4, 0, 0, 0, .null), (.iload_n 3, 0, 0, 0, .null), (.imul, 0, 0, 0, .null), (.if_icmp .gt (7), 73, 0, 0, .null), (.iconst (1), 0, 0, 0, .int (1)), (.goto (4), 74, 0, 0, .null)]
def xb_Mo_areTrue_73 : List xv_Op := [(.iconst (0), 0, 0, 0, .int (0)), (.nop, 74, 0, 0, .null)]
def xb_Mo_areTrue_74 : List xv_Op := [(.ireturn, 0, 0, 0, .null)]
def xl_Mo_areTrue : xv_B := [(0, xb_Mo_areTrue_0), (73, xb_Mo_areTrue_73), (74, xb_Mo_areTrue_74)]
def xm_Mo_areTrue : xv_M := (⟨"OnionCourtModel", "areTrue", "(III)Z"⟩, prog_14_method_90_code, 5, (some .boolean), (0, 1, 3), [], xl_Mo_areTrue)
def xb_Mo_areAllTrue_0 : List xv_Op := [(.iconst (0), 0, 0, 0, .int (0)), (.istore 4, 0, 0, 0, .null), (.nop, 3, 0, 0, .null)]
def xb_Mo_areAllTrue_3 : List xv_Op := [(.iload 4, 0, 0, 0, .null), (.iload_n 2, 0, 0, 0, .null), (.if_icmp .ge (59), 65, 0, 0, .null), (.iconst (0), 0, 0, 0, .int (0)), (.istore 5, 0, 0, 0, .null), (.nop, 12, 0, 0, .null)]
def xb_Mo_areAllTrue_12 : List xv_Op := [(.iload 5, 0, 0, 0, .null), (.iload 4, 0, 0, 0, .null), (.if_icmp .ge (43), 59, 0, 0, .null), (.iload_n 1, 0, 0, 0, .null), (.i2l, 0, 0, 0, .null), (.iload 4, 0, 0, 0, .null), (.invokestatic 108, 44, 2, 1373, .int 0), (.ifCond .eq (27), 53, 0, 0, .null), (.iload_n 1, 0, 0, 0, .null), (.i2l, 0, 0, 0, .null), (.iload 5, 0, 0, 0, .null), (.invokestatic 108, 44, 2, 1373, .int 0), (.ifCond .eq (17), 53, 0, 0, .null), (.aload_n 0, 0, 0, 0, .null), (.iload 4, 0, 0, 0, .null), (.iload 5, 0, 0, 0, .null), (.iload_n 3, 0, 0, 0, .null), (.invokevirtual 393, 128, 3, 1606, .int 0), (.ifCond .ne (5), 53, 0, 0, .null), (.iconst (0), 0, 0, 0, .int (0)), (.ireturn, 0, 0, 0, .null)]
def xb_Mo_areAllTrue_53 : List xv_Op := [(.iinc 5 (1), 0, 0, 0, .int (1)), (.goto (-44), 12, 0, 0, .null)]
def xb_Mo_areAllTrue_59 : List xv_Op := [(.iinc 4 (1), 0, 0, 0, .int (1)), (.goto (-59), 3, 0, 0, .null)]
def xb_Mo_areAllTrue_65 : List xv_Op := [(.iconst (1), 0, 0, 0, .int (1)), (.ireturn, 0, 0, 0, .null)]
def xl_Mo_areAllTrue : xv_B := [(0, xb_Mo_areAllTrue_0), (3, xb_Mo_areAllTrue_3), (12, xb_Mo_areAllTrue_12), (53, xb_Mo_areAllTrue_53), (59, xb_Mo_areAllTrue_59), (65, xb_Mo_areAllTrue_65)]
def xm_Mo_areAllTrue : xv_M := (⟨"OnionCourtModel", "areAllTrue", "(III)Z"⟩, prog_14_method_91_code, 6, (some .boolean), (0, 1, 3), [], xl_Mo_areAllTrue)
def xb_Mo_seen_0 : List xv_Op := [(.iload_n 1, 0, 0, 0, .null), (.iconst (1), 0, 0, 0, .int (1)), (.bipush (12), 0, 0, 0, .int (12)), (.invokestatic 112, 40, 3, 1259, .int 0), (.ifCond .eq (32), 39, 0, 0, .null), (.iload_n 2, 0, 0, 0, .null), (.iconst (0), 0, 0, 0, .int (0)), (.bipush (99), 0, 0, 0, .int (99)), (.invokestatic 112, 40, 3, 1259, .int 0), (.ifCond .eq (22), 39, 0, 0, .null), (.iload_n 3, 0, 0, 0, .null), (.iconst (0), 0, 0, 0, .int (0)), (.iconst (1), 0, 0, 0, .int (1)), (.invokestatic 112, 40, 3, 1259, .int 0), (.ifCond .eq (13), 39, 0, 0, .null), (.iconst (2), 0, 0, 0, .int (2)), (.iload_n 1, 0, 0, 0, .null), (.imul, 0, 0, 0, .null), (.aload_n 0, 0, 0, 0, .null), (.getfield 124, 7, 0, 1104, .null), (.if_icmp .le (5), 41, 0, 0, .null), (.nop, 39, 0, 0, .null)]
def xb_Mo_seen_39 : List xv_Op := [(.iconst (-1), 0, 0, 0, .int (-1)), (.ireturn, 0, 0, 0, .null)]
def xb_Mo_seen_41 : List xv_Op := [(.aload_n 0, 0, 0, 0, .null), (.iconst (0), 0, 0, 0, .int (0)), (.putfield 124, 7, 0, 1104, .int 0), (.iconst (0), 0, 0, 0, .int (0)), (.istore 4, 0, 0, 0, .null), (.iconst (1), 0, 0, 0, .int (1)), (.istore 5, 0, 0, 0, .null), (.nop, 52, 0, 0, .null)]
def xb_Mo_seen_52 : List xv_Op := [(.iload 5, 0, 0, 0, .null), (.iconst (1), 0, 0, 0, .int (1)), (.iload_n 1, 0, 0, 0, .null), (.ishl, 0, 0, 0, .null), (.if_icmp .ge (42), 99, 0, 0, .null), (.iload 5, 0, 0, 0, .null), (.i2l, 0, 0, 0, .null), (.invokestatic 278, 45, 1, 1401, .int 0), (.iload 4, 0, 0, 0, .null), (.i2l, 0, 0, 0, .null), (.invokestatic 278, 45, 1, 1401, .int 0), (.if_icmp .le (21), 93, 0, 0, .null), (.aload_n 0, 0, 0, 0, .null), (.iload 5, 0, 0, 0, .null), (.iload_n 1, 0, 0, 0, .null), (.iload_n 2, 0, 0, 0, .null), (.invokevirtual 396, 129, 3, 1602, .int 0), (.ifCond .ne (6), 89, 0, 0, .null), (.goto (7), 93, 0, 0, .null)]
def xb_Mo_seen_89 : List xv_Op := [(.iload 5, 0, 0, 0, .null), (.istore 4, 0, 0, 0, .null), (.nop, 93, 0, 0, .null)]
def xb_Mo_seen_93 : List xv_Op := [(.iinc 5 (1), 0, 0, 0, .int (1)), (.goto (-44), 52, 0, 0, .null)]
def xb_Mo_seen_99 : List xv_Op := [(.iload_n 3, 0, 0, 0, .null), (.iconst (1), 0, 0, 0, .int (1)), (.if_icmp .ne (8), 109, 0, 0, .null), (.iload 4, 0, 0, 0, .null), (.goto (9), 115, 0, 0, .null)]
def xb_Mo_seen_109 : List xv_Op := [(.iload 4, 0, 0, 0, .null), (.i2l, 0, 0, 0, .null), (.invokestatic 278, 45, 1, 1401, .int 0), (.nop, 115, 0, 0, .null)]
def xb_Mo_seen_115 : List xv_Op := [(.ireturn, 0, 0, 0, .null)]
def xl_Mo_seen : xv_B := [(0, xb_Mo_seen_0), (39, xb_Mo_seen_39), (41, xb_Mo_seen_41), (52, xb_Mo_seen_52), (89, xb_Mo_seen_89), (93, xb_Mo_seen_93), (99, xb_Mo_seen_99), (109, xb_Mo_seen_109), (115, xb_Mo_seen_115)]
def xm_Mo_seen : xv_M := (⟨"OnionCourtModel", "seen", "(III)I"⟩, prog_14_method_92_code, 6, (some .int), (0, 1, 3), [], xl_Mo_seen)
def xb_Mo_skinOf_0 : List xv_Op := [(.aload_n 0, 0, 0, 0, .null), (.getfield 26, 6, 0, 1103, .null), (.iload_n 1, 0, 0, 0, .null), (.baload, 0, 0, 0, .null), (.sipush (255), 0, 0, 0, .int (255)), (.iand, 0, 0, 0, .null), (.ireturn, 0, 0, 0, .null)]
def xl_Mo_skinOf : xv_B := [(0, xb_Mo_skinOf_0)]
def xm_Mo_skinOf : xv_M := (⟨"OnionCourtModel", "skinOf", "(I)I"⟩, prog_14_method_93_code, 2, (some .int), (0, 1, 1), [], xl_Mo_skinOf)
def xb_Mo_begunBy_0 : List xv_Op := [(.iconst (0), 0, 0, 0, .int (0)), (.istore_n 2, 0, 0, 0, .null), (.iconst (0), 0, 0, 0, .int (0)), (.istore_n 3, 0, 0, 0, .null), (.nop, 4, 0, 0, .null)]
def xb_Mo_begunBy_4 : List xv_Op := [(.iload_n 3, 0, 0, 0, .null), (.iload_n 1, 0, 0, 0, .null), (.if_icmp .ge (22), 28, 0, 0, .null), (.iload_n 2, 0, 0, 0, .null), (.aload_n 0, 0, 0, 0, .null), (.getfield 93, 46, 0, 1143, .null), (.iload_n 3, 0, 0, 0, .null), (.iaload, 0, 0, 0, .null), (.iconst (1), 0, 0, 0, .int (1)), (.iadd, 0, 0, 0, .null), (.invokestatic 314, 42, 2, 1478, .int 0), (.istore_n 2, 0, 0, 0, .null), (.iinc 3 (1), 0, 0, 0, .int (1)), (.goto (-21), 4, 0, 0, .null)]
def xb_Mo_begunBy_28 : List xv_Op := [(.iload_n 2, 0, 0, 0, .null), (.ireturn, 0, 0, 0, .null)]
def xl_Mo_begunBy : xv_B := [(0, xb_Mo_begunBy_0), (4, xb_Mo_begunBy_4), (28, xb_Mo_begunBy_28)]
def xm_Mo_begunBy : xv_M := (⟨"OnionCourtModel", "begunBy", "(I)I"⟩, prog_14_method_94_code, 4, (some .int), (0, 1, 1), [], xl_Mo_begunBy)
def xb_Mo_laysBoxes_0 : List xv_Op := [(.iconst (0), 0, 0, 0, .int (0)), (.istore 4, 0, 0, 0, .null), (.nop, 3, 0, 0, .null)]
def xb_Mo_laysBoxes_3 : List xv_Op := [(.iload 4, 0, 0, 0, .null), (.iload_n 2, 0, 0, 0, .null), (.if_icmp .gt (17), 23, 0, 0, .null), (.aload_n 0, 0, 0, 0, .null), (.getfield 96, 47, 0, 1144, .null), (.iload 4, 0, 0, 0, .null), (.iconst (0), 0, 0, 0, .int (0)), (.iastore, 0, 0, 0, .null), (.iinc 4 (1), 0, 0, 0, .int (1)), (.goto (-17), 3, 0, 0, .null)]
def xb_Mo_laysBoxes_23 : List xv_Op := [(.iconst (0), 0, 0, 0, .int (0)), (.istore 4, 0, 0, 0, .null), (.iconst (0), 0, 0, 0, .int (0)), (.istore 5, 0, 0, 0, .null), (.nop, 29, 0, 0, .null)]
def xb_Mo_laysBoxes_29 : List xv_Op := [(.iload 4, 0, 0, 0, .null), (.iload_n 1, 0, 0, 0, .null), (.if_icmp .ge (162), 194, 0, 0, .null), (.iload_n 2, 0, 0, 0, .null), (.iconst (1), 0, 0, 0, .int (1)), (.isub, 0, 0, 0, .null), (.aload_n 0, 0, 0, 0, .null), (.iload 4, 0, 0, 0, .null), (.invokevirtual 399, 132, 1, 1625, .int 0), (.invokestatic 311, 41, 2, 1475, .int 0), (.istore 6, 0, 0, 0, .null), (.iload 5, 0, 0, 0, .null), (.istore 7, 0, 0, 0, .null), (.nop, 53, 0, 0, .null)]
def xb_Mo_laysBoxes_53 : List xv_Op := [(.iload 7, 0, 0, 0, .null), (.iload 6, 0, 0, 0, .null), (.if_icmp .gt (30), 87, 0, 0, .null), (.aload_n 0, 0, 0, 0, .null), (.getfield 96, 47, 0, 1144, .null), (.iload 7, 0, 0, 0, .null), (.iaload, 0, 0, 0, .null), (.aload_n 0, 0, 0, 0, .null), (.iload 4, 0, 0, 0, .null), (.invokevirtual 402, 131, 1, 1617, .int 0), (.iadd, 0, 0, 0, .null), (.iload_n 3, 0, 0, 0, .null), (.if_icmp .le (12), 87, 0, 0, .null), (.iload 7, 0, 0, 0, .null), (.iconst (1), 0, 0, 0, .int (1)), (.iadd, 0, 0, 0, .null), (.istore 7, 0, 0, 0, .null), (.goto (-31), 53, 0, 0, .null)]
def xb_Mo_laysBoxes_87 : List xv_Op := [(.iload 7, 0, 0, 0, .null), (.iload 6, 0, 0, 0, .null), (.if_icmp .gt (45), 136, 0, 0, .null), (.aload_n 0, 0, 0, 0, .null), (.getfield 93, 46, 0, 1143, .null), (.iload 4, 0, 0, 0, .null), (.iload 7, 0, 0, 0, .null), (.iastore, 0, 0, 0, .null), (.aload_n 0, 0, 0, 0, .null), (.getfield 96, 47, 0, 1144, .null), (.iload 7, 0, 0, 0, .null), (.aload_n 0, 0, 0, 0, .null), (.getfield 96, 47, 0, 1144, .null), (.iload 7, 0, 0, 0, .null), (.iaload, 0, 0, 0, .null), (.aload_n 0, 0, 0, 0, .null), (.iload 4, 0, 0, 0, .null), (.invokevirtual 402, 131, 1, 1617, .int 0), (.iadd, 0, 0, 0, .null), (.iastore, 0, 0, 0, .null), (.iload 4, 0, 0, 0, .null), (.iconst (1), 0, 0, 0, .int (1)), (.iadd, 0, 0, 0, .null), (.istore 4, 0, 0, 0, .null), (.iconst (0), 0, 0, 0, .int (0)), (.istore 5, 0, 0, 0, .null), (.goto (-104), 29, 0, 0, .null)]
def xb_Mo_laysBoxes_136 : List xv_Op := [(.iload 4, 0, 0, 0, .null), (.ifCond .ne (5), 143, 0, 0, .null), (.iconst (0), 0, 0, 0, .int (0)), (.ireturn, 0, 0, 0, .null)]
def xb_Mo_laysBoxes_143 : List xv_Op := [(.iload 4, 0, 0, 0, .null), (.iconst (1), 0, 0, 0, .int (1)), (.isub, 0, 0, 0, .null), (.istore 4, 0, 0, 0, .null), (.aload_n 0, 0, 0, 0, .null), (.getfield 96, 47, 0, 1144, .null), (.aload_n 0, 0, 0, 0, .null), (.getfield 93, 46, 0, 1143, .null), (.iload 4, 0, 0, 0, .null), (.iaload, 0, 0, 0, .null), (.aload_n 0, 0, 0, 0, .null), (.getfield 96, 47, 0, 1144, .null), (.aload_n 0, 0, 0, 0, .null), (.getfield 93, 46, 0, 1143, .null), (.iload 4, 0, 0, 0, .null), (.iaload, 0, 0, 0, .null), (.iaload, 0, 0, 0, .null), (.aload_n 0, 0, 0, 0, .null), (.iload 4, 0, 0, 0, .null), (.invokevirtual 402, 131, 1, 1617, .int 0), (.isub, 0, 0, 0, .null), (.iastore, 0, 0, 0, .null), (.aload_n 0, 0, 0, 0, .null), (.getfield 93, 46, 0, 1143, .null), (.iload 4, 0, 0, 0, .null), (.iaload, 0, 0, 0, .null), (.iconst (1), 0, 0, 0, .int (1)), (.iadd, 0, 0, 0, .null), (.istore 5, 0, 0, 0, .null), (.goto (-162), 29, 0, 0, .null)]
def xb_Mo_laysBoxes_194 : List xv_Op := [(.iconst (1), 0, 0, 0, .int (1)), (.ireturn, 0, 0, 0, .null)]
def xl_Mo_laysBoxes : xv_B := [(0, xb_Mo_laysBoxes_0), (3, xb_Mo_laysBoxes_3), (23, xb_Mo_laysBoxes_23), (29, xb_Mo_laysBoxes_29), (53, xb_Mo_laysBoxes_53), (87, xb_Mo_laysBoxes_87), (136, xb_Mo_laysBoxes_136), (143, xb_Mo_laysBoxes_143), (194, xb_Mo_laysBoxes_194)]
def xm_Mo_laysBoxes : xv_M := (⟨"OnionCourtModel", "laysBoxes", "(III)Z"⟩, prog_14_method_95_code, 8, (some .boolean), (0, 1, 3), [], xl_Mo_laysBoxes)
def xb_Mo_skins_0 : List xv_Op := [(.iload_n 1, 0, 0, 0, .null), (.iconst (1), 0, 0, 0, .int (1)), (.bipush (10), 0, 0, 0, .int (10)), (.invokestatic 112, 40, 3, 1259, .int 0), (.ifCond .eq (22), 29, 0, 0, .null), (.iload_n 2, 0, 0, 0, .null), (.iconst (1), 0, 0, 0, .int (1)), (.sipush (255), 0, 0, 0, .int (255)), (.invokestatic 112, 40, 3, 1259, .int 0), (.ifCond .eq (11), 29, 0, 0, .null), (.iload_n 1, 0, 0, 0, .null), (.aload_n 0, 0, 0, 0, .null), (.getfield 124, 7, 0, 1104, .null), (.if_icmp .le (5), 31, 0, 0, .null), (.nop, 29, 0, 0, .null)]
def xb_Mo_skins_29 : List xv_Op := [(.iconst (-1), 0, 0, 0, .int (-1)), (.ireturn, 0, 0, 0, .null)]
def xb_Mo_skins_31 : List xv_Op := [(.aload_n 0, 0, 0, 0, .null), (.iconst (0), 0, 0, 0, .int (0)), (.putfield 124, 7, 0, 1104, .int 0), (.iconst (0), 0, 0, 0, .int (0)), (.istore 4, 0, 0, 0, .null), (.nop, 39, 0, 0, .null)]
def xb_Mo_skins_39 : List xv_Op := [(.iload 4, 0, 0, 0, .null), (.iload_n 1, 0, 0, 0, .null), (.if_icmp .ge (31), 73, 0, 0, .null), (.aload_n 0, 0, 0, 0, .null), (.iload 4, 0, 0, 0, .null), (.invokevirtual 402, 131, 1, 1617, .int 0), (.iconst (1), 0, 0, 0, .int (1)), (.bipush (99), 0, 0, 0, .int (99)), (.iload_n 2, 0, 0, 0, .null), (.invokestatic 311, 41, 2, 1475, .int 0), (.invokestatic 112, 40, 3, 1259, .int 0), (.ifCond .ne (6), 67, 0, 0, .null), (.bipush (-2), 0, 0, 0, .int (-2)), (.ireturn, 0, 0, 0, .null)]
def xb_Mo_skins_67 : List xv_Op := [(.iinc 4 (1), 0, 0, 0, .int (1)), (.goto (-31), 39, 0, 0, .null)]
def xb_Mo_skins_73 : List xv_Op := [(.iload_n 3, 0, 0, 0, .null), (.bipush (20), 0, 0, 0, .int (20)), (.if_icmp .eq (17), 93, 0, 0, .null), (.iload_n 3, 0, 0, 0, .null), (.iconst (0), 0, 0, 0, .int (0)), (.iload_n 1, 0, 0, 0, .null), (.iconst (1), 0, 0, 0, .int (1)), (.isub, 0, 0, 0, .null), (.invokestatic 112, 40, 3, 1259, .int 0), (.ifCond .ne (6), 93, 0, 0, .null), (.bipush (-4), 0, 0, 0, .int (-4)), (.ireturn, 0, 0, 0, .null)]
def xb_Mo_skins_93 : List xv_Op := [(.iconst (1), 0, 0, 0, .int (1)), (.istore 4, 0, 0, 0, .null), (.nop, 96, 0, 0, .null)]
def xb_Mo_skins_96 : List xv_Op := [(.aload_n 0, 0, 0, 0, .null), (.iload_n 1, 0, 0, 0, .null), (.iload 4, 0, 0, 0, .null), (.iload_n 2, 0, 0, 0, .null), (.invokevirtual 405, 133, 3, 1621, .int 0), (.ifCond .ne (12), 116, 0, 0, .null), (.iload 4, 0, 0, 0, .null), (.iconst (1), 0, 0, 0, .int (1)), (.iadd, 0, 0, 0, .null), (.istore 4, 0, 0, 0, .null), (.goto (-17), 96, 0, 0, .null)]
def xb_Mo_skins_116 : List xv_Op := [(.iload_n 3, 0, 0, 0, .null), (.bipush (20), 0, 0, 0, .int (20)), (.if_icmp .ne (8), 127, 0, 0, .null), (.iload 4, 0, 0, 0, .null), (.goto (9), 133, 0, 0, .null)]
def xb_Mo_skins_127 : List xv_Op := [(.aload_n 0, 0, 0, 0, .null), (.getfield 93, 46, 0, 1143, .null), (.iload_n 3, 0, 0, 0, .null), (.iaload, 0, 0, 0, .null), (.nop, 133, 0, 0, .null)]
def xb_Mo_skins_133 : List xv_Op := [(.ireturn, 0, 0, 0, .null)]
def xl_Mo_skins : xv_B := [(0, xb_Mo_skins_0), (29, xb_Mo_skins_29), (31, xb_Mo_skins_31), (39, xb_Mo_skins_39), (67, xb_Mo_skins_67), (73, xb_Mo_skins_73), (93, xb_Mo_skins_93), (96, xb_Mo_skins_96), (116, xb_Mo_skins_116), (127, xb_Mo_skins_127), (133, xb_Mo_skins_133)]
def xm_Mo_skins : xv_M := (⟨"OnionCourtModel", "skins", "(III)I"⟩, prog_14_method_96_code, 5, (some .int), (0, 1, 3), [], xl_Mo_skins)
def xb_Mo_readsRow_0 : List xv_Op := [(.iload_n 1, 0, 0, 0, .null), (.istore_n 3, 0, 0, 0, .null), (.iconst (0), 0, 0, 0, .int (0)), (.istore 4, 0, 0, 0, .null), (.iload_n 2, 0, 0, 0, .null), (.iconst (1), 0, 0, 0, .int (1)), (.isub, 0, 0, 0, .null), (.istore 5, 0, 0, 0, .null), (.nop, 10, 0, 0, .null)]
def xb_Mo_readsRow_10 : List xv_Op := [(.iload 5, 0, 0, 0, .null), (.ifCond .lt (55), 67, 0, 0, .null), (.aload_n 0, 0, 0, 0, .null), (.getfield 102, 49, 0, 1146, .null), (.iload 5, 0, 0, 0, .null), (.iload_n 3, 0, 0, 0, .null), (.iload_n 2, 0, 0, 0, .null), (.irem, 0, 0, 0, .null), (.iastore, 0, 0, 0, .null), (.iload_n 3, 0, 0, 0, .null), (.iload_n 2, 0, 0, 0, .null), (.idiv, 0, 0, 0, .null), (.istore_n 3, 0, 0, 0, .null), (.iload 4, 0, 0, 0, .null), (.i2l, 0, 0, 0, .null), (.aload_n 0, 0, 0, 0, .null), (.getfield 102, 49, 0, 1146, .null), (.iload 5, 0, 0, 0, .null), (.iaload, 0, 0, 0, .null), (.invokestatic 108, 44, 2, 1373, .int 0), (.ifCond .eq (5), 47, 0, 0, .null), (.iconst (0), 0, 0, 0, .int (0)), (.ireturn, 0, 0, 0, .null)]
def xb_Mo_readsRow_47 : List xv_Op := [(.iload 4, 0, 0, 0, .null), (.iconst (1), 0, 0, 0, .int (1)), (.aload_n 0, 0, 0, 0, .null), (.getfield 102, 49, 0, 1146, .null), (.iload 5, 0, 0, 0, .null), (.iaload, 0, 0, 0, .null), (.ishl, 0, 0, 0, .null), (.ior, 0, 0, 0, .null), (.istore 4, 0, 0, 0, .null), (.iinc 5 (-1), 0, 0, 0, .int (-1)), (.goto (-54), 10, 0, 0, .null)]
def xb_Mo_readsRow_67 : List xv_Op := [(.iconst (1), 0, 0, 0, .int (1)), (.ireturn, 0, 0, 0, .null)]
def xl_Mo_readsRow : xv_B := [(0, xb_Mo_readsRow_0), (10, xb_Mo_readsRow_10), (47, xb_Mo_readsRow_47), (67, xb_Mo_readsRow_67)]
def xm_Mo_readsRow : xv_M := (⟨"OnionCourtModel", "readsRow", "(II)Z"⟩, prog_14_method_97_code, 6, (some .boolean), (0, 1, 2), [], xl_Mo_readsRow)
def xb_Mo_worthOfRow_0 : List xv_Op := [(.iconst (0), 0, 0, 0, .int (0)), (.istore_n 2, 0, 0, 0, .null), (.iconst (0), 0, 0, 0, .int (0)), (.istore_n 3, 0, 0, 0, .null), (.nop, 4, 0, 0, .null)]
def xb_Mo_worthOfRow_4 : List xv_Op := [(.iload_n 3, 0, 0, 0, .null), (.iload_n 1, 0, 0, 0, .null), (.if_icmp .ge (43), 49, 0, 0, .null), (.iload_n 2, 0, 0, 0, .null), (.aload_n 0, 0, 0, 0, .null), (.getfield 7, 0, 0, 1097, .null), (.sipush (130), 0, 0, 0, .int (130)), (.aload_n 0, 0, 0, 0, .null), (.getfield 99, 48, 0, 1145, .null), (.iload_n 3, 0, 0, 0, .null), (.iaload, 0, 0, 0, .null), (.iadd, 0, 0, 0, .null), (.iaload, 0, 0, 0, .null), (.aload_n 0, 0, 0, 0, .null), (.aload_n 0, 0, 0, 0, .null), (.getfield 99, 48, 0, 1145, .null), (.aload_n 0, 0, 0, 0, .null), (.getfield 102, 49, 0, 1146, .null), (.iload_n 3, 0, 0, 0, .null), (.iaload, 0, 0, 0, .null), (.iaload, 0, 0, 0, .null), (.invokevirtual 340, 51, 1, 1493, .int 0), (.imul, 0, 0, 0, .null), (.iadd, 0, 0, 0, .null), (.istore_n 2, 0, 0, 0, .null), (.iinc 3 (1), 0, 0, 0, .int (1)), (.goto (-42), 4, 0, 0, .null)]
def xb_Mo_worthOfRow_49 : List xv_Op := [(.iload_n 2, 0, 0, 0, .null), (.ireturn, 0, 0, 0, .null)]
def xl_Mo_worthOfRow : xv_B := [(0, xb_Mo_worthOfRow_0), (4, xb_Mo_worthOfRow_4), (49, xb_Mo_worthOfRow_49)]
def xm_Mo_worthOfRow : xv_M := (⟨"OnionCourtModel", "worthOfRow", "(I)I"⟩, prog_14_method_98_code, 4, (some .int), (0, 1, 1), [], xl_Mo_worthOfRow)
def xb_Mo_onionsFor_0 : List xv_Op := [(.iload_n 1, 0, 0, 0, .null), (.iconst (1), 0, 0, 0, .int (1)), (.sipush (1023), 0, 0, 0, .int (1023)), (.invokestatic 112, 40, 3, 1259, .int 0), (.ifCond .eq (31), 39, 0, 0, .null), (.iload_n 1, 0, 0, 0, .null), (.aload_n 0, 0, 0, 0, .null), (.getfield 7, 0, 0, 1097, .null), (.sipush (300), 0, 0, 0, .int (300)), (.iaload, 0, 0, 0, .null), (.iconst (-1), 0, 0, 0, .int (-1)), (.ixor, 0, 0, 0, .null), (.iand, 0, 0, 0, .null), (.ifCond .ne (16), 39, 0, 0, .null), (.iload_n 1, 0, 0, 0, .null), (.i2l, 0, 0, 0, .null), (.invokestatic 278, 45, 1, 1401, .int 0), (.iconst (2), 0, 0, 0, .int (2)), (.iconst (5), 0, 0, 0, .int (5)), (.invokestatic 112, 40, 3, 1259, .int 0), (.ifCond .ne (5), 41, 0, 0, .null), (.nop, 39, 0, 0, .null)]
def xb_Mo_onionsFor_39 : List xv_Op := [(.iconst (-1), 0, 0, 0, .int (-1)), (.ireturn, 0, 0, 0, .null)]
def xb_Mo_onionsFor_41 : List xv_Op := [(.iload_n 2, 0, 0, 0, .null), (.bipush (20), 0, 0, 0, .int (20)), (.if_icmp .eq (24), 68, 0, 0, .null), (.iload_n 2, 0, 0, 0, .null), (.iconst (0), 0, 0, 0, .int (0)), (.bipush (9), 0, 0, 0, .int (9)), (.invokestatic 112, 40, 3, 1259, .int 0), (.ifCond .eq (12), 66, 0, 0, .null), (.iload_n 1, 0, 0, 0, .null), (.i2l, 0, 0, 0, .null), (.iload_n 2, 0, 0, 0, .null), (.invokestatic 108, 44, 2, 1373, .int 0), (.ifCond .ne (5), 68, 0, 0, .null), (.nop, 66, 0, 0, .null)]
def xb_Mo_onionsFor_66 : List xv_Op := [(.iconst (-1), 0, 0, 0, .int (-1)), (.ireturn, 0, 0, 0, .null)]
def xb_Mo_onionsFor_68 : List xv_Op := [(.iconst (0), 0, 0, 0, .int (0)), (.istore_n 3, 0, 0, 0, .null), (.iconst (0), 0, 0, 0, .int (0)), (.istore 4, 0, 0, 0, .null), (.iconst (1), 0, 0, 0, .int (1)), (.istore 5, 0, 0, 0, .null), (.iconst (0), 0, 0, 0, .int (0)), (.istore 6, 0, 0, 0, .null), (.nop, 79, 0, 0, .null)]
def xb_Mo_onionsFor_79 : List xv_Op := [(.iload 6, 0, 0, 0, .null), (.bipush (10), 0, 0, 0, .int (10)), (.if_icmp .ge (43), 126, 0, 0, .null), (.iload_n 1, 0, 0, 0, .null), (.i2l, 0, 0, 0, .null), (.iload 6, 0, 0, 0, .null), (.invokestatic 108, 44, 2, 1373, .int 0), (.ifCond .ne (6), 99, 0, 0, .null), (.goto (24), 120, 0, 0, .null)]
def xb_Mo_onionsFor_99 : List xv_Op := [(.iload 6, 0, 0, 0, .null), (.iload_n 2, 0, 0, 0, .null), (.if_icmp .ne (6), 108, 0, 0, .null), (.iload_n 3, 0, 0, 0, .null), (.istore 4, 0, 0, 0, .null), (.nop, 108, 0, 0, .null)]
def xb_Mo_onionsFor_108 : List xv_Op := [(.aload_n 0, 0, 0, 0, .null), (.getfield 99, 48, 0, 1145, .null), (.iload_n 3, 0, 0, 0, .null), (.iload 6, 0, 0, 0, .null), (.iastore, 0, 0, 0, .null), (.iload_n 3, 0, 0, 0, .null), (.iconst (1), 0, 0, 0, .int (1)), (.iadd, 0, 0, 0, .null), (.istore_n 3, 0, 0, 0, .null), (.nop, 120, 0, 0, .null)]
def xb_Mo_onionsFor_120 : List xv_Op := [(.iinc 6 (1), 0, 0, 0, .int (1)), (.goto (-44), 79, 0, 0, .null)]
def xb_Mo_onionsFor_126 : List xv_Op := [(.iconst (0), 0, 0, 0, .int (0)), (.istore 6, 0, 0, 0, .null), (.nop, 129, 0, 0, .null)]
def xb_Mo_onionsFor_129 : List xv_Op := [(.iload 6, 0, 0, 0, .null), (.iload_n 3, 0, 0, 0, .null), (.if_icmp .ge (15), 147, 0, 0, .null), (.iload 5, 0, 0, 0, .null), (.iload_n 3, 0, 0, 0, .null), (.imul, 0, 0, 0, .null), (.istore 5, 0, 0, 0, .null), (.iinc 6 (1), 0, 0, 0, .int (1)), (.goto (-15), 129, 0, 0, .null)]
def xb_Mo_onionsFor_147 : List xv_Op := [(.iconst (-1), 0, 0, 0, .int (-1)), (.istore 6, 0, 0, 0, .null), (.iconst (0), 0, 0, 0, .int (0)), (.istore 7, 0, 0, 0, .null), (.nop, 153, 0, 0, .null)]
def xb_Mo_onionsFor_153 : List xv_Op := [(.iload 7, 0, 0, 0, .null), (.iload 5, 0, 0, 0, .null), (.if_icmp .ge (73), 230, 0, 0, .null), (.aload_n 0, 0, 0, 0, .null), (.iload 7, 0, 0, 0, .null), (.iload_n 3, 0, 0, 0, .null), (.invokevirtual 408, 135, 2, 1633, .int 0), (.ifCond .eq (57), 224, 0, 0, .null), (.aload_n 0, 0, 0, 0, .null), (.iload_n 3, 0, 0, 0, .null), (.invokevirtual 411, 136, 1, 1637, .int 0), (.iload 6, 0, 0, 0, .null), (.if_icmp .gt (6), 183, 0, 0, .null), (.goto (44), 224, 0, 0, .null)]
def xb_Mo_onionsFor_183 : List xv_Op := [(.aload_n 0, 0, 0, 0, .null), (.iload_n 3, 0, 0, 0, .null), (.invokevirtual 411, 136, 1, 1637, .int 0), (.istore 6, 0, 0, 0, .null), (.iconst (0), 0, 0, 0, .int (0)), (.istore 8, 0, 0, 0, .null), (.nop, 193, 0, 0, .null)]
def xb_Mo_onionsFor_193 : List xv_Op := [(.iload 8, 0, 0, 0, .null), (.iload_n 3, 0, 0, 0, .null), (.if_icmp .ge (28), 224, 0, 0, .null), (.aload_n 0, 0, 0, 0, .null), (.getfield 105, 50, 0, 1147, .null), (.iload 8, 0, 0, 0, .null), (.aload_n 0, 0, 0, 0, .null), (.getfield 99, 48, 0, 1145, .null), (.aload_n 0, 0, 0, 0, .null), (.getfield 102, 49, 0, 1146, .null), (.iload 8, 0, 0, 0, .null), (.iaload, 0, 0, 0, .null), (.iaload, 0, 0, 0, .null), (.iastore, 0, 0, 0, .null), (.iinc 8 (1), 0, 0, 0, .int (1)), (.goto (-28), 193, 0, 0, .null)]
def xb_Mo_onionsFor_224 : List xv_Op := [(.iinc 7 (1), 0, 0, 0, .int (1)), (.goto (-74), 153, 0, 0, .null)]
def xb_Mo_onionsFor_230 : List xv_Op := [(.iload_n 2, 0, 0, 0, .null), (.bipush (20), 0, 0, 0, .int (20)), (.if_icmp .ne (8), 241, 0, 0, .null), (.iload 6, 0, 0, 0, .null), (.goto (10), 248, 0, 0, .null)]
def xb_Mo_onionsFor_241 : List xv_Op := [(.aload_n 0, 0, 0, 0, .null), (.getfield 105, 50, 0, 1147, .null), (.iload 4, 0, 0, 0, .null), (.iaload, 0, 0, 0, .null), (.nop, 248, 0, 0, .null)]
def xb_Mo_onionsFor_248 : List xv_Op := [(.ireturn, 0, 0, 0, .null)]
def xl_Mo_onionsFor : xv_B := [(0, xb_Mo_onionsFor_0), (39, xb_Mo_onionsFor_39), (41, xb_Mo_onionsFor_41), (66, xb_Mo_onionsFor_66), (68, xb_Mo_onionsFor_68), (79, xb_Mo_onionsFor_79), (99, xb_Mo_onionsFor_99), (108, xb_Mo_onionsFor_108), (120, xb_Mo_onionsFor_120), (126, xb_Mo_onionsFor_126), (129, xb_Mo_onionsFor_129), (147, xb_Mo_onionsFor_147), (153, xb_Mo_onionsFor_153), (183, xb_Mo_onionsFor_183), (193, xb_Mo_onionsFor_193), (224, xb_Mo_onionsFor_224), (230, xb_Mo_onionsFor_230), (241, xb_Mo_onionsFor_241), (248, xb_Mo_onionsFor_248)]
def xm_Mo_onionsFor : xv_M := (⟨"OnionCourtModel", "onionsFor", "(II)I"⟩, prog_14_method_99_code, 9, (some .int), (0, 1, 2), [], xl_Mo_onionsFor)
def xb_Mo_peeled_0 : List xv_Op := [(.aload_n 0, 0, 0, 0, .null), (.iload_n 1, 0, 0, 0, .null), (.invokevirtual 285, 47, 1, 1408, .int 0), (.ifCond .eq (13), 18, 0, 0, .null), (.iload_n 2, 0, 0, 0, .null), (.iconst (1), 0, 0, 0, .int (1)), (.bipush (12), 0, 0, 0, .int (12)), (.invokestatic 112, 40, 3, 1259, .int 0), (.ifCond .ne (5), 20, 0, 0, .null), (.nop, 18, 0, 0, .null)]
def xb_Mo_peeled_18 : List xv_Op := [(.iconst (-1), 0, 0, 0, .int (-1)), (.ireturn, 0, 0, 0, .null)]
def xb_Mo_peeled_20 : List xv_Op := [(.iload_n 2, 0, 0, 0, .null), (.aload_n 0, 0, 0, 0, .null), (.getfield 7, 0, 0, 1097, .null), (.bipush (120), 0, 0, 0, .int (120)), (.iload_n 1, 0, 0, 0, .null), (.iadd, 0, 0, 0, .null), (.iaload, 0, 0, 0, .null), (.if_icmp .le (6), 36, 0, 0, .null), (.bipush (-2), 0, 0, 0, .int (-2)), (.ireturn, 0, 0, 0, .null)]
def xb_Mo_peeled_36 : List xv_Op := [(.iconst (0), 0, 0, 0, .int (0)), (.istore_n 3, 0, 0, 0, .null), (.iconst (0), 0, 0, 0, .int (0)), (.istore 4, 0, 0, 0, .null), (.nop, 41, 0, 0, .null)]
def xb_Mo_peeled_41 : List xv_Op := [(.iload 4, 0, 0, 0, .null), (.iload_n 2, 0, 0, 0, .null), (.if_icmp .ge (19), 63, 0, 0, .null), (.iload_n 3, 0, 0, 0, .null), (.aload_n 0, 0, 0, 0, .null), (.iload_n 1, 0, 0, 0, .null), (.iload 4, 0, 0, 0, .null), (.invokevirtual 120, 50, 2, 1432, .int 0), (.iadd, 0, 0, 0, .null), (.istore_n 3, 0, 0, 0, .null), (.iinc 4 (1), 0, 0, 0, .int (1)), (.goto (-19), 41, 0, 0, .null)]
def xb_Mo_peeled_63 : List xv_Op := [(.iload_n 3, 0, 0, 0, .null), (.ireturn, 0, 0, 0, .null)]
def xl_Mo_peeled : xv_B := [(0, xb_Mo_peeled_0), (18, xb_Mo_peeled_18), (20, xb_Mo_peeled_20), (36, xb_Mo_peeled_36), (41, xb_Mo_peeled_41), (63, xb_Mo_peeled_63)]
def xm_Mo_peeled : xv_M := (⟨"OnionCourtModel", "peeled", "(II)I"⟩, prog_14_method_100_code, 5, (some .int), (0, 1, 2), [], xl_Mo_peeled)
def xb_Mo_seed_0 : List xv_Op := [(.iload_n 1, 0, 0, 0, .null), (.iconst (0), 0, 0, 0, .int (0)), (.ldc_w 414, 0, 0, 1649, .int (65535)), (.invokestatic 112, 40, 3, 1259, .int 0), (.ifCond .ne (5), 13, 0, 0, .null), (.iconst (0), 0, 0, 0, .int (0)), (.ireturn, 0, 0, 0, .null)]
def xb_Mo_seed_13 : List xv_Op := [(.aload_n 0, 0, 0, 0, .null), (.getfield 7, 0, 0, 1097, .null), (.sipush (303), 0, 0, 0, .int (303)), (.iload_n 1, 0, 0, 0, .null), (.iastore, 0, 0, 0, .null), (.iconst (1), 0, 0, 0, .int (1)), (.ireturn, 0, 0, 0, .null)]
def xl_Mo_seed : xv_B := [(0, xb_Mo_seed_0), (13, xb_Mo_seed_13)]
def xm_Mo_seed : xv_M := (⟨"OnionCourtModel", "seed", "(I)Z"⟩, prog_14_method_101_code, 2, (some .boolean), (0, 1, 1), [], xl_Mo_seed)
def xb_Mo_keep_0 : List xv_Op := [(.aload_n 0, 0, 0, 0, .null), (.iconst (1), 0, 0, 0, .int (1)), (.putfield 415, 51, 0, 1148, .int 2), (.aload_n 0, 0, 0, 0, .null), (.getfield 7, 0, 0, 1097, .null), (.aload_n 0, 0, 0, 0, .null), (.getfield 16, 2, 0, 1099, .null), (.invokestatic 336, 46, 2, 1490, .int 0), (.aload_n 0, 0, 0, 0, .null), (.getfield 7, 0, 0, 1097, .null), (.sipush (301), 0, 0, 0, .int (301)), (.iaload, 0, 0, 0, .null), (.ireturn, 0, 0, 0, .null)]
def xl_Mo_keep : xv_B := [(0, xb_Mo_keep_0)]
def xm_Mo_keep : xv_M := (⟨"OnionCourtModel", "keep", "()I"⟩, prog_14_method_102_code, 1, (some .int), (0, 1, 0), [], xl_Mo_keep)
def xb_Mo_undo_0 : List xv_Op := [(.aload_n 0, 0, 0, 0, .null), (.getfield 415, 51, 0, 1148, .null), (.ifCond .ne (5), 9, 0, 0, .null), (.iconst (0), 0, 0, 0, .int (0)), (.ireturn, 0, 0, 0, .null)]
def xb_Mo_undo_9 : List xv_Op := [(.aload_n 0, 0, 0, 0, .null), (.getfield 16, 2, 0, 1099, .null), (.aload_n 0, 0, 0, 0, .null), (.getfield 7, 0, 0, 1097, .null), (.invokestatic 336, 46, 2, 1490, .int 0), (.iconst (1), 0, 0, 0, .int (1)), (.ireturn, 0, 0, 0, .null)]
def xl_Mo_undo : xv_B := [(0, xb_Mo_undo_0), (9, xb_Mo_undo_9)]
def xm_Mo_undo : xv_M := (⟨"OnionCourtModel", "undo", "()Z"⟩, prog_14_method_103_code, 1, (some .boolean), (0, 1, 0), [], xl_Mo_undo)
def xb_Mo_check_0 : List xv_Op := [(.aload_n 0, 0, 0, 0, .null), (.iload_n 1, 0, 0, 0, .null), (.invokevirtual 285, 47, 1, 1408, .int 0), (.ifCond .eq (21), 26, 0, 0, .null), (.iload_n 2, 0, 0, 0, .null), (.iconst (0), 0, 0, 0, .int (0)), (.bipush (12), 0, 0, 0, .int (12)), (.invokestatic 112, 40, 3, 1259, .int 0), (.ifCond .eq (11), 26, 0, 0, .null), (.iload_n 2, 0, 0, 0, .null), (.aload_n 0, 0, 0, 0, .null), (.getfield 124, 7, 0, 1104, .null), (.if_icmp .le (6), 29, 0, 0, .null), (.nop, 26, 0, 0, .null)]
def xb_Mo_check_26 : List xv_Op := [(.bipush (-2), 0, 0, 0, .int (-2)), (.ireturn, 0, 0, 0, .null)]
def xb_Mo_check_29 : List xv_Op := [(.aload_n 0, 0, 0, 0, .null), (.iconst (0), 0, 0, 0, .int (0)), (.putfield 124, 7, 0, 1104, .int 0), (.iconst (0), 0, 0, 0, .int (0)), (.istore_n 3, 0, 0, 0, .null), (.nop, 36, 0, 0, .null)]
def xb_Mo_check_36 : List xv_Op := [(.iload_n 3, 0, 0, 0, .null), (.iload_n 2, 0, 0, 0, .null), (.if_icmp .ge (47), 85, 0, 0, .null), (.aload_n 0, 0, 0, 0, .null), (.getfield 26, 6, 0, 1103, .null), (.iload_n 3, 0, 0, 0, .null), (.baload, 0, 0, 0, .null), (.sipush (255), 0, 0, 0, .int (255)), (.iand, 0, 0, 0, .null), (.iload_n 3, 0, 0, 0, .null), (.aload_n 0, 0, 0, 0, .null), (.getfield 7, 0, 0, 1097, .null), (.bipush (120), 0, 0, 0, .int (120)), (.iload_n 1, 0, 0, 0, .null), (.iadd, 0, 0, 0, .null), (.iaload, 0, 0, 0, .null), (.if_icmp .ge (12), 73, 0, 0, .null), (.aload_n 0, 0, 0, 0, .null), (.iload_n 1, 0, 0, 0, .null), (.iload_n 3, 0, 0, 0, .null), (.invokevirtual 120, 50, 2, 1432, .int 0), (.goto (4), 74, 0, 0, .null)]
def xb_Mo_check_73 : List xv_Op := [(.iconst (0), 0, 0, 0, .int (0)), (.nop, 74, 0, 0, .null)]
def xb_Mo_check_74 : List xv_Op := [(.if_icmp .eq (5), 79, 0, 0, .null), (.iload_n 3, 0, 0, 0, .null), (.ireturn, 0, 0, 0, .null)]
def xb_Mo_check_79 : List xv_Op := [(.iinc 3 (1), 0, 0, 0, .int (1)), (.goto (-46), 36, 0, 0, .null)]
def xb_Mo_check_85 : List xv_Op := [(.iconst (-1), 0, 0, 0, .int (-1)), (.ireturn, 0, 0, 0, .null)]
def xl_Mo_check : xv_B := [(0, xb_Mo_check_0), (26, xb_Mo_check_26), (29, xb_Mo_check_29), (36, xb_Mo_check_36), (73, xb_Mo_check_73), (74, xb_Mo_check_74), (79, xb_Mo_check_79), (85, xb_Mo_check_85)]
def xm_Mo_check : xv_M := (⟨"OnionCourtModel", "check", "(II)I"⟩, prog_14_method_104_code, 4, (some .int), (0, 1, 2), [], xl_Mo_check)
def xb_Mo_count_0 : List xv_Op := [(.iload_n 1, 0, 0, 0, .null), (.tableswitch (94) (0) (6) #[43, 52, 61, 70, 75, 80, 85], 1, 0, 0, .null)]
def xb_Mo_count_44 : List xv_Op := [(.aload_n 0, 0, 0, 0, .null), (.getfield 7, 0, 0, 1097, .null), (.sipush (302), 0, 0, 0, .int (302)), (.iaload, 0, 0, 0, .null), (.ireturn, 0, 0, 0, .null)]
def xb_Mo_count_53 : List xv_Op := [(.aload_n 0, 0, 0, 0, .null), (.getfield 7, 0, 0, 1097, .null), (.sipush (301), 0, 0, 0, .int (301)), (.iaload, 0, 0, 0, .null), (.ireturn, 0, 0, 0, .null)]
def xb_Mo_count_62 : List xv_Op := [(.aload_n 0, 0, 0, 0, .null), (.getfield 7, 0, 0, 1097, .null), (.sipush (300), 0, 0, 0, .int (300)), (.iaload, 0, 0, 0, .null), (.ireturn, 0, 0, 0, .null)]
def xb_Mo_count_71 : List xv_Op := [(.aload_n 0, 0, 0, 0, .null), (.getfield 116, 5, 0, 1102, .null), (.ireturn, 0, 0, 0, .null)]
def xb_Mo_count_76 : List xv_Op := [(.aload_n 0, 0, 0, 0, .null), (.getfield 226, 16, 0, 1113, .null), (.ireturn, 0, 0, 0, .null)]
def xb_Mo_count_81 : List xv_Op := [(.aload_n 0, 0, 0, 0, .null), (.getfield 124, 7, 0, 1104, .null), (.ireturn, 0, 0, 0, .null)]
def xb_Mo_count_86 : List xv_Op := [(.aload_n 0, 0, 0, 0, .null), (.getfield 7, 0, 0, 1097, .null), (.sipush (303), 0, 0, 0, .int (303)), (.iaload, 0, 0, 0, .null), (.ireturn, 0, 0, 0, .null)]
def xb_Mo_count_95 : List xv_Op := [(.iload_n 1, 0, 0, 0, .null), (.bipush (10), 0, 0, 0, .int (10)), (.bipush (14), 0, 0, 0, .int (14)), (.invokestatic 112, 40, 3, 1259, .int 0), (.ifCond .eq (13), 116, 0, 0, .null), (.aload_n 0, 0, 0, 0, .null), (.getfield 19, 3, 0, 1100, .null), (.iload_n 1, 0, 0, 0, .null), (.bipush (10), 0, 0, 0, .int (10)), (.isub, 0, 0, 0, .null), (.iaload, 0, 0, 0, .null), (.ireturn, 0, 0, 0, .null)]
def xb_Mo_count_116 : List xv_Op := [(.aload_n 0, 0, 0, 0, .null), (.iload_n 1, 0, 0, 0, .null), (.bipush (20), 0, 0, 0, .int (20)), (.isub, 0, 0, 0, .null), (.invokevirtual 294, 48, 1, 1424, .int 0), (.ifCond .eq (18), 142, 0, 0, .null), (.aload_n 0, 0, 0, 0, .null), (.getfield 22, 4, 0, 1101, .null), (.iload_n 1, 0, 0, 0, .null), (.bipush (20), 0, 0, 0, .int (20)), (.isub, 0, 0, 0, .null), (.laload, 0, 0, 0, .null), (.invokestatic 278, 45, 1, 1401, .int 0), (.goto (4), 143, 0, 0, .null)]
def xb_Mo_count_142 : List xv_Op := [(.iconst (-1), 0, 0, 0, .int (-1)), (.nop, 143, 0, 0, .null)]
def xb_Mo_count_143 : List xv_Op := [(.ireturn, 0, 0, 0, .null)]
def xl_Mo_count : xv_B := [(0, xb_Mo_count_0), (44, xb_Mo_count_44), (53, xb_Mo_count_53), (62, xb_Mo_count_62), (71, xb_Mo_count_71), (76, xb_Mo_count_76), (81, xb_Mo_count_81), (86, xb_Mo_count_86), (95, xb_Mo_count_95), (116, xb_Mo_count_116), (142, xb_Mo_count_142), (143, xb_Mo_count_143)]
def xm_Mo_count : xv_M := (⟨"OnionCourtModel", "count", "(I)I"⟩, prog_14_method_105_code, 2, (some .int), (0, 1, 1), [], xl_Mo_count)
def xb_Root_law_0 : List xv_Op := [(.new 7, 1, 91, 90, .int 75), (.dup, 0, 0, 0, .null), (.invokespecial 9, 0, 0, 92, .int 0), (.astore_n 1, 0, 0, 0, .null), (.new 10, 0, 1092, 1091, .int 86), (.dup, 0, 0, 0, .null), (.invokespecial 12, 39, 0, 1093, .int 0), (.astore_n 2, 0, 0, 0, .null), (.iconst (0), 0, 0, 0, .int (0)), (.istore_n 3, 0, 0, 0, .null), (.nop, 18, 0, 0, .null)]
def xb_Root_law_18 : List xv_Op := [(.iload_n 3, 0, 0, 0, .null), (.aload_n 0, 0, 0, 0, .null), (.arraylength, 0, 1, 0, .null), (.bipush (6), 0, 0, 0, .int (6)), (.isub, 0, 0, 0, .null), (.if_icmp .gt (1179), 1203, 0, 0, .null), (.aload_n 0, 0, 0, 0, .null), (.iload_n 3, 0, 0, 0, .null), (.iaload, 0, 1, 0, .null), (.bipush (31), 0, 0, 0, .int (31)), (.iand, 0, 0, 0, .null), (.tableswitch (1164) (0) (31) #[143, 176, 209, 272, 295, 328, 361, 384, 469, 482, 505, 538, 571, 604, 648, 692, 725, 748, 772, 795, 808, 841, 884, 907, 950, 993, 1026, 1059, 1082, 1095, 1108, 1141], 33, 0, 0, .null)]
def xb_Root_law_176 : List xv_Op := [(.aload_n 1, 0, 0, 0, .null), (.aload_n 0, 0, 0, 0, .null), (.iload_n 3, 0, 0, 0, .null), (.iconst (1), 0, 0, 0, .int (1)), (.iadd, 0, 0, 0, .null), (.iaload, 0, 1, 0, .null), (.aload_n 0, 0, 0, 0, .null), (.iload_n 3, 0, 0, 0, .null), (.iconst (2), 0, 0, 0, .int (2)), (.iadd, 0, 0, 0, .null), (.iaload, 0, 1, 0, .null), (.invokevirtual 13, 1, 2, 388, .int 1), (.aload_n 2, 0, 0, 0, .null), (.aload_n 0, 0, 0, 0, .null), (.iload_n 3, 0, 0, 0, .null), (.iconst (1), 0, 0, 0, .int (1)), (.iadd, 0, 0, 0, .null), (.iaload, 0, 1, 0, .null), (.aload_n 0, 0, 0, 0, .null), (.iload_n 3, 0, 0, 0, .null), (.iconst (2), 0, 0, 0, .int (2)), (.iadd, 0, 0, 0, .null), (.iaload, 0, 1, 0, .null), (.invokevirtual 17, 52, 2, 1255, .int 0), (.if_icmp .eq (993), 1197, 0, 0, .null), (.iconst (0), 0, 0, 0, .int (0)), (.ireturn, 0, 0, 0, .null)]
def xb_Root_law_209 : List xv_Op := [(.aload_n 1, 0, 0, 0, .null), (.aload_n 0, 0, 0, 0, .null), (.iload_n 3, 0, 0, 0, .null), (.iconst (1), 0, 0, 0, .int (1)), (.iadd, 0, 0, 0, .null), (.iaload, 0, 1, 0, .null), (.aload_n 0, 0, 0, 0, .null), (.iload_n 3, 0, 0, 0, .null), (.iconst (2), 0, 0, 0, .int (2)), (.iadd, 0, 0, 0, .null), (.iaload, 0, 1, 0, .null), (.invokevirtual 18, 2, 2, 396, .int 1), (.aload_n 2, 0, 0, 0, .null), (.aload_n 0, 0, 0, 0, .null), (.iload_n 3, 0, 0, 0, .null), (.iconst (1), 0, 0, 0, .int (1)), (.iadd, 0, 0, 0, .null), (.iaload, 0, 1, 0, .null), (.aload_n 0, 0, 0, 0, .null), (.iload_n 3, 0, 0, 0, .null), (.iconst (2), 0, 0, 0, .int (2)), (.iadd, 0, 0, 0, .null), (.iaload, 0, 1, 0, .null), (.invokevirtual 21, 53, 2, 1262, .int 0), (.if_icmp .eq (960), 1197, 0, 0, .null), (.iconst (0), 0, 0, 0, .int (0)), (.ireturn, 0, 0, 0, .null)]
def xb_Root_law_242 : List xv_Op := [(.aload_n 1, 0, 0, 0, .null), (.aload_n 0, 0, 0, 0, .null), (.iload_n 3, 0, 0, 0, .null), (.iconst (1), 0, 0, 0, .int (1)), (.iadd, 0, 0, 0, .null), (.iaload, 0, 1, 0, .null), (.aload_n 0, 0, 0, 0, .null), (.iload_n 3, 0, 0, 0, .null), (.iconst (2), 0, 0, 0, .int (2)), (.iadd, 0, 0, 0, .null), (.iaload, 0, 1, 0, .null), (.aload_n 0, 0, 0, 0, .null), (.iload_n 3, 0, 0, 0, .null), (.iconst (3), 0, 0, 0, .int (3)), (.iadd, 0, 0, 0, .null), (.iaload, 0, 1, 0, .null), (.aload_n 0, 0, 0, 0, .null), (.iload_n 3, 0, 0, 0, .null), (.iconst (4), 0, 0, 0, .int (4)), (.iadd, 0, 0, 0, .null), (.iaload, 0, 1, 0, .null), (.aload_n 0, 0, 0, 0, .null), (.iload_n 3, 0, 0, 0, .null), (.iconst (5), 0, 0, 0, .int (5)), (.iadd, 0, 0, 0, .null), (.iaload, 0, 1, 0, .null), (.invokevirtual 22, 3, 5, 408, .int 1), (.aload_n 2, 0, 0, 0, .null), (.aload_n 0, 0, 0, 0, .null), (.iload_n 3, 0, 0, 0, .null), (.iconst (1), 0, 0, 0, .int (1)), (.iadd, 0, 0, 0, .null), (.iaload, 0, 1, 0, .null), (.aload_n 0, 0, 0, 0, .null), (.iload_n 3, 0, 0, 0, .null), (.iconst (2), 0, 0, 0, .int (2)), (.iadd, 0, 0, 0, .null), (.iaload, 0, 1, 0, .null), (.aload_n 0, 0, 0, 0, .null), (.iload_n 3, 0, 0, 0, .null), (.iconst (3), 0, 0, 0, .int (3)), (.iadd, 0, 0, 0, .null), (.iaload, 0, 1, 0, .null), (.aload_n 0, 0, 0, 0, .null), (.iload_n 3, 0, 0, 0, .null), (.iconst (4), 0, 0, 0, .int (4)), (.iadd, 0, 0, 0, .null), (.iaload, 0, 1, 0, .null), (.aload_n 0, 0, 0, 0, .null), (.iload_n 3, 0, 0, 0, .null), (.iconst (5), 0, 0, 0, .int (5)), (.iadd, 0, 0, 0, .null), (.iaload, 0, 1, 0, .null), (.invokevirtual 26, 55, 5, 1266, .int 0), (.if_icmp .eq (897), 1197, 0, 0, .null), (.iconst (0), 0, 0, 0, .int (0)), (.ireturn, 0, 0, 0, .null)]
def xb_Root_law_305 : List xv_Op := [(.aload_n 1, 0, 0, 0, .null), (.aload_n 0, 0, 0, 0, .null), (.iload_n 3, 0, 0, 0, .null), (.iconst (1), 0, 0, 0, .int (1)), (.iadd, 0, 0, 0, .null), (.iaload, 0, 1, 0, .null), (.invokevirtual 27, 4, 1, 424, .int 1), (.aload_n 2, 0, 0, 0, .null), (.aload_n 0, 0, 0, 0, .null), (.iload_n 3, 0, 0, 0, .null), (.iconst (1), 0, 0, 0, .int (1)), (.iadd, 0, 0, 0, .null), (.iaload, 0, 1, 0, .null), (.invokevirtual 31, 77, 1, 1274, .int 0), (.if_icmp .eq (874), 1197, 0, 0, .null), (.iconst (0), 0, 0, 0, .int (0)), (.ireturn, 0, 0, 0, .null)]
def xb_Root_law_328 : List xv_Op := [(.aload_n 1, 0, 0, 0, .null), (.aload_n 0, 0, 0, 0, .null), (.iload_n 3, 0, 0, 0, .null), (.iconst (1), 0, 0, 0, .int (1)), (.iadd, 0, 0, 0, .null), (.iaload, 0, 1, 0, .null), (.aload_n 0, 0, 0, 0, .null), (.iload_n 3, 0, 0, 0, .null), (.iconst (2), 0, 0, 0, .int (2)), (.iadd, 0, 0, 0, .null), (.iaload, 0, 1, 0, .null), (.invokevirtual 32, 5, 2, 537, .int 1), (.aload_n 2, 0, 0, 0, .null), (.aload_n 0, 0, 0, 0, .null), (.iload_n 3, 0, 0, 0, .null), (.iconst (1), 0, 0, 0, .int (1)), (.iadd, 0, 0, 0, .null), (.iaload, 0, 1, 0, .null), (.aload_n 0, 0, 0, 0, .null), (.iload_n 3, 0, 0, 0, .null), (.iconst (2), 0, 0, 0, .int (2)), (.iadd, 0, 0, 0, .null), (.iaload, 0, 1, 0, .null), (.invokevirtual 36, 90, 2, 1361, .int 0), (.if_icmp .eq (841), 1197, 0, 0, .null), (.iconst (0), 0, 0, 0, .int (0)), (.ireturn, 0, 0, 0, .null)]
def xb_Root_law_361 : List xv_Op := [(.aload_n 1, 0, 0, 0, .null), (.aload_n 0, 0, 0, 0, .null), (.iload_n 3, 0, 0, 0, .null), (.iconst (1), 0, 0, 0, .int (1)), (.iadd, 0, 0, 0, .null), (.iaload, 0, 1, 0, .null), (.aload_n 0, 0, 0, 0, .null), (.iload_n 3, 0, 0, 0, .null), (.iconst (2), 0, 0, 0, .int (2)), (.iadd, 0, 0, 0, .null), (.iaload, 0, 1, 0, .null), (.invokevirtual 37, 6, 2, 579, .int 1), (.aload_n 2, 0, 0, 0, .null), (.aload_n 0, 0, 0, 0, .null), (.iload_n 3, 0, 0, 0, .null), (.iconst (1), 0, 0, 0, .int (1)), (.iadd, 0, 0, 0, .null), (.iaload, 0, 1, 0, .null), (.aload_n 0, 0, 0, 0, .null), (.iload_n 3, 0, 0, 0, .null), (.iconst (2), 0, 0, 0, .int (2)), (.iadd, 0, 0, 0, .null), (.iaload, 0, 1, 0, .null), (.invokevirtual 40, 92, 2, 1404, .int 0), (.if_icmp .eq (808), 1197, 0, 0, .null), (.iconst (0), 0, 0, 0, .int (0)), (.ireturn, 0, 0, 0, .null)]
def xb_Root_law_394 : List xv_Op := [(.aload_n 1, 0, 0, 0, .null), (.aload_n 0, 0, 0, 0, .null), (.iload_n 3, 0, 0, 0, .null), (.iconst (1), 0, 0, 0, .int (1)), (.iadd, 0, 0, 0, .null), (.iaload, 0, 1, 0, .null), (.invokevirtual 41, 7, 1, 615, .int 1), (.aload_n 2, 0, 0, 0, .null), (.aload_n 0, 0, 0, 0, .null), (.iload_n 3, 0, 0, 0, .null), (.iconst (1), 0, 0, 0, .int (1)), (.iadd, 0, 0, 0, .null), (.iaload, 0, 1, 0, .null), (.invokevirtual 44, 94, 1, 1416, .int 0), (.if_icmp .eq (785), 1197, 0, 0, .null), (.iconst (0), 0, 0, 0, .int (0)), (.ireturn, 0, 0, 0, .null)]
def xb_Root_law_417 : List xv_Op := [(.aload_n 1, 0, 0, 0, .null), (.aload_n 0, 0, 0, 0, .null), (.iload_n 3, 0, 0, 0, .null), (.iconst (1), 0, 0, 0, .int (1)), (.iadd, 0, 0, 0, .null), (.iaload, 0, 1, 0, .null), (.aload_n 0, 0, 0, 0, .null), (.iload_n 3, 0, 0, 0, .null), (.iconst (2), 0, 0, 0, .int (2)), (.iadd, 0, 0, 0, .null), (.iaload, 0, 1, 0, .null), (.aload_n 0, 0, 0, 0, .null), (.iload_n 3, 0, 0, 0, .null), (.iconst (3), 0, 0, 0, .int (3)), (.iadd, 0, 0, 0, .null), (.iaload, 0, 1, 0, .null), (.ifCond .eq (7), 440, 0, 0, .null), (.iconst (1), 0, 0, 0, .int (1)), (.goto (4), 441, 0, 0, .null)]
def xb_Root_law_440 : List xv_Op := [(.iconst (0), 0, 0, 0, .int (0)), (.nop, 441, 0, 0, .null)]
def xb_Root_law_441 : List xv_Op := [(.aload_n 0, 0, 0, 0, .null), (.iload_n 3, 0, 0, 0, .null), (.iconst (4), 0, 0, 0, .int (4)), (.iadd, 0, 0, 0, .null), (.iaload, 0, 1, 0, .null), (.ifCond .eq (7), 453, 0, 0, .null), (.iconst (1), 0, 0, 0, .int (1)), (.goto (4), 454, 0, 0, .null)]
def xb_Root_law_453 : List xv_Op := [(.iconst (0), 0, 0, 0, .int (0)), (.nop, 454, 0, 0, .null)]
def xb_Root_law_454 : List xv_Op := [(.invokevirtual 45, 8, 4, 694, .int 1), (.aload_n 2, 0, 0, 0, .null), (.aload_n 0, 0, 0, 0, .null), (.iload_n 3, 0, 0, 0, .null), (.iconst (1), 0, 0, 0, .int (1)), (.iadd, 0, 0, 0, .null), (.iaload, 0, 1, 0, .null), (.aload_n 0, 0, 0, 0, .null), (.iload_n 3, 0, 0, 0, .null), (.iconst (2), 0, 0, 0, .int (2)), (.iadd, 0, 0, 0, .null), (.iaload, 0, 1, 0, .null), (.aload_n 0, 0, 0, 0, .null), (.iload_n 3, 0, 0, 0, .null), (.iconst (3), 0, 0, 0, .int (3)), (.iadd, 0, 0, 0, .null), (.iaload, 0, 1, 0, .null), (.ifCond .eq (7), 480, 0, 0, .null), (.iconst (1), 0, 0, 0, .int (1)), (.goto (4), 481, 0, 0, .null)]
def xb_Root_law_480 : List xv_Op := [(.iconst (0), 0, 0, 0, .int (0)), (.nop, 481, 0, 0, .null)]
def xb_Root_law_481 : List xv_Op := [(.aload_n 0, 0, 0, 0, .null), (.iload_n 3, 0, 0, 0, .null), (.iconst (4), 0, 0, 0, .int (4)), (.iadd, 0, 0, 0, .null), (.iaload, 0, 1, 0, .null), (.ifCond .eq (7), 493, 0, 0, .null), (.iconst (1), 0, 0, 0, .int (1)), (.goto (4), 494, 0, 0, .null)]
def xb_Root_law_493 : List xv_Op := [(.iconst (0), 0, 0, 0, .int (0)), (.nop, 494, 0, 0, .null)]
def xb_Root_law_494 : List xv_Op := [(.invokevirtual 49, 96, 4, 1436, .int 0), (.if_icmp .eq (700), 1197, 0, 0, .null), (.iconst (0), 0, 0, 0, .int (0)), (.ireturn, 0, 0, 0, .null)]
def xb_Root_law_502 : List xv_Op := [(.aload_n 1, 0, 0, 0, .null), (.invokevirtual 50, 9, 0, 700, .int 1), (.aload_n 2, 0, 0, 0, .null), (.invokevirtual 54, 97, 0, 1440, .int 0), (.if_icmp .eq (687), 1197, 0, 0, .null), (.iconst (0), 0, 0, 0, .int (0)), (.ireturn, 0, 0, 0, .null)]
def xb_Root_law_515 : List xv_Op := [(.aload_n 1, 0, 0, 0, .null), (.aload_n 0, 0, 0, 0, .null), (.iload_n 3, 0, 0, 0, .null), (.iconst (1), 0, 0, 0, .int (1)), (.iadd, 0, 0, 0, .null), (.iaload, 0, 1, 0, .null), (.invokevirtual 55, 10, 1, 708, .int 1), (.aload_n 2, 0, 0, 0, .null), (.aload_n 0, 0, 0, 0, .null), (.iload_n 3, 0, 0, 0, .null), (.iconst (1), 0, 0, 0, .int (1)), (.iadd, 0, 0, 0, .null), (.iaload, 0, 1, 0, .null), (.invokevirtual 58, 102, 1, 1444, .int 0), (.if_icmp .eq (664), 1197, 0, 0, .null), (.iconst (0), 0, 0, 0, .int (0)), (.ireturn, 0, 0, 0, .null)]
def xb_Root_law_538 : List xv_Op := [(.aload_n 1, 0, 0, 0, .null), (.aload_n 0, 0, 0, 0, .null), (.iload_n 3, 0, 0, 0, .null), (.iconst (1), 0, 0, 0, .int (1)), (.iadd, 0, 0, 0, .null), (.iaload, 0, 1, 0, .null), (.aload_n 0, 0, 0, 0, .null), (.iload_n 3, 0, 0, 0, .null), (.iconst (2), 0, 0, 0, .int (2)), (.iadd, 0, 0, 0, .null), (.iaload, 0, 1, 0, .null), (.invokevirtual 59, 11, 2, 772, .int 1), (.aload_n 2, 0, 0, 0, .null), (.aload_n 0, 0, 0, 0, .null), (.iload_n 3, 0, 0, 0, .null), (.iconst (1), 0, 0, 0, .int (1)), (.iadd, 0, 0, 0, .null), (.iaload, 0, 1, 0, .null), (.aload_n 0, 0, 0, 0, .null), (.iload_n 3, 0, 0, 0, .null), (.iconst (2), 0, 0, 0, .int (2)), (.iadd, 0, 0, 0, .null), (.iaload, 0, 1, 0, .null), (.invokevirtual 62, 103, 2, 1486, .int 0), (.if_icmp .eq (631), 1197, 0, 0, .null), (.iconst (0), 0, 0, 0, .int (0)), (.ireturn, 0, 0, 0, .null)]
def xb_Root_law_571 : List xv_Op := [(.aload_n 1, 0, 0, 0, .null), (.aload_n 0, 0, 0, 0, .null), (.iload_n 3, 0, 0, 0, .null), (.iconst (1), 0, 0, 0, .int (1)), (.iadd, 0, 0, 0, .null), (.iaload, 0, 1, 0, .null), (.aload_n 0, 0, 0, 0, .null), (.iload_n 3, 0, 0, 0, .null), (.iconst (2), 0, 0, 0, .int (2)), (.iadd, 0, 0, 0, .null), (.iaload, 0, 1, 0, .null), (.invokevirtual 63, 12, 2, 784, .int 1), (.aload_n 2, 0, 0, 0, .null), (.aload_n 0, 0, 0, 0, .null), (.iload_n 3, 0, 0, 0, .null), (.iconst (1), 0, 0, 0, .int (1)), (.iadd, 0, 0, 0, .null), (.iaload, 0, 1, 0, .null), (.aload_n 0, 0, 0, 0, .null), (.iload_n 3, 0, 0, 0, .null), (.iconst (2), 0, 0, 0, .int (2)), (.iadd, 0, 0, 0, .null), (.iaload, 0, 1, 0, .null), (.invokevirtual 66, 106, 2, 1497, .int 0), (.if_icmp .eq (598), 1197, 0, 0, .null), (.iconst (0), 0, 0, 0, .int (0)), (.ireturn, 0, 0, 0, .null)]
def xb_Root_law_604 : List xv_Op := [(.aload_n 1, 0, 0, 0, .null), (.aload_n 0, 0, 0, 0, .null), (.iload_n 3, 0, 0, 0, .null), (.iconst (1), 0, 0, 0, .int (1)), (.iadd, 0, 0, 0, .null), (.iaload, 0, 1, 0, .null), (.aload_n 0, 0, 0, 0, .null), (.iload_n 3, 0, 0, 0, .null), (.iconst (2), 0, 0, 0, .int (2)), (.iadd, 0, 0, 0, .null), (.iaload, 0, 1, 0, .null), (.invokevirtual 67, 13, 2, 802, .int 1), (.aload_n 2, 0, 0, 0, .null), (.aload_n 0, 0, 0, 0, .null), (.iload_n 3, 0, 0, 0, .null), (.iconst (1), 0, 0, 0, .int (1)), (.iadd, 0, 0, 0, .null), (.iaload, 0, 1, 0, .null), (.aload_n 0, 0, 0, 0, .null), (.iload_n 3, 0, 0, 0, .null), (.iconst (2), 0, 0, 0, .int (2)), (.iadd, 0, 0, 0, .null), (.iaload, 0, 1, 0, .null), (.invokevirtual 70, 107, 2, 1509, .int 0), (.if_icmp .eq (565), 1197, 0, 0, .null), (.iconst (0), 0, 0, 0, .int (0)), (.ireturn, 0, 0, 0, .null)]
def xb_Root_law_637 : List xv_Op := [(.aload_n 1, 0, 0, 0, .null), (.aload_n 0, 0, 0, 0, .null), (.iload_n 3, 0, 0, 0, .null), (.iconst (1), 0, 0, 0, .int (1)), (.iadd, 0, 0, 0, .null), (.iaload, 0, 1, 0, .null), (.aload_n 0, 0, 0, 0, .null), (.iload_n 3, 0, 0, 0, .null), (.iconst (2), 0, 0, 0, .int (2)), (.iadd, 0, 0, 0, .null), (.iaload, 0, 1, 0, .null), (.aload_n 0, 0, 0, 0, .null), (.iload_n 3, 0, 0, 0, .null), (.iconst (3), 0, 0, 0, .int (3)), (.iadd, 0, 0, 0, .null), (.iaload, 0, 1, 0, .null), (.invokevirtual 71, 14, 3, 814, .int 1), (.aload_n 2, 0, 0, 0, .null), (.aload_n 0, 0, 0, 0, .null), (.iload_n 3, 0, 0, 0, .null), (.iconst (1), 0, 0, 0, .int (1)), (.iadd, 0, 0, 0, .null), (.iaload, 0, 1, 0, .null), (.aload_n 0, 0, 0, 0, .null), (.iload_n 3, 0, 0, 0, .null), (.iconst (2), 0, 0, 0, .int (2)), (.iadd, 0, 0, 0, .null), (.iaload, 0, 1, 0, .null), (.aload_n 0, 0, 0, 0, .null), (.iload_n 3, 0, 0, 0, .null), (.iconst (3), 0, 0, 0, .int (3)), (.iadd, 0, 0, 0, .null), (.iaload, 0, 1, 0, .null), (.invokevirtual 75, 114, 3, 1513, .int 0), (.lcmp, 0, 0, 0, .null), (.ifCond .eq (521), 1197, 0, 0, .null), (.iconst (0), 0, 0, 0, .int (0)), (.ireturn, 0, 0, 0, .null)]
def xb_Root_law_681 : List xv_Op := [(.aload_n 1, 0, 0, 0, .null), (.aload_n 0, 0, 0, 0, .null), (.iload_n 3, 0, 0, 0, .null), (.iconst (1), 0, 0, 0, .int (1)), (.iadd, 0, 0, 0, .null), (.iaload, 0, 1, 0, .null), (.aload_n 0, 0, 0, 0, .null), (.iload_n 3, 0, 0, 0, .null), (.iconst (2), 0, 0, 0, .int (2)), (.iadd, 0, 0, 0, .null), (.iaload, 0, 1, 0, .null), (.aload_n 0, 0, 0, 0, .null), (.iload_n 3, 0, 0, 0, .null), (.iconst (3), 0, 0, 0, .int (3)), (.iadd, 0, 0, 0, .null), (.iaload, 0, 1, 0, .null), (.invokevirtual 76, 15, 3, 878, .int 1), (.aload_n 2, 0, 0, 0, .null), (.aload_n 0, 0, 0, 0, .null), (.iload_n 3, 0, 0, 0, .null), (.iconst (1), 0, 0, 0, .int (1)), (.iadd, 0, 0, 0, .null), (.iaload, 0, 1, 0, .null), (.aload_n 0, 0, 0, 0, .null), (.iload_n 3, 0, 0, 0, .null), (.iconst (2), 0, 0, 0, .int (2)), (.iadd, 0, 0, 0, .null), (.iaload, 0, 1, 0, .null), (.aload_n 0, 0, 0, 0, .null), (.iload_n 3, 0, 0, 0, .null), (.iconst (3), 0, 0, 0, .int (3)), (.iadd, 0, 0, 0, .null), (.iaload, 0, 1, 0, .null), (.invokevirtual 79, 115, 3, 1545, .int 0), (.lcmp, 0, 0, 0, .null), (.ifCond .eq (477), 1197, 0, 0, .null), (.iconst (0), 0, 0, 0, .int (0)), (.ireturn, 0, 0, 0, .null)]
def xb_Root_law_725 : List xv_Op := [(.aload_n 1, 0, 0, 0, .null), (.aload_n 0, 0, 0, 0, .null), (.iload_n 3, 0, 0, 0, .null), (.iconst (1), 0, 0, 0, .int (1)), (.iadd, 0, 0, 0, .null), (.iaload, 0, 1, 0, .null), (.aload_n 0, 0, 0, 0, .null), (.iload_n 3, 0, 0, 0, .null), (.iconst (2), 0, 0, 0, .int (2)), (.iadd, 0, 0, 0, .null), (.iaload, 0, 1, 0, .null), (.invokevirtual 80, 16, 2, 887, .int 1), (.aload_n 2, 0, 0, 0, .null), (.aload_n 0, 0, 0, 0, .null), (.iload_n 3, 0, 0, 0, .null), (.iconst (1), 0, 0, 0, .int (1)), (.iadd, 0, 0, 0, .null), (.iaload, 0, 1, 0, .null), (.aload_n 0, 0, 0, 0, .null), (.iload_n 3, 0, 0, 0, .null), (.iconst (2), 0, 0, 0, .int (2)), (.iadd, 0, 0, 0, .null), (.iaload, 0, 1, 0, .null), (.invokevirtual 83, 116, 2, 1553, .int 0), (.if_icmp .eq (444), 1197, 0, 0, .null), (.iconst (0), 0, 0, 0, .int (0)), (.ireturn, 0, 0, 0, .null)]
def xb_Root_law_758 : List xv_Op := [(.aload_n 1, 0, 0, 0, .null), (.aload_n 0, 0, 0, 0, .null), (.iload_n 3, 0, 0, 0, .null), (.iconst (1), 0, 0, 0, .int (1)), (.iadd, 0, 0, 0, .null), (.iaload, 0, 1, 0, .null), (.invokevirtual 84, 17, 1, 902, .int 1), (.aload_n 2, 0, 0, 0, .null), (.aload_n 0, 0, 0, 0, .null), (.iload_n 3, 0, 0, 0, .null), (.iconst (1), 0, 0, 0, .int (1)), (.iadd, 0, 0, 0, .null), (.iaload, 0, 1, 0, .null), (.invokevirtual 87, 117, 1, 1558, .int 0), (.if_icmp .eq (421), 1197, 0, 0, .null), (.iconst (0), 0, 0, 0, .int (0)), (.ireturn, 0, 0, 0, .null)]
def xb_Root_law_781 : List xv_Op := [(.aload_n 1, 0, 0, 0, .null), (.aload_n 0, 0, 0, 0, .null), (.iload_n 3, 0, 0, 0, .null), (.iconst (1), 0, 0, 0, .int (1)), (.iadd, 0, 0, 0, .null), (.iaload, 0, 1, 0, .null), (.invokevirtual 88, 18, 1, 915, .int 1), (.aload_n 2, 0, 0, 0, .null), (.aload_n 0, 0, 0, 0, .null), (.iload_n 3, 0, 0, 0, .null), (.iconst (1), 0, 0, 0, .int (1)), (.iadd, 0, 0, 0, .null), (.iaload, 0, 1, 0, .null), (.invokevirtual 92, 120, 1, 1562, .int 0), (.lcmp, 0, 0, 0, .null), (.ifCond .eq (397), 1197, 0, 0, .null), (.iconst (0), 0, 0, 0, .int (0)), (.ireturn, 0, 0, 0, .null)]
def xb_Root_law_805 : List xv_Op := [(.aload_n 1, 0, 0, 0, .null), (.aload_n 0, 0, 0, 0, .null), (.iload_n 3, 0, 0, 0, .null), (.iconst (1), 0, 0, 0, .int (1)), (.iadd, 0, 0, 0, .null), (.iaload, 0, 1, 0, .null), (.invokevirtual 93, 19, 1, 925, .int 1), (.aload_n 2, 0, 0, 0, .null), (.aload_n 0, 0, 0, 0, .null), (.iload_n 3, 0, 0, 0, .null), (.iconst (1), 0, 0, 0, .int (1)), (.iadd, 0, 0, 0, .null), (.iaload, 0, 1, 0, .null), (.invokevirtual 96, 122, 1, 1570, .int 0), (.if_icmp .eq (374), 1197, 0, 0, .null), (.iconst (0), 0, 0, 0, .int (0)), (.ireturn, 0, 0, 0, .null)]
def xb_Root_law_828 : List xv_Op := [(.aload_n 1, 0, 0, 0, .null), (.invokevirtual 97, 20, 0, 934, .int 1), (.aload_n 2, 0, 0, 0, .null), (.invokevirtual 100, 123, 0, 1578, .int 0), (.if_icmp .eq (361), 1197, 0, 0, .null), (.iconst (0), 0, 0, 0, .int (0)), (.ireturn, 0, 0, 0, .null)]
def xb_Root_law_841 : List xv_Op := [(.aload_n 1, 0, 0, 0, .null), (.aload_n 0, 0, 0, 0, .null), (.iload_n 3, 0, 0, 0, .null), (.iconst (1), 0, 0, 0, .int (1)), (.iadd, 0, 0, 0, .null), (.iaload, 0, 1, 0, .null), (.aload_n 0, 0, 0, 0, .null), (.iload_n 3, 0, 0, 0, .null), (.iconst (2), 0, 0, 0, .int (2)), (.iadd, 0, 0, 0, .null), (.iaload, 0, 1, 0, .null), (.invokevirtual 101, 21, 2, 938, .int 1), (.aload_n 2, 0, 0, 0, .null), (.aload_n 0, 0, 0, 0, .null), (.iload_n 3, 0, 0, 0, .null), (.iconst (1), 0, 0, 0, .int (1)), (.iadd, 0, 0, 0, .null), (.iaload, 0, 1, 0, .null), (.aload_n 0, 0, 0, 0, .null), (.iload_n 3, 0, 0, 0, .null), (.iconst (2), 0, 0, 0, .int (2)), (.iadd, 0, 0, 0, .null), (.iaload, 0, 1, 0, .null), (.invokevirtual 104, 124, 2, 1582, .int 0), (.if_icmp .eq (328), 1197, 0, 0, .null), (.iconst (0), 0, 0, 0, .int (0)), (.ireturn, 0, 0, 0, .null)]
def xb_Root_law_874 : List xv_Op := [(.aload_n 1, 0, 0, 0, .null), (.aload_n 0, 0, 0, 0, .null), (.iload_n 3, 0, 0, 0, .null), (.iconst (1), 0, 0, 0, .int (1)), (.iadd, 0, 0, 0, .null), (.iaload, 0, 1, 0, .null), (.aload_n 0, 0, 0, 0, .null), (.iload_n 3, 0, 0, 0, .null), (.iconst (2), 0, 0, 0, .int (2)), (.iadd, 0, 0, 0, .null), (.iaload, 0, 1, 0, .null), (.aload_n 0, 0, 0, 0, .null), (.iload_n 3, 0, 0, 0, .null), (.iconst (3), 0, 0, 0, .int (3)), (.iadd, 0, 0, 0, .null), (.iaload, 0, 1, 0, .null), (.invokevirtual 105, 22, 3, 942, .int 1), (.aload_n 2, 0, 0, 0, .null), (.aload_n 0, 0, 0, 0, .null), (.iload_n 3, 0, 0, 0, .null), (.iconst (1), 0, 0, 0, .int (1)), (.iadd, 0, 0, 0, .null), (.iaload, 0, 1, 0, .null), (.aload_n 0, 0, 0, 0, .null), (.iload_n 3, 0, 0, 0, .null), (.iconst (2), 0, 0, 0, .int (2)), (.iadd, 0, 0, 0, .null), (.iaload, 0, 1, 0, .null), (.aload_n 0, 0, 0, 0, .null), (.iload_n 3, 0, 0, 0, .null), (.iconst (3), 0, 0, 0, .int (3)), (.iadd, 0, 0, 0, .null), (.iaload, 0, 1, 0, .null), (.invokevirtual 109, 126, 3, 1586, .int 0), (.if_icmp .eq (285), 1197, 0, 0, .null), (.iconst (0), 0, 0, 0, .int (0)), (.ireturn, 0, 0, 0, .null)]
def xb_Root_law_917 : List xv_Op := [(.aload_n 1, 0, 0, 0, .null), (.aload_n 0, 0, 0, 0, .null), (.iload_n 3, 0, 0, 0, .null), (.iconst (1), 0, 0, 0, .int (1)), (.iadd, 0, 0, 0, .null), (.iaload, 0, 1, 0, .null), (.invokevirtual 110, 23, 1, 955, .int 1), (.aload_n 2, 0, 0, 0, .null), (.aload_n 0, 0, 0, 0, .null), (.iload_n 3, 0, 0, 0, .null), (.iconst (1), 0, 0, 0, .int (1)), (.iadd, 0, 0, 0, .null), (.iaload, 0, 1, 0, .null), (.invokevirtual 113, 127, 1, 1594, .int 0), (.if_icmp .eq (262), 1197, 0, 0, .null), (.iconst (0), 0, 0, 0, .int (0)), (.ireturn, 0, 0, 0, .null)]
def xb_Root_law_940 : List xv_Op := [(.aload_n 1, 0, 0, 0, .null), (.aload_n 0, 0, 0, 0, .null), (.iload_n 3, 0, 0, 0, .null), (.iconst (1), 0, 0, 0, .int (1)), (.iadd, 0, 0, 0, .null), (.iaload, 0, 1, 0, .null), (.aload_n 0, 0, 0, 0, .null), (.iload_n 3, 0, 0, 0, .null), (.iconst (2), 0, 0, 0, .int (2)), (.iadd, 0, 0, 0, .null), (.iaload, 0, 1, 0, .null), (.aload_n 0, 0, 0, 0, .null), (.iload_n 3, 0, 0, 0, .null), (.iconst (3), 0, 0, 0, .int (3)), (.iadd, 0, 0, 0, .null), (.iaload, 0, 1, 0, .null), (.invokevirtual 114, 24, 3, 963, .int 1), (.aload_n 2, 0, 0, 0, .null), (.aload_n 0, 0, 0, 0, .null), (.iload_n 3, 0, 0, 0, .null), (.iconst (1), 0, 0, 0, .int (1)), (.iadd, 0, 0, 0, .null), (.iaload, 0, 1, 0, .null), (.aload_n 0, 0, 0, 0, .null), (.iload_n 3, 0, 0, 0, .null), (.iconst (2), 0, 0, 0, .int (2)), (.iadd, 0, 0, 0, .null), (.iaload, 0, 1, 0, .null), (.aload_n 0, 0, 0, 0, .null), (.iload_n 3, 0, 0, 0, .null), (.iconst (3), 0, 0, 0, .int (3)), (.iadd, 0, 0, 0, .null), (.iaload, 0, 1, 0, .null), (.invokevirtual 117, 130, 3, 1598, .int 0), (.if_icmp .eq (219), 1197, 0, 0, .null), (.iconst (0), 0, 0, 0, .int (0)), (.ireturn, 0, 0, 0, .null)]
def xb_Root_law_983 : List xv_Op := [(.aload_n 1, 0, 0, 0, .null), (.aload_n 0, 0, 0, 0, .null), (.iload_n 3, 0, 0, 0, .null), (.iconst (1), 0, 0, 0, .int (1)), (.iadd, 0, 0, 0, .null), (.iaload, 0, 1, 0, .null), (.aload_n 0, 0, 0, 0, .null), (.iload_n 3, 0, 0, 0, .null), (.iconst (2), 0, 0, 0, .int (2)), (.iadd, 0, 0, 0, .null), (.iaload, 0, 1, 0, .null), (.aload_n 0, 0, 0, 0, .null), (.iload_n 3, 0, 0, 0, .null), (.iconst (3), 0, 0, 0, .int (3)), (.iadd, 0, 0, 0, .null), (.iaload, 0, 1, 0, .null), (.invokevirtual 118, 25, 3, 986, .int 1), (.aload_n 2, 0, 0, 0, .null), (.aload_n 0, 0, 0, 0, .null), (.iload_n 3, 0, 0, 0, .null), (.iconst (1), 0, 0, 0, .int (1)), (.iadd, 0, 0, 0, .null), (.iaload, 0, 1, 0, .null), (.aload_n 0, 0, 0, 0, .null), (.iload_n 3, 0, 0, 0, .null), (.iconst (2), 0, 0, 0, .int (2)), (.iadd, 0, 0, 0, .null), (.iaload, 0, 1, 0, .null), (.aload_n 0, 0, 0, 0, .null), (.iload_n 3, 0, 0, 0, .null), (.iconst (3), 0, 0, 0, .int (3)), (.iadd, 0, 0, 0, .null), (.iaload, 0, 1, 0, .null), (.invokevirtual 121, 134, 3, 1613, .int 0), (.if_icmp .eq (176), 1197, 0, 0, .null), (.iconst (0), 0, 0, 0, .int (0)), (.ireturn, 0, 0, 0, .null)]
def xb_Root_law_1026 : List xv_Op := [(.aload_n 1, 0, 0, 0, .null), (.aload_n 0, 0, 0, 0, .null), (.iload_n 3, 0, 0, 0, .null), (.iconst (1), 0, 0, 0, .int (1)), (.iadd, 0, 0, 0, .null), (.iaload, 0, 1, 0, .null), (.aload_n 0, 0, 0, 0, .null), (.iload_n 3, 0, 0, 0, .null), (.iconst (2), 0, 0, 0, .int (2)), (.iadd, 0, 0, 0, .null), (.iaload, 0, 1, 0, .null), (.invokevirtual 122, 26, 2, 1009, .int 1), (.aload_n 2, 0, 0, 0, .null), (.aload_n 0, 0, 0, 0, .null), (.iload_n 3, 0, 0, 0, .null), (.iconst (1), 0, 0, 0, .int (1)), (.iadd, 0, 0, 0, .null), (.iaload, 0, 1, 0, .null), (.aload_n 0, 0, 0, 0, .null), (.iload_n 3, 0, 0, 0, .null), (.iconst (2), 0, 0, 0, .int (2)), (.iadd, 0, 0, 0, .null), (.iaload, 0, 1, 0, .null), (.invokevirtual 125, 137, 2, 1629, .int 0), (.if_icmp .eq (143), 1197, 0, 0, .null), (.iconst (0), 0, 0, 0, .int (0)), (.ireturn, 0, 0, 0, .null)]
def xb_Root_law_1059 : List xv_Op := [(.aload_n 1, 0, 0, 0, .null), (.aload_n 0, 0, 0, 0, .null), (.iload_n 3, 0, 0, 0, .null), (.iconst (1), 0, 0, 0, .int (1)), (.iadd, 0, 0, 0, .null), (.iaload, 0, 1, 0, .null), (.aload_n 0, 0, 0, 0, .null), (.iload_n 3, 0, 0, 0, .null), (.iconst (2), 0, 0, 0, .int (2)), (.iadd, 0, 0, 0, .null), (.iaload, 0, 1, 0, .null), (.invokevirtual 126, 27, 2, 1045, .int 1), (.aload_n 2, 0, 0, 0, .null), (.aload_n 0, 0, 0, 0, .null), (.iload_n 3, 0, 0, 0, .null), (.iconst (1), 0, 0, 0, .int (1)), (.iadd, 0, 0, 0, .null), (.iaload, 0, 1, 0, .null), (.aload_n 0, 0, 0, 0, .null), (.iload_n 3, 0, 0, 0, .null), (.iconst (2), 0, 0, 0, .int (2)), (.iadd, 0, 0, 0, .null), (.iaload, 0, 1, 0, .null), (.invokevirtual 129, 138, 2, 1641, .int 0), (.if_icmp .eq (110), 1197, 0, 0, .null), (.iconst (0), 0, 0, 0, .int (0)), (.ireturn, 0, 0, 0, .null)]
def xb_Root_law_1092 : List xv_Op := [(.aload_n 1, 0, 0, 0, .null), (.aload_n 0, 0, 0, 0, .null), (.iload_n 3, 0, 0, 0, .null), (.iconst (1), 0, 0, 0, .int (1)), (.iadd, 0, 0, 0, .null), (.iaload, 0, 1, 0, .null), (.invokevirtual 130, 28, 1, 1049, .int 1), (.aload_n 2, 0, 0, 0, .null), (.aload_n 0, 0, 0, 0, .null), (.iload_n 3, 0, 0, 0, .null), (.iconst (1), 0, 0, 0, .int (1)), (.iadd, 0, 0, 0, .null), (.iaload, 0, 1, 0, .null), (.invokevirtual 134, 139, 1, 1645, .int 0), (.if_icmp .eq (87), 1197, 0, 0, .null), (.iconst (0), 0, 0, 0, .int (0)), (.ireturn, 0, 0, 0, .null)]
def xb_Root_law_1115 : List xv_Op := [(.aload_n 1, 0, 0, 0, .null), (.invokevirtual 135, 29, 0, 1058, .int 1), (.aload_n 2, 0, 0, 0, .null), (.invokevirtual 138, 140, 0, 1650, .int 0), (.if_icmp .eq (74), 1197, 0, 0, .null), (.iconst (0), 0, 0, 0, .int (0)), (.ireturn, 0, 0, 0, .null)]
def xb_Root_law_1128 : List xv_Op := [(.aload_n 1, 0, 0, 0, .null), (.invokevirtual 139, 30, 0, 1062, .int 1), (.aload_n 2, 0, 0, 0, .null), (.invokevirtual 143, 141, 0, 1654, .int 0), (.if_icmp .eq (61), 1197, 0, 0, .null), (.iconst (0), 0, 0, 0, .int (0)), (.ireturn, 0, 0, 0, .null)]
def xb_Root_law_1141 : List xv_Op := [(.aload_n 1, 0, 0, 0, .null), (.aload_n 0, 0, 0, 0, .null), (.iload_n 3, 0, 0, 0, .null), (.iconst (1), 0, 0, 0, .int (1)), (.iadd, 0, 0, 0, .null), (.iaload, 0, 1, 0, .null), (.aload_n 0, 0, 0, 0, .null), (.iload_n 3, 0, 0, 0, .null), (.iconst (2), 0, 0, 0, .int (2)), (.iadd, 0, 0, 0, .null), (.iaload, 0, 1, 0, .null), (.invokevirtual 144, 31, 2, 1066, .int 1), (.aload_n 2, 0, 0, 0, .null), (.aload_n 0, 0, 0, 0, .null), (.iload_n 3, 0, 0, 0, .null), (.iconst (1), 0, 0, 0, .int (1)), (.iadd, 0, 0, 0, .null), (.iaload, 0, 1, 0, .null), (.aload_n 0, 0, 0, 0, .null), (.iload_n 3, 0, 0, 0, .null), (.iconst (2), 0, 0, 0, .int (2)), (.iadd, 0, 0, 0, .null), (.iaload, 0, 1, 0, .null), (.invokevirtual 147, 142, 2, 1658, .int 0), (.if_icmp .eq (28), 1197, 0, 0, .null), (.iconst (0), 0, 0, 0, .int (0)), (.ireturn, 0, 0, 0, .null)]
def xb_Root_law_1174 : List xv_Op := [(.aload_n 1, 0, 0, 0, .null), (.aload_n 0, 0, 0, 0, .null), (.iload_n 3, 0, 0, 0, .null), (.iconst (1), 0, 0, 0, .int (1)), (.iadd, 0, 0, 0, .null), (.iaload, 0, 1, 0, .null), (.invokevirtual 148, 32, 1, 1070, .int 1), (.aload_n 2, 0, 0, 0, .null), (.aload_n 0, 0, 0, 0, .null), (.iload_n 3, 0, 0, 0, .null), (.iconst (1), 0, 0, 0, .int (1)), (.iadd, 0, 0, 0, .null), (.iaload, 0, 1, 0, .null), (.invokevirtual 151, 143, 1, 1662, .int 0), (.if_icmp .eq (5), 1197, 0, 0, .null), (.iconst (0), 0, 0, 0, .int (0)), (.ireturn, 0, 0, 0, .null)]
def xb_Root_law_1197 : List xv_Op := [(.iinc 3 (6), 0, 0, 0, .int (6)), (.goto (-1182), 18, 0, 0, .null)]
def xb_Root_law_1203 : List xv_Op := [(.iconst (1), 0, 0, 0, .int (1)), (.ireturn, 0, 0, 0, .null)]
def xl_Root_law : xv_B := [(0, xb_Root_law_0), (18, xb_Root_law_18), (176, xb_Root_law_176), (209, xb_Root_law_209), (242, xb_Root_law_242), (305, xb_Root_law_305), (328, xb_Root_law_328), (361, xb_Root_law_361), (394, xb_Root_law_394), (417, xb_Root_law_417), (440, xb_Root_law_440), (441, xb_Root_law_441), (453, xb_Root_law_453), (454, xb_Root_law_454), (480, xb_Root_law_480), (481, xb_Root_law_481), (493, xb_Root_law_493), (494, xb_Root_law_494), (502, xb_Root_law_502), (515, xb_Root_law_515), (538, xb_Root_law_538), (571, xb_Root_law_571), (604, xb_Root_law_604), (637, xb_Root_law_637), (681, xb_Root_law_681), (725, xb_Root_law_725), (758, xb_Root_law_758), (781, xb_Root_law_781), (805, xb_Root_law_805), (828, xb_Root_law_828), (841, xb_Root_law_841), (874, xb_Root_law_874), (917, xb_Root_law_917), (940, xb_Root_law_940), (983, xb_Root_law_983), (1026, xb_Root_law_1026), (1059, xb_Root_law_1059), (1092, xb_Root_law_1092), (1115, xb_Root_law_1115), (1128, xb_Root_law_1128), (1141, xb_Root_law_1141), (1174, xb_Root_law_1174), (1197, xb_Root_law_1197), (1203, xb_Root_law_1203)]
def xm_Root_law : xv_M := (⟨"OnionCourtLaw", "law", "([I)Z"⟩, code, 4, ret, (99, 0, 1), [], xl_Root_law)
def xv_ml : List xv_M := [xm_Ct_init, xm_Ct_prior, xm_Ct_witness, xm_Ct_feed, xm_Ct_law, xm_Ct_question, xm_Ct_onion, xm_Ct_transcript, xm_Ct_answers, xm_Ct_strike, xm_Ct_weeks, xm_Ct_tried, xm_Ct_witnessIs, xm_Ct_answerIs, xm_Ct_likely, xm_Ct_lie, xm_Ct_world, xm_Ct_askNext, xm_Ct_ifTrue, xm_Ct_liars, xm_Ct_against, xm_Ct_follows, xm_Ct_agree, xm_Ct_tears, xm_Ct_seen, xm_Ct_skins, xm_Ct_onionsFor, xm_Ct_peeled, xm_Ct_seed, xm_Ct_keep, xm_Ct_undo, xm_Ct_check, xm_Ct_count, xm_Ct_canWeigh, xm_Ct_weigh, xm_Ct_mostOpen, xm_Ct_mostTrue, xm_Ct_canBoth, xm_Ct_isTogether, xm_Mo_init, xm_Mo_in, xm_Mo_min, xm_Mo_max, xm_Mo_size, xm_Mo_has, xm_Mo_bits, xm_Mo_copies, xm_Mo_isWitness, xm_Mo_isQuestion, xm_Mo_areAnswers, xm_Mo_layerOf, xm_Mo_together, xm_Mo_prior, xm_Mo_witness, xm_Mo_types, xm_Mo_feed, xm_Mo_here, xm_Mo_isDigit, xm_Mo_wrongAt, xm_Mo_takes, xm_Mo_readsNumber, xm_Mo_notes, xm_Mo_opens, xm_Mo_waitTop, xm_Mo_factOf, xm_Mo_sumSign, xm_Mo_closesSums, xm_Mo_readsFactor, xm_Mo_hasOpenSum, xm_Mo_readsSum, xm_Mo_endsPiece, xm_Mo_lands, xm_Mo_jumps, xm_Mo_readsCompared, xm_Mo_readsCondition, xm_Mo_readsRule, xm_Mo_beginsText, xm_Mo_law, xm_Mo_reckon, xm_Mo_comesTo, xm_Mo_byLaw, xm_Mo_feels, xm_Mo_lastSign, xm_Mo_waitsFor, xm_Mo_joinsLast, xm_Mo_joinsTo, xm_Mo_endsTruth, xm_Mo_worldsOf, xm_Mo_readsTruth, xm_Mo_readsSign, xm_Mo_question, xm_Mo_readsItem, xm_Mo_onion, xm_Mo_readsLine, xm_Mo_transcript, xm_Mo_answersNow, xm_Mo_answers, xm_Mo_strike, xm_Mo_grows, xm_Mo_maySprout, xm_Mo_weekGoes, xm_Mo_weeksGo, xm_Mo_weeks, xm_Mo_tried, xm_Mo_tearsOf, xm_Mo_answersOf, xm_Mo_witnessIs, xm_Mo_answerIs, xm_Mo_weighsBy, xm_Mo_weighs, xm_Mo_weightIn, xm_Mo_gcd, xm_Mo_areWeighed, xm_Mo_oddsOf, xm_Mo_likely, xm_Mo_lie, xm_Mo_world, xm_Mo_askNext, xm_Mo_fitsOf, xm_Mo_fitsAll, xm_Mo_ifTrue, xm_Mo_answersWithout, xm_Mo_liars, xm_Mo_against, xm_Mo_follows, xm_Mo_lastOf, xm_Mo_agree, xm_Mo_tears, xm_Mo_areTrue, xm_Mo_areAllTrue, xm_Mo_seen, xm_Mo_skinOf, xm_Mo_begunBy, xm_Mo_laysBoxes, xm_Mo_skins, xm_Mo_readsRow, xm_Mo_worthOfRow, xm_Mo_onionsFor, xm_Mo_peeled, xm_Mo_seed, xm_Mo_keep, xm_Mo_undo, xm_Mo_check, xm_Mo_count, xm_Answer_init, xm_Answer_tell, xm_Answer_peel, xm_Answer_copy, xm_Answer_who, xm_Answer_asked, xm_Answer_hasCried, xm_Answer_strength, xm_Answer_isLike, xm_Answer_fits, xm_Answer_is, xm_Answer_weight, xm_Archive_init, xm_Archive_copy, xm_Archive_call, xm_Archive_told, xm_Archive_toldOnes, xm_Archive_answer, xm_Archive_has, xm_Archive_said, xm_Archive_week, xm_Archive_drawn, xm_Archive_sprouted, xm_Archive_gone, xm_Archive_sow, xm_Archive_say, xm_Archive_forget, xm_Archive_hear, xm_Archive_line, xm_Archive_whatIsWrongWith, xm_Archive_refuse, xm_Archive_pass, xm_Archive_live, xm_Archive_saidBy, xm_Archive_criedAt, xm_Archive_lastOf, xm_Archive_fitting, xm_Archive_fittingWithout, xm_Boxes_init, xm_Boxes_lay, xm_Boxes_pack, xm_Boxes_place, xm_Boxes_boxOf, xm_Case_init, xm_Case_open, xm_Case_show, xm_Case_hear, xm_Case_tellLie, xm_Case_isLetter, xm_Case_of, xm_Exchange_init, xm_Exchange_gather, xm_Exchange_settle, xm_Exchange_give, xm_Exchange_note, xm_Exchange_most, xm_Exchange_whoseFor, xm_Law_init, xm_Law_clear, xm_Law_copy, xm_Law_rules, xm_Law_isFull, xm_Law_size, xm_Law_add, xm_Law_addRule, xm_Law_isKind, xm_Law_ask, xm_Law_run, xm_Law_join, xm_LawReader_read, xm_LawReader_parts, xm_LawReader_tests, xm_LawReader_test, xm_LawReader_terms, xm_LawReader_factors, xm_LawReader_factor, xm_LawReader_number, xm_LawReader_canOpen, xm_Questions_init, xm_Questions_isTold, xm_Questions_toldOnes, xm_Questions_holds, xm_Questions_tell, xm_Questions_read, xm_Questions_sides, xm_Questions_odds, xm_Questions_pieces, xm_Questions_piece, xm_Questions_opened, xm_Scales_init, xm_Scales_believe, xm_Scales_belief, xm_Scales_start, xm_Scales_add, xm_Scales_within, xm_Scales_all, xm_Scales_part, xm_Scales_commonDivisor, xm_Scales_heaviest, xm_Scales_likelyFacts, xm_Tape_init, xm_Tape_hasRoomFor, xm_Tape_append, xm_Tape_size, xm_Tape_cut, xm_Tape_byteAt, xm_Tape_place, xm_Tape_sign, xm_Tape_digit, xm_Tape_step, xm_Tape_take, xm_Tape_expect, xm_Tape_expectEnd, xm_Tape_refuse, xm_Tape_isFaulty, xm_Tape_fault, xm_Witness_init, xm_Witness_tell, xm_Witness_copy, xm_Witness_isTold, xm_Witness_honesty, xm_Witness_layers, xm_Witness_layer, xm_Witness_first, xm_Witness_peel, xm_Witness_sprout, xm_Witness_age, xm_Witness_read, xm_Witness_item, xm_Witness_times, xm_Integer_bitCount]
def xv_mt (k : Nat) : Option xv_M := xv_ml[k]?
end
section
/-! every instruction of every method stands there as the listing has it -/
def xv_mokB (M : xv_M) (w1 w2 w3 w4 : Nat) : Bool :=
  decide (xv_T[w1]? = some (.code M.1 M.2.1 M.2.2.1 M.2.2.2.1)) && decide (xv_T[w2]? = some (.initialized M.1.cls)) && plainName M.1.cls &&
  decide (M.1.cls ≠ "java/lang/invoke/MethodHandle") && decide (M.1.cls ≠ "java/lang/invoke/VarHandle") && decide ((parseMethodDescriptor M.1.desc).map (fun d => d.parameters.length) = some M.2.2.2.2.1.2.2) && decide (M.2.2.1 ≤ 40) &&
  (if M.2.2.2.2.1.2.1 = 0 then decide (xv_T[w3]? = some (.static M.1)) else decide (xv_T[w3]? = some (.instanceMethod M.1))) &&
  (if M.2.2.2.2.1.2.1 = 1 then decide (xv_T[w4]? = some (.selects M.1.cls M.1 M.1)) && decide ((xv_cl[M.2.2.2.2.1.1]?).map (fun q => q.1) = some M.1.cls) else true) &&
  (if M.2.2.2.2.1.2.1 = 2 then decide (M.1.name = "<init>") && decide (M.2.2.2.1 = none) else true) && M.2.2.2.2.2.2.all fun q => xv_bok xv_mt M q.2 q.1
theorem xv_at_or (L : xv_B) (pc : Nat) : xv_at L pc = [] ∨ (pc, xv_at L pc) ∈ L := by
  induction L with
  | nil => exact Or.inl rfl
  | cons q L ih =>
    obtain ⟨p, b⟩ := q
    unfold xv_at
    by_cases h : p = pc
    · rw [if_pos h]; subst h; exact Or.inr List.mem_cons_self
    · rw [if_neg h]
      rcases ih with h2 | h2
      · exact Or.inl h2
      · exact Or.inr (List.mem_cons_of_mem _ h2)
theorem xv_mokB_use {M : xv_M} {w1 w2 w3 w4 : Nat} (h : xv_mokB M w1 w2 w3 w4 = true) : xv_mok xv_mt M := by
  unfold xv_mokB at h
  simp only [Bool.and_eq_true, decide_eq_true_eq] at h
  obtain ⟨⟨⟨⟨⟨⟨⟨⟨⟨⟨h1, h2⟩, h3⟩, h4⟩, h5⟩, h6⟩, h7⟩, h8⟩, h9⟩, h10⟩, h11⟩ := h
  refine ⟨⟨List.mem_of_getElem? h1, List.mem_of_getElem? h2, h3⟩, ⟨h4, h5, h6⟩, h7, fun hk => ?_, fun hk => ?_, fun hk => ?_, fun pc => ?_⟩
  · rw [if_pos hk] at h8; exact List.mem_of_getElem? (of_decide_eq_true h8)
  · rw [if_neg (by rw [hk]; decide)] at h8
    rw [if_pos hk] at h9
    simp only [Bool.and_eq_true, decide_eq_true_eq] at h9
    refine ⟨List.mem_of_getElem? (of_decide_eq_true h8), List.mem_of_getElem? h9.1, ?_⟩
    cases hq : xv_cl[M.2.2.2.2.1.1]? with
    | none => rw [hq] at h9; exact absurd h9.2 (by simp)
    | some q => rw [hq] at h9; exact ⟨q, rfl, Option.some.inj h9.2⟩
  · rw [if_neg (by rw [hk]; decide)] at h8
    rw [if_pos hk] at h10
    simp only [Bool.and_eq_true, decide_eq_true_eq] at h10
    exact ⟨List.mem_of_getElem? (of_decide_eq_true h8), h10.1, h10.2⟩
  · rcases xv_at_or M.2.2.2.2.2.2 pc with h | h
    · rw [h]; rfl
    · exact List.all_eq_true.mp h11 _ h
end
section
theorem xk_Ct_init : xv_mok xv_mt xm_Ct_init := xv_mokB_use (w1 := 94) (w2 := 75) (w3 := 93) (w4 := 0) (by decide +kernel)
theorem xk_Ct_prior : xv_mok xv_mt xm_Ct_prior := xv_mokB_use (w1 := 391) (w2 := 75) (w3 := 389) (w4 := 390) (by decide +kernel)
theorem xk_Ct_witness : xv_mok xv_mt xm_Ct_witness := xv_mokB_use (w1 := 399) (w2 := 75) (w3 := 397) (w4 := 398) (by decide +kernel)
theorem xk_Ct_feed : xv_mok xv_mt xm_Ct_feed := xv_mokB_use (w1 := 411) (w2 := 75) (w3 := 409) (w4 := 410) (by decide +kernel)
theorem xk_Ct_law : xv_mok xv_mt xm_Ct_law := xv_mokB_use (w1 := 427) (w2 := 75) (w3 := 425) (w4 := 426) (by decide +kernel)
theorem xk_Ct_question : xv_mok xv_mt xm_Ct_question := xv_mokB_use (w1 := 540) (w2 := 75) (w3 := 538) (w4 := 539) (by decide +kernel)
theorem xk_Ct_onion : xv_mok xv_mt xm_Ct_onion := xv_mokB_use (w1 := 582) (w2 := 75) (w3 := 580) (w4 := 581) (by decide +kernel)
theorem xk_Ct_transcript : xv_mok xv_mt xm_Ct_transcript := xv_mokB_use (w1 := 618) (w2 := 75) (w3 := 616) (w4 := 617) (by decide +kernel)
theorem xk_Ct_answers : xv_mok xv_mt xm_Ct_answers := xv_mokB_use (w1 := 697) (w2 := 75) (w3 := 695) (w4 := 696) (by decide +kernel)
theorem xk_Ct_strike : xv_mok xv_mt xm_Ct_strike := xv_mokB_use (w1 := 703) (w2 := 75) (w3 := 701) (w4 := 702) (by decide +kernel)
theorem xk_Ct_weeks : xv_mok xv_mt xm_Ct_weeks := xv_mokB_use (w1 := 711) (w2 := 75) (w3 := 709) (w4 := 710) (by decide +kernel)
theorem xk_Ct_tried : xv_mok xv_mt xm_Ct_tried := xv_mokB_use (w1 := 775) (w2 := 75) (w3 := 773) (w4 := 774) (by decide +kernel)
theorem xk_Ct_witnessIs : xv_mok xv_mt xm_Ct_witnessIs := xv_mokB_use (w1 := 787) (w2 := 75) (w3 := 785) (w4 := 786) (by decide +kernel)
theorem xk_Ct_answerIs : xv_mok xv_mt xm_Ct_answerIs := xv_mokB_use (w1 := 805) (w2 := 75) (w3 := 803) (w4 := 804) (by decide +kernel)
theorem xk_Ct_likely : xv_mok xv_mt xm_Ct_likely := xv_mokB_use (w1 := 817) (w2 := 75) (w3 := 815) (w4 := 816) (by decide +kernel)
theorem xk_Ct_lie : xv_mok xv_mt xm_Ct_lie := xv_mokB_use (w1 := 881) (w2 := 75) (w3 := 879) (w4 := 880) (by decide +kernel)
theorem xk_Ct_world : xv_mok xv_mt xm_Ct_world := xv_mokB_use (w1 := 890) (w2 := 75) (w3 := 888) (w4 := 889) (by decide +kernel)
theorem xk_Ct_askNext : xv_mok xv_mt xm_Ct_askNext := xv_mokB_use (w1 := 905) (w2 := 75) (w3 := 903) (w4 := 904) (by decide +kernel)
theorem xk_Ct_ifTrue : xv_mok xv_mt xm_Ct_ifTrue := xv_mokB_use (w1 := 918) (w2 := 75) (w3 := 916) (w4 := 917) (by decide +kernel)
theorem xk_Ct_liars : xv_mok xv_mt xm_Ct_liars := xv_mokB_use (w1 := 928) (w2 := 75) (w3 := 926) (w4 := 927) (by decide +kernel)
theorem xk_Ct_against : xv_mok xv_mt xm_Ct_against := xv_mokB_use (w1 := 937) (w2 := 75) (w3 := 935) (w4 := 936) (by decide +kernel)
theorem xk_Ct_follows : xv_mok xv_mt xm_Ct_follows := xv_mokB_use (w1 := 941) (w2 := 75) (w3 := 939) (w4 := 940) (by decide +kernel)
theorem xk_Ct_agree : xv_mok xv_mt xm_Ct_agree := xv_mokB_use (w1 := 945) (w2 := 75) (w3 := 943) (w4 := 944) (by decide +kernel)
theorem xk_Ct_tears : xv_mok xv_mt xm_Ct_tears := xv_mokB_use (w1 := 958) (w2 := 75) (w3 := 956) (w4 := 957) (by decide +kernel)
theorem xk_Ct_seen : xv_mok xv_mt xm_Ct_seen := xv_mokB_use (w1 := 966) (w2 := 75) (w3 := 964) (w4 := 965) (by decide +kernel)
theorem xk_Ct_skins : xv_mok xv_mt xm_Ct_skins := xv_mokB_use (w1 := 989) (w2 := 75) (w3 := 987) (w4 := 988) (by decide +kernel)
theorem xk_Ct_onionsFor : xv_mok xv_mt xm_Ct_onionsFor := xv_mokB_use (w1 := 1012) (w2 := 75) (w3 := 1010) (w4 := 1011) (by decide +kernel)
theorem xk_Ct_peeled : xv_mok xv_mt xm_Ct_peeled := xv_mokB_use (w1 := 1048) (w2 := 75) (w3 := 1046) (w4 := 1047) (by decide +kernel)
theorem xk_Ct_seed : xv_mok xv_mt xm_Ct_seed := xv_mokB_use (w1 := 1052) (w2 := 75) (w3 := 1050) (w4 := 1051) (by decide +kernel)
theorem xk_Ct_keep : xv_mok xv_mt xm_Ct_keep := xv_mokB_use (w1 := 1061) (w2 := 75) (w3 := 1059) (w4 := 1060) (by decide +kernel)
theorem xk_Ct_undo : xv_mok xv_mt xm_Ct_undo := xv_mokB_use (w1 := 1065) (w2 := 75) (w3 := 1063) (w4 := 1064) (by decide +kernel)
theorem xk_Ct_check : xv_mok xv_mt xm_Ct_check := xv_mokB_use (w1 := 1069) (w2 := 75) (w3 := 1067) (w4 := 1068) (by decide +kernel)
theorem xk_Ct_count : xv_mok xv_mt xm_Ct_count := xv_mokB_use (w1 := 1073) (w2 := 75) (w3 := 1071) (w4 := 1072) (by decide +kernel)
theorem xk_Ct_canWeigh : xv_mok xv_mt xm_Ct_canWeigh := xv_mokB_use (w1 := 821) (w2 := 75) (w3 := 820) (w4 := 5) (by decide +kernel)
theorem xk_Ct_weigh : xv_mok xv_mt xm_Ct_weigh := xv_mokB_use (w1 := 830) (w2 := 75) (w3 := 829) (w4 := 6) (by decide +kernel)
theorem xk_Ct_mostOpen : xv_mok xv_mt xm_Ct_mostOpen := xv_mokB_use (w1 := 909) (w2 := 75) (w3 := 908) (w4 := 7) (by decide +kernel)
theorem xk_Ct_mostTrue : xv_mok xv_mt xm_Ct_mostTrue := xv_mokB_use (w1 := 970) (w2 := 75) (w3 := 969) (w4 := 8) (by decide +kernel)
theorem xk_Ct_canBoth : xv_mok xv_mt xm_Ct_canBoth := xv_mokB_use (w1 := 974) (w2 := 75) (w3 := 973) (w4 := 9) (by decide +kernel)
end
section
theorem xk_Ct_isTogether : xv_mok xv_mt xm_Ct_isTogether := xv_mokB_use (w1 := 985) (w2 := 75) (w3 := 984) (w4 := 10) (by decide +kernel)
theorem xk_Mo_init : xv_mok xv_mt xm_Mo_init := xv_mokB_use (w1 := 1095) (w2 := 86) (w3 := 1094) (w4 := 0) (by decide +kernel)
theorem xk_Mo_in : xv_mok xv_mt xm_Mo_in := xv_mokB_use (w1 := 1261) (w2 := 86) (w3 := 1260) (w4 := 0) (by decide +kernel)
theorem xk_Mo_min : xv_mok xv_mt xm_Mo_min := xv_mokB_use (w1 := 1477) (w2 := 86) (w3 := 1476) (w4 := 0) (by decide +kernel)
theorem xk_Mo_max : xv_mok xv_mt xm_Mo_max := xv_mokB_use (w1 := 1480) (w2 := 86) (w3 := 1479) (w4 := 0) (by decide +kernel)
theorem xk_Mo_size : xv_mok xv_mt xm_Mo_size := xv_mokB_use (w1 := 1612) (w2 := 86) (w3 := 1611) (w4 := 0) (by decide +kernel)
theorem xk_Mo_has : xv_mok xv_mt xm_Mo_has := xv_mokB_use (w1 := 1375) (w2 := 86) (w3 := 1374) (w4 := 0) (by decide +kernel)
theorem xk_Mo_bits : xv_mok xv_mt xm_Mo_bits := xv_mokB_use (w1 := 1403) (w2 := 86) (w3 := 1402) (w4 := 0) (by decide +kernel)
theorem xk_Mo_copies : xv_mok xv_mt xm_Mo_copies := xv_mokB_use (w1 := 1492) (w2 := 86) (w3 := 1491) (w4 := 0) (by decide +kernel)
theorem xk_Mo_isWitness : xv_mok xv_mt xm_Mo_isWitness := xv_mokB_use (w1 := 1411) (w2 := 86) (w3 := 1410) (w4 := 41) (by decide +kernel)
theorem xk_Mo_isQuestion : xv_mok xv_mt xm_Mo_isQuestion := xv_mokB_use (w1 := 1427) (w2 := 86) (w3 := 1426) (w4 := 44) (by decide +kernel)
theorem xk_Mo_areAnswers : xv_mok xv_mt xm_Mo_areAnswers := xv_mokB_use (w1 := 1524) (w2 := 86) (w3 := 1523) (w4 := 58) (by decide +kernel)
theorem xk_Mo_layerOf : xv_mok xv_mt xm_Mo_layerOf := xv_mokB_use (w1 := 1435) (w2 := 86) (w3 := 1434) (w4 := 46) (by decide +kernel)
theorem xk_Mo_together : xv_mok xv_mt xm_Mo_together := xv_mokB_use (w1 := 1496) (w2 := 86) (w3 := 1495) (w4 := 54) (by decide +kernel)
theorem xk_Mo_prior : xv_mok xv_mt xm_Mo_prior := xv_mokB_use (w1 := 1258) (w2 := 86) (w3 := 1256) (w4 := 1257) (by decide +kernel)
theorem xk_Mo_witness : xv_mok xv_mt xm_Mo_witness := xv_mokB_use (w1 := 1265) (w2 := 86) (w3 := 1263) (w4 := 1264) (by decide +kernel)
theorem xk_Mo_types : xv_mok xv_mt xm_Mo_types := xv_mokB_use (w1 := 1273) (w2 := 86) (w3 := 1272) (w4 := 14) (by decide +kernel)
theorem xk_Mo_feed : xv_mok xv_mt xm_Mo_feed := xv_mokB_use (w1 := 1269) (w2 := 86) (w3 := 1267) (w4 := 1268) (by decide +kernel)
theorem xk_Mo_here : xv_mok xv_mt xm_Mo_here := xv_mokB_use (w1 := 1289) (w2 := 86) (w3 := 1288) (w4 := 17) (by decide +kernel)
theorem xk_Mo_isDigit : xv_mok xv_mt xm_Mo_isDigit := xv_mokB_use (w1 := 1310) (w2 := 86) (w3 := 1309) (w4 := 22) (by decide +kernel)
theorem xk_Mo_wrongAt : xv_mok xv_mt xm_Mo_wrongAt := xv_mokB_use (w1 := 1293) (w2 := 86) (w3 := 1292) (w4 := 18) (by decide +kernel)
theorem xk_Mo_takes : xv_mok xv_mt xm_Mo_takes := xv_mokB_use (w1 := 1360) (w2 := 86) (w3 := 1359) (w4 := 33) (by decide +kernel)
theorem xk_Mo_readsNumber : xv_mok xv_mt xm_Mo_readsNumber := xv_mokB_use (w1 := 1314) (w2 := 86) (w3 := 1313) (w4 := 23) (by decide +kernel)
theorem xk_Mo_notes : xv_mok xv_mt xm_Mo_notes := xv_mokB_use (w1 := 1318) (w2 := 86) (w3 := 1317) (w4 := 24) (by decide +kernel)
theorem xk_Mo_opens : xv_mok xv_mt xm_Mo_opens := xv_mokB_use (w1 := 1305) (w2 := 86) (w3 := 1304) (w4 := 21) (by decide +kernel)
theorem xk_Mo_waitTop : xv_mok xv_mt xm_Mo_waitTop := xv_mokB_use (w1 := 1332) (w2 := 86) (w3 := 1331) (w4 := 26) (by decide +kernel)
theorem xk_Mo_factOf : xv_mok xv_mt xm_Mo_factOf := xv_mokB_use (w1 := 1321) (w2 := 86) (w3 := 1320) (w4 := 0) (by decide +kernel)
theorem xk_Mo_sumSign : xv_mok xv_mt xm_Mo_sumSign := xv_mokB_use (w1 := 1324) (w2 := 86) (w3 := 1323) (w4 := 0) (by decide +kernel)
theorem xk_Mo_closesSums : xv_mok xv_mt xm_Mo_closesSums := xv_mokB_use (w1 := 1328) (w2 := 86) (w3 := 1327) (w4 := 25) (by decide +kernel)
theorem xk_Mo_readsFactor : xv_mok xv_mt xm_Mo_readsFactor := xv_mokB_use (w1 := 1301) (w2 := 86) (w3 := 1300) (w4 := 20) (by decide +kernel)
theorem xk_Mo_hasOpenSum : xv_mok xv_mt xm_Mo_hasOpenSum := xv_mokB_use (w1 := 1336) (w2 := 86) (w3 := 1335) (w4 := 27) (by decide +kernel)
theorem xk_Mo_readsSum : xv_mok xv_mt xm_Mo_readsSum := xv_mokB_use (w1 := 1297) (w2 := 86) (w3 := 1296) (w4 := 19) (by decide +kernel)
theorem xk_Mo_endsPiece : xv_mok xv_mt xm_Mo_endsPiece := xv_mokB_use (w1 := 1348) (w2 := 86) (w3 := 1347) (w4 := 30) (by decide +kernel)
theorem xk_Mo_lands : xv_mok xv_mt xm_Mo_lands := xv_mokB_use (w1 := 1352) (w2 := 86) (w3 := 1351) (w4 := 31) (by decide +kernel)
theorem xk_Mo_jumps : xv_mok xv_mt xm_Mo_jumps := xv_mokB_use (w1 := 1356) (w2 := 86) (w3 := 1355) (w4 := 32) (by decide +kernel)
theorem xk_Mo_readsCompared : xv_mok xv_mt xm_Mo_readsCompared := xv_mokB_use (w1 := 1344) (w2 := 86) (w3 := 1343) (w4 := 29) (by decide +kernel)
theorem xk_Mo_readsCondition : xv_mok xv_mt xm_Mo_readsCondition := xv_mokB_use (w1 := 1340) (w2 := 86) (w3 := 1339) (w4 := 28) (by decide +kernel)
theorem xk_Mo_readsRule : xv_mok xv_mt xm_Mo_readsRule := xv_mokB_use (w1 := 1285) (w2 := 86) (w3 := 1284) (w4 := 16) (by decide +kernel)
theorem xk_Mo_beginsText : xv_mok xv_mt xm_Mo_beginsText := xv_mokB_use (w1 := 1281) (w2 := 86) (w3 := 1280) (w4 := 15) (by decide +kernel)
theorem xk_Mo_law : xv_mok xv_mt xm_Mo_law := xv_mokB_use (w1 := 1277) (w2 := 86) (w3 := 1275) (w4 := 1276) (by decide +kernel)
end
section
theorem xk_Mo_reckon : xv_mok xv_mt xm_Mo_reckon := xv_mokB_use (w1 := 1474) (w2 := 86) (w3 := 1473) (w4 := 0) (by decide +kernel)
theorem xk_Mo_comesTo : xv_mok xv_mt xm_Mo_comesTo := xv_mokB_use (w1 := 1471) (w2 := 86) (w3 := 1470) (w4 := 52) (by decide +kernel)
theorem xk_Mo_byLaw : xv_mok xv_mt xm_Mo_byLaw := xv_mokB_use (w1 := 1467) (w2 := 86) (w3 := 1466) (w4 := 51) (by decide +kernel)
theorem xk_Mo_feels : xv_mok xv_mt xm_Mo_feels := xv_mokB_use (w1 := 1463) (w2 := 86) (w3 := 1462) (w4 := 50) (by decide +kernel)
theorem xk_Mo_lastSign : xv_mok xv_mt xm_Mo_lastSign := xv_mokB_use (w1 := 1383) (w2 := 86) (w3 := 1382) (w4 := 36) (by decide +kernel)
theorem xk_Mo_waitsFor : xv_mok xv_mt xm_Mo_waitsFor := xv_mokB_use (w1 := 1392) (w2 := 86) (w3 := 1391) (w4 := 38) (by decide +kernel)
theorem xk_Mo_joinsLast : xv_mok xv_mt xm_Mo_joinsLast := xv_mokB_use (w1 := 1387) (w2 := 86) (w3 := 1386) (w4 := 37) (by decide +kernel)
theorem xk_Mo_joinsTo : xv_mok xv_mt xm_Mo_joinsTo := xv_mokB_use (w1 := 1400) (w2 := 86) (w3 := 1399) (w4 := 40) (by decide +kernel)
theorem xk_Mo_endsTruth : xv_mok xv_mt xm_Mo_endsTruth := xv_mokB_use (w1 := 1379) (w2 := 86) (w3 := 1378) (w4 := 35) (by decide +kernel)
theorem xk_Mo_worldsOf : xv_mok xv_mt xm_Mo_worldsOf := xv_mokB_use (w1 := 1371) (w2 := 86) (w3 := 1370) (w4 := 0) (by decide +kernel)
theorem xk_Mo_readsTruth : xv_mok xv_mt xm_Mo_readsTruth := xv_mokB_use (w1 := 1368) (w2 := 86) (w3 := 1367) (w4 := 34) (by decide +kernel)
theorem xk_Mo_readsSign : xv_mok xv_mt xm_Mo_readsSign := xv_mokB_use (w1 := 1396) (w2 := 86) (w3 := 1395) (w4 := 39) (by decide +kernel)
theorem xk_Mo_question : xv_mok xv_mt xm_Mo_question := xv_mokB_use (w1 := 1364) (w2 := 86) (w3 := 1362) (w4 := 1363) (by decide +kernel)
theorem xk_Mo_readsItem : xv_mok xv_mt xm_Mo_readsItem := xv_mokB_use (w1 := 1415) (w2 := 86) (w3 := 1414) (w4 := 42) (by decide +kernel)
theorem xk_Mo_onion : xv_mok xv_mt xm_Mo_onion := xv_mokB_use (w1 := 1407) (w2 := 86) (w3 := 1405) (w4 := 1406) (by decide +kernel)
theorem xk_Mo_readsLine : xv_mok xv_mt xm_Mo_readsLine := xv_mokB_use (w1 := 1423) (w2 := 86) (w3 := 1422) (w4 := 43) (by decide +kernel)
theorem xk_Mo_transcript : xv_mok xv_mt xm_Mo_transcript := xv_mokB_use (w1 := 1419) (w2 := 86) (w3 := 1417) (w4 := 1418) (by decide +kernel)
theorem xk_Mo_answersNow : xv_mok xv_mt xm_Mo_answersNow := xv_mokB_use (w1 := 1431) (w2 := 86) (w3 := 1430) (w4 := 45) (by decide +kernel)
end
section
theorem xk_Mo_answers : xv_mok xv_mt xm_Mo_answers := xv_mokB_use (w1 := 1439) (w2 := 86) (w3 := 1437) (w4 := 1438) (by decide +kernel)
theorem xk_Mo_strike : xv_mok xv_mt xm_Mo_strike := xv_mokB_use (w1 := 1443) (w2 := 86) (w3 := 1441) (w4 := 1442) (by decide +kernel)
theorem xk_Mo_grows : xv_mok xv_mt xm_Mo_grows := xv_mokB_use (w1 := 1459) (w2 := 86) (w3 := 1458) (w4 := 49) (by decide +kernel)
theorem xk_Mo_maySprout : xv_mok xv_mt xm_Mo_maySprout := xv_mokB_use (w1 := 1484) (w2 := 86) (w3 := 1483) (w4 := 53) (by decide +kernel)
theorem xk_Mo_weekGoes : xv_mok xv_mt xm_Mo_weekGoes := xv_mokB_use (w1 := 1455) (w2 := 86) (w3 := 1454) (w4 := 48) (by decide +kernel)
theorem xk_Mo_weeksGo : xv_mok xv_mt xm_Mo_weeksGo := xv_mokB_use (w1 := 1451) (w2 := 86) (w3 := 1450) (w4 := 47) (by decide +kernel)
theorem xk_Mo_weeks : xv_mok xv_mt xm_Mo_weeks := xv_mokB_use (w1 := 1447) (w2 := 86) (w3 := 1445) (w4 := 1446) (by decide +kernel)
theorem xk_Mo_tried : xv_mok xv_mt xm_Mo_tried := xv_mokB_use (w1 := 1489) (w2 := 86) (w3 := 1487) (w4 := 1488) (by decide +kernel)
theorem xk_Mo_tearsOf : xv_mok xv_mt xm_Mo_tearsOf := xv_mokB_use (w1 := 1504) (w2 := 86) (w3 := 1503) (w4 := 55) (by decide +kernel)
theorem xk_Mo_answersOf : xv_mok xv_mt xm_Mo_answersOf := xv_mokB_use (w1 := 1508) (w2 := 86) (w3 := 1507) (w4 := 56) (by decide +kernel)
theorem xk_Mo_witnessIs : xv_mok xv_mt xm_Mo_witnessIs := xv_mokB_use (w1 := 1500) (w2 := 86) (w3 := 1498) (w4 := 1499) (by decide +kernel)
theorem xk_Mo_answerIs : xv_mok xv_mt xm_Mo_answerIs := xv_mokB_use (w1 := 1512) (w2 := 86) (w3 := 1510) (w4 := 1511) (by decide +kernel)
theorem xk_Mo_weighsBy : xv_mok xv_mt xm_Mo_weighsBy := xv_mokB_use (w1 := 1536) (w2 := 86) (w3 := 1535) (w4 := 61) (by decide +kernel)
theorem xk_Mo_weighs : xv_mok xv_mt xm_Mo_weighs := xv_mokB_use (w1 := 1532) (w2 := 86) (w3 := 1531) (w4 := 60) (by decide +kernel)
theorem xk_Mo_weightIn : xv_mok xv_mt xm_Mo_weightIn := xv_mokB_use (w1 := 1541) (w2 := 86) (w3 := 1540) (w4 := 62) (by decide +kernel)
theorem xk_Mo_gcd : xv_mok xv_mt xm_Mo_gcd := xv_mokB_use (w1 := 1544) (w2 := 86) (w3 := 1543) (w4 := 0) (by decide +kernel)
theorem xk_Mo_areWeighed : xv_mok xv_mt xm_Mo_areWeighed := xv_mokB_use (w1 := 1520) (w2 := 86) (w3 := 1519) (w4 := 57) (by decide +kernel)
theorem xk_Mo_oddsOf : xv_mok xv_mt xm_Mo_oddsOf := xv_mokB_use (w1 := 1528) (w2 := 86) (w3 := 1527) (w4 := 59) (by decide +kernel)
theorem xk_Mo_likely : xv_mok xv_mt xm_Mo_likely := xv_mokB_use (w1 := 1516) (w2 := 86) (w3 := 1514) (w4 := 1515) (by decide +kernel)
theorem xk_Mo_lie : xv_mok xv_mt xm_Mo_lie := xv_mokB_use (w1 := 1548) (w2 := 86) (w3 := 1546) (w4 := 1547) (by decide +kernel)
theorem xk_Mo_world : xv_mok xv_mt xm_Mo_world := xv_mokB_use (w1 := 1556) (w2 := 86) (w3 := 1554) (w4 := 1555) (by decide +kernel)
theorem xk_Mo_askNext : xv_mok xv_mt xm_Mo_askNext := xv_mokB_use (w1 := 1561) (w2 := 86) (w3 := 1559) (w4 := 1560) (by decide +kernel)
theorem xk_Mo_fitsOf : xv_mok xv_mt xm_Mo_fitsOf := xv_mokB_use (w1 := 1552) (w2 := 86) (w3 := 1551) (w4 := 63) (by decide +kernel)
theorem xk_Mo_fitsAll : xv_mok xv_mt xm_Mo_fitsAll := xv_mokB_use (w1 := 1569) (w2 := 86) (w3 := 1568) (w4 := 64) (by decide +kernel)
theorem xk_Mo_ifTrue : xv_mok xv_mt xm_Mo_ifTrue := xv_mokB_use (w1 := 1565) (w2 := 86) (w3 := 1563) (w4 := 1564) (by decide +kernel)
theorem xk_Mo_answersWithout : xv_mok xv_mt xm_Mo_answersWithout := xv_mokB_use (w1 := 1577) (w2 := 86) (w3 := 1576) (w4 := 65) (by decide +kernel)
theorem xk_Mo_liars : xv_mok xv_mt xm_Mo_liars := xv_mokB_use (w1 := 1573) (w2 := 86) (w3 := 1571) (w4 := 1572) (by decide +kernel)
theorem xk_Mo_against : xv_mok xv_mt xm_Mo_against := xv_mokB_use (w1 := 1581) (w2 := 86) (w3 := 1579) (w4 := 1580) (by decide +kernel)
theorem xk_Mo_follows : xv_mok xv_mt xm_Mo_follows := xv_mokB_use (w1 := 1585) (w2 := 86) (w3 := 1583) (w4 := 1584) (by decide +kernel)
theorem xk_Mo_lastOf : xv_mok xv_mt xm_Mo_lastOf := xv_mokB_use (w1 := 1593) (w2 := 86) (w3 := 1592) (w4 := 66) (by decide +kernel)
theorem xk_Mo_agree : xv_mok xv_mt xm_Mo_agree := xv_mokB_use (w1 := 1589) (w2 := 86) (w3 := 1587) (w4 := 1588) (by decide +kernel)
end
section
theorem xk_Mo_tears : xv_mok xv_mt xm_Mo_tears := xv_mokB_use (w1 := 1597) (w2 := 86) (w3 := 1595) (w4 := 1596) (by decide +kernel)
theorem xk_Mo_areTrue : xv_mok xv_mt xm_Mo_areTrue := xv_mokB_use (w1 := 1609) (w2 := 86) (w3 := 1608) (w4 := 68) (by decide +kernel)
theorem xk_Mo_areAllTrue : xv_mok xv_mt xm_Mo_areAllTrue := xv_mokB_use (w1 := 1605) (w2 := 86) (w3 := 1604) (w4 := 67) (by decide +kernel)
theorem xk_Mo_seen : xv_mok xv_mt xm_Mo_seen := xv_mokB_use (w1 := 1601) (w2 := 86) (w3 := 1599) (w4 := 1600) (by decide +kernel)
theorem xk_Mo_skinOf : xv_mok xv_mt xm_Mo_skinOf := xv_mokB_use (w1 := 1620) (w2 := 86) (w3 := 1619) (w4 := 69) (by decide +kernel)
theorem xk_Mo_begunBy : xv_mok xv_mt xm_Mo_begunBy := xv_mokB_use (w1 := 1628) (w2 := 86) (w3 := 1627) (w4 := 71) (by decide +kernel)
theorem xk_Mo_laysBoxes : xv_mok xv_mt xm_Mo_laysBoxes := xv_mokB_use (w1 := 1624) (w2 := 86) (w3 := 1623) (w4 := 70) (by decide +kernel)
theorem xk_Mo_skins : xv_mok xv_mt xm_Mo_skins := xv_mokB_use (w1 := 1616) (w2 := 86) (w3 := 1614) (w4 := 1615) (by decide +kernel)
theorem xk_Mo_readsRow : xv_mok xv_mt xm_Mo_readsRow := xv_mokB_use (w1 := 1636) (w2 := 86) (w3 := 1635) (w4 := 72) (by decide +kernel)
theorem xk_Mo_worthOfRow : xv_mok xv_mt xm_Mo_worthOfRow := xv_mokB_use (w1 := 1640) (w2 := 86) (w3 := 1639) (w4 := 73) (by decide +kernel)
theorem xk_Mo_onionsFor : xv_mok xv_mt xm_Mo_onionsFor := xv_mokB_use (w1 := 1632) (w2 := 86) (w3 := 1630) (w4 := 1631) (by decide +kernel)
theorem xk_Mo_peeled : xv_mok xv_mt xm_Mo_peeled := xv_mokB_use (w1 := 1644) (w2 := 86) (w3 := 1642) (w4 := 1643) (by decide +kernel)
theorem xk_Mo_seed : xv_mok xv_mt xm_Mo_seed := xv_mokB_use (w1 := 1648) (w2 := 86) (w3 := 1646) (w4 := 1647) (by decide +kernel)
theorem xk_Mo_keep : xv_mok xv_mt xm_Mo_keep := xv_mokB_use (w1 := 1653) (w2 := 86) (w3 := 1651) (w4 := 1652) (by decide +kernel)
theorem xk_Mo_undo : xv_mok xv_mt xm_Mo_undo := xv_mokB_use (w1 := 1657) (w2 := 86) (w3 := 1655) (w4 := 1656) (by decide +kernel)
theorem xk_Mo_check : xv_mok xv_mt xm_Mo_check := xv_mokB_use (w1 := 1661) (w2 := 86) (w3 := 1659) (w4 := 1660) (by decide +kernel)
theorem xk_Mo_count : xv_mok xv_mt xm_Mo_count := xv_mokB_use (w1 := 1665) (w2 := 86) (w3 := 1663) (w4 := 1664) (by decide +kernel)
theorem xk_Answer_init : xv_mok xv_mt xm_Answer_init := xv_mokB_use (w1 := 244) (w2 := 83) (w3 := 243) (w4 := 0) (by decide +kernel)
theorem xk_Answer_tell : xv_mok xv_mt xm_Answer_tell := xv_mokB_use (w1 := 631) (w2 := 83) (w3 := 629) (w4 := 630) (by decide +kernel)
theorem xk_Answer_peel : xv_mok xv_mt xm_Answer_peel := xv_mokB_use (w1 := 668) (w2 := 83) (w3 := 666) (w4 := 667) (by decide +kernel)
theorem xk_Answer_copy : xv_mok xv_mt xm_Answer_copy := xv_mokB_use (w1 := 627) (w2 := 83) (w3 := 625) (w4 := 626) (by decide +kernel)
theorem xk_Answer_who : xv_mok xv_mt xm_Answer_who := xv_mokB_use (w1 := 797) (w2 := 83) (w3 := 795) (w4 := 796) (by decide +kernel)
theorem xk_Answer_asked : xv_mok xv_mt xm_Answer_asked := xv_mokB_use (w1 := 838) (w2 := 83) (w3 := 836) (w4 := 837) (by decide +kernel)
theorem xk_Answer_hasCried : xv_mok xv_mt xm_Answer_hasCried := xv_mokB_use (w1 := 801) (w2 := 83) (w3 := 799) (w4 := 800) (by decide +kernel)
theorem xk_Answer_strength : xv_mok xv_mt xm_Answer_strength := xv_mokB_use (w1 := 688) (w2 := 83) (w3 := 686) (w4 := 687) (by decide +kernel)
theorem xk_Answer_isLike : xv_mok xv_mt xm_Answer_isLike := xv_mokB_use (w1 := 954) (w2 := 83) (w3 := 952) (w4 := 953) (by decide +kernel)
theorem xk_Answer_fits : xv_mok xv_mt xm_Answer_fits := xv_mokB_use (w1 := 885) (w2 := 83) (w3 := 883) (w4 := 884) (by decide +kernel)
theorem xk_Answer_is : xv_mok xv_mt xm_Answer_is := xv_mokB_use (w1 := 813) (w2 := 83) (w3 := 811) (w4 := 812) (by decide +kernel)
theorem xk_Answer_weight : xv_mok xv_mt xm_Answer_weight := xv_mokB_use (w1 := 850) (w2 := 83) (w3 := 848) (w4 := 849) (by decide +kernel)
theorem xk_Archive_init : xv_mok xv_mt xm_Archive_init := xv_mokB_use (w1 := 217) (w2 := 81) (w3 := 216) (w4 := 0) (by decide +kernel)
theorem xk_Archive_copy : xv_mok xv_mt xm_Archive_copy := xv_mokB_use (w1 := 622) (w2 := 81) (w3 := 620) (w4 := 621) (by decide +kernel)
theorem xk_Archive_call : xv_mok xv_mt xm_Archive_call := xv_mokB_use (w1 := 403) (w2 := 81) (w3 := 401) (w4 := 402) (by decide +kernel)
theorem xk_Archive_told : xv_mok xv_mt xm_Archive_told := xv_mokB_use (w1 := 586) (w2 := 81) (w3 := 584) (w4 := 585) (by decide +kernel)
theorem xk_Archive_toldOnes : xv_mok xv_mt xm_Archive_toldOnes := xv_mokB_use (w1 := 1020) (w2 := 81) (w3 := 1018) (w4 := 1019) (by decide +kernel)
theorem xk_Archive_answer : xv_mok xv_mt xm_Archive_answer := xv_mokB_use (w1 := 809) (w2 := 81) (w3 := 807) (w4 := 808) (by decide +kernel)
theorem xk_Archive_has : xv_mok xv_mt xm_Archive_has := xv_mokB_use (w1 := 825) (w2 := 81) (w3 := 823) (w4 := 824) (by decide +kernel)
theorem xk_Archive_said : xv_mok xv_mt xm_Archive_said := xv_mokB_use (w1 := 693) (w2 := 81) (w3 := 691) (w4 := 692) (by decide +kernel)
theorem xk_Archive_week : xv_mok xv_mt xm_Archive_week := xv_mokB_use (w1 := 1077) (w2 := 81) (w3 := 1075) (w4 := 1076) (by decide +kernel)
theorem xk_Archive_drawn : xv_mok xv_mt xm_Archive_drawn := xv_mokB_use (w1 := 1086) (w2 := 81) (w3 := 1084) (w4 := 1085) (by decide +kernel)
theorem xk_Archive_sprouted : xv_mok xv_mt xm_Archive_sprouted := xv_mokB_use (w1 := 771) (w2 := 81) (w3 := 769) (w4 := 770) (by decide +kernel)
theorem xk_Archive_gone : xv_mok xv_mt xm_Archive_gone := xv_mokB_use (w1 := 779) (w2 := 81) (w3 := 777) (w4 := 778) (by decide +kernel)
theorem xk_Archive_sow : xv_mok xv_mt xm_Archive_sow := xv_mokB_use (w1 := 1057) (w2 := 81) (w3 := 1055) (w4 := 1056) (by decide +kernel)
theorem xk_Archive_say : xv_mok xv_mt xm_Archive_say := xv_mokB_use (w1 := 663) (w2 := 81) (w3 := 661) (w4 := 662) (by decide +kernel)
theorem xk_Archive_forget : xv_mok xv_mt xm_Archive_forget := xv_mokB_use (w1 := 707) (w2 := 81) (w3 := 705) (w4 := 706) (by decide +kernel)
theorem xk_Archive_hear : xv_mok xv_mt xm_Archive_hear := xv_mokB_use (w1 := 635) (w2 := 81) (w3 := 633) (w4 := 634) (by decide +kernel)
theorem xk_Archive_line : xv_mok xv_mt xm_Archive_line := xv_mokB_use (w1 := 639) (w2 := 81) (w3 := 638) (w4 := 1) (by decide +kernel)
theorem xk_Archive_whatIsWrongWith : xv_mok xv_mt xm_Archive_whatIsWrongWith := xv_mokB_use (w1 := 644) (w2 := 81) (w3 := 643) (w4 := 2) (by decide +kernel)
end
section
theorem xk_Archive_refuse : xv_mok xv_mt xm_Archive_refuse := xv_mokB_use (w1 := 649) (w2 := 81) (w3 := 648) (w4 := 0) (by decide +kernel)
theorem xk_Archive_pass : xv_mok xv_mt xm_Archive_pass := xv_mokB_use (w1 := 715) (w2 := 81) (w3 := 713) (w4 := 714) (by decide +kernel)
theorem xk_Archive_live : xv_mok xv_mt xm_Archive_live := xv_mokB_use (w1 := 719) (w2 := 81) (w3 := 718) (w4 := 3) (by decide +kernel)
theorem xk_Archive_saidBy : xv_mok xv_mt xm_Archive_saidBy := xv_mokB_use (w1 := 793) (w2 := 81) (w3 := 791) (w4 := 792) (by decide +kernel)
theorem xk_Archive_criedAt : xv_mok xv_mt xm_Archive_criedAt := xv_mokB_use (w1 := 962) (w2 := 81) (w3 := 960) (w4 := 961) (by decide +kernel)
theorem xk_Archive_lastOf : xv_mok xv_mt xm_Archive_lastOf := xv_mokB_use (w1 := 949) (w2 := 81) (w3 := 947) (w4 := 948) (by decide +kernel)
theorem xk_Archive_fitting : xv_mok xv_mt xm_Archive_fitting := xv_mokB_use (w1 := 923) (w2 := 81) (w3 := 921) (w4 := 922) (by decide +kernel)
theorem xk_Archive_fittingWithout : xv_mok xv_mt xm_Archive_fittingWithout := xv_mokB_use (w1 := 932) (w2 := 81) (w3 := 930) (w4 := 931) (by decide +kernel)
theorem xk_Boxes_init : xv_mok xv_mt xm_Boxes_init := xv_mokB_use (w1 := 299) (w2 := 84) (w3 := 298) (w4 := 0) (by decide +kernel)
theorem xk_Boxes_lay : xv_mok xv_mt xm_Boxes_lay := xv_mokB_use (w1 := 993) (w2 := 84) (w3 := 991) (w4 := 992) (by decide +kernel)
theorem xk_Boxes_pack : xv_mok xv_mt xm_Boxes_pack := xv_mokB_use (w1 := 999) (w2 := 84) (w3 := 997) (w4 := 998) (by decide +kernel)
theorem xk_Boxes_place : xv_mok xv_mt xm_Boxes_place := xv_mokB_use (w1 := 1003) (w2 := 84) (w3 := 1002) (w4 := 11) (by decide +kernel)
theorem xk_Boxes_boxOf : xv_mok xv_mt xm_Boxes_boxOf := xv_mokB_use (w1 := 1008) (w2 := 84) (w3 := 1006) (w4 := 1007) (by decide +kernel)
theorem xk_Case_init : xv_mok xv_mt xm_Case_init := xv_mokB_use (w1 := 173) (w2 := 79) (w3 := 172) (w4 := 0) (by decide +kernel)
theorem xk_Case_open : xv_mok xv_mt xm_Case_open := xv_mokB_use (w1 := 724) (w2 := 79) (w3 := 722) (w4 := 723) (by decide +kernel)
theorem xk_Case_show : xv_mok xv_mt xm_Case_show := xv_mokB_use (w1 := 732) (w2 := 79) (w3 := 730) (w4 := 731) (by decide +kernel)
theorem xk_Case_hear : xv_mok xv_mt xm_Case_hear := xv_mokB_use (w1 := 856) (w2 := 79) (w3 := 854) (w4 := 855) (by decide +kernel)
theorem xk_Case_tellLie : xv_mok xv_mt xm_Case_tellLie := xv_mokB_use (w1 := 861) (w2 := 79) (w3 := 859) (w4 := 860) (by decide +kernel)
theorem xk_Case_isLetter : xv_mok xv_mt xm_Case_isLetter := xv_mokB_use (w1 := 491) (w2 := 79) (w3 := 490) (w4 := 0) (by decide +kernel)
theorem xk_Case_of : xv_mok xv_mt xm_Case_of := xv_mokB_use (w1 := 746) (w2 := 79) (w3 := 744) (w4 := 745) (by decide +kernel)
theorem xk_Exchange_init : xv_mok xv_mt xm_Exchange_init := xv_mokB_use (w1 := 321) (w2 := 85) (w3 := 320) (w4 := 0) (by decide +kernel)
theorem xk_Exchange_gather : xv_mok xv_mt xm_Exchange_gather := xv_mokB_use (w1 := 1016) (w2 := 85) (w3 := 1014) (w4 := 1015) (by decide +kernel)
theorem xk_Exchange_settle : xv_mok xv_mt xm_Exchange_settle := xv_mokB_use (w1 := 1028) (w2 := 85) (w3 := 1026) (w4 := 1027) (by decide +kernel)
theorem xk_Exchange_give : xv_mok xv_mt xm_Exchange_give := xv_mokB_use (w1 := 1032) (w2 := 85) (w3 := 1031) (w4 := 12) (by decide +kernel)
theorem xk_Exchange_note : xv_mok xv_mt xm_Exchange_note := xv_mokB_use (w1 := 1036) (w2 := 85) (w3 := 1035) (w4 := 13) (by decide +kernel)
theorem xk_Exchange_most : xv_mok xv_mt xm_Exchange_most := xv_mokB_use (w1 := 1040) (w2 := 85) (w3 := 1038) (w4 := 1039) (by decide +kernel)
theorem xk_Exchange_whoseFor : xv_mok xv_mt xm_Exchange_whoseFor := xv_mokB_use (w1 := 1044) (w2 := 85) (w3 := 1042) (w4 := 1043) (by decide +kernel)
theorem xk_Law_init : xv_mok xv_mt xm_Law_init := xv_mokB_use (w1 := 138) (w2 := 78) (w3 := 137) (w4 := 0) (by decide +kernel)
theorem xk_Law_clear : xv_mok xv_mt xm_Law_clear := xv_mokB_use (w1 := 438) (w2 := 78) (w3 := 436) (w4 := 437) (by decide +kernel)
theorem xk_Law_copy : xv_mok xv_mt xm_Law_copy := xv_mokB_use (w1 := 532) (w2 := 78) (w3 := 530) (w4 := 531) (by decide +kernel)
theorem xk_Law_rules : xv_mok xv_mt xm_Law_rules := xv_mokB_use (w1 := 536) (w2 := 78) (w3 := 534) (w4 := 535) (by decide +kernel)
theorem xk_Law_isFull : xv_mok xv_mt xm_Law_isFull := xv_mokB_use (w1 := 457) (w2 := 78) (w3 := 455) (w4 := 456) (by decide +kernel)
theorem xk_Law_size : xv_mok xv_mt xm_Law_size := xv_mokB_use (w1 := 465) (w2 := 78) (w3 := 463) (w4 := 464) (by decide +kernel)
theorem xk_Law_add : xv_mok xv_mt xm_Law_add := xv_mokB_use (w1 := 495) (w2 := 78) (w3 := 493) (w4 := 494) (by decide +kernel)
theorem xk_Law_addRule : xv_mok xv_mt xm_Law_addRule := xv_mokB_use (w1 := 516) (w2 := 78) (w3 := 514) (w4 := 515) (by decide +kernel)
theorem xk_Law_isKind : xv_mok xv_mt xm_Law_isKind := xv_mokB_use (w1 := 445) (w2 := 78) (w3 := 444) (w4 := 0) (by decide +kernel)
theorem xk_Law_ask : xv_mok xv_mt xm_Law_ask := xv_mokB_use (w1 := 736) (w2 := 78) (w3 := 734) (w4 := 735) (by decide +kernel)
theorem xk_Law_run : xv_mok xv_mt xm_Law_run := xv_mokB_use (w1 := 740) (w2 := 78) (w3 := 739) (w4 := 4) (by decide +kernel)
theorem xk_Law_join : xv_mok xv_mt xm_Law_join := xv_mokB_use (w1 := 750) (w2 := 78) (w3 := 749) (w4 := 0) (by decide +kernel)
theorem xk_LawReader_read : xv_mok xv_mt xm_LawReader_read := xv_mokB_use (w1 := 434) (w2 := 87) (w3 := 433) (w4 := 0) (by decide +kernel)
end
section
theorem xk_LawReader_parts : xv_mok xv_mt xm_LawReader_parts := xv_mokB_use (w1 := 505) (w2 := 87) (w3 := 504) (w4 := 0) (by decide +kernel)
theorem xk_LawReader_tests : xv_mok xv_mt xm_LawReader_tests := xv_mokB_use (w1 := 508) (w2 := 87) (w3 := 507) (w4 := 0) (by decide +kernel)
theorem xk_LawReader_test : xv_mok xv_mt xm_LawReader_test := xv_mokB_use (w1 := 511) (w2 := 87) (w3 := 510) (w4 := 0) (by decide +kernel)
theorem xk_LawReader_terms : xv_mok xv_mt xm_LawReader_terms := xv_mokB_use (w1 := 468) (w2 := 87) (w3 := 467) (w4 := 0) (by decide +kernel)
theorem xk_LawReader_factors : xv_mok xv_mt xm_LawReader_factors := xv_mokB_use (w1 := 471) (w2 := 87) (w3 := 470) (w4 := 0) (by decide +kernel)
theorem xk_LawReader_factor : xv_mok xv_mt xm_LawReader_factor := xv_mokB_use (w1 := 474) (w2 := 87) (w3 := 473) (w4 := 0) (by decide +kernel)
theorem xk_LawReader_number : xv_mok xv_mt xm_LawReader_number := xv_mokB_use (w1 := 498) (w2 := 87) (w3 := 497) (w4 := 0) (by decide +kernel)
theorem xk_LawReader_canOpen : xv_mok xv_mt xm_LawReader_canOpen := xv_mokB_use (w1 := 477) (w2 := 87) (w3 := 476) (w4 := 0) (by decide +kernel)
theorem xk_Questions_init : xv_mok xv_mt xm_Questions_init := xv_mokB_use (w1 := 125) (w2 := 77) (w3 := 124) (w4 := 0) (by decide +kernel)
theorem xk_Questions_isTold : xv_mok xv_mt xm_Questions_isTold := xv_mokB_use (w1 := 656) (w2 := 77) (w3 := 654) (w4 := 655) (by decide +kernel)
theorem xk_Questions_toldOnes : xv_mok xv_mt xm_Questions_toldOnes := xv_mokB_use (w1 := 1082) (w2 := 77) (w3 := 1080) (w4 := 1081) (by decide +kernel)
theorem xk_Questions_holds : xv_mok xv_mt xm_Questions_holds := xv_mokB_use (w1 := 842) (w2 := 77) (w3 := 840) (w4 := 841) (by decide +kernel)
theorem xk_Questions_tell : xv_mok xv_mt xm_Questions_tell := xv_mokB_use (w1 := 572) (w2 := 77) (w3 := 570) (w4 := 571) (by decide +kernel)
theorem xk_Questions_read : xv_mok xv_mt xm_Questions_read := xv_mokB_use (w1 := 544) (w2 := 77) (w3 := 542) (w4 := 543) (by decide +kernel)
theorem xk_Questions_sides : xv_mok xv_mt xm_Questions_sides := xv_mokB_use (w1 := 547) (w2 := 77) (w3 := 546) (w4 := 0) (by decide +kernel)
theorem xk_Questions_odds : xv_mok xv_mt xm_Questions_odds := xv_mokB_use (w1 := 550) (w2 := 77) (w3 := 549) (w4 := 0) (by decide +kernel)
theorem xk_Questions_pieces : xv_mok xv_mt xm_Questions_pieces := xv_mokB_use (w1 := 553) (w2 := 77) (w3 := 552) (w4 := 0) (by decide +kernel)
theorem xk_Questions_piece : xv_mok xv_mt xm_Questions_piece := xv_mokB_use (w1 := 556) (w2 := 77) (w3 := 555) (w4 := 0) (by decide +kernel)
theorem xk_Questions_opened : xv_mok xv_mt xm_Questions_opened := xv_mokB_use (w1 := 560) (w2 := 77) (w3 := 559) (w4 := 0) (by decide +kernel)
theorem xk_Scales_init : xv_mok xv_mt xm_Scales_init := xv_mokB_use (w1 := 204) (w2 := 80) (w3 := 203) (w4 := 0) (by decide +kernel)
theorem xk_Scales_believe : xv_mok xv_mt xm_Scales_believe := xv_mokB_use (w1 := 395) (w2 := 80) (w3 := 393) (w4 := 394) (by decide +kernel)
theorem xk_Scales_belief : xv_mok xv_mt xm_Scales_belief := xv_mokB_use (w1 := 1090) (w2 := 80) (w3 := 1088) (w4 := 1089) (by decide +kernel)
theorem xk_Scales_start : xv_mok xv_mt xm_Scales_start := xv_mokB_use (w1 := 834) (w2 := 80) (w3 := 832) (w4 := 833) (by decide +kernel)
theorem xk_Scales_add : xv_mok xv_mt xm_Scales_add := xv_mokB_use (w1 := 846) (w2 := 80) (w3 := 844) (w4 := 845) (by decide +kernel)
theorem xk_Scales_within : xv_mok xv_mt xm_Scales_within := xv_mokB_use (w1 := 869) (w2 := 80) (w3 := 867) (w4 := 868) (by decide +kernel)
theorem xk_Scales_all : xv_mok xv_mt xm_Scales_all := xv_mokB_use (w1 := 873) (w2 := 80) (w3 := 871) (w4 := 872) (by decide +kernel)
theorem xk_Scales_part : xv_mok xv_mt xm_Scales_part := xv_mokB_use (w1 := 865) (w2 := 80) (w3 := 863) (w4 := 864) (by decide +kernel)
theorem xk_Scales_commonDivisor : xv_mok xv_mt xm_Scales_commonDivisor := xv_mokB_use (w1 := 877) (w2 := 80) (w3 := 876) (w4 := 0) (by decide +kernel)
theorem xk_Scales_heaviest : xv_mok xv_mt xm_Scales_heaviest := xv_mokB_use (w1 := 895) (w2 := 80) (w3 := 893) (w4 := 894) (by decide +kernel)
theorem xk_Scales_likelyFacts : xv_mok xv_mt xm_Scales_likelyFacts := xv_mokB_use (w1 := 899) (w2 := 80) (w3 := 897) (w4 := 898) (by decide +kernel)
theorem xk_Tape_init : xv_mok xv_mt xm_Tape_init := xv_mokB_use (w1 := 102) (w2 := 76) (w3 := 101) (w4 := 0) (by decide +kernel)
theorem xk_Tape_hasRoomFor : xv_mok xv_mt xm_Tape_hasRoomFor := xv_mokB_use (w1 := 415) (w2 := 76) (w3 := 413) (w4 := 414) (by decide +kernel)
theorem xk_Tape_append : xv_mok xv_mt xm_Tape_append := xv_mokB_use (w1 := 419) (w2 := 76) (w3 := 417) (w4 := 418) (by decide +kernel)
theorem xk_Tape_size : xv_mok xv_mt xm_Tape_size := xv_mokB_use (w1 := 423) (w2 := 76) (w3 := 421) (w4 := 422) (by decide +kernel)
theorem xk_Tape_cut : xv_mok xv_mt xm_Tape_cut := xv_mokB_use (w1 := 431) (w2 := 76) (w3 := 429) (w4 := 430) (by decide +kernel)
theorem xk_Tape_byteAt : xv_mok xv_mt xm_Tape_byteAt := xv_mokB_use (w1 := 978) (w2 := 76) (w3 := 976) (w4 := 977) (by decide +kernel)
theorem xk_Tape_place : xv_mok xv_mt xm_Tape_place := xv_mokB_use (w1 := 449) (w2 := 76) (w3 := 447) (w4 := 448) (by decide +kernel)
theorem xk_Tape_sign : xv_mok xv_mt xm_Tape_sign := xv_mokB_use (w1 := 442) (w2 := 76) (w3 := 440) (w4 := 441) (by decide +kernel)
theorem xk_Tape_digit : xv_mok xv_mt xm_Tape_digit := xv_mokB_use (w1 := 502) (w2 := 76) (w3 := 500) (w4 := 501) (by decide +kernel)
theorem xk_Tape_step : xv_mok xv_mt xm_Tape_step := xv_mokB_use (w1 := 461) (w2 := 76) (w3 := 459) (w4 := 460) (by decide +kernel)
theorem xk_Tape_take : xv_mok xv_mt xm_Tape_take := xv_mokB_use (w1 := 485) (w2 := 76) (w3 := 483) (w4 := 484) (by decide +kernel)
theorem xk_Tape_expect : xv_mok xv_mt xm_Tape_expect := xv_mokB_use (w1 := 481) (w2 := 76) (w3 := 479) (w4 := 480) (by decide +kernel)
theorem xk_Tape_expectEnd : xv_mok xv_mt xm_Tape_expectEnd := xv_mokB_use (w1 := 520) (w2 := 76) (w3 := 518) (w4 := 519) (by decide +kernel)
theorem xk_Tape_refuse : xv_mok xv_mt xm_Tape_refuse := xv_mokB_use (w1 := 453) (w2 := 76) (w3 := 451) (w4 := 452) (by decide +kernel)
theorem xk_Tape_isFaulty : xv_mok xv_mt xm_Tape_isFaulty := xv_mokB_use (w1 := 524) (w2 := 76) (w3 := 522) (w4 := 523) (by decide +kernel)
theorem xk_Tape_fault : xv_mok xv_mt xm_Tape_fault := xv_mokB_use (w1 := 528) (w2 := 76) (w3 := 526) (w4 := 527) (by decide +kernel)
theorem xk_Witness_init : xv_mok xv_mt xm_Witness_init := xv_mokB_use (w1 := 226) (w2 := 82) (w3 := 225) (w4 := 0) (by decide +kernel)
theorem xk_Witness_tell : xv_mok xv_mt xm_Witness_tell := xv_mokB_use (w1 := 407) (w2 := 82) (w3 := 405) (w4 := 406) (by decide +kernel)
theorem xk_Witness_copy : xv_mok xv_mt xm_Witness_copy := xv_mokB_use (w1 := 594) (w2 := 82) (w3 := 592) (w4 := 593) (by decide +kernel)
theorem xk_Witness_isTold : xv_mok xv_mt xm_Witness_isTold := xv_mokB_use (w1 := 590) (w2 := 82) (w3 := 588) (w4 := 589) (by decide +kernel)
theorem xk_Witness_honesty : xv_mok xv_mt xm_Witness_honesty := xv_mokB_use (w1 := 684) (w2 := 82) (w3 := 682) (w4 := 683) (by decide +kernel)
theorem xk_Witness_layers : xv_mok xv_mt xm_Witness_layers := xv_mokB_use (w1 := 614) (w2 := 82) (w3 := 612) (w4 := 613) (by decide +kernel)
theorem xk_Witness_layer : xv_mok xv_mt xm_Witness_layer := xv_mokB_use (w1 := 677) (w2 := 82) (w3 := 675) (w4 := 676) (by decide +kernel)
theorem xk_Witness_first : xv_mok xv_mt xm_Witness_first := xv_mokB_use (w1 := 783) (w2 := 82) (w3 := 781) (w4 := 782) (by decide +kernel)
theorem xk_Witness_peel : xv_mok xv_mt xm_Witness_peel := xv_mokB_use (w1 := 673) (w2 := 82) (w3 := 671) (w4 := 672) (by decide +kernel)
theorem xk_Witness_sprout : xv_mok xv_mt xm_Witness_sprout := xv_mokB_use (w1 := 767) (w2 := 82) (w3 := 765) (w4 := 766) (by decide +kernel)
theorem xk_Witness_age : xv_mok xv_mt xm_Witness_age := xv_mokB_use (w1 := 728) (w2 := 82) (w3 := 726) (w4 := 727) (by decide +kernel)
theorem xk_Witness_read : xv_mok xv_mt xm_Witness_read := xv_mokB_use (w1 := 598) (w2 := 82) (w3 := 596) (w4 := 597) (by decide +kernel)
theorem xk_Witness_item : xv_mok xv_mt xm_Witness_item := xv_mokB_use (w1 := 602) (w2 := 82) (w3 := 601) (w4 := 0) (by decide +kernel)
theorem xk_Witness_times : xv_mok xv_mt xm_Witness_times := xv_mokB_use (w1 := 608) (w2 := 82) (w3 := 607) (w4 := 0) (by decide +kernel)
end
section
theorem xk_Integer_bitCount : xv_mok xv_mt xm_Integer_bitCount := xv_mokB_use (w1 := 575) (w2 := 88) (w3 := 574) (w4 := 0) (by decide +kernel)
end
section
theorem xk_Root_law_0 : xv_bok xv_mt xm_Root_law xb_Root_law_0 0 = true := by decide +kernel
theorem xk_Root_law_18 : xv_bok xv_mt xm_Root_law xb_Root_law_18 18 = true := by decide +kernel
theorem xk_Root_law_176 : xv_bok xv_mt xm_Root_law xb_Root_law_176 176 = true := by decide +kernel
theorem xk_Root_law_209 : xv_bok xv_mt xm_Root_law xb_Root_law_209 209 = true := by decide +kernel
theorem xk_Root_law_242 : xv_bok xv_mt xm_Root_law xb_Root_law_242 242 = true := by decide +kernel
theorem xk_Root_law_305 : xv_bok xv_mt xm_Root_law xb_Root_law_305 305 = true := by decide +kernel
theorem xk_Root_law_328 : xv_bok xv_mt xm_Root_law xb_Root_law_328 328 = true := by decide +kernel
theorem xk_Root_law_361 : xv_bok xv_mt xm_Root_law xb_Root_law_361 361 = true := by decide +kernel
theorem xk_Root_law_394 : xv_bok xv_mt xm_Root_law xb_Root_law_394 394 = true := by decide +kernel
theorem xk_Root_law_417 : xv_bok xv_mt xm_Root_law xb_Root_law_417 417 = true := by decide +kernel
theorem xk_Root_law_440 : xv_bok xv_mt xm_Root_law xb_Root_law_440 440 = true := by decide +kernel
theorem xk_Root_law_441 : xv_bok xv_mt xm_Root_law xb_Root_law_441 441 = true := by decide +kernel
theorem xk_Root_law_453 : xv_bok xv_mt xm_Root_law xb_Root_law_453 453 = true := by decide +kernel
theorem xk_Root_law_454 : xv_bok xv_mt xm_Root_law xb_Root_law_454 454 = true := by decide +kernel
theorem xk_Root_law_480 : xv_bok xv_mt xm_Root_law xb_Root_law_480 480 = true := by decide +kernel
theorem xk_Root_law_481 : xv_bok xv_mt xm_Root_law xb_Root_law_481 481 = true := by decide +kernel
theorem xk_Root_law_493 : xv_bok xv_mt xm_Root_law xb_Root_law_493 493 = true := by decide +kernel
theorem xk_Root_law_494 : xv_bok xv_mt xm_Root_law xb_Root_law_494 494 = true := by decide +kernel
theorem xk_Root_law_502 : xv_bok xv_mt xm_Root_law xb_Root_law_502 502 = true := by decide +kernel
theorem xk_Root_law_515 : xv_bok xv_mt xm_Root_law xb_Root_law_515 515 = true := by decide +kernel
theorem xk_Root_law_538 : xv_bok xv_mt xm_Root_law xb_Root_law_538 538 = true := by decide +kernel
theorem xk_Root_law_571 : xv_bok xv_mt xm_Root_law xb_Root_law_571 571 = true := by decide +kernel
theorem xk_Root_law_604 : xv_bok xv_mt xm_Root_law xb_Root_law_604 604 = true := by decide +kernel
theorem xk_Root_law_637 : xv_bok xv_mt xm_Root_law xb_Root_law_637 637 = true := by decide +kernel
theorem xk_Root_law_681 : xv_bok xv_mt xm_Root_law xb_Root_law_681 681 = true := by decide +kernel
theorem xk_Root_law_725 : xv_bok xv_mt xm_Root_law xb_Root_law_725 725 = true := by decide +kernel
theorem xk_Root_law_758 : xv_bok xv_mt xm_Root_law xb_Root_law_758 758 = true := by decide +kernel
theorem xk_Root_law_781 : xv_bok xv_mt xm_Root_law xb_Root_law_781 781 = true := by decide +kernel
theorem xk_Root_law_805 : xv_bok xv_mt xm_Root_law xb_Root_law_805 805 = true := by decide +kernel
theorem xk_Root_law_828 : xv_bok xv_mt xm_Root_law xb_Root_law_828 828 = true := by decide +kernel
theorem xk_Root_law_841 : xv_bok xv_mt xm_Root_law xb_Root_law_841 841 = true := by decide +kernel
theorem xk_Root_law_874 : xv_bok xv_mt xm_Root_law xb_Root_law_874 874 = true := by decide +kernel
theorem xk_Root_law_917 : xv_bok xv_mt xm_Root_law xb_Root_law_917 917 = true := by decide +kernel
theorem xk_Root_law_940 : xv_bok xv_mt xm_Root_law xb_Root_law_940 940 = true := by decide +kernel
theorem xk_Root_law_983 : xv_bok xv_mt xm_Root_law xb_Root_law_983 983 = true := by decide +kernel
theorem xk_Root_law_1026 : xv_bok xv_mt xm_Root_law xb_Root_law_1026 1026 = true := by decide +kernel
theorem xk_Root_law_1059 : xv_bok xv_mt xm_Root_law xb_Root_law_1059 1059 = true := by decide +kernel
theorem xk_Root_law_1092 : xv_bok xv_mt xm_Root_law xb_Root_law_1092 1092 = true := by decide +kernel
theorem xk_Root_law_1115 : xv_bok xv_mt xm_Root_law xb_Root_law_1115 1115 = true := by decide +kernel
theorem xk_Root_law_1128 : xv_bok xv_mt xm_Root_law xb_Root_law_1128 1128 = true := by decide +kernel
theorem xk_Root_law_1141 : xv_bok xv_mt xm_Root_law xb_Root_law_1141 1141 = true := by decide +kernel
theorem xk_Root_law_1174 : xv_bok xv_mt xm_Root_law xb_Root_law_1174 1174 = true := by decide +kernel
theorem xk_Root_law_1197 : xv_bok xv_mt xm_Root_law xb_Root_law_1197 1197 = true := by decide +kernel
theorem xk_Root_law_1203 : xv_bok xv_mt xm_Root_law xb_Root_law_1203 1203 = true := by decide +kernel
theorem xk_Root_law : ∀ pc, xv_bok xv_mt xm_Root_law (xv_at xm_Root_law.2.2.2.2.2.2 pc) pc = true := by
  have h : ∀ q ∈ xl_Root_law, xv_bok xv_mt xm_Root_law q.2 q.1 = true := List.forall_mem_cons.mpr ⟨xk_Root_law_0, List.forall_mem_cons.mpr ⟨xk_Root_law_18, List.forall_mem_cons.mpr ⟨xk_Root_law_176, List.forall_mem_cons.mpr ⟨xk_Root_law_209, List.forall_mem_cons.mpr ⟨xk_Root_law_242, List.forall_mem_cons.mpr ⟨xk_Root_law_305, List.forall_mem_cons.mpr ⟨xk_Root_law_328, List.forall_mem_cons.mpr ⟨xk_Root_law_361, List.forall_mem_cons.mpr ⟨xk_Root_law_394, List.forall_mem_cons.mpr ⟨xk_Root_law_417, List.forall_mem_cons.mpr ⟨xk_Root_law_440, List.forall_mem_cons.mpr ⟨xk_Root_law_441, List.forall_mem_cons.mpr ⟨xk_Root_law_453, List.forall_mem_cons.mpr ⟨xk_Root_law_454, List.forall_mem_cons.mpr ⟨xk_Root_law_480, List.forall_mem_cons.mpr ⟨xk_Root_law_481, List.forall_mem_cons.mpr ⟨xk_Root_law_493, List.forall_mem_cons.mpr ⟨xk_Root_law_494, List.forall_mem_cons.mpr ⟨xk_Root_law_502, List.forall_mem_cons.mpr ⟨xk_Root_law_515, List.forall_mem_cons.mpr ⟨xk_Root_law_538, List.forall_mem_cons.mpr ⟨xk_Root_law_571, List.forall_mem_cons.mpr ⟨xk_Root_law_604, List.forall_mem_cons.mpr ⟨xk_Root_law_637, List.forall_mem_cons.mpr ⟨xk_Root_law_681, List.forall_mem_cons.mpr ⟨xk_Root_law_725, List.forall_mem_cons.mpr ⟨xk_Root_law_758, List.forall_mem_cons.mpr ⟨xk_Root_law_781, List.forall_mem_cons.mpr ⟨xk_Root_law_805, List.forall_mem_cons.mpr ⟨xk_Root_law_828, List.forall_mem_cons.mpr ⟨xk_Root_law_841, List.forall_mem_cons.mpr ⟨xk_Root_law_874, List.forall_mem_cons.mpr ⟨xk_Root_law_917, List.forall_mem_cons.mpr ⟨xk_Root_law_940, List.forall_mem_cons.mpr ⟨xk_Root_law_983, List.forall_mem_cons.mpr ⟨xk_Root_law_1026, List.forall_mem_cons.mpr ⟨xk_Root_law_1059, List.forall_mem_cons.mpr ⟨xk_Root_law_1092, List.forall_mem_cons.mpr ⟨xk_Root_law_1115, List.forall_mem_cons.mpr ⟨xk_Root_law_1128, List.forall_mem_cons.mpr ⟨xk_Root_law_1141, List.forall_mem_cons.mpr ⟨xk_Root_law_1174, List.forall_mem_cons.mpr ⟨xk_Root_law_1197, List.forall_mem_cons.mpr ⟨xk_Root_law_1203, fun _ h => absurd h List.not_mem_nil⟩⟩⟩⟩⟩⟩⟩⟩⟩⟩⟩⟩⟩⟩⟩⟩⟩⟩⟩⟩⟩⟩⟩⟩⟩⟩⟩⟩⟩⟩⟩⟩⟩⟩⟩⟩⟩⟩⟩⟩⟩⟩⟩⟩
  intro pc
  rcases xv_at_or xl_Root_law pc with h2 | h2
  · show xv_bok xv_mt xm_Root_law (xv_at xl_Root_law pc) pc = true
    rw [h2]; rfl
  · exact h _ h2
end
section
theorem xv_ml_0 : ∀ M ∈ ([xm_Ct_init, xm_Ct_prior, xm_Ct_witness, xm_Ct_feed, xm_Ct_law, xm_Ct_question, xm_Ct_onion, xm_Ct_transcript, xm_Ct_answers, xm_Ct_strike, xm_Ct_weeks, xm_Ct_tried, xm_Ct_witnessIs, xm_Ct_answerIs, xm_Ct_likely, xm_Ct_lie, xm_Ct_world, xm_Ct_askNext, xm_Ct_ifTrue, xm_Ct_liars, xm_Ct_against, xm_Ct_follows, xm_Ct_agree, xm_Ct_tears, xm_Ct_seen, xm_Ct_skins, xm_Ct_onionsFor, xm_Ct_peeled, xm_Ct_seed, xm_Ct_keep, xm_Ct_undo, xm_Ct_check, xm_Ct_count, xm_Ct_canWeigh, xm_Ct_weigh, xm_Ct_mostOpen, xm_Ct_mostTrue, xm_Ct_canBoth, xm_Ct_isTogether, xm_Mo_init] : List xv_M), xv_mok xv_mt M := List.forall_mem_cons.mpr ⟨xk_Ct_init, List.forall_mem_cons.mpr ⟨xk_Ct_prior, List.forall_mem_cons.mpr ⟨xk_Ct_witness, List.forall_mem_cons.mpr ⟨xk_Ct_feed, List.forall_mem_cons.mpr ⟨xk_Ct_law, List.forall_mem_cons.mpr ⟨xk_Ct_question, List.forall_mem_cons.mpr ⟨xk_Ct_onion, List.forall_mem_cons.mpr ⟨xk_Ct_transcript, List.forall_mem_cons.mpr ⟨xk_Ct_answers, List.forall_mem_cons.mpr ⟨xk_Ct_strike, List.forall_mem_cons.mpr ⟨xk_Ct_weeks, List.forall_mem_cons.mpr ⟨xk_Ct_tried, List.forall_mem_cons.mpr ⟨xk_Ct_witnessIs, List.forall_mem_cons.mpr ⟨xk_Ct_answerIs, List.forall_mem_cons.mpr ⟨xk_Ct_likely, List.forall_mem_cons.mpr ⟨xk_Ct_lie, List.forall_mem_cons.mpr ⟨xk_Ct_world, List.forall_mem_cons.mpr ⟨xk_Ct_askNext, List.forall_mem_cons.mpr ⟨xk_Ct_ifTrue, List.forall_mem_cons.mpr ⟨xk_Ct_liars, List.forall_mem_cons.mpr ⟨xk_Ct_against, List.forall_mem_cons.mpr ⟨xk_Ct_follows, List.forall_mem_cons.mpr ⟨xk_Ct_agree, List.forall_mem_cons.mpr ⟨xk_Ct_tears, List.forall_mem_cons.mpr ⟨xk_Ct_seen, List.forall_mem_cons.mpr ⟨xk_Ct_skins, List.forall_mem_cons.mpr ⟨xk_Ct_onionsFor, List.forall_mem_cons.mpr ⟨xk_Ct_peeled, List.forall_mem_cons.mpr ⟨xk_Ct_seed, List.forall_mem_cons.mpr ⟨xk_Ct_keep, List.forall_mem_cons.mpr ⟨xk_Ct_undo, List.forall_mem_cons.mpr ⟨xk_Ct_check, List.forall_mem_cons.mpr ⟨xk_Ct_count, List.forall_mem_cons.mpr ⟨xk_Ct_canWeigh, List.forall_mem_cons.mpr ⟨xk_Ct_weigh, List.forall_mem_cons.mpr ⟨xk_Ct_mostOpen, List.forall_mem_cons.mpr ⟨xk_Ct_mostTrue, List.forall_mem_cons.mpr ⟨xk_Ct_canBoth, List.forall_mem_cons.mpr ⟨xk_Ct_isTogether, List.forall_mem_cons.mpr ⟨xk_Mo_init, fun _ h => absurd h List.not_mem_nil⟩⟩⟩⟩⟩⟩⟩⟩⟩⟩⟩⟩⟩⟩⟩⟩⟩⟩⟩⟩⟩⟩⟩⟩⟩⟩⟩⟩⟩⟩⟩⟩⟩⟩⟩⟩⟩⟩⟩⟩
theorem xv_ml_1 : ∀ M ∈ ([xm_Mo_in, xm_Mo_min, xm_Mo_max, xm_Mo_size, xm_Mo_has, xm_Mo_bits, xm_Mo_copies, xm_Mo_isWitness, xm_Mo_isQuestion, xm_Mo_areAnswers, xm_Mo_layerOf, xm_Mo_together, xm_Mo_prior, xm_Mo_witness, xm_Mo_types, xm_Mo_feed, xm_Mo_here, xm_Mo_isDigit, xm_Mo_wrongAt, xm_Mo_takes, xm_Mo_readsNumber, xm_Mo_notes, xm_Mo_opens, xm_Mo_waitTop, xm_Mo_factOf, xm_Mo_sumSign, xm_Mo_closesSums, xm_Mo_readsFactor, xm_Mo_hasOpenSum, xm_Mo_readsSum, xm_Mo_endsPiece, xm_Mo_lands, xm_Mo_jumps, xm_Mo_readsCompared, xm_Mo_readsCondition, xm_Mo_readsRule, xm_Mo_beginsText, xm_Mo_law, xm_Mo_reckon, xm_Mo_comesTo] : List xv_M), xv_mok xv_mt M := List.forall_mem_cons.mpr ⟨xk_Mo_in, List.forall_mem_cons.mpr ⟨xk_Mo_min, List.forall_mem_cons.mpr ⟨xk_Mo_max, List.forall_mem_cons.mpr ⟨xk_Mo_size, List.forall_mem_cons.mpr ⟨xk_Mo_has, List.forall_mem_cons.mpr ⟨xk_Mo_bits, List.forall_mem_cons.mpr ⟨xk_Mo_copies, List.forall_mem_cons.mpr ⟨xk_Mo_isWitness, List.forall_mem_cons.mpr ⟨xk_Mo_isQuestion, List.forall_mem_cons.mpr ⟨xk_Mo_areAnswers, List.forall_mem_cons.mpr ⟨xk_Mo_layerOf, List.forall_mem_cons.mpr ⟨xk_Mo_together, List.forall_mem_cons.mpr ⟨xk_Mo_prior, List.forall_mem_cons.mpr ⟨xk_Mo_witness, List.forall_mem_cons.mpr ⟨xk_Mo_types, List.forall_mem_cons.mpr ⟨xk_Mo_feed, List.forall_mem_cons.mpr ⟨xk_Mo_here, List.forall_mem_cons.mpr ⟨xk_Mo_isDigit, List.forall_mem_cons.mpr ⟨xk_Mo_wrongAt, List.forall_mem_cons.mpr ⟨xk_Mo_takes, List.forall_mem_cons.mpr ⟨xk_Mo_readsNumber, List.forall_mem_cons.mpr ⟨xk_Mo_notes, List.forall_mem_cons.mpr ⟨xk_Mo_opens, List.forall_mem_cons.mpr ⟨xk_Mo_waitTop, List.forall_mem_cons.mpr ⟨xk_Mo_factOf, List.forall_mem_cons.mpr ⟨xk_Mo_sumSign, List.forall_mem_cons.mpr ⟨xk_Mo_closesSums, List.forall_mem_cons.mpr ⟨xk_Mo_readsFactor, List.forall_mem_cons.mpr ⟨xk_Mo_hasOpenSum, List.forall_mem_cons.mpr ⟨xk_Mo_readsSum, List.forall_mem_cons.mpr ⟨xk_Mo_endsPiece, List.forall_mem_cons.mpr ⟨xk_Mo_lands, List.forall_mem_cons.mpr ⟨xk_Mo_jumps, List.forall_mem_cons.mpr ⟨xk_Mo_readsCompared, List.forall_mem_cons.mpr ⟨xk_Mo_readsCondition, List.forall_mem_cons.mpr ⟨xk_Mo_readsRule, List.forall_mem_cons.mpr ⟨xk_Mo_beginsText, List.forall_mem_cons.mpr ⟨xk_Mo_law, List.forall_mem_cons.mpr ⟨xk_Mo_reckon, List.forall_mem_cons.mpr ⟨xk_Mo_comesTo, fun _ h => absurd h List.not_mem_nil⟩⟩⟩⟩⟩⟩⟩⟩⟩⟩⟩⟩⟩⟩⟩⟩⟩⟩⟩⟩⟩⟩⟩⟩⟩⟩⟩⟩⟩⟩⟩⟩⟩⟩⟩⟩⟩⟩⟩⟩
theorem xv_ml_2 : ∀ M ∈ ([xm_Mo_byLaw, xm_Mo_feels, xm_Mo_lastSign, xm_Mo_waitsFor, xm_Mo_joinsLast, xm_Mo_joinsTo, xm_Mo_endsTruth, xm_Mo_worldsOf, xm_Mo_readsTruth, xm_Mo_readsSign, xm_Mo_question, xm_Mo_readsItem, xm_Mo_onion, xm_Mo_readsLine, xm_Mo_transcript, xm_Mo_answersNow, xm_Mo_answers, xm_Mo_strike, xm_Mo_grows, xm_Mo_maySprout, xm_Mo_weekGoes, xm_Mo_weeksGo, xm_Mo_weeks, xm_Mo_tried, xm_Mo_tearsOf, xm_Mo_answersOf, xm_Mo_witnessIs, xm_Mo_answerIs, xm_Mo_weighsBy, xm_Mo_weighs, xm_Mo_weightIn, xm_Mo_gcd, xm_Mo_areWeighed, xm_Mo_oddsOf, xm_Mo_likely, xm_Mo_lie, xm_Mo_world, xm_Mo_askNext, xm_Mo_fitsOf, xm_Mo_fitsAll] : List xv_M), xv_mok xv_mt M := List.forall_mem_cons.mpr ⟨xk_Mo_byLaw, List.forall_mem_cons.mpr ⟨xk_Mo_feels, List.forall_mem_cons.mpr ⟨xk_Mo_lastSign, List.forall_mem_cons.mpr ⟨xk_Mo_waitsFor, List.forall_mem_cons.mpr ⟨xk_Mo_joinsLast, List.forall_mem_cons.mpr ⟨xk_Mo_joinsTo, List.forall_mem_cons.mpr ⟨xk_Mo_endsTruth, List.forall_mem_cons.mpr ⟨xk_Mo_worldsOf, List.forall_mem_cons.mpr ⟨xk_Mo_readsTruth, List.forall_mem_cons.mpr ⟨xk_Mo_readsSign, List.forall_mem_cons.mpr ⟨xk_Mo_question, List.forall_mem_cons.mpr ⟨xk_Mo_readsItem, List.forall_mem_cons.mpr ⟨xk_Mo_onion, List.forall_mem_cons.mpr ⟨xk_Mo_readsLine, List.forall_mem_cons.mpr ⟨xk_Mo_transcript, List.forall_mem_cons.mpr ⟨xk_Mo_answersNow, List.forall_mem_cons.mpr ⟨xk_Mo_answers, List.forall_mem_cons.mpr ⟨xk_Mo_strike, List.forall_mem_cons.mpr ⟨xk_Mo_grows, List.forall_mem_cons.mpr ⟨xk_Mo_maySprout, List.forall_mem_cons.mpr ⟨xk_Mo_weekGoes, List.forall_mem_cons.mpr ⟨xk_Mo_weeksGo, List.forall_mem_cons.mpr ⟨xk_Mo_weeks, List.forall_mem_cons.mpr ⟨xk_Mo_tried, List.forall_mem_cons.mpr ⟨xk_Mo_tearsOf, List.forall_mem_cons.mpr ⟨xk_Mo_answersOf, List.forall_mem_cons.mpr ⟨xk_Mo_witnessIs, List.forall_mem_cons.mpr ⟨xk_Mo_answerIs, List.forall_mem_cons.mpr ⟨xk_Mo_weighsBy, List.forall_mem_cons.mpr ⟨xk_Mo_weighs, List.forall_mem_cons.mpr ⟨xk_Mo_weightIn, List.forall_mem_cons.mpr ⟨xk_Mo_gcd, List.forall_mem_cons.mpr ⟨xk_Mo_areWeighed, List.forall_mem_cons.mpr ⟨xk_Mo_oddsOf, List.forall_mem_cons.mpr ⟨xk_Mo_likely, List.forall_mem_cons.mpr ⟨xk_Mo_lie, List.forall_mem_cons.mpr ⟨xk_Mo_world, List.forall_mem_cons.mpr ⟨xk_Mo_askNext, List.forall_mem_cons.mpr ⟨xk_Mo_fitsOf, List.forall_mem_cons.mpr ⟨xk_Mo_fitsAll, fun _ h => absurd h List.not_mem_nil⟩⟩⟩⟩⟩⟩⟩⟩⟩⟩⟩⟩⟩⟩⟩⟩⟩⟩⟩⟩⟩⟩⟩⟩⟩⟩⟩⟩⟩⟩⟩⟩⟩⟩⟩⟩⟩⟩⟩⟩
theorem xv_ml_3 : ∀ M ∈ ([xm_Mo_ifTrue, xm_Mo_answersWithout, xm_Mo_liars, xm_Mo_against, xm_Mo_follows, xm_Mo_lastOf, xm_Mo_agree, xm_Mo_tears, xm_Mo_areTrue, xm_Mo_areAllTrue, xm_Mo_seen, xm_Mo_skinOf, xm_Mo_begunBy, xm_Mo_laysBoxes, xm_Mo_skins, xm_Mo_readsRow, xm_Mo_worthOfRow, xm_Mo_onionsFor, xm_Mo_peeled, xm_Mo_seed, xm_Mo_keep, xm_Mo_undo, xm_Mo_check, xm_Mo_count, xm_Answer_init, xm_Answer_tell, xm_Answer_peel, xm_Answer_copy, xm_Answer_who, xm_Answer_asked, xm_Answer_hasCried, xm_Answer_strength, xm_Answer_isLike, xm_Answer_fits, xm_Answer_is, xm_Answer_weight, xm_Archive_init, xm_Archive_copy, xm_Archive_call, xm_Archive_told] : List xv_M), xv_mok xv_mt M := List.forall_mem_cons.mpr ⟨xk_Mo_ifTrue, List.forall_mem_cons.mpr ⟨xk_Mo_answersWithout, List.forall_mem_cons.mpr ⟨xk_Mo_liars, List.forall_mem_cons.mpr ⟨xk_Mo_against, List.forall_mem_cons.mpr ⟨xk_Mo_follows, List.forall_mem_cons.mpr ⟨xk_Mo_lastOf, List.forall_mem_cons.mpr ⟨xk_Mo_agree, List.forall_mem_cons.mpr ⟨xk_Mo_tears, List.forall_mem_cons.mpr ⟨xk_Mo_areTrue, List.forall_mem_cons.mpr ⟨xk_Mo_areAllTrue, List.forall_mem_cons.mpr ⟨xk_Mo_seen, List.forall_mem_cons.mpr ⟨xk_Mo_skinOf, List.forall_mem_cons.mpr ⟨xk_Mo_begunBy, List.forall_mem_cons.mpr ⟨xk_Mo_laysBoxes, List.forall_mem_cons.mpr ⟨xk_Mo_skins, List.forall_mem_cons.mpr ⟨xk_Mo_readsRow, List.forall_mem_cons.mpr ⟨xk_Mo_worthOfRow, List.forall_mem_cons.mpr ⟨xk_Mo_onionsFor, List.forall_mem_cons.mpr ⟨xk_Mo_peeled, List.forall_mem_cons.mpr ⟨xk_Mo_seed, List.forall_mem_cons.mpr ⟨xk_Mo_keep, List.forall_mem_cons.mpr ⟨xk_Mo_undo, List.forall_mem_cons.mpr ⟨xk_Mo_check, List.forall_mem_cons.mpr ⟨xk_Mo_count, List.forall_mem_cons.mpr ⟨xk_Answer_init, List.forall_mem_cons.mpr ⟨xk_Answer_tell, List.forall_mem_cons.mpr ⟨xk_Answer_peel, List.forall_mem_cons.mpr ⟨xk_Answer_copy, List.forall_mem_cons.mpr ⟨xk_Answer_who, List.forall_mem_cons.mpr ⟨xk_Answer_asked, List.forall_mem_cons.mpr ⟨xk_Answer_hasCried, List.forall_mem_cons.mpr ⟨xk_Answer_strength, List.forall_mem_cons.mpr ⟨xk_Answer_isLike, List.forall_mem_cons.mpr ⟨xk_Answer_fits, List.forall_mem_cons.mpr ⟨xk_Answer_is, List.forall_mem_cons.mpr ⟨xk_Answer_weight, List.forall_mem_cons.mpr ⟨xk_Archive_init, List.forall_mem_cons.mpr ⟨xk_Archive_copy, List.forall_mem_cons.mpr ⟨xk_Archive_call, List.forall_mem_cons.mpr ⟨xk_Archive_told, fun _ h => absurd h List.not_mem_nil⟩⟩⟩⟩⟩⟩⟩⟩⟩⟩⟩⟩⟩⟩⟩⟩⟩⟩⟩⟩⟩⟩⟩⟩⟩⟩⟩⟩⟩⟩⟩⟩⟩⟩⟩⟩⟩⟩⟩⟩
theorem xv_ml_4 : ∀ M ∈ ([xm_Archive_toldOnes, xm_Archive_answer, xm_Archive_has, xm_Archive_said, xm_Archive_week, xm_Archive_drawn, xm_Archive_sprouted, xm_Archive_gone, xm_Archive_sow, xm_Archive_say, xm_Archive_forget, xm_Archive_hear, xm_Archive_line, xm_Archive_whatIsWrongWith, xm_Archive_refuse, xm_Archive_pass, xm_Archive_live, xm_Archive_saidBy, xm_Archive_criedAt, xm_Archive_lastOf, xm_Archive_fitting, xm_Archive_fittingWithout, xm_Boxes_init, xm_Boxes_lay, xm_Boxes_pack, xm_Boxes_place, xm_Boxes_boxOf, xm_Case_init, xm_Case_open, xm_Case_show, xm_Case_hear, xm_Case_tellLie, xm_Case_isLetter, xm_Case_of, xm_Exchange_init, xm_Exchange_gather, xm_Exchange_settle, xm_Exchange_give, xm_Exchange_note, xm_Exchange_most] : List xv_M), xv_mok xv_mt M := List.forall_mem_cons.mpr ⟨xk_Archive_toldOnes, List.forall_mem_cons.mpr ⟨xk_Archive_answer, List.forall_mem_cons.mpr ⟨xk_Archive_has, List.forall_mem_cons.mpr ⟨xk_Archive_said, List.forall_mem_cons.mpr ⟨xk_Archive_week, List.forall_mem_cons.mpr ⟨xk_Archive_drawn, List.forall_mem_cons.mpr ⟨xk_Archive_sprouted, List.forall_mem_cons.mpr ⟨xk_Archive_gone, List.forall_mem_cons.mpr ⟨xk_Archive_sow, List.forall_mem_cons.mpr ⟨xk_Archive_say, List.forall_mem_cons.mpr ⟨xk_Archive_forget, List.forall_mem_cons.mpr ⟨xk_Archive_hear, List.forall_mem_cons.mpr ⟨xk_Archive_line, List.forall_mem_cons.mpr ⟨xk_Archive_whatIsWrongWith, List.forall_mem_cons.mpr ⟨xk_Archive_refuse, List.forall_mem_cons.mpr ⟨xk_Archive_pass, List.forall_mem_cons.mpr ⟨xk_Archive_live, List.forall_mem_cons.mpr ⟨xk_Archive_saidBy, List.forall_mem_cons.mpr ⟨xk_Archive_criedAt, List.forall_mem_cons.mpr ⟨xk_Archive_lastOf, List.forall_mem_cons.mpr ⟨xk_Archive_fitting, List.forall_mem_cons.mpr ⟨xk_Archive_fittingWithout, List.forall_mem_cons.mpr ⟨xk_Boxes_init, List.forall_mem_cons.mpr ⟨xk_Boxes_lay, List.forall_mem_cons.mpr ⟨xk_Boxes_pack, List.forall_mem_cons.mpr ⟨xk_Boxes_place, List.forall_mem_cons.mpr ⟨xk_Boxes_boxOf, List.forall_mem_cons.mpr ⟨xk_Case_init, List.forall_mem_cons.mpr ⟨xk_Case_open, List.forall_mem_cons.mpr ⟨xk_Case_show, List.forall_mem_cons.mpr ⟨xk_Case_hear, List.forall_mem_cons.mpr ⟨xk_Case_tellLie, List.forall_mem_cons.mpr ⟨xk_Case_isLetter, List.forall_mem_cons.mpr ⟨xk_Case_of, List.forall_mem_cons.mpr ⟨xk_Exchange_init, List.forall_mem_cons.mpr ⟨xk_Exchange_gather, List.forall_mem_cons.mpr ⟨xk_Exchange_settle, List.forall_mem_cons.mpr ⟨xk_Exchange_give, List.forall_mem_cons.mpr ⟨xk_Exchange_note, List.forall_mem_cons.mpr ⟨xk_Exchange_most, fun _ h => absurd h List.not_mem_nil⟩⟩⟩⟩⟩⟩⟩⟩⟩⟩⟩⟩⟩⟩⟩⟩⟩⟩⟩⟩⟩⟩⟩⟩⟩⟩⟩⟩⟩⟩⟩⟩⟩⟩⟩⟩⟩⟩⟩⟩
theorem xv_ml_5 : ∀ M ∈ ([xm_Exchange_whoseFor, xm_Law_init, xm_Law_clear, xm_Law_copy, xm_Law_rules, xm_Law_isFull, xm_Law_size, xm_Law_add, xm_Law_addRule, xm_Law_isKind, xm_Law_ask, xm_Law_run, xm_Law_join, xm_LawReader_read, xm_LawReader_parts, xm_LawReader_tests, xm_LawReader_test, xm_LawReader_terms, xm_LawReader_factors, xm_LawReader_factor, xm_LawReader_number, xm_LawReader_canOpen, xm_Questions_init, xm_Questions_isTold, xm_Questions_toldOnes, xm_Questions_holds, xm_Questions_tell, xm_Questions_read, xm_Questions_sides, xm_Questions_odds, xm_Questions_pieces, xm_Questions_piece, xm_Questions_opened, xm_Scales_init, xm_Scales_believe, xm_Scales_belief, xm_Scales_start, xm_Scales_add, xm_Scales_within, xm_Scales_all] : List xv_M), xv_mok xv_mt M := List.forall_mem_cons.mpr ⟨xk_Exchange_whoseFor, List.forall_mem_cons.mpr ⟨xk_Law_init, List.forall_mem_cons.mpr ⟨xk_Law_clear, List.forall_mem_cons.mpr ⟨xk_Law_copy, List.forall_mem_cons.mpr ⟨xk_Law_rules, List.forall_mem_cons.mpr ⟨xk_Law_isFull, List.forall_mem_cons.mpr ⟨xk_Law_size, List.forall_mem_cons.mpr ⟨xk_Law_add, List.forall_mem_cons.mpr ⟨xk_Law_addRule, List.forall_mem_cons.mpr ⟨xk_Law_isKind, List.forall_mem_cons.mpr ⟨xk_Law_ask, List.forall_mem_cons.mpr ⟨xk_Law_run, List.forall_mem_cons.mpr ⟨xk_Law_join, List.forall_mem_cons.mpr ⟨xk_LawReader_read, List.forall_mem_cons.mpr ⟨xk_LawReader_parts, List.forall_mem_cons.mpr ⟨xk_LawReader_tests, List.forall_mem_cons.mpr ⟨xk_LawReader_test, List.forall_mem_cons.mpr ⟨xk_LawReader_terms, List.forall_mem_cons.mpr ⟨xk_LawReader_factors, List.forall_mem_cons.mpr ⟨xk_LawReader_factor, List.forall_mem_cons.mpr ⟨xk_LawReader_number, List.forall_mem_cons.mpr ⟨xk_LawReader_canOpen, List.forall_mem_cons.mpr ⟨xk_Questions_init, List.forall_mem_cons.mpr ⟨xk_Questions_isTold, List.forall_mem_cons.mpr ⟨xk_Questions_toldOnes, List.forall_mem_cons.mpr ⟨xk_Questions_holds, List.forall_mem_cons.mpr ⟨xk_Questions_tell, List.forall_mem_cons.mpr ⟨xk_Questions_read, List.forall_mem_cons.mpr ⟨xk_Questions_sides, List.forall_mem_cons.mpr ⟨xk_Questions_odds, List.forall_mem_cons.mpr ⟨xk_Questions_pieces, List.forall_mem_cons.mpr ⟨xk_Questions_piece, List.forall_mem_cons.mpr ⟨xk_Questions_opened, List.forall_mem_cons.mpr ⟨xk_Scales_init, List.forall_mem_cons.mpr ⟨xk_Scales_believe, List.forall_mem_cons.mpr ⟨xk_Scales_belief, List.forall_mem_cons.mpr ⟨xk_Scales_start, List.forall_mem_cons.mpr ⟨xk_Scales_add, List.forall_mem_cons.mpr ⟨xk_Scales_within, List.forall_mem_cons.mpr ⟨xk_Scales_all, fun _ h => absurd h List.not_mem_nil⟩⟩⟩⟩⟩⟩⟩⟩⟩⟩⟩⟩⟩⟩⟩⟩⟩⟩⟩⟩⟩⟩⟩⟩⟩⟩⟩⟩⟩⟩⟩⟩⟩⟩⟩⟩⟩⟩⟩⟩
theorem xv_ml_6 : ∀ M ∈ ([xm_Scales_part, xm_Scales_commonDivisor, xm_Scales_heaviest, xm_Scales_likelyFacts, xm_Tape_init, xm_Tape_hasRoomFor, xm_Tape_append, xm_Tape_size, xm_Tape_cut, xm_Tape_byteAt, xm_Tape_place, xm_Tape_sign, xm_Tape_digit, xm_Tape_step, xm_Tape_take, xm_Tape_expect, xm_Tape_expectEnd, xm_Tape_refuse, xm_Tape_isFaulty, xm_Tape_fault, xm_Witness_init, xm_Witness_tell, xm_Witness_copy, xm_Witness_isTold, xm_Witness_honesty, xm_Witness_layers, xm_Witness_layer, xm_Witness_first, xm_Witness_peel, xm_Witness_sprout, xm_Witness_age, xm_Witness_read, xm_Witness_item, xm_Witness_times, xm_Integer_bitCount] : List xv_M), xv_mok xv_mt M := List.forall_mem_cons.mpr ⟨xk_Scales_part, List.forall_mem_cons.mpr ⟨xk_Scales_commonDivisor, List.forall_mem_cons.mpr ⟨xk_Scales_heaviest, List.forall_mem_cons.mpr ⟨xk_Scales_likelyFacts, List.forall_mem_cons.mpr ⟨xk_Tape_init, List.forall_mem_cons.mpr ⟨xk_Tape_hasRoomFor, List.forall_mem_cons.mpr ⟨xk_Tape_append, List.forall_mem_cons.mpr ⟨xk_Tape_size, List.forall_mem_cons.mpr ⟨xk_Tape_cut, List.forall_mem_cons.mpr ⟨xk_Tape_byteAt, List.forall_mem_cons.mpr ⟨xk_Tape_place, List.forall_mem_cons.mpr ⟨xk_Tape_sign, List.forall_mem_cons.mpr ⟨xk_Tape_digit, List.forall_mem_cons.mpr ⟨xk_Tape_step, List.forall_mem_cons.mpr ⟨xk_Tape_take, List.forall_mem_cons.mpr ⟨xk_Tape_expect, List.forall_mem_cons.mpr ⟨xk_Tape_expectEnd, List.forall_mem_cons.mpr ⟨xk_Tape_refuse, List.forall_mem_cons.mpr ⟨xk_Tape_isFaulty, List.forall_mem_cons.mpr ⟨xk_Tape_fault, List.forall_mem_cons.mpr ⟨xk_Witness_init, List.forall_mem_cons.mpr ⟨xk_Witness_tell, List.forall_mem_cons.mpr ⟨xk_Witness_copy, List.forall_mem_cons.mpr ⟨xk_Witness_isTold, List.forall_mem_cons.mpr ⟨xk_Witness_honesty, List.forall_mem_cons.mpr ⟨xk_Witness_layers, List.forall_mem_cons.mpr ⟨xk_Witness_layer, List.forall_mem_cons.mpr ⟨xk_Witness_first, List.forall_mem_cons.mpr ⟨xk_Witness_peel, List.forall_mem_cons.mpr ⟨xk_Witness_sprout, List.forall_mem_cons.mpr ⟨xk_Witness_age, List.forall_mem_cons.mpr ⟨xk_Witness_read, List.forall_mem_cons.mpr ⟨xk_Witness_item, List.forall_mem_cons.mpr ⟨xk_Witness_times, List.forall_mem_cons.mpr ⟨xk_Integer_bitCount, fun _ h => absurd h List.not_mem_nil⟩⟩⟩⟩⟩⟩⟩⟩⟩⟩⟩⟩⟩⟩⟩⟩⟩⟩⟩⟩⟩⟩⟩⟩⟩⟩⟩⟩⟩⟩⟩⟩⟩⟩⟩
set_option maxRecDepth 20000 in
theorem xv_ml_ok : ∀ M ∈ xv_ml, xv_mok xv_mt M := by
  show ∀ M ∈ ([xm_Ct_init, xm_Ct_prior, xm_Ct_witness, xm_Ct_feed, xm_Ct_law, xm_Ct_question, xm_Ct_onion, xm_Ct_transcript, xm_Ct_answers, xm_Ct_strike, xm_Ct_weeks, xm_Ct_tried, xm_Ct_witnessIs, xm_Ct_answerIs, xm_Ct_likely, xm_Ct_lie, xm_Ct_world, xm_Ct_askNext, xm_Ct_ifTrue, xm_Ct_liars, xm_Ct_against, xm_Ct_follows, xm_Ct_agree, xm_Ct_tears, xm_Ct_seen, xm_Ct_skins, xm_Ct_onionsFor, xm_Ct_peeled, xm_Ct_seed, xm_Ct_keep, xm_Ct_undo, xm_Ct_check, xm_Ct_count, xm_Ct_canWeigh, xm_Ct_weigh, xm_Ct_mostOpen, xm_Ct_mostTrue, xm_Ct_canBoth, xm_Ct_isTogether, xm_Mo_init] : List xv_M) ++ (([xm_Mo_in, xm_Mo_min, xm_Mo_max, xm_Mo_size, xm_Mo_has, xm_Mo_bits, xm_Mo_copies, xm_Mo_isWitness, xm_Mo_isQuestion, xm_Mo_areAnswers, xm_Mo_layerOf, xm_Mo_together, xm_Mo_prior, xm_Mo_witness, xm_Mo_types, xm_Mo_feed, xm_Mo_here, xm_Mo_isDigit, xm_Mo_wrongAt, xm_Mo_takes, xm_Mo_readsNumber, xm_Mo_notes, xm_Mo_opens, xm_Mo_waitTop, xm_Mo_factOf, xm_Mo_sumSign, xm_Mo_closesSums, xm_Mo_readsFactor, xm_Mo_hasOpenSum, xm_Mo_readsSum, xm_Mo_endsPiece, xm_Mo_lands, xm_Mo_jumps, xm_Mo_readsCompared, xm_Mo_readsCondition, xm_Mo_readsRule, xm_Mo_beginsText, xm_Mo_law, xm_Mo_reckon, xm_Mo_comesTo] : List xv_M) ++ (([xm_Mo_byLaw, xm_Mo_feels, xm_Mo_lastSign, xm_Mo_waitsFor, xm_Mo_joinsLast, xm_Mo_joinsTo, xm_Mo_endsTruth, xm_Mo_worldsOf, xm_Mo_readsTruth, xm_Mo_readsSign, xm_Mo_question, xm_Mo_readsItem, xm_Mo_onion, xm_Mo_readsLine, xm_Mo_transcript, xm_Mo_answersNow, xm_Mo_answers, xm_Mo_strike, xm_Mo_grows, xm_Mo_maySprout, xm_Mo_weekGoes, xm_Mo_weeksGo, xm_Mo_weeks, xm_Mo_tried, xm_Mo_tearsOf, xm_Mo_answersOf, xm_Mo_witnessIs, xm_Mo_answerIs, xm_Mo_weighsBy, xm_Mo_weighs, xm_Mo_weightIn, xm_Mo_gcd, xm_Mo_areWeighed, xm_Mo_oddsOf, xm_Mo_likely, xm_Mo_lie, xm_Mo_world, xm_Mo_askNext, xm_Mo_fitsOf, xm_Mo_fitsAll] : List xv_M) ++ (([xm_Mo_ifTrue, xm_Mo_answersWithout, xm_Mo_liars, xm_Mo_against, xm_Mo_follows, xm_Mo_lastOf, xm_Mo_agree, xm_Mo_tears, xm_Mo_areTrue, xm_Mo_areAllTrue, xm_Mo_seen, xm_Mo_skinOf, xm_Mo_begunBy, xm_Mo_laysBoxes, xm_Mo_skins, xm_Mo_readsRow, xm_Mo_worthOfRow, xm_Mo_onionsFor, xm_Mo_peeled, xm_Mo_seed, xm_Mo_keep, xm_Mo_undo, xm_Mo_check, xm_Mo_count, xm_Answer_init, xm_Answer_tell, xm_Answer_peel, xm_Answer_copy, xm_Answer_who, xm_Answer_asked, xm_Answer_hasCried, xm_Answer_strength, xm_Answer_isLike, xm_Answer_fits, xm_Answer_is, xm_Answer_weight, xm_Archive_init, xm_Archive_copy, xm_Archive_call, xm_Archive_told] : List xv_M) ++ (([xm_Archive_toldOnes, xm_Archive_answer, xm_Archive_has, xm_Archive_said, xm_Archive_week, xm_Archive_drawn, xm_Archive_sprouted, xm_Archive_gone, xm_Archive_sow, xm_Archive_say, xm_Archive_forget, xm_Archive_hear, xm_Archive_line, xm_Archive_whatIsWrongWith, xm_Archive_refuse, xm_Archive_pass, xm_Archive_live, xm_Archive_saidBy, xm_Archive_criedAt, xm_Archive_lastOf, xm_Archive_fitting, xm_Archive_fittingWithout, xm_Boxes_init, xm_Boxes_lay, xm_Boxes_pack, xm_Boxes_place, xm_Boxes_boxOf, xm_Case_init, xm_Case_open, xm_Case_show, xm_Case_hear, xm_Case_tellLie, xm_Case_isLetter, xm_Case_of, xm_Exchange_init, xm_Exchange_gather, xm_Exchange_settle, xm_Exchange_give, xm_Exchange_note, xm_Exchange_most] : List xv_M) ++ (([xm_Exchange_whoseFor, xm_Law_init, xm_Law_clear, xm_Law_copy, xm_Law_rules, xm_Law_isFull, xm_Law_size, xm_Law_add, xm_Law_addRule, xm_Law_isKind, xm_Law_ask, xm_Law_run, xm_Law_join, xm_LawReader_read, xm_LawReader_parts, xm_LawReader_tests, xm_LawReader_test, xm_LawReader_terms, xm_LawReader_factors, xm_LawReader_factor, xm_LawReader_number, xm_LawReader_canOpen, xm_Questions_init, xm_Questions_isTold, xm_Questions_toldOnes, xm_Questions_holds, xm_Questions_tell, xm_Questions_read, xm_Questions_sides, xm_Questions_odds, xm_Questions_pieces, xm_Questions_piece, xm_Questions_opened, xm_Scales_init, xm_Scales_believe, xm_Scales_belief, xm_Scales_start, xm_Scales_add, xm_Scales_within, xm_Scales_all] : List xv_M) ++ (([xm_Scales_part, xm_Scales_commonDivisor, xm_Scales_heaviest, xm_Scales_likelyFacts, xm_Tape_init, xm_Tape_hasRoomFor, xm_Tape_append, xm_Tape_size, xm_Tape_cut, xm_Tape_byteAt, xm_Tape_place, xm_Tape_sign, xm_Tape_digit, xm_Tape_step, xm_Tape_take, xm_Tape_expect, xm_Tape_expectEnd, xm_Tape_refuse, xm_Tape_isFaulty, xm_Tape_fault, xm_Witness_init, xm_Witness_tell, xm_Witness_copy, xm_Witness_isTold, xm_Witness_honesty, xm_Witness_layers, xm_Witness_layer, xm_Witness_first, xm_Witness_peel, xm_Witness_sprout, xm_Witness_age, xm_Witness_read, xm_Witness_item, xm_Witness_times, xm_Integer_bitCount] : List xv_M))))))), xv_mok xv_mt M
  exact List.forall_mem_append.mpr ⟨xv_ml_0, List.forall_mem_append.mpr ⟨xv_ml_1, List.forall_mem_append.mpr ⟨xv_ml_2, List.forall_mem_append.mpr ⟨xv_ml_3, List.forall_mem_append.mpr ⟨xv_ml_4, List.forall_mem_append.mpr ⟨xv_ml_5, xv_ml_6⟩⟩⟩⟩⟩⟩
theorem xv_mt_ok : ∀ k M, xv_mt k = some M → xv_mok xv_mt M := fun k M h => xv_ml_ok M (List.mem_of_getElem? h)
end
section
def R_law : String := "OnionCourtLaw"
def lw_P (b : Addr) (xs : List Int32) (args : Array Value) (s : State) : Prop := args = #[.ref b] ∧ s.IntsAt b xs ∧ xs.length ≤ 3072 ∧ (Jvm.Cond.and given_1 narrow_1).before args s = true
def lw_Q (_ : Array Value) (s : State) (o : Outcome) (t : State) : Prop := o = .returned (some (.int 1)) ∧ Framed s o t [] 600000 7302250
def lw_Z (below : List Frame) (a : Array Value) (s : State) : State → Prop := fun t => ∃ o, t.status = .running ∧ Ended t below o ∧ lw_Q a s o t
/-- the law's own end, with 1 on the stack, nothing written that was there before, its room as the claim has it -/
theorem lw_ret {p : Program} {l : Launch} {e : Env} {s : State} {m : MethodId} {below : List Frame} {meth : Method} {c : Code} {b : Nat} (hx : p.tables.exec = Jvm.exec) (hb : c.code = code) (hr : meth.sig.returnType = ret) (hlocks : meth.locks = false) {pc : Nat} {H : Heap} {ls : Array Slot} (hdg : decode code pc = .ok (.ireturn, 1)) : W p l e room_1 s m #[Value.ref b] below meth c H [] 600000 7302250 (lw_Z below #[Value.ref b] s) (F0 m pc ls [.int 1]) := by
  intro T hT X
  obtain ⟨fs, hret, hrun, hended, hW, hframe⟩ := X.leave (v := some (.int 1)) (hlocks := hlocks) (fun h => by rw [hr] at h; cases h)
  have hmeth' : T.vm.method? m = some meth := X.method'
  refine ⟨T.setFrames fs, ?_, .returned (some (.int 1)), hrun, hended, rfl, ⟨_, rfl⟩, hW, hframe⟩
  jvm_step X.here [X.here.top, hx, hb, hdg, hmeth', hr, ret, narrow_b1]
  (try refine ⟨rfl, ?_⟩); (try refine ⟨rfl, ?_⟩)
  first | (intro acts; rw [hret _ acts rfl rfl rfl]) | rw [hret _ _ rfl rfl rfl]
  exact Steps.refl _
/-- what holds at the law's entry: the machine, the code, the tables' words (any of lw_tbl by 'hts w (by decide +kernel)'), the script of L ints xs at the cell b, what the Statement gives of the start (any of its parts by flat_of_before) -/
def lw_At (p : Program) (s : State) (m : MethodId) (meth : Method) (c : Code) (b L : Nat) (xs : Nat → Int32) : Prop :=
  p.tables.exec = Jvm.exec ∧ c.code = code ∧ meth.sig.returnType = ret ∧ c.maxLocals = 4 ∧ s.vm.findClass R_law = some m.cls ∧ (∀ w ∈ lw_tbl, w.before #[Value.ref b] s = true) ∧ va_X b L xs s s.heap ∧ b < s.heap.size ∧ meth.locks = false ∧ meth.name = "law" ∧ (Jvm.Cond.and given_1 narrow_1).before #[Value.ref b] s = true
/-- THE START: what the tables give for the classes and arrays of the world -/
theorem xv_insts : ∀ (ci : Nat) (q : vw_C), xv_cl[ci]? = some q → Cond.instantiable q.1 q.2.2 ∈ xv_T := by
  intro ci q hq
  match ci, hq with
  | 0, hq => cases hq; exact List.mem_of_getElem? (i := 1092) (by decide +kernel)
  | 1, hq => cases hq; exact List.mem_of_getElem? (i := 91) (by decide +kernel)
  | 2, hq => cases hq; exact List.mem_of_getElem? (i := 99) (by decide +kernel)
  | 3, hq => cases hq; exact List.mem_of_getElem? (i := 122) (by decide +kernel)
  | 4, hq => cases hq; exact List.mem_of_getElem? (i := 135) (by decide +kernel)
  | 5, hq => cases hq; exact List.mem_of_getElem? (i := 170) (by decide +kernel)
  | 6, hq => cases hq; exact List.mem_of_getElem? (i := 201) (by decide +kernel)
  | 7, hq => cases hq; exact List.mem_of_getElem? (i := 214) (by decide +kernel)
  | 8, hq => cases hq; exact List.mem_of_getElem? (i := 223) (by decide +kernel)
  | 9, hq => cases hq; exact List.mem_of_getElem? (i := 241) (by decide +kernel)
  | 10, hq => cases hq; exact List.mem_of_getElem? (i := 296) (by decide +kernel)
  | 11, hq => cases hq; exact List.mem_of_getElem? (i := 318) (by decide +kernel)
  | k + 12, hq => simp [xv_cl] at hq
def xv_wof (j : Nat) : Int32 := match j with
  | 0 => -1431655766
  | 1 => -858993460
  | 2 => -252645136
  | 3 => -16711936
  | _ => -65536
def xv_ro (L : Nat) (xs : Nat → Int32) : xv_Ro := fun k => if k = 1000000 then some (5, xv_wof) else if k = 1000001 then some (L, xs) else none
def xv_s0 : xv_S := ((0, 0), fun _ => .inr (1000, []))
/-- what is left: the small machine runs the law to its end, with 1 -/
def xv_goal : Prop := ∀ (L : Nat) (xs : Nat → Int32), L ≤ 3072 → ∃ (n : Nat) (σ : xv_S), xv_exec xv_mt (xv_ro L xs) n 200 xm_Root_law (xv_at xl_Root_law 0) [some (.ref 1000001), none, none, none] [] xv_s0 = some (some (.int 1), σ) ∧ σ.1.1 ≤ 600000 ∧ σ.1.2 ≤ 7302250
theorem xv_ret1 {M : xv_M} {i : Instr} {st : List Value} {z : Int32} (h : xv_ret M i st = some (some (.int z))) : i = .ireturn ∧ st = [.int z] := by
  cases i with
  | return_ => match st, h with
    | [], h => cases h
  | ireturn => match st, h with
    | [.int y], h =>
      change (if M.2.2.2.1 = some FieldType.int then some (some (Value.int y)) else if M.2.2.2.1 = some FieldType.boolean ∧ (y = 0 ∨ y = 1) then some (some (Value.int y)) else none) = _ at h
      split at h
      · cases h; exact ⟨rfl, rfl⟩
      · split at h
        · cases h; exact ⟨rfl, rfl⟩
        · cases h
  | lreturn => match st, h with
    | [.long y], h => cases h
  | areturn => match st, h with
    | [.null], h => cases h
    | [.ref a], h => cases h
  | _ => cases h
theorem xv_arr_of {s : State} {args : Array Value} {ty : FieldType} (h : (Cond.arrayClass ty).before args s = true) (hn : ∀ C, ty ≠ .object C) : ∃ cA : ClassId, ArrOfT s cA ty ∧ va_RA s cA ty := by
  obtain ⟨c, k, comp, h1, h2, h3⟩ := Cond.arrayClass_spec h
  refine ⟨c, fun n z => ⟨fun k h => (by cases h), k, h2, comp, h3⟩, ?_⟩
  cases ty with
  | object C => exact absurd rfl (hn C)
  | _ => exact h1
theorem xv_arr_ofq {s : State} {args : Array Value} {C : String} (h : (Cond.arrayOver (.object C)).before args s = true) : ∃ cA : ClassId, ArrOfT s cA (.object C) ∧ va_RA s cA (.object C) := by
  obtain ⟨comp, c, k, h1, h2, h3, h4, h5⟩ := Cond.arrayOver_spec h
  exact ⟨c, fun n z => ⟨fun k h => (by cases h), k, h3, comp, h4⟩, ⟨k, comp, h3, h4, h1, h5⟩⟩
theorem whole_start (hgoal : xv_goal) {p : Program} {e : Env} {s : State} {m : MethodId} {below : List Frame} {meth : Method} {c : Code} (l : Launch) {b L : Nat} {xs : Nat → Int32} (hL : L ≤ 3072) (C0 : lw_At p s m meth c b L xs) : W p l e room_1 s m #[Value.ref b] below meth c s.heap [] 0 0 (lw_Z below #[Value.ref b] s) (entryFrame m ([Value.ref b] : List Value).toArray 4) := by
  obtain ⟨hx, hb, hr, hml, hown, hts0, hX, hbl, hlocks, hname, hgv⟩ := C0
  have hts := xv_T_of hts0
  have hs := flat_of_before _ hgv
  have hA : ∀ a : Nat, a < s.heap.size → ¬ xv_A s.heap.size a := fun a h => Nat.not_le.mpr h
  -- classes
  have hc : ∀ ci : Nat, ∃ x : ClassId × (Nat → Nat), ∀ q, xv_cl[ci]? = some q → u_Kn s q.1 q.2.1 q.2.2 x.1 x.2 := by
    intro ci
    cases hq : xv_cl[ci]? with
    | none => exact ⟨(0, fun _ => 0), fun q h => by cases h⟩
    | some q =>
      obtain ⟨cC, iS, h⟩ := u_known (C := q.1) (T := q.2.1) (N := q.2.2) hts (xv_cl_ok ci q hq).1 (hts _ (xv_insts ci q hq))
      exact ⟨(cC, iS), fun q' h' => by cases h'; exact h⟩
  have ha : ∀ k : Nat, ∃ cA : ClassId, ∀ ty, ([FieldType.int, .long, .byte, .object "OnionCourt$Witness", .object "OnionCourt$Answer"] : List FieldType)[k]? = some ty → ArrOfT s cA ty ∧ va_RA s cA ty := by
    intro k
    match k with
    | 0 => obtain ⟨cA, h⟩ := xv_arr_of (ty := .int) (hts _ (List.mem_of_getElem? (i := 120) (by decide +kernel))) (fun C h => by cases h); exact ⟨cA, fun ty h2 => by cases h2; exact h⟩
    | 1 => obtain ⟨cA, h⟩ := xv_arr_of (ty := .long) (hts _ (List.mem_of_getElem? (i := 168) (by decide +kernel))) (fun C h => by cases h); exact ⟨cA, fun ty h2 => by cases h2; exact h⟩
    | 2 => obtain ⟨cA, h⟩ := xv_arr_of (ty := .byte) (hts _ (List.mem_of_getElem? (i := 1254) (by decide +kernel))) (fun C h => by cases h); exact ⟨cA, fun ty h2 => by cases h2; exact h⟩
    | 3 => obtain ⟨cA, h⟩ := xv_arr_ofq (C := "OnionCourt$Witness") (hts _ (List.mem_of_getElem? (i := 220) (by decide +kernel))); exact ⟨cA, fun ty h2 => by cases h2; exact h⟩
    | 4 => obtain ⟨cA, h⟩ := xv_arr_ofq (C := "OnionCourt$Answer") (hts _ (List.mem_of_getElem? (i := 222) (by decide +kernel))); exact ⟨cA, fun ty h2 => by cases h2; exact h⟩
    | k + 5 => exact ⟨0, fun ty h => by simp at h⟩
  generalize hD : (((fun ci => (Classical.choose (hc ci)).1), (fun ci => (Classical.choose (hc ci)).2)) : va_G) = D
  generalize haC : (fun k => Classical.choose (ha k)) = aC
  have hK : va_K D xv_cl (xv_tys aC) s := by
    subst hD; subst haC
    refine ⟨fun ci q hq => Classical.choose_spec (hc ci) q hq, fun k q hq => ?_⟩
    match k, hq with
    | 0, hq => cases hq; exact Classical.choose_spec (ha 0) _ rfl
    | 1, hq => cases hq; exact Classical.choose_spec (ha 1) _ rfl
    | 2, hq => cases hq; exact Classical.choose_spec (ha 2) _ rfl
    | 3, hq => cases hq; exact Classical.choose_spec (ha 3) _ rfl
    | 4, hq => cases hq; exact Classical.choose_spec (ha 4) _ rfl
    | k + 5, hq => simp [xv_tys] at hq
  -- the static row
  obtain ⟨t, ht, hT⟩ := va_Tof (args := #[Value.ref b]) (s := s) (tm := .static "OnionCourt" "WORLDS_OF_FACT" "[I") (ty := .int) (N := 5) (f := fun j => .int (xv_wof j)) (A := xv_A s.heap.size) (by decide) (hs _ (by decide +kernel)) (va_eqt (hs _ (by decide +kernel)))
    (fun j hj => by
      match j, hj with
      | 0, _ => exact va_eqt (hs (.eq (.elem (.static "OnionCourt" "WORLDS_OF_FACT" "[I") (.int 0)) (.int (-1431655766))) (by decide +kernel))
      | 1, _ => exact va_eqt (hs (.eq (.elem (.static "OnionCourt" "WORLDS_OF_FACT" "[I") (.int 1)) (.int (-858993460))) (by decide +kernel))
      | 2, _ => exact va_eqt (hs (.eq (.elem (.static "OnionCourt" "WORLDS_OF_FACT" "[I") (.int 2)) (.int (-252645136))) (by decide +kernel))
      | 3, _ => exact va_eqt (hs (.eq (.elem (.static "OnionCourt" "WORLDS_OF_FACT" "[I") (.int 3)) (.int (-16711936))) (by decide +kernel))
      | 4, _ => exact va_eqt (hs (.eq (.elem (.static "OnionCourt" "WORLDS_OF_FACT" "[I") (.int 4)) (.int (-65536))) (by decide +kernel))) hA
  have hZ := va_Zref (args := #[Value.ref b]) (A := xv_A s.heap.size) (hts0 (.laysStatic "OnionCourt" "WORLDS_OF_FACT" "[I") (List.mem_of_getElem? (i := 566) (by decide +kernel))) (hts0 (.initialized "OnionCourt") (List.mem_of_getElem? (i := 75) (by decide +kernel))) ht hA
  have hXT : va_T .int b L (fun j => .int (xs j)) (xv_A s.heap.size) s s.heap := by
    obtain ⟨scr, h1, h2, h3, h4, h5⟩ := hX
    exact ⟨scr, h1, h2, h3, by omega, by rw [h4] <;> rfl, h5, hA b hbl⟩
  generalize had : (fun k => if k = 1000000 then t else if k = 1000001 then b else s.heap.size + k) = ad
  have hadr : xv_ad s.heap.size ad := by
    intro k hk
    subst had
    dsimp only
    rw [if_neg (by omega), if_neg (by omega)]
  have had0 : ad 1000000 = t := by subst had; rfl
  have had1 : ad 1000001 = b := by subst had; rfl
  have hKn : xv_Kn s.heap.size aC ad D (xv_ro L xs) s := by
    refine ⟨hK, fun k N f hk => ?_, by rw [had0]; exact hZ, xv_warmT (State.WarmedH.refl s) hts⟩
    unfold xv_ro at hk
    by_cases h0 : k = 1000000
    · rw [if_pos h0] at hk; cases hk; rw [h0, had0]; exact hT
    · rw [if_neg h0] at hk
      by_cases h1 : k = 1000001
      · rw [if_pos h1] at hk; cases hk; rw [h1, had1]; exact hXT
      · rw [if_neg h1] at hk; cases hk
  obtain ⟨n, σ, hex, hlc, hls⟩ := hgoal L xs hL
  rw [lg_entry_eq]
  have hl := lv_entry ([.ref b]) (n := 4) (Nat.le_of_ble_eq_true rfl)
  have hl2 : lv_has ((lg_sl ([.ref b]) ++ List.replicate (4 - (lg_sl ([.ref b])).length) Slot.unset).toArray) 4 (xv_lv ad 0 [some (.ref 1000001), none, none, none]) := by
    refine ⟨hl.1, hl.2.1, fun q hq => hl.2.2 q ?_⟩
    rcases List.mem_singleton.mp hq with rfl
    show (0, Value.ref (ad 1000001)) ∈ _
    rw [had1]
    exact List.mem_singleton.mpr rfl
  refine xv_sound (l := l) hadr xv_mt_ok n 200 xm_Root_law _ 0 _ [] xv_s0 _ σ xk_Root_law (xk_Root_law 0) hex p e room_1 s m #[Value.ref b] below meth c s.heap [] 0 0 _ _ 0 0 hx hb hml hown hname hKn (Nat.le_refl _) ⟨rfl, fun k q h => (by simp [xv_w, xv_s0] at h), va_S.rf, ⟨Nat.zero_le _, fun _ _ => rfl⟩⟩ hl2
    (fun j v h1 h2 => by
      exfalso
      match j, h1 with
      | 0, h1 => cases h1; simp [Value.category] at h2
      | 1, h1 => cases h1
      | 2, h1 => cases h1
      | 3, h1 => cases h1
      | j + 4, h1 => simp [xv_get] at h1) rfl rfl (by show σ.1.1 ≤ 600000 + 0; omega) (by show σ.1.2 ≤ 7302250 + 0; omega) (Nat.le_of_ble_eq_true rfl) (Nat.le_of_ble_eq_true rfl) ?_
  intro H1 locs1 cells1 slots1 pc1 LS1 i st1 hw h1 h2 hd hok hrr
  obtain ⟨rfl, rfl⟩ := xv_ret1 hrr
  refine va_forget (fun q hq => hw.2.2.1.2.2 q hq) ?_
  refine W.widen (k := 600000) (n := 7302250) (by omega) (by omega) ?_
  exact lw_ret hx hb hr hlocks hd
set_option maxHeartbeats 4000000 in
theorem lw_walk (hgoal : xv_goal) (l : Launch) (hflags : l.flags = flags0) (b : Addr) (xs : List Int32) : MetFree l x (headSpec (Jvm.Cond.code x code maxLocals ret :: tables_1) room_1) (lw_P b xs) (fun _ _ _ _ _ => True) lw_Q := by
  refine MetFree.of_bodyS (code := code) (maxLocals := maxLocals) (ret := ret) (by decide) ?_ ?_
  · intro args s m h hn
    obtain ⟨meth, c, h1, h2, h3, h4, h5, h6, -, -⟩ := Cond.code_spec hn (atoms_spec (ws := Jvm.Cond.code x code maxLocals ret :: tables_1) h _ List.mem_cons_self)
    exact ⟨meth, c, h1, h2, h3, h4, h5, h6⟩
  · intro p e s m args below meth c s₁ B hml0 hP _
    obtain ⟨rfl, hx, hbd, hgv⟩ := hP
    obtain ⟨scr, harrAt, hlist, hof, hsmall⟩ := hx
    obtain ⟨hcb, hkn, -, -⟩ := State.arrayAt?_spec harrAt
    have hown : s.vm.findClass R_law = some m.cls := findClass_of_methodNamed B.named
    have hts0 : ∀ c ∈ (Jvm.Cond.code x code maxLocals ret :: tables_1), c.before #[Value.ref b] s = true := atoms_spec (ws := Jvm.Cond.code x code maxLocals ret :: tables_1) B.pre
    have hts : ∀ w ∈ lw_tbl, w.before #[Value.ref b] s = true := k2_hts_sels lw_privs (fun w hw => hts0 w (List.mem_cons_of_mem _ hw)) lw_privs_ok
    have hml : c.maxLocals = 4 := B.maxLocals_eq (hts0 _ List.mem_cons_self)
    have X₀ : Stand p l e room_1 s m #[Value.ref b] below meth c s₁ [] 0 0 := Stand.of_body B
    have hh0 : s₁.heap = s.heap := by rw [B.state]; rfl
    have hsz : scr.slots.size = xs.length := by rw [← Array.length_toList, hlist, List.length_map]
    have hval : ∀ j : Nat, j < xs.length → scr.slots[j]? = some (.int (xs.getD j 0)) := fun j hj => by
      rw [← Array.getElem?_toList, hlist]
      simp [hj]
    have hbl : b < s.heap.size := (Array.getElem?_eq_some_iff.mp hcb).1
    have hX : va_X b xs.length (fun j => xs.getD j 0) s s.heap := ⟨scr, hcb, hof, hkn, hsz, hval⟩
    have K : W p l e room_1 s m #[Value.ref b] below meth c s₁.heap [] 0 0 (lw_Z below #[Value.ref b] s) (entryFrame m ([Value.ref b] : List Value).toArray 4) := by
      rw [hh0]
      exact whole_start hgoal l hbd ⟨B.exec, B.bytes, B.returns, hml, hown, hts, hX, hbl, B.notSynchronized, (name_of_methodNamed B.named B.method).1, hgv⟩
    obtain ⟨t, a1, o, b1, b2, b3⟩ := K s₁ rfl X₀
    exact ⟨t, o, a1, b1, b2, b3⟩
theorem lw_pre_spec {args : Array Value} {s : State} (h : (Jvm.Cond.and given_1 narrow_1).before args s = true) (hr : rest_1_c.before args s = true) : ∃ (b : Addr) (xs : List Int32), lw_P b xs args s := by
  have hs := flat_of_before _ h
  have hq := flat_of_before _ hr
  have hc : (Cond.count 1).before args s = true := hs _ (by decide +kernel)
  have harr : (Cond.arrayOf (.arg 0) .int).before args s = true := hs _ (by decide +kernel)
  have hle : (Cond.le (.length (.arg 0)) (.int 3072)).before args s = true := hs _ (by decide +kernel)
  have hlen : (Cond.isInt (.length (.arg 0))).before args s = true := hq _ (by decide +kernel)
  have hall : (Cond.all (.arg 0) (.isInt (.elem (.arg 0) (.index 0)))).before args s = true := hq _ (by decide +kernel)
  obtain ⟨b, xs, hb, hx⟩ := State.ints_of_pre rfl harr hlen hall
  have hsm : xs.length < 2 ^ 31 := hx.choose_spec.2.2.2
  have hev : (Term.length (.arg 0)).eval args s none [] s = some (.int xs.length.toInt32) := hx.length_eval hb
  have hv := Cond.le_ints hev (show (Term.int 3072).eval args s none [] s = some (.int 3072) from rfl)
  have hd : xs.length.toInt32 ≤ 3072 := by
    simpa [Cond.before, Cond.holds, hv] using hle
  have hN : xs.length ≤ 3072 := (Int32.ofNat_le_ofNat hsm (by decide)).mp (show Int32.ofNat xs.length ≤ Int32.ofNat 3072 from hd)
  exact ⟨b, xs, Cond.one_arg hc (show args[0]? = some (.ref b) from hb), hx, hN, h⟩
theorem lw_comes (hgoal : xv_goal) (l : Launch) (hflags : l.flags = flags0) : Comes l x (Jvm.Cond.code x code maxLocals ret :: tables_1) room_1 (fun tb e args s => Calls_1 tb e args s ∧ rest_1 tb e args s ∧ Pre_1 tb e args s)
    (fun _ _ args s o t => lw_Q args s o t) := by
  intro p e ha hc hk s m args below hf hfit hheap happ hpre
  obtain ⟨b, xs, hP⟩ := lw_pre_spec hpre.2.2 hpre.2.1
  obtain ⟨k, o, h1, h2, h3, hQ⟩ := lw_walk hgoal l hflags b xs p e ha hc hk s m args below hf ((Spec.applies_iff_loose hf).mp happ).1 hP trivial
  exact ⟨k, o, h1, h2, h3, hQ⟩
theorem lw_frame {s t : State} {o : Outcome} {args : Array Value} (h : Framed s o t [] 600000 7302250) :
    Framed s o t (fieldLocs frame_1_writes args s ++ arrayLocs frame_1_arrays args s ++ staticLocs frame_1_statics s) 600000 7302250 := h
theorem lw_limb (hgoal : xv_goal) (L : Cond) (hL : ∀ (args : Array Value) (s t : State), L.after args s (.returned (some (.int 1))) t = true) :
    ArmFor flags0 classFile x code maxLocals ret World_1 tables_1 room_1 Calls_1 rest_1 Pre_1
      (fun tb e a s o t => postC L tb e a s o t ∧ Framed s o t (fieldLocs frame_1_writes a s ++ arrayLocs frame_1_arrays a s ++ staticLocs frame_1_statics s) 600000 7302250) := by
  intro l hflags _ _ p e ha hc hk s m args below hf hfit hheap happ hpre
  obtain ⟨k, o, h1, h2, h3, rfl, hF⟩ := lw_comes hgoal l hflags p e ha hc hk s m args below hf hfit hheap happ hpre
  exact ⟨k, _, h1, h2, h3, hL args s _, lw_frame hF⟩
theorem xv_i_vc (hgoal : xv_goal) : Claimed_1_1 ∧ Claimed_1_2 := ⟨lw_limb hgoal limb_1_1 (fun args s t => by simp [limb_1_1, Cond.after, Cond.holds, Cond.value]), lw_limb hgoal limb_1_2 (fun args s t => Cond.after_iff.mpr (by
  first | (rw [show limb_1_2 = Cond.eq .result (.int 1) from rfl, Cond.eq_ints (x := 1) (y := 1) rfl rfl]; simp; done) | (simp [limb_1_2, Cond.value, Term.eval]; done)))⟩
end
section
/-! THE SMALL MACHINE AS EQUATIONS: what it comes to with enough steps, and each instruction's equation -/
theorem xv_up0 {mt : Nat → Option xv_M} {ro : xv_Ro} {n d : Nat} {M : xv_M} {i : Instr} {a b w : Nat} {v : Value} {ops : List xv_Op} {ls ls' : xv_L} {st st' : List Value} {σ : xv_S} (hk : xv_kd i = 0) (h : xv_loc i v ls st = some (ls', st')) : xv_exec mt ro (n + 1) d M ((i, a, b, w, v) :: ops) ls st σ = xv_exec mt ro n d M ops ls' st' σ := by
  conv => lhs; unfold xv_exec
  rw [hk]; simp only [h]
theorem xv_up1 {mt : Nat → Option xv_M} {ro : xv_Ro} {n d c : Nat} {M : xv_M} {i : Instr} {a b w : Nat} {v : Value} {ops : List xv_Op} {ls : xv_L} {st st' : List Value} {σ : xv_S} (hk : xv_kd i = 1) (h : xv_jmp i a st = some (some c, st')) : xv_exec mt ro (n + 1) d M ((i, a, b, w, v) :: ops) ls st σ = xv_exec mt ro n d M (xv_at M.2.2.2.2.2.2 c) ls st' σ := by
  conv => lhs; unfold xv_exec
  rw [hk]; simp only [h]
theorem xv_up1n {mt : Nat → Option xv_M} {ro : xv_Ro} {n d : Nat} {M : xv_M} {i : Instr} {a b w : Nat} {v : Value} {ops : List xv_Op} {ls : xv_L} {st st' : List Value} {σ : xv_S} (hk : xv_kd i = 1) (h : xv_jmp i a st = some (none, st')) : xv_exec mt ro (n + 1) d M ((i, a, b, w, v) :: ops) ls st σ = xv_exec mt ro n d M ops ls st' σ := by
  conv => lhs; unfold xv_exec
  rw [hk]; simp only [h]
theorem xv_up2 {mt : Nat → Option xv_M} {ro : xv_Ro} {n d : Nat} {M : xv_M} {i : Instr} {a b w : Nat} {v : Value} {ops : List xv_Op} {ls : xv_L} {st st' : List Value} {σ σ' : xv_S} (hk : xv_kd i = 2) (h : xv_hp ro i a b v σ st = some (st', σ')) : xv_exec mt ro (n + 1) d M ((i, a, b, w, v) :: ops) ls st σ = xv_exec mt ro n d M ops ls st' σ' := by
  conv => lhs; unfold xv_exec
  rw [hk]; simp only [h]
theorem xv_up3n {mt : Nat → Option xv_M} {ro : xv_Ro} {n d : Nat} {M : xv_M} {i : Instr} {a b w : Nat} {ops : List xv_Op} {ls : xv_L} {st st' rest : List Value} {σ : xv_S} (hk : xv_kd i = 3) (h : xv_spc i a st = some (st', rest)) (hr : rest.length ≤ 4) : xv_exec mt ro (n + 1) (d + 1) M ((i, a, b, w, .null) :: ops) ls st σ = xv_exec mt ro n (d + 1) M ops ls st' σ := by
  conv => lhs; unfold xv_exec
  rw [hk]; simp only [h, if_pos hr, if_true]
theorem xv_up3 {mt : Nat → Option xv_M} {ro : xv_Ro} {n d k : Nat} {M M' : xv_M} {i : Instr} {a b w : Nat} {v : Value} {ops : List xv_Op} {ls ls0 : xv_L} {st as rest : List Value} {σ σ' : xv_S} {r : Option Value} (hk : xv_kd i = 3) (hv : ¬ v = .null) (h : xv_call i a b v σ.2 st = some (k, as, rest)) (hm : mt k = some M') (hi : xv_ini M' as = some ls0)
    (hr : rest.length ≤ 4 ∧ as.length = M'.2.2.2.2.1.2.2 + (if M'.2.2.2.2.1.2.1 = 0 then 0 else 1)) (he : xv_exec mt ro n d M' (xv_at M'.2.2.2.2.2.2 0) ls0 [] σ = some (r, σ')) : xv_exec mt ro (n + 1) (d + 1) M ((i, a, b, w, v) :: ops) ls st σ = xv_exec mt ro n (d + 1) M ops ls (r.toList ++ rest) σ' := by
  conv => lhs; unfold xv_exec
  rw [hk]; dsimp only; rw [if_neg hv]
  change (match xv_call i a b v σ.2 st with
          | some (k, as, rest) => _
          | none => none) = _
  rw [h]; dsimp only; rw [hm]; dsimp only; rw [hi]; dsimp only; rw [if_pos hr, he]
theorem xv_up4 {mt : Nat → Option xv_M} {ro : xv_Ro} {n d : Nat} {M : xv_M} {i : Instr} {a b w : Nat} {v : Value} {ops : List xv_Op} {ls : xv_L} {st : List Value} {σ : xv_S} {r : Option Value} (hk : xv_kd i = 4) (h : xv_ret M i st = some r) : xv_exec mt ro (n + 1) d M ((i, a, b, w, v) :: ops) ls st σ = some (r, σ) := by
  conv => lhs; unfold xv_exec
  rw [hk]; simp only [h]
/-- more steps change nothing -/
theorem xv_more {mt : Nat → Option xv_M} {ro : xv_Ro} : ∀ (n d : Nat) (M : xv_M) (ops : List xv_Op) (ls : xv_L) (st : List Value) (σ : xv_S) (res : Option Value × xv_S), xv_exec mt ro n d M ops ls st σ = some res → xv_exec mt ro (n + 1) d M ops ls st σ = some res := by
  intro n
  induction n with
  | zero => intro d M ops ls st σ res h; unfold xv_exec at h; cases h
  | succ n ih =>
    intro d M ops ls st σ res h
    cases ops with
    | nil => unfold xv_exec at h; cases h
    | cons op ops =>
      obtain ⟨i, a, b, w, v⟩ := op
      rcases xv_kd_lt i with hk | hk | hk | hk | hk
      · obtain ⟨ls', st', h1, h2⟩ := xv_exec_0 hk h
        rw [xv_up0 hk h1]; exact ih _ _ _ _ _ _ _ h2
      · obtain ⟨t, st', h1, h2, h3⟩ := xv_exec_1 hk h
        cases t with
        | none => rw [xv_up1n hk h1]; exact ih _ _ _ _ _ _ _ (h3 rfl)
        | some c => rw [xv_up1 hk h1]; exact ih _ _ _ _ _ _ _ (h2 c rfl)
      · obtain ⟨st', σ1, h1, h2⟩ := xv_exec_2 hk h
        rw [xv_up2 hk h1]; exact ih _ _ _ _ _ _ _ h2
      · obtain ⟨d', rfl, h2 | h2⟩ := xv_exec_3 hk h
        · obtain ⟨rfl, st', rest, h1, hr, h3⟩ := h2
          rw [xv_up3n hk h1 hr]; exact ih _ _ _ _ _ _ _ h3
        · obtain ⟨hv, k, as, rest, M', ls0, r1, σ1, h1, hm, hi, hr, hal, h3, h4⟩ := h2
          rw [xv_up3 hk hv h1 hm hi ⟨hr, hal⟩ (ih _ _ _ _ _ _ _ h3)]; exact ih _ _ _ _ _ _ _ h4
      · obtain ⟨r1, h1, h2⟩ := xv_exec_4 hk h
        subst h2
        rw [xv_up4 hk h1]
theorem xv_le {mt : Nat → Option xv_M} {ro : xv_Ro} {n m d : Nat} {M : xv_M} {ops : List xv_Op} {ls : xv_L} {st : List Value} {σ : xv_S} {res : Option Value × xv_S} (h : xv_exec mt ro n d M ops ls st σ = some res) (hnm : n ≤ m) : xv_exec mt ro m d M ops ls st σ = some res := by
  induction hnm with
  | refl => exact h
  | step _ ih => exact xv_more _ _ _ _ _ _ _ _ ih
noncomputable def xv_ev (ro : xv_Ro) (d : Nat) (M : xv_M) (ops : List xv_Op) (ls : xv_L) (st : List Value) (σ : xv_S) : Option (Option Value × xv_S) :=
  @dite _ (∃ res, ∃ n, xv_exec xv_mt ro n d M ops ls st σ = some res) (Classical.propDecidable _) (fun h => some (Classical.choose h)) (fun _ => none)
theorem xv_ev_iff {ro : xv_Ro} {d : Nat} {M : xv_M} {ops : List xv_Op} {ls : xv_L} {st : List Value} {σ : xv_S} {res : Option Value × xv_S} : xv_ev ro d M ops ls st σ = some res ↔ ∃ n, xv_exec xv_mt ro n d M ops ls st σ = some res := by
  have det : ∀ r1 r2 : Option Value × xv_S, (∃ n, xv_exec xv_mt ro n d M ops ls st σ = some r1) → (∃ n, xv_exec xv_mt ro n d M ops ls st σ = some r2) → r1 = r2 := by
    rintro r1 r2 ⟨n, hn⟩ ⟨m, hm⟩
    have h1 := xv_le hn (Nat.le_max_left n m)
    have h2 := xv_le hm (Nat.le_max_right n m)
    exact Option.some.inj (h1.symm.trans h2)
  unfold xv_ev
  by_cases h : ∃ res, ∃ n, xv_exec xv_mt ro n d M ops ls st σ = some res
  · rw [dif_pos h]
    constructor
    · intro h2; cases h2; exact Classical.choose_spec h
    · intro h2; rw [det _ _ (Classical.choose_spec h) h2]
  · rw [dif_neg h]
    constructor
    · intro h2; cases h2
    · intro h2; exact absurd ⟨res, h2⟩ h
noncomputable def xv_evm (ro : xv_Ro) (d k : Nat) (as : List Value) (σ : xv_S) : Option (Option Value × xv_S) :=
  match xv_mt k with
  | some M => if as.length = M.2.2.2.2.1.2.2 + (if M.2.2.2.2.1.2.1 = 0 then 0 else 1) then (match xv_ini M as with
    | some ls0 => xv_ev ro d M (xv_at M.2.2.2.2.2.2 0) ls0 [] σ
    | none => none) else none
  | none => none
theorem xv_opt_ext {α : Type} {x y : Option α} (h : ∀ r, x = some r ↔ y = some r) : x = y := by
  cases x with
  | none => cases y with
    | none => rfl
    | some r => exact absurd ((h r).mpr rfl) (by simp)
  | some r => exact ((h r).mp rfl).symm
section XVE
variable {ro : xv_Ro} {d : Nat} {M : xv_M} {i : Instr} {a b w : Nat} {v : Value} {ops : List xv_Op} {ls : xv_L} {st : List Value} {σ : xv_S}
theorem xv_ev0 (hk : xv_kd i = 0) {ls' : xv_L} {st' : List Value} (h : xv_loc i v ls st = some (ls', st')) : xv_ev ro d M ((i, a, b, w, v) :: ops) ls st σ = xv_ev ro d M ops ls' st' σ := by
  apply xv_opt_ext; intro r; rw [xv_ev_iff, xv_ev_iff]
  constructor
  · rintro ⟨n, hn⟩
    cases n with
    | zero => unfold xv_exec at hn; cases hn
    | succ n => rw [xv_up0 hk h] at hn; exact ⟨n, hn⟩
  · rintro ⟨n, hn⟩; exact ⟨n + 1, by rw [xv_up0 hk h]; exact hn⟩
theorem xv_ev0n (hk : xv_kd i = 0) (h : xv_loc i v ls st = none) : xv_ev ro d M ((i, a, b, w, v) :: ops) ls st σ = none := by
  apply xv_opt_ext; intro r; rw [xv_ev_iff]
  constructor
  · rintro ⟨n, hn⟩
    cases n with
    | zero => unfold xv_exec at hn; cases hn
    | succ n => obtain ⟨_, _, h1, _⟩ := xv_exec_0 hk hn; rw [h] at h1; cases h1
  · intro h; cases h
theorem xv_ev1 (hk : xv_kd i = 1) {c : Nat} {st' : List Value} (h : xv_jmp i a st = some (some c, st')) : xv_ev ro d M ((i, a, b, w, v) :: ops) ls st σ = xv_ev ro d M (xv_at M.2.2.2.2.2.2 c) ls st' σ := by
  apply xv_opt_ext; intro r; rw [xv_ev_iff, xv_ev_iff]
  constructor
  · rintro ⟨n, hn⟩
    cases n with
    | zero => unfold xv_exec at hn; cases hn
    | succ n => rw [xv_up1 hk h] at hn; exact ⟨n, hn⟩
  · rintro ⟨n, hn⟩; exact ⟨n + 1, by rw [xv_up1 hk h]; exact hn⟩
theorem xv_ev1n (hk : xv_kd i = 1) {st' : List Value} (h : xv_jmp i a st = some (none, st')) : xv_ev ro d M ((i, a, b, w, v) :: ops) ls st σ = xv_ev ro d M ops ls st' σ := by
  apply xv_opt_ext; intro r; rw [xv_ev_iff, xv_ev_iff]
  constructor
  · rintro ⟨n, hn⟩
    cases n with
    | zero => unfold xv_exec at hn; cases hn
    | succ n => rw [xv_up1n hk h] at hn; exact ⟨n, hn⟩
  · rintro ⟨n, hn⟩; exact ⟨n + 1, by rw [xv_up1n hk h]; exact hn⟩
theorem xv_ev2 (hk : xv_kd i = 2) {σ' : xv_S} {st' : List Value} (h : xv_hp ro i a b v σ st = some (st', σ')) : xv_ev ro d M ((i, a, b, w, v) :: ops) ls st σ = xv_ev ro d M ops ls st' σ' := by
  apply xv_opt_ext; intro r; rw [xv_ev_iff, xv_ev_iff]
  constructor
  · rintro ⟨n, hn⟩
    cases n with
    | zero => unfold xv_exec at hn; cases hn
    | succ n => rw [xv_up2 hk h] at hn; exact ⟨n, hn⟩
  · rintro ⟨n, hn⟩; exact ⟨n + 1, by rw [xv_up2 hk h]; exact hn⟩
theorem xv_ev2n (hk : xv_kd i = 2) (h : xv_hp ro i a b v σ st = none) : xv_ev ro d M ((i, a, b, w, v) :: ops) ls st σ = none := by
  apply xv_opt_ext; intro r; rw [xv_ev_iff]
  constructor
  · rintro ⟨n, hn⟩
    cases n with
    | zero => unfold xv_exec at hn; cases hn
    | succ n => obtain ⟨_, _, h1, _⟩ := xv_exec_2 hk hn; rw [h] at h1; cases h1
  · intro h; cases h
theorem xv_ev3n (hk : xv_kd i = 3) {st' rest : List Value} (h : xv_spc i a st = some (st', rest)) (hr : rest.length ≤ 4) : xv_ev ro (d + 1) M ((i, a, b, w, .null) :: ops) ls st σ = xv_ev ro (d + 1) M ops ls st' σ := by
  apply xv_opt_ext; intro r; rw [xv_ev_iff, xv_ev_iff]
  constructor
  · rintro ⟨n, hn⟩
    cases n with
    | zero => unfold xv_exec at hn; cases hn
    | succ n => rw [xv_up3n hk h hr] at hn; exact ⟨n, hn⟩
  · rintro ⟨n, hn⟩; exact ⟨n + 1, by rw [xv_up3n hk h hr]; exact hn⟩
/-- what goes on behind a call -/
noncomputable def xv_bd (x : Option (Option Value × xv_S)) (f : Option Value → xv_S → Option (Option Value × xv_S)) : Option (Option Value × xv_S) :=
  match x with
  | some (r, σ) => f r σ
  | none => none
theorem xv_bd_some (r : Option Value) (σ : xv_S) (f : Option Value → xv_S → Option (Option Value × xv_S)) : xv_bd (some (r, σ)) f = f r σ := rfl
theorem xv_ev3 (hk : xv_kd i = 3) (hv : ¬ v = .null) {k : Nat} {as rest : List Value} (h : xv_call i a b v σ.2 st = some (k, as, rest)) (hr : rest.length ≤ 4) :
    xv_ev ro (d + 1) M ((i, a, b, w, v) :: ops) ls st σ = xv_bd (xv_evm ro d k as σ) fun r σ' => xv_ev ro (d + 1) M ops ls (r.toList ++ rest) σ' := by
  apply xv_opt_ext; intro res
  constructor
  · rw [xv_ev_iff]
    rintro ⟨n, hn⟩
    cases n with
    | zero => unfold xv_exec at hn; cases hn
    | succ n =>
      obtain ⟨d', hd, h2 | h2⟩ := xv_exec_3 hk hn
      · exact absurd h2.1 hv
      · obtain ⟨-, k', as', rest', M', ls0, r1, σ1, h1, hm, hi, hr', hal, h3, h4⟩ := h2
        cases hd
        rw [h] at h1
        cases h1
        have he : xv_evm ro d k as σ = some (r1, σ1) := by
          unfold xv_evm
          rw [hm]; dsimp only; rw [if_pos hal, hi]; dsimp only
          exact xv_ev_iff.mpr ⟨n, h3⟩
        rw [he, xv_bd_some]
        exact xv_ev_iff.mpr ⟨n, h4⟩
  · intro h2
    cases he : xv_evm ro d k as σ with
    | none => rw [he] at h2; cases h2
    | some q =>
      obtain ⟨r1, σ1⟩ := q
      rw [he, xv_bd_some] at h2
      unfold xv_evm at he
      cases hm : xv_mt k with
      | none => rw [hm] at he; cases he
      | some M' =>
        rw [hm] at he
        dsimp only at he
        by_cases hal : as.length = M'.2.2.2.2.1.2.2 + (if M'.2.2.2.2.1.2.1 = 0 then 0 else 1)
        · rw [if_pos hal] at he
          cases hi : xv_ini M' as with
          | none => rw [hi] at he; cases he
          | some ls0 =>
            rw [hi] at he
            obtain ⟨n, hn⟩ := xv_ev_iff.mp he
            obtain ⟨m, hm2⟩ := xv_ev_iff.mp h2
            refine xv_ev_iff.mpr ⟨max n m + 1, ?_⟩
            rw [xv_up3 hk hv h hm hi ⟨hr, hal⟩ (xv_le hn (Nat.le_max_left n m))]
            exact xv_le hm2 (Nat.le_max_right n m)
        · rw [if_neg hal] at he; cases he
theorem xv_ev4 (hk : xv_kd i = 4) {r : Option Value} (h : xv_ret M i st = some r) : xv_ev ro d M ((i, a, b, w, v) :: ops) ls st σ = some (r, σ) := xv_ev_iff.mpr ⟨1, xv_up4 hk h⟩
end XVE
theorem xv_evm_of {ro : xv_Ro} {d k : Nat} {as : List Value} {σ : xv_S} {M : xv_M} {ls : xv_L} {ops : List xv_Op} (hk : xv_mt k = some M) (hal : as.length = M.2.2.2.2.1.2.2 + (if M.2.2.2.2.1.2.1 = 0 then 0 else 1)) (hi : xv_ini M as = some ls) (h0 : xv_at M.2.2.2.2.2.2 0 = ops) : xv_evm ro d k as σ = xv_ev ro d M ops ls [] σ := by
  unfold xv_evm
  rw [hk]; dsimp only; rw [if_pos hal, hi]; dsimp only; rw [h0]
end
section
/-! THE WORLD behind the constructors: what each cell is; its contents as two maps -/
abbrev xv_Sp : Type := (Nat × Nat × Nat × Nat) ⊕ (Nat × List (Option Nat))
def xv_shl : List xv_Sp := [.inr (1, [some 1, some 3, some 5, some 13, some 21, some 22, some 25, some 68, some 111, none, some 154, some 156, some 160, some 166]),
  .inr (2, [some 2, none, none, none, none]),
  .inl (0, 260, 0, 0),
  .inr (3, [some 4, none]),
  .inl (0, 8, 0, 0),
  .inr (4, [some 6, some 7, some 8, some 9, some 10, some 11, some 12, none, none]),
  .inl (0, 240, 0, 0),
  .inl (0, 240, 0, 0),
  .inl (0, 16, 0, 0),
  .inl (0, 16, 0, 0),
  .inl (0, 16, 0, 0),
  .inl (0, 16, 0, 0),
  .inl (1, 32, 0, 0),
  .inr (4, [some 14, some 15, some 16, some 17, some 18, some 19, some 20, none, none]),
  .inl (0, 240, 0, 0),
  .inl (0, 240, 0, 0),
  .inl (0, 16, 0, 0),
  .inl (0, 16, 0, 0),
  .inl (0, 16, 0, 0),
  .inl (0, 16, 0, 0),
  .inl (1, 32, 0, 0),
  .inr (5, [none, none, none, none, none, none, none, none]),
  .inr (6, [some 23, some 24]),
  .inl (0, 5, 0, 0),
  .inl (1, 32, 0, 0),
  .inr (7, [some 26, some 27, none, none, none, none, none]),
  .inl (3, 10, 28, 2),
  .inl (4, 20, 48, 1),
  .inr (8, [some 29, none, none, none]),
  .inl (0, 12, 0, 0),
  .inr (8, [some 31, none, none, none]),
  .inl (0, 12, 0, 0),
  .inr (8, [some 33, none, none, none]),
  .inl (0, 12, 0, 0),
  .inr (8, [some 35, none, none, none]),
  .inl (0, 12, 0, 0),
  .inr (8, [some 37, none, none, none]),
  .inl (0, 12, 0, 0),
  .inr (8, [some 39, none, none, none]),
  .inl (0, 12, 0, 0),
  .inr (8, [some 41, none, none, none]),
  .inl (0, 12, 0, 0),
  .inr (8, [some 43, none, none, none]),
  .inl (0, 12, 0, 0),
  .inr (8, [some 45, none, none, none]),
  .inl (0, 12, 0, 0),
  .inr (8, [some 47, none, none, none]),
  .inl (0, 12, 0, 0),
  .inr (9, [none, none, none, none, none, none, none, none]),
  .inr (9, [none, none, none, none, none, none, none, none]),
  .inr (9, [none, none, none, none, none, none, none, none]),
  .inr (9, [none, none, none, none, none, none, none, none]),
  .inr (9, [none, none, none, none, none, none, none, none]),
  .inr (9, [none, none, none, none, none, none, none, none]),
  .inr (9, [none, none, none, none, none, none, none, none]),
  .inr (9, [none, none, none, none, none, none, none, none]),
  .inr (9, [none, none, none, none, none, none, none, none]),
  .inr (9, [none, none, none, none, none, none, none, none]),
  .inr (9, [none, none, none, none, none, none, none, none]),
  .inr (9, [none, none, none, none, none, none, none, none]),
  .inr (9, [none, none, none, none, none, none, none, none]),
  .inr (9, [none, none, none, none, none, none, none, none]),
  .inr (9, [none, none, none, none, none, none, none, none]),
  .inr (9, [none, none, none, none, none, none, none, none]),
  .inr (9, [none, none, none, none, none, none, none, none]),
  .inr (9, [none, none, none, none, none, none, none, none]),
  .inr (9, [none, none, none, none, none, none, none, none]),
  .inr (9, [none, none, none, none, none, none, none, none]),
  .inr (7, [some 69, some 70, none, none, none, none, none]),
  .inl (3, 10, 71, 2),
  .inl (4, 20, 91, 1),
  .inr (8, [some 72, none, none, none]),
  .inl (0, 12, 0, 0),
  .inr (8, [some 74, none, none, none]),
  .inl (0, 12, 0, 0),
  .inr (8, [some 76, none, none, none]),
  .inl (0, 12, 0, 0),
  .inr (8, [some 78, none, none, none]),
  .inl (0, 12, 0, 0),
  .inr (8, [some 80, none, none, none]),
  .inl (0, 12, 0, 0),
  .inr (8, [some 82, none, none, none]),
  .inl (0, 12, 0, 0),
  .inr (8, [some 84, none, none, none]),
  .inl (0, 12, 0, 0),
  .inr (8, [some 86, none, none, none]),
  .inl (0, 12, 0, 0),
  .inr (8, [some 88, none, none, none]),
  .inl (0, 12, 0, 0),
  .inr (8, [some 90, none, none, none]),
  .inl (0, 12, 0, 0),
  .inr (9, [none, none, none, none, none, none, none, none]),
  .inr (9, [none, none, none, none, none, none, none, none]),
  .inr (9, [none, none, none, none, none, none, none, none]),
  .inr (9, [none, none, none, none, none, none, none, none]),
  .inr (9, [none, none, none, none, none, none, none, none]),
  .inr (9, [none, none, none, none, none, none, none, none]),
  .inr (9, [none, none, none, none, none, none, none, none]),
  .inr (9, [none, none, none, none, none, none, none, none]),
  .inr (9, [none, none, none, none, none, none, none, none]),
  .inr (9, [none, none, none, none, none, none, none, none]),
  .inr (9, [none, none, none, none, none, none, none, none]),
  .inr (9, [none, none, none, none, none, none, none, none]),
  .inr (9, [none, none, none, none, none, none, none, none]),
  .inr (9, [none, none, none, none, none, none, none, none]),
  .inr (9, [none, none, none, none, none, none, none, none]),
  .inr (9, [none, none, none, none, none, none, none, none]),
  .inr (9, [none, none, none, none, none, none, none, none]),
  .inr (9, [none, none, none, none, none, none, none, none]),
  .inr (9, [none, none, none, none, none, none, none, none]),
  .inr (9, [none, none, none, none, none, none, none, none]),
  .inr (7, [some 112, some 113, none, none, none, none, none]),
  .inl (3, 10, 114, 2),
  .inl (4, 20, 134, 1),
  .inr (8, [some 115, none, none, none]),
  .inl (0, 12, 0, 0),
  .inr (8, [some 117, none, none, none]),
  .inl (0, 12, 0, 0),
  .inr (8, [some 119, none, none, none]),
  .inl (0, 12, 0, 0),
  .inr (8, [some 121, none, none, none]),
  .inl (0, 12, 0, 0),
  .inr (8, [some 123, none, none, none]),
  .inl (0, 12, 0, 0),
  .inr (8, [some 125, none, none, none]),
  .inl (0, 12, 0, 0),
  .inr (8, [some 127, none, none, none]),
  .inl (0, 12, 0, 0),
  .inr (8, [some 129, none, none, none]),
  .inl (0, 12, 0, 0),
  .inr (8, [some 131, none, none, none]),
  .inl (0, 12, 0, 0),
  .inr (8, [some 133, none, none, none]),
  .inl (0, 12, 0, 0),
  .inr (9, [none, none, none, none, none, none, none, none]),
  .inr (9, [none, none, none, none, none, none, none, none]),
  .inr (9, [none, none, none, none, none, none, none, none]),
  .inr (9, [none, none, none, none, none, none, none, none]),
  .inr (9, [none, none, none, none, none, none, none, none]),
  .inr (9, [none, none, none, none, none, none, none, none]),
  .inr (9, [none, none, none, none, none, none, none, none]),
  .inr (9, [none, none, none, none, none, none, none, none]),
  .inr (9, [none, none, none, none, none, none, none, none]),
  .inr (9, [none, none, none, none, none, none, none, none]),
  .inr (9, [none, none, none, none, none, none, none, none]),
  .inr (9, [none, none, none, none, none, none, none, none]),
  .inr (9, [none, none, none, none, none, none, none, none]),
  .inr (9, [none, none, none, none, none, none, none, none]),
  .inr (9, [none, none, none, none, none, none, none, none]),
  .inr (9, [none, none, none, none, none, none, none, none]),
  .inr (9, [none, none, none, none, none, none, none, none]),
  .inr (9, [none, none, none, none, none, none, none, none]),
  .inr (9, [none, none, none, none, none, none, none, none]),
  .inr (9, [none, none, none, none, none, none, none, none]),
  .inr (8, [some 155, none, none, none]),
  .inl (0, 12, 0, 0),
  .inr (10, [some 157, some 158, some 159, none, none]),
  .inl (0, 10, 0, 0),
  .inl (0, 10, 0, 0),
  .inl (0, 10, 0, 0),
  .inr (11, [some 161, some 162, some 163, some 164, some 165, none, none]),
  .inl (0, 5, 0, 0),
  .inl (0, 5, 0, 0),
  .inl (0, 5, 0, 0),
  .inl (0, 5, 0, 0),
  .inl (0, 5, 0, 0),
  .inl (0, 12, 0, 0),
  .inr (0, [some 168, some 169, some 170, some 171, some 172, none, some 173, none, none, none, none, none, none, none, none, none, none, some 174, some 175, some 176, some 177, some 178, some 179, some 180, some 181, some 182, some 183, some 184, some 185, some 186, some 187, some 188, none, none, none, none, some 189, none, some 190, some 191, some 192, some 193, none, none, none, some 194, some 195, some 196, some 197, some 198, some 199, none]),
  .inl (0, 304, 0, 0),
  .inl (0, 304, 0, 0),
  .inl (0, 304, 0, 0),
  .inl (0, 5, 0, 0),
  .inl (1, 8, 0, 0),
  .inl (2, 260, 0, 0),
  .inl (0, 260, 0, 0),
  .inl (0, 260, 0, 0),
  .inl (0, 16, 0, 0),
  .inl (0, 16, 0, 0),
  .inl (0, 16, 0, 0),
  .inl (0, 16, 0, 0),
  .inl (0, 260, 0, 0),
  .inl (0, 16, 0, 0),
  .inl (0, 16, 0, 0),
  .inl (0, 16, 0, 0),
  .inl (0, 16, 0, 0),
  .inl (0, 260, 0, 0),
  .inl (0, 8, 0, 0),
  .inl (0, 60, 0, 0),
  .inl (1, 60, 0, 0),
  .inl (0, 12, 0, 0),
  .inl (0, 20, 0, 0),
  .inl (0, 20, 0, 0),
  .inl (0, 20, 0, 0),
  .inl (0, 10, 0, 0),
  .inl (1, 32, 0, 0),
  .inl (0, 10, 0, 0),
  .inl (0, 11, 0, 0),
  .inl (0, 5, 0, 0),
  .inl (0, 5, 0, 0),
  .inl (0, 5, 0, 0)]
def xv_SZ : Nat × Nat := (200, 5355)
def xv_fl (I : Nat → Int32) : List (Option Nat) → Nat → List Value
  | [], _ => []
  | some r :: l, n => .ref r :: xv_fl I l (n + 1)
  | none :: l, n => .int (I n) :: xv_fl I l (n + 1)
def xv_mkc (I : Nat → Int32) (J : Nat → Int64) : xv_Sp → xv_C
  | .inl (kd, n, s, t) => .inl (kd, n, if kd = 1 then .inr (.inl J) else if kd = 3 ∨ kd = 4 then .inr (.inr (.inr (.inr fun j => if j < n then some (s + t * j) else none))) else .inl I)
  | .inr (ci, fl) => .inr (ci, xv_fl I fl 0)
def xv_mk (I : Nat → Nat → Int32) (J : Nat → Nat → Int64) : xv_H := fun k => match xv_shl[k]? with
  | some sp => xv_mkc (I k) (J k) sp
  | none => .inr (1000, [])
def xv_u2 {α : Type} (I : Nat → Nat → α) (o a : Nat) (x : α) : Nat → Nat → α := fun o' a' => if o' = o ∧ a' = a then x else I o' a'
/-- an object's class and what its field is: a reference for ever, or a number -/
def xv_fv (o a : Nat) : Option (Nat × Option Nat) := match xv_shl[o]? with
  | some (.inr (ci, fl)) => (fl[a]?).map fun x => (ci, x)
  | _ => none
/-- a row's kind and length -/
def xv_ar (k : Nat) : Option (Nat × Nat) := match xv_shl[k]? with
  | some (.inl (kd, n, _, _)) => some (kd, n)
  | _ => none
/-- a row of references: length, first, distance -/
def xv_rr (k : Nat) : Option (Nat × Nat × Nat) := match xv_shl[k]? with
  | some (.inl (kd, n, s, t)) => if kd = 3 ∨ kd = 4 then some (n, s, t) else none
  | _ => none
/-- an object's class -/
def xv_oc (k : Nat) : Option Nat := match xv_shl[k]? with
  | some (.inr (ci, _)) => some ci
  | _ => none
theorem xv_fl_get (I : Nat → Int32) : ∀ (fl : List (Option Nat)) (n a : Nat), (xv_fl I fl n)[a]? = (fl[a]?).map fun x => match x with | some r => Value.ref r | none => Value.int (I (n + a)) := by
  intro fl
  induction fl with
  | nil => intro n a; simp [xv_fl]
  | cons f fl ih =>
    intro n a
    cases a with
    | zero => cases f <;> simp [xv_fl]
    | succ a =>
      cases f with
      | none => show (xv_fl I fl (n + 1))[a]? = _; rw [ih]; simp only [List.getElem?_cons_succ]; rw [show n + 1 + a = n + (a + 1) by omega]
      | some r => show (xv_fl I fl (n + 1))[a]? = _; rw [ih]; simp only [List.getElem?_cons_succ]; rw [show n + 1 + a = n + (a + 1) by omega]
theorem xv_fl_len (I : Nat → Int32) : ∀ (fl : List (Option Nat)) (n : Nat), (xv_fl I fl n).length = fl.length := by
  intro fl
  induction fl with
  | nil => intro n; rfl
  | cons f fl ih => intro n; cases f <;> simp [xv_fl, ih]
theorem xv_fl_set (I : Nat → Int32) (x : Int32) : ∀ (fl : List (Option Nat)) (n a : Nat), fl[a]? = some none → (xv_fl I fl n).set a (.int x) = xv_fl (fun j => if j = n + a then x else I j) fl n := by
  intro fl n a h
  apply List.ext_getElem?
  intro j
  rw [List.getElem?_set, xv_fl_get, xv_fl_get, xv_fl_len]
  have hl : a < fl.length := (List.getElem?_eq_some_iff.mp h).1
  by_cases hj : a = j
  · subst hj
    rw [if_pos rfl, if_pos hl, h]
    simp
  · rw [if_neg hj]
    have h2 : ¬ (n + j = n + a) := by omega
    cases hf : fl[j]? with
    | none => rfl
    | some q => cases q with
      | some r => rfl
      | none =>
        have h3 : ¬ j = a := fun h => hj h.symm
        simp [h3]
theorem xv_mk_set {I I' : Nat → Nat → Int32} {J J' : Nat → Nat → Int64} {k : Nat} {sp : xv_Sp} {c : xv_C} (h : xv_shl[k]? = some sp) (hc : c = xv_mkc (I' k) (J' k) sp) (hI : ∀ j, j ≠ k → I' j = I j) (hJ : ∀ j, j ≠ k → J' j = J j) : xv_up (xv_mk I J) k c = xv_mk I' J' := by
  funext j
  by_cases hj : j = k
  · subst hj
    simp only [xv_up, if_pos, xv_mk, h, hc]
  · simp only [xv_up, if_neg hj, xv_mk, hI j hj, hJ j hj]

theorem xr_null (ro : xv_Ro) (d : Nat) (M : xv_M) (a b w : Nat) (ops : List xv_Op) (ls : xv_L) (st : List Value) (σ : xv_S) (v : Value) : xv_ev ro d M ((.aconst_null, a, b, w, v) :: ops) ls (st) σ = xv_ev ro d M ops ls (.null :: st) σ := xv_ev0 rfl rfl
theorem xr_iconst (ro : xv_Ro) (d : Nat) (M : xv_M) (a b w : Nat) (ops : List xv_Op) (ls : xv_L) (st : List Value) (σ : xv_S) (v : Value) (n : Int) : xv_ev ro d M ((.iconst n, a, b, w, v) :: ops) ls (st) σ = xv_ev ro d M ops ls (v :: st) σ := xv_ev0 rfl rfl
theorem xr_bipush (ro : xv_Ro) (d : Nat) (M : xv_M) (a b w : Nat) (ops : List xv_Op) (ls : xv_L) (st : List Value) (σ : xv_S) (v : Value) (n : Int) : xv_ev ro d M ((.bipush n, a, b, w, v) :: ops) ls (st) σ = xv_ev ro d M ops ls (v :: st) σ := xv_ev0 rfl rfl
theorem xr_sipush (ro : xv_Ro) (d : Nat) (M : xv_M) (a b w : Nat) (ops : List xv_Op) (ls : xv_L) (st : List Value) (σ : xv_S) (v : Value) (n : Int) : xv_ev ro d M ((.sipush n, a, b, w, v) :: ops) ls (st) σ = xv_ev ro d M ops ls (v :: st) σ := xv_ev0 rfl rfl
theorem xr_lconst (ro : xv_Ro) (d : Nat) (M : xv_M) (a b w : Nat) (ops : List xv_Op) (ls : xv_L) (st : List Value) (σ : xv_S) (v : Value) (n : Fin 2) : xv_ev ro d M ((.lconst n, a, b, w, v) :: ops) ls (st) σ = xv_ev ro d M ops ls (v :: st) σ := xv_ev0 rfl rfl
theorem xr_ldc (ro : xv_Ro) (d : Nat) (M : xv_M) (a b w : Nat) (ops : List xv_Op) (ls : xv_L) (st : List Value) (σ : xv_S) (v : Value) (n : Nat) : xv_ev ro d M ((.ldc n, a, b, w, v) :: ops) ls (st) σ = xv_ev ro d M ops ls (v :: st) σ := xv_ev0 rfl rfl
theorem xr_ldc_w (ro : xv_Ro) (d : Nat) (M : xv_M) (a b w : Nat) (ops : List xv_Op) (ls : xv_L) (st : List Value) (σ : xv_S) (v : Value) (n : Nat) : xv_ev ro d M ((.ldc_w n, a, b, w, v) :: ops) ls (st) σ = xv_ev ro d M ops ls (v :: st) σ := xv_ev0 rfl rfl
theorem xr_ldc2_w (ro : xv_Ro) (d : Nat) (M : xv_M) (a b w : Nat) (ops : List xv_Op) (ls : xv_L) (st : List Value) (σ : xv_S) (v : Value) (n : Nat) : xv_ev ro d M ((.ldc2_w n, a, b, w, v) :: ops) ls (st) σ = xv_ev ro d M ops ls (v :: st) σ := xv_ev0 rfl rfl
/-- a local that is read -/
def xv_lk {α : Type} (t : Nat) (o : Option Value) (f : Value → Option α) : Option α := match o with
  | some u => if xv_ty t u = true then f u else none
  | none => none
theorem xr_lk0 {α : Type} (x : Int32) (f : Value → Option α) : xv_lk 0 (some (.int x)) f = f (.int x) := rfl
theorem xr_lk1 {α : Type} (x : Int64) (f : Value → Option α) : xv_lk 1 (some (.long x)) f = f (.long x) := rfl
theorem xr_lk3 {α : Type} (x : Nat) (f : Value → Option α) : xv_lk 3 (some (.ref x)) f = f (.ref x) := rfl
theorem xr_lk3n {α : Type} (f : Value → Option α) : xv_lk 3 (some .null) f = f .null := rfl
def xv_lki {α : Type} (o : Option Value) (f : Int32 → Option α) : Option α := match o with
  | some (.int x) => f x
  | _ => none
theorem xr_lki {α : Type} (x : Int32) (f : Int32 → Option α) : xv_lki (some (.int x)) f = f x := rfl
theorem xr_get0 (a : Option Value) (ls : xv_L) : xv_get (a :: ls) 0 = a := rfl
theorem xr_getS (a : Option Value) (ls : xv_L) (n : Nat) : xv_get (a :: ls) (n + 1) = xv_get ls n := rfl
theorem xr_set0 (a v : Option Value) (ls : xv_L) : xv_set (a :: ls) 0 v = v :: ls := rfl
theorem xr_setS (a v : Option Value) (ls : xv_L) (n : Nat) : xv_set (a :: ls) (n + 1) v = a :: xv_set ls n v := rfl
theorem xr_iload (ro : xv_Ro) (d : Nat) (M : xv_M) (a b w : Nat) (v : Value) (ops : List xv_Op) (ls : xv_L) (st : List Value) (σ : xv_S) (k : Nat) : xv_ev ro d M ((.iload k, a, b, w, v) :: ops) ls st σ = xv_lk 0 (xv_get ls k) fun u => xv_ev ro d M ops ls (u :: st) σ := by
  unfold xv_lk
  cases hg : xv_get ls k with
  | none => exact xv_ev0n rfl (by show xv_ld 0 ls k st = none; unfold xv_ld; rw [hg])
  | some u =>
    dsimp only
    by_cases h : xv_ty 0 u = true
    · rw [if_pos h]; exact xv_ev0 rfl (by show xv_ld 0 ls k st = _; unfold xv_ld; rw [hg]; dsimp only; rw [if_pos h])
    · rw [if_neg h]; exact xv_ev0n rfl (by show xv_ld 0 ls k st = none; unfold xv_ld; rw [hg]; dsimp only; rw [if_neg h])
theorem xr_iload_n (ro : xv_Ro) (d : Nat) (M : xv_M) (a b w : Nat) (v : Value) (ops : List xv_Op) (ls : xv_L) (st : List Value) (σ : xv_S) (k : Fin 4) : xv_ev ro d M ((.iload_n k, a, b, w, v) :: ops) ls st σ = xv_lk 0 (xv_get ls k.1) fun u => xv_ev ro d M ops ls (u :: st) σ := by
  unfold xv_lk
  cases hg : xv_get ls k.1 with
  | none => exact xv_ev0n rfl (by show xv_ld 0 ls k.1 st = none; unfold xv_ld; rw [hg])
  | some u =>
    dsimp only
    by_cases h : xv_ty 0 u = true
    · rw [if_pos h]; exact xv_ev0 rfl (by show xv_ld 0 ls k.1 st = _; unfold xv_ld; rw [hg]; dsimp only; rw [if_pos h])
    · rw [if_neg h]; exact xv_ev0n rfl (by show xv_ld 0 ls k.1 st = none; unfold xv_ld; rw [hg]; dsimp only; rw [if_neg h])
theorem xr_lload (ro : xv_Ro) (d : Nat) (M : xv_M) (a b w : Nat) (v : Value) (ops : List xv_Op) (ls : xv_L) (st : List Value) (σ : xv_S) (k : Nat) : xv_ev ro d M ((.lload k, a, b, w, v) :: ops) ls st σ = xv_lk 1 (xv_get ls k) fun u => xv_ev ro d M ops ls (u :: st) σ := by
  unfold xv_lk
  cases hg : xv_get ls k with
  | none => exact xv_ev0n rfl (by show xv_ld 1 ls k st = none; unfold xv_ld; rw [hg])
  | some u =>
    dsimp only
    by_cases h : xv_ty 1 u = true
    · rw [if_pos h]; exact xv_ev0 rfl (by show xv_ld 1 ls k st = _; unfold xv_ld; rw [hg]; dsimp only; rw [if_pos h])
    · rw [if_neg h]; exact xv_ev0n rfl (by show xv_ld 1 ls k st = none; unfold xv_ld; rw [hg]; dsimp only; rw [if_neg h])
theorem xr_lload_n (ro : xv_Ro) (d : Nat) (M : xv_M) (a b w : Nat) (v : Value) (ops : List xv_Op) (ls : xv_L) (st : List Value) (σ : xv_S) (k : Fin 4) : xv_ev ro d M ((.lload_n k, a, b, w, v) :: ops) ls st σ = xv_lk 1 (xv_get ls k.1) fun u => xv_ev ro d M ops ls (u :: st) σ := by
  unfold xv_lk
  cases hg : xv_get ls k.1 with
  | none => exact xv_ev0n rfl (by show xv_ld 1 ls k.1 st = none; unfold xv_ld; rw [hg])
  | some u =>
    dsimp only
    by_cases h : xv_ty 1 u = true
    · rw [if_pos h]; exact xv_ev0 rfl (by show xv_ld 1 ls k.1 st = _; unfold xv_ld; rw [hg]; dsimp only; rw [if_pos h])
    · rw [if_neg h]; exact xv_ev0n rfl (by show xv_ld 1 ls k.1 st = none; unfold xv_ld; rw [hg]; dsimp only; rw [if_neg h])
theorem xr_aload (ro : xv_Ro) (d : Nat) (M : xv_M) (a b w : Nat) (v : Value) (ops : List xv_Op) (ls : xv_L) (st : List Value) (σ : xv_S) (k : Nat) : xv_ev ro d M ((.aload k, a, b, w, v) :: ops) ls st σ = xv_lk 3 (xv_get ls k) fun u => xv_ev ro d M ops ls (u :: st) σ := by
  unfold xv_lk
  cases hg : xv_get ls k with
  | none => exact xv_ev0n rfl (by show xv_ld 3 ls k st = none; unfold xv_ld; rw [hg])
  | some u =>
    dsimp only
    by_cases h : xv_ty 3 u = true
    · rw [if_pos h]; exact xv_ev0 rfl (by show xv_ld 3 ls k st = _; unfold xv_ld; rw [hg]; dsimp only; rw [if_pos h])
    · rw [if_neg h]; exact xv_ev0n rfl (by show xv_ld 3 ls k st = none; unfold xv_ld; rw [hg]; dsimp only; rw [if_neg h])
theorem xr_aload_n (ro : xv_Ro) (d : Nat) (M : xv_M) (a b w : Nat) (v : Value) (ops : List xv_Op) (ls : xv_L) (st : List Value) (σ : xv_S) (k : Fin 4) : xv_ev ro d M ((.aload_n k, a, b, w, v) :: ops) ls st σ = xv_lk 3 (xv_get ls k.1) fun u => xv_ev ro d M ops ls (u :: st) σ := by
  unfold xv_lk
  cases hg : xv_get ls k.1 with
  | none => exact xv_ev0n rfl (by show xv_ld 3 ls k.1 st = none; unfold xv_ld; rw [hg])
  | some u =>
    dsimp only
    by_cases h : xv_ty 3 u = true
    · rw [if_pos h]; exact xv_ev0 rfl (by show xv_ld 3 ls k.1 st = _; unfold xv_ld; rw [hg]; dsimp only; rw [if_pos h])
    · rw [if_neg h]; exact xv_ev0n rfl (by show xv_ld 3 ls k.1 st = none; unfold xv_ld; rw [hg]; dsimp only; rw [if_neg h])
theorem xr_istore (ro : xv_Ro) (d : Nat) (M : xv_M) (a b w : Nat) (ops : List xv_Op) (ls : xv_L) (st : List Value) (σ : xv_S) (v : Value) (k : Nat) (x : Int32) : xv_ev ro d M ((.istore k, a, b, w, v) :: ops) ls (.int x :: st) σ = xv_ev ro d M ops (xv_set ls k (some (.int x))) (st) σ := xv_ev0 rfl rfl
theorem xr_astore (ro : xv_Ro) (d : Nat) (M : xv_M) (a b w : Nat) (ops : List xv_Op) (ls : xv_L) (st : List Value) (σ : xv_S) (v : Value) (k : Nat) (x : Nat) : xv_ev ro d M ((.astore k, a, b, w, v) :: ops) ls (.ref x :: st) σ = xv_ev ro d M ops (xv_set ls k (some (.ref x))) (st) σ := xv_ev0 rfl rfl
theorem xr_astoreN (ro : xv_Ro) (d : Nat) (M : xv_M) (a b w : Nat) (ops : List xv_Op) (ls : xv_L) (st : List Value) (σ : xv_S) (v : Value) (k : Nat) : xv_ev ro d M ((.astore k, a, b, w, v) :: ops) ls (.null :: st) σ = xv_ev ro d M ops (xv_set ls k (some .null)) (st) σ := xv_ev0 rfl rfl
theorem xr_lstore (ro : xv_Ro) (d : Nat) (M : xv_M) (a b w : Nat) (ops : List xv_Op) (ls : xv_L) (st : List Value) (σ : xv_S) (v : Value) (k : Nat) (x : Int64) : xv_ev ro d M ((.lstore k, a, b, w, v) :: ops) ls (.long x :: st) σ = xv_ev ro d M ops (xv_set (xv_set ls k (some (.long x))) (k + 1) none) (st) σ := xv_ev0 rfl rfl
theorem xr_istore_n (ro : xv_Ro) (d : Nat) (M : xv_M) (a b w : Nat) (ops : List xv_Op) (ls : xv_L) (st : List Value) (σ : xv_S) (v : Value) (k : Fin 4) (x : Int32) : xv_ev ro d M ((.istore_n k, a, b, w, v) :: ops) ls (.int x :: st) σ = xv_ev ro d M ops (xv_set ls k.1 (some (.int x))) (st) σ := xv_ev0 rfl rfl
theorem xr_astore_n (ro : xv_Ro) (d : Nat) (M : xv_M) (a b w : Nat) (ops : List xv_Op) (ls : xv_L) (st : List Value) (σ : xv_S) (v : Value) (k : Fin 4) (x : Nat) : xv_ev ro d M ((.astore_n k, a, b, w, v) :: ops) ls (.ref x :: st) σ = xv_ev ro d M ops (xv_set ls k.1 (some (.ref x))) (st) σ := xv_ev0 rfl rfl
theorem xr_astoreN_n (ro : xv_Ro) (d : Nat) (M : xv_M) (a b w : Nat) (ops : List xv_Op) (ls : xv_L) (st : List Value) (σ : xv_S) (v : Value) (k : Fin 4) : xv_ev ro d M ((.astore_n k, a, b, w, v) :: ops) ls (.null :: st) σ = xv_ev ro d M ops (xv_set ls k.1 (some .null)) (st) σ := xv_ev0 rfl rfl
theorem xr_lstore_n (ro : xv_Ro) (d : Nat) (M : xv_M) (a b w : Nat) (ops : List xv_Op) (ls : xv_L) (st : List Value) (σ : xv_S) (v : Value) (k : Fin 4) (x : Int64) : xv_ev ro d M ((.lstore_n k, a, b, w, v) :: ops) ls (.long x :: st) σ = xv_ev ro d M ops (xv_set (xv_set ls k.1 (some (.long x))) (k.1 + 1) none) (st) σ := xv_ev0 rfl rfl
theorem xr_iinc (ro : xv_Ro) (d : Nat) (M : xv_M) (a b w : Nat) (ops : List xv_Op) (ls : xv_L) (st : List Value) (σ : xv_S) (k : Nat) (n : Int) (c : Int32) : xv_ev ro d M ((.iinc k n, a, b, w, .int c) :: ops) ls st σ = xv_lki (xv_get ls k) fun x => xv_ev ro d M ops (xv_set ls k (some (.int (x + c)))) st σ := by
  unfold xv_lki
  cases hg : xv_get ls k with
  | none => exact xv_ev0n rfl (by show xv_inc ls k (.int c) st = none; unfold xv_inc; rw [hg])
  | some u =>
    cases u with
    | int x => exact xv_ev0 rfl (by show xv_inc ls k (.int c) st = _; unfold xv_inc; rw [hg])
    | _ => exact xv_ev0n rfl (by show xv_inc ls k (.int c) st = none; unfold xv_inc; rw [hg])
theorem xr_dup_i (ro : xv_Ro) (d : Nat) (M : xv_M) (a b w : Nat) (ops : List xv_Op) (ls : xv_L) (st : List Value) (σ : xv_S) (v : Value) (x : Int32) : xv_ev ro d M ((.dup, a, b, w, v) :: ops) ls (.int x :: st) σ = xv_ev ro d M ops ls (.int x :: .int x :: st) σ := xv_ev0 rfl rfl
theorem xr_dup_r (ro : xv_Ro) (d : Nat) (M : xv_M) (a b w : Nat) (ops : List xv_Op) (ls : xv_L) (st : List Value) (σ : xv_S) (v : Value) (x : Nat) : xv_ev ro d M ((.dup, a, b, w, v) :: ops) ls (.ref x :: st) σ = xv_ev ro d M ops ls (.ref x :: .ref x :: st) σ := xv_ev0 rfl rfl
theorem xr_dup2 (ro : xv_Ro) (d : Nat) (M : xv_M) (a b w : Nat) (ops : List xv_Op) (ls : xv_L) (st : List Value) (σ : xv_S) (v : Value) (x : Int32) (y : Nat) : xv_ev ro d M ((.dup2, a, b, w, v) :: ops) ls (.int x :: .ref y :: st) σ = xv_ev ro d M ops ls (.int x :: .ref y :: .int x :: .ref y :: st) σ := xv_ev0 rfl rfl
theorem xr_pop_i (ro : xv_Ro) (d : Nat) (M : xv_M) (a b w : Nat) (ops : List xv_Op) (ls : xv_L) (st : List Value) (σ : xv_S) (v : Value) (x : Int32) : xv_ev ro d M ((.pop, a, b, w, v) :: ops) ls (.int x :: st) σ = xv_ev ro d M ops ls (st) σ := xv_ev0 rfl rfl
theorem xr_pop_r (ro : xv_Ro) (d : Nat) (M : xv_M) (a b w : Nat) (ops : List xv_Op) (ls : xv_L) (st : List Value) (σ : xv_S) (v : Value) (x : Nat) : xv_ev ro d M ((.pop, a, b, w, v) :: ops) ls (.ref x :: st) σ = xv_ev ro d M ops ls (st) σ := xv_ev0 rfl rfl
theorem xr_iadd (ro : xv_Ro) (d : Nat) (M : xv_M) (a b w : Nat) (ops : List xv_Op) (ls : xv_L) (st : List Value) (σ : xv_S) (v : Value) (x y : Int32) : xv_ev ro d M ((.iadd, a, b, w, v) :: ops) ls (.int y :: .int x :: st) σ = xv_ev ro d M ops ls (.int (x + y) :: st) σ := xv_ev0 rfl rfl
theorem xr_isub (ro : xv_Ro) (d : Nat) (M : xv_M) (a b w : Nat) (ops : List xv_Op) (ls : xv_L) (st : List Value) (σ : xv_S) (v : Value) (x y : Int32) : xv_ev ro d M ((.isub, a, b, w, v) :: ops) ls (.int y :: .int x :: st) σ = xv_ev ro d M ops ls (.int (x - y) :: st) σ := xv_ev0 rfl rfl
theorem xr_imul (ro : xv_Ro) (d : Nat) (M : xv_M) (a b w : Nat) (ops : List xv_Op) (ls : xv_L) (st : List Value) (σ : xv_S) (v : Value) (x y : Int32) : xv_ev ro d M ((.imul, a, b, w, v) :: ops) ls (.int y :: .int x :: st) σ = xv_ev ro d M ops ls (.int (x * y) :: st) σ := xv_ev0 rfl rfl
theorem xr_iand (ro : xv_Ro) (d : Nat) (M : xv_M) (a b w : Nat) (ops : List xv_Op) (ls : xv_L) (st : List Value) (σ : xv_S) (v : Value) (x y : Int32) : xv_ev ro d M ((.iand, a, b, w, v) :: ops) ls (.int y :: .int x :: st) σ = xv_ev ro d M ops ls (.int (x &&& y) :: st) σ := xv_ev0 rfl rfl
theorem xr_ior (ro : xv_Ro) (d : Nat) (M : xv_M) (a b w : Nat) (ops : List xv_Op) (ls : xv_L) (st : List Value) (σ : xv_S) (v : Value) (x y : Int32) : xv_ev ro d M ((.ior, a, b, w, v) :: ops) ls (.int y :: .int x :: st) σ = xv_ev ro d M ops ls (.int (x ||| y) :: st) σ := xv_ev0 rfl rfl
theorem xr_ixor (ro : xv_Ro) (d : Nat) (M : xv_M) (a b w : Nat) (ops : List xv_Op) (ls : xv_L) (st : List Value) (σ : xv_S) (v : Value) (x y : Int32) : xv_ev ro d M ((.ixor, a, b, w, v) :: ops) ls (.int y :: .int x :: st) σ = xv_ev ro d M ops ls (.int (x ^^^ y) :: st) σ := xv_ev0 rfl rfl
theorem xr_ishl (ro : xv_Ro) (d : Nat) (M : xv_M) (a b w : Nat) (ops : List xv_Op) (ls : xv_L) (st : List Value) (σ : xv_S) (v : Value) (x y : Int32) : xv_ev ro d M ((.ishl, a, b, w, v) :: ops) ls (.int y :: .int x :: st) σ = xv_ev ro d M ops ls (.int (x <<< (y &&& 31)) :: st) σ := xv_ev0 rfl rfl
theorem xr_ishr (ro : xv_Ro) (d : Nat) (M : xv_M) (a b w : Nat) (ops : List xv_Op) (ls : xv_L) (st : List Value) (σ : xv_S) (v : Value) (x y : Int32) : xv_ev ro d M ((.ishr, a, b, w, v) :: ops) ls (.int y :: .int x :: st) σ = xv_ev ro d M ops ls (.int (x >>> (y &&& 31)) :: st) σ := xv_ev0 rfl rfl
theorem xr_iushr (ro : xv_Ro) (d : Nat) (M : xv_M) (a b w : Nat) (ops : List xv_Op) (ls : xv_L) (st : List Value) (σ : xv_S) (v : Value) (x y : Int32) : xv_ev ro d M ((.iushr, a, b, w, v) :: ops) ls (.int y :: .int x :: st) σ = xv_ev ro d M ops ls (.int ((x.toUInt32 >>> (y.toUInt32 &&& Int32.toUInt32 31)).toInt32) :: st) σ := xv_ev0 rfl rfl
theorem xr_ladd (ro : xv_Ro) (d : Nat) (M : xv_M) (a b w : Nat) (ops : List xv_Op) (ls : xv_L) (st : List Value) (σ : xv_S) (v : Value) (x y : Int64) : xv_ev ro d M ((.ladd, a, b, w, v) :: ops) ls (.long y :: .long x :: st) σ = xv_ev ro d M ops ls (.long (x + y) :: st) σ := xv_ev0 rfl rfl
theorem xr_lsub (ro : xv_Ro) (d : Nat) (M : xv_M) (a b w : Nat) (ops : List xv_Op) (ls : xv_L) (st : List Value) (σ : xv_S) (v : Value) (x y : Int64) : xv_ev ro d M ((.lsub, a, b, w, v) :: ops) ls (.long y :: .long x :: st) σ = xv_ev ro d M ops ls (.long (x - y) :: st) σ := xv_ev0 rfl rfl
theorem xr_lmul (ro : xv_Ro) (d : Nat) (M : xv_M) (a b w : Nat) (ops : List xv_Op) (ls : xv_L) (st : List Value) (σ : xv_S) (v : Value) (x y : Int64) : xv_ev ro d M ((.lmul, a, b, w, v) :: ops) ls (.long y :: .long x :: st) σ = xv_ev ro d M ops ls (.long (x * y) :: st) σ := xv_ev0 rfl rfl
theorem xr_land (ro : xv_Ro) (d : Nat) (M : xv_M) (a b w : Nat) (ops : List xv_Op) (ls : xv_L) (st : List Value) (σ : xv_S) (v : Value) (x y : Int64) : xv_ev ro d M ((.land, a, b, w, v) :: ops) ls (.long y :: .long x :: st) σ = xv_ev ro d M ops ls (.long (x &&& y) :: st) σ := xv_ev0 rfl rfl
theorem xr_lor (ro : xv_Ro) (d : Nat) (M : xv_M) (a b w : Nat) (ops : List xv_Op) (ls : xv_L) (st : List Value) (σ : xv_S) (v : Value) (x y : Int64) : xv_ev ro d M ((.lor, a, b, w, v) :: ops) ls (.long y :: .long x :: st) σ = xv_ev ro d M ops ls (.long (x ||| y) :: st) σ := xv_ev0 rfl rfl
theorem xr_lxor (ro : xv_Ro) (d : Nat) (M : xv_M) (a b w : Nat) (ops : List xv_Op) (ls : xv_L) (st : List Value) (σ : xv_S) (v : Value) (x y : Int64) : xv_ev ro d M ((.lxor, a, b, w, v) :: ops) ls (.long y :: .long x :: st) σ = xv_ev ro d M ops ls (.long (x ^^^ y) :: st) σ := xv_ev0 rfl rfl
theorem xr_lcmp (ro : xv_Ro) (d : Nat) (M : xv_M) (a b w : Nat) (ops : List xv_Op) (ls : xv_L) (st : List Value) (σ : xv_S) (v : Value) (x y : Int64) : xv_ev ro d M ((.lcmp, a, b, w, v) :: ops) ls (.long y :: .long x :: st) σ = xv_ev ro d M ops ls (.int (lg_cmp x y) :: st) σ := xv_ev0 rfl rfl
theorem xr_lshl (ro : xv_Ro) (d : Nat) (M : xv_M) (a b w : Nat) (ops : List xv_Op) (ls : xv_L) (st : List Value) (σ : xv_S) (v : Value) (x : Int64) (y : Int32) : xv_ev ro d M ((.lshl, a, b, w, v) :: ops) ls (.int y :: .long x :: st) σ = xv_ev ro d M ops ls (.long (x <<< (y.toInt64 &&& 63)) :: st) σ := xv_ev0 rfl rfl
theorem xr_lshr (ro : xv_Ro) (d : Nat) (M : xv_M) (a b w : Nat) (ops : List xv_Op) (ls : xv_L) (st : List Value) (σ : xv_S) (v : Value) (x : Int64) (y : Int32) : xv_ev ro d M ((.lshr, a, b, w, v) :: ops) ls (.int y :: .long x :: st) σ = xv_ev ro d M ops ls (.long (x >>> (y.toInt64 &&& 63)) :: st) σ := xv_ev0 rfl rfl
theorem xr_ineg (ro : xv_Ro) (d : Nat) (M : xv_M) (a b w : Nat) (ops : List xv_Op) (ls : xv_L) (st : List Value) (σ : xv_S) (v : Value) (x : Int32) : xv_ev ro d M ((.ineg, a, b, w, v) :: ops) ls (.int x :: st) σ = xv_ev ro d M ops ls (.int (-x) :: st) σ := xv_ev0 rfl rfl
theorem xr_i2l (ro : xv_Ro) (d : Nat) (M : xv_M) (a b w : Nat) (ops : List xv_Op) (ls : xv_L) (st : List Value) (σ : xv_S) (v : Value) (x : Int32) : xv_ev ro d M ((.i2l, a, b, w, v) :: ops) ls (.int x :: st) σ = xv_ev ro d M ops ls (.long x.toInt64 :: st) σ := xv_ev0 rfl rfl
theorem xr_i2b (ro : xv_Ro) (d : Nat) (M : xv_M) (a b w : Nat) (ops : List xv_Op) (ls : xv_L) (st : List Value) (σ : xv_S) (v : Value) (x : Int32) : xv_ev ro d M ((.i2b, a, b, w, v) :: ops) ls (.int x :: st) σ = xv_ev ro d M ops ls (.int x.toInt8.toInt32 :: st) σ := xv_ev0 rfl rfl
theorem xr_l2i (ro : xv_Ro) (d : Nat) (M : xv_M) (a b w : Nat) (ops : List xv_Op) (ls : xv_L) (st : List Value) (σ : xv_S) (v : Value) (x : Int64) : xv_ev ro d M ((.l2i, a, b, w, v) :: ops) ls (.long x :: st) σ = xv_ev ro d M ops ls (.int x.toInt32 :: st) σ := xv_ev0 rfl rfl
theorem xr_lneg (ro : xv_Ro) (d : Nat) (M : xv_M) (a b w : Nat) (ops : List xv_Op) (ls : xv_L) (st : List Value) (σ : xv_S) (v : Value) (x : Int64) : xv_ev ro d M ((.lneg, a, b, w, v) :: ops) ls (.long x :: st) σ = xv_ev ro d M ops ls (.long (-x) :: st) σ := xv_ev0 rfl rfl
theorem xr_idiv (ro : xv_Ro) (d : Nat) (M : xv_M) (a b w : Nat) (v : Value) (ops : List xv_Op) (ls : xv_L) (st : List Value) (σ : xv_S) (x y : Int32) : xv_ev ro d M ((.idiv, a, b, w, v) :: ops) ls (.int y :: .int x :: st) σ = if y = 0 then none else xv_ev ro d M ops ls (.int (x / y) :: st) σ := by
  by_cases h : y = 0
  · rw [if_pos h]; exact xv_ev0n rfl (by simp [xv_loc, xv_i2, h])
  · rw [if_neg h]; exact xv_ev0 rfl (by simp [xv_loc, xv_i2, h])
theorem xr_irem (ro : xv_Ro) (d : Nat) (M : xv_M) (a b w : Nat) (v : Value) (ops : List xv_Op) (ls : xv_L) (st : List Value) (σ : xv_S) (x y : Int32) : xv_ev ro d M ((.irem, a, b, w, v) :: ops) ls (.int y :: .int x :: st) σ = if y = 0 then none else xv_ev ro d M ops ls (.int (x - x / y * y) :: st) σ := by
  by_cases h : y = 0
  · rw [if_pos h]; exact xv_ev0n rfl (by simp [xv_loc, xv_i2, h])
  · rw [if_neg h]; exact xv_ev0 rfl (by simp [xv_loc, xv_i2, h])
theorem xr_ldiv (ro : xv_Ro) (d : Nat) (M : xv_M) (a b w : Nat) (v : Value) (ops : List xv_Op) (ls : xv_L) (st : List Value) (σ : xv_S) (x y : Int64) : xv_ev ro d M ((.ldiv, a, b, w, v) :: ops) ls (.long y :: .long x :: st) σ = if y = 0 then none else xv_ev ro d M ops ls (.long (x / y) :: st) σ := by
  by_cases h : y = 0
  · rw [if_pos h]; exact xv_ev0n rfl (by simp [xv_loc, xv_l2, h])
  · rw [if_neg h]; exact xv_ev0 rfl (by simp [xv_loc, xv_l2, h])
theorem xr_lrem (ro : xv_Ro) (d : Nat) (M : xv_M) (a b w : Nat) (v : Value) (ops : List xv_Op) (ls : xv_L) (st : List Value) (σ : xv_S) (x y : Int64) : xv_ev ro d M ((.lrem, a, b, w, v) :: ops) ls (.long y :: .long x :: st) σ = if y = 0 then none else xv_ev ro d M ops ls (.long (x - x / y * y) :: st) σ := by
  by_cases h : y = 0
  · rw [if_pos h]; exact xv_ev0n rfl (by simp [xv_loc, xv_l2, h])
  · rw [if_neg h]; exact xv_ev0 rfl (by simp [xv_loc, xv_l2, h])
theorem xr_icmp_eq (ro : xv_Ro) (d : Nat) (M : xv_M) (a b w : Nat) (v : Value) (ops : List xv_Op) (ls : xv_L) (st : List Value) (σ : xv_S) (off : Int) (x y : Int32) : xv_ev ro d M ((.if_icmp .eq off, a, b, w, v) :: ops) ls (.int y :: .int x :: st) σ = if x = y then xv_ev ro d M (xv_at M.2.2.2.2.2.2 a) ls st σ else xv_ev ro d M ops ls st σ := by
  by_cases h : x = y
  · rw [if_pos h]; exact xv_ev1 rfl (by simp [xv_jmp, xv_c2, xv_c1, h])
  · rw [if_neg h]; exact xv_ev1n rfl (by simp [xv_jmp, xv_c2, xv_c1, h])
theorem xr_icmp_lt (ro : xv_Ro) (d : Nat) (M : xv_M) (a b w : Nat) (v : Value) (ops : List xv_Op) (ls : xv_L) (st : List Value) (σ : xv_S) (off : Int) (x y : Int32) : xv_ev ro d M ((.if_icmp .lt off, a, b, w, v) :: ops) ls (.int y :: .int x :: st) σ = if x < y then xv_ev ro d M (xv_at M.2.2.2.2.2.2 a) ls st σ else xv_ev ro d M ops ls st σ := by
  by_cases h : x < y
  · rw [if_pos h]; exact xv_ev1 rfl (by simp [xv_jmp, xv_c2, xv_c1, h])
  · rw [if_neg h]; exact xv_ev1n rfl (by simp [xv_jmp, xv_c2, xv_c1, h])
theorem xr_icmp_ge (ro : xv_Ro) (d : Nat) (M : xv_M) (a b w : Nat) (v : Value) (ops : List xv_Op) (ls : xv_L) (st : List Value) (σ : xv_S) (off : Int) (x y : Int32) : xv_ev ro d M ((.if_icmp .ge off, a, b, w, v) :: ops) ls (.int y :: .int x :: st) σ = if y ≤ x then xv_ev ro d M (xv_at M.2.2.2.2.2.2 a) ls st σ else xv_ev ro d M ops ls st σ := by
  by_cases h : y ≤ x
  · rw [if_pos h]; exact xv_ev1 rfl (by simp [xv_jmp, xv_c2, xv_c1, h])
  · rw [if_neg h]; exact xv_ev1n rfl (by simp [xv_jmp, xv_c2, xv_c1, h])
theorem xr_icmp_gt (ro : xv_Ro) (d : Nat) (M : xv_M) (a b w : Nat) (v : Value) (ops : List xv_Op) (ls : xv_L) (st : List Value) (σ : xv_S) (off : Int) (x y : Int32) : xv_ev ro d M ((.if_icmp .gt off, a, b, w, v) :: ops) ls (.int y :: .int x :: st) σ = if y < x then xv_ev ro d M (xv_at M.2.2.2.2.2.2 a) ls st σ else xv_ev ro d M ops ls st σ := by
  by_cases h : y < x
  · rw [if_pos h]; exact xv_ev1 rfl (by simp [xv_jmp, xv_c2, xv_c1, h])
  · rw [if_neg h]; exact xv_ev1n rfl (by simp [xv_jmp, xv_c2, xv_c1, h])
theorem xr_icmp_le (ro : xv_Ro) (d : Nat) (M : xv_M) (a b w : Nat) (v : Value) (ops : List xv_Op) (ls : xv_L) (st : List Value) (σ : xv_S) (off : Int) (x y : Int32) : xv_ev ro d M ((.if_icmp .le off, a, b, w, v) :: ops) ls (.int y :: .int x :: st) σ = if x ≤ y then xv_ev ro d M (xv_at M.2.2.2.2.2.2 a) ls st σ else xv_ev ro d M ops ls st σ := by
  by_cases h : x ≤ y
  · rw [if_pos h]; exact xv_ev1 rfl (by simp [xv_jmp, xv_c2, xv_c1, h])
  · rw [if_neg h]; exact xv_ev1n rfl (by simp [xv_jmp, xv_c2, xv_c1, h])
theorem xr_if_eq (ro : xv_Ro) (d : Nat) (M : xv_M) (a b w : Nat) (v : Value) (ops : List xv_Op) (ls : xv_L) (st : List Value) (σ : xv_S) (off : Int) (x : Int32) : xv_ev ro d M ((.ifCond .eq off, a, b, w, v) :: ops) ls (.int x :: st) σ = if x = 0 then xv_ev ro d M (xv_at M.2.2.2.2.2.2 a) ls st σ else xv_ev ro d M ops ls st σ := by
  by_cases h : x = 0
  · rw [if_pos h]; exact xv_ev1 rfl (by simp [xv_jmp, xv_c2, xv_c1, h])
  · rw [if_neg h]; exact xv_ev1n rfl (by simp [xv_jmp, xv_c2, xv_c1, h])
theorem xr_if_lt (ro : xv_Ro) (d : Nat) (M : xv_M) (a b w : Nat) (v : Value) (ops : List xv_Op) (ls : xv_L) (st : List Value) (σ : xv_S) (off : Int) (x : Int32) : xv_ev ro d M ((.ifCond .lt off, a, b, w, v) :: ops) ls (.int x :: st) σ = if x < 0 then xv_ev ro d M (xv_at M.2.2.2.2.2.2 a) ls st σ else xv_ev ro d M ops ls st σ := by
  by_cases h : x < 0
  · rw [if_pos h]; exact xv_ev1 rfl (by simp [xv_jmp, xv_c2, xv_c1, h])
  · rw [if_neg h]; exact xv_ev1n rfl (by simp [xv_jmp, xv_c2, xv_c1, h])
theorem xr_if_ge (ro : xv_Ro) (d : Nat) (M : xv_M) (a b w : Nat) (v : Value) (ops : List xv_Op) (ls : xv_L) (st : List Value) (σ : xv_S) (off : Int) (x : Int32) : xv_ev ro d M ((.ifCond .ge off, a, b, w, v) :: ops) ls (.int x :: st) σ = if 0 ≤ x then xv_ev ro d M (xv_at M.2.2.2.2.2.2 a) ls st σ else xv_ev ro d M ops ls st σ := by
  by_cases h : 0 ≤ x
  · rw [if_pos h]; exact xv_ev1 rfl (by simp [xv_jmp, xv_c2, xv_c1, h])
  · rw [if_neg h]; exact xv_ev1n rfl (by simp [xv_jmp, xv_c2, xv_c1, h])
theorem xr_if_gt (ro : xv_Ro) (d : Nat) (M : xv_M) (a b w : Nat) (v : Value) (ops : List xv_Op) (ls : xv_L) (st : List Value) (σ : xv_S) (off : Int) (x : Int32) : xv_ev ro d M ((.ifCond .gt off, a, b, w, v) :: ops) ls (.int x :: st) σ = if 0 < x then xv_ev ro d M (xv_at M.2.2.2.2.2.2 a) ls st σ else xv_ev ro d M ops ls st σ := by
  by_cases h : 0 < x
  · rw [if_pos h]; exact xv_ev1 rfl (by simp [xv_jmp, xv_c2, xv_c1, h])
  · rw [if_neg h]; exact xv_ev1n rfl (by simp [xv_jmp, xv_c2, xv_c1, h])
theorem xr_if_le (ro : xv_Ro) (d : Nat) (M : xv_M) (a b w : Nat) (v : Value) (ops : List xv_Op) (ls : xv_L) (st : List Value) (σ : xv_S) (off : Int) (x : Int32) : xv_ev ro d M ((.ifCond .le off, a, b, w, v) :: ops) ls (.int x :: st) σ = if x ≤ 0 then xv_ev ro d M (xv_at M.2.2.2.2.2.2 a) ls st σ else xv_ev ro d M ops ls st σ := by
  by_cases h : x ≤ 0
  · rw [if_pos h]; exact xv_ev1 rfl (by simp [xv_jmp, xv_c2, xv_c1, h])
  · rw [if_neg h]; exact xv_ev1n rfl (by simp [xv_jmp, xv_c2, xv_c1, h])
theorem xr_icmp_ne (ro : xv_Ro) (d : Nat) (M : xv_M) (a b w : Nat) (v : Value) (ops : List xv_Op) (ls : xv_L) (st : List Value) (σ : xv_S) (off : Int) (x y : Int32) : xv_ev ro d M ((.if_icmp .ne off, a, b, w, v) :: ops) ls (.int y :: .int x :: st) σ = if x = y then xv_ev ro d M ops ls st σ else xv_ev ro d M (xv_at M.2.2.2.2.2.2 a) ls st σ := by
  by_cases h : x = y
  · rw [if_pos h]; exact xv_ev1n rfl (by simp [xv_jmp, xv_c2, xv_c1, h])
  · rw [if_neg h]; exact xv_ev1 rfl (by simp [xv_jmp, xv_c2, xv_c1, h])
theorem xr_if_ne (ro : xv_Ro) (d : Nat) (M : xv_M) (a b w : Nat) (v : Value) (ops : List xv_Op) (ls : xv_L) (st : List Value) (σ : xv_S) (off : Int) (x : Int32) : xv_ev ro d M ((.ifCond .ne off, a, b, w, v) :: ops) ls (.int x :: st) σ = if x = 0 then xv_ev ro d M ops ls st σ else xv_ev ro d M (xv_at M.2.2.2.2.2.2 a) ls st σ := by
  by_cases h : x = 0
  · rw [if_pos h]; exact xv_ev1n rfl (by simp [xv_jmp, xv_c2, xv_c1, h])
  · rw [if_neg h]; exact xv_ev1 rfl (by simp [xv_jmp, xv_c2, xv_c1, h])
theorem xr_goto (ro : xv_Ro) (d : Nat) (M : xv_M) (a b w : Nat) (v : Value) (ops : List xv_Op) (ls : xv_L) (st : List Value) (σ : xv_S) (off : Int) : xv_ev ro d M ((.goto off, a, b, w, v) :: ops) ls (st) σ = xv_ev ro d M (xv_at M.2.2.2.2.2.2 a) ls st σ := xv_ev1 rfl rfl
theorem xr_nop (ro : xv_Ro) (d : Nat) (M : xv_M) (a b w : Nat) (v : Value) (ops : List xv_Op) (ls : xv_L) (st : List Value) (σ : xv_S) : xv_ev ro d M ((.nop, a, b, w, v) :: ops) ls (st) σ = xv_ev ro d M (xv_at M.2.2.2.2.2.2 a) ls st σ := xv_ev1 rfl rfl
theorem xr_ifnull_n (ro : xv_Ro) (d : Nat) (M : xv_M) (a b w : Nat) (v : Value) (ops : List xv_Op) (ls : xv_L) (st : List Value) (σ : xv_S) (off : Int) : xv_ev ro d M ((.ifnull off, a, b, w, v) :: ops) ls (.null :: st) σ = xv_ev ro d M (xv_at M.2.2.2.2.2.2 a) ls st σ := xv_ev1 rfl rfl
theorem xr_ifnull_r (ro : xv_Ro) (d : Nat) (M : xv_M) (a b w : Nat) (v : Value) (ops : List xv_Op) (ls : xv_L) (st : List Value) (σ : xv_S) (off : Int) (r : Nat) : xv_ev ro d M ((.ifnull off, a, b, w, v) :: ops) ls (.ref r :: st) σ = xv_ev ro d M (ops) ls st σ := xv_ev1n rfl rfl
theorem xr_ifnonnull_n (ro : xv_Ro) (d : Nat) (M : xv_M) (a b w : Nat) (v : Value) (ops : List xv_Op) (ls : xv_L) (st : List Value) (σ : xv_S) (off : Int) : xv_ev ro d M ((.ifnonnull off, a, b, w, v) :: ops) ls (.null :: st) σ = xv_ev ro d M (ops) ls st σ := xv_ev1n rfl rfl
theorem xr_ifnonnull_r (ro : xv_Ro) (d : Nat) (M : xv_M) (a b w : Nat) (v : Value) (ops : List xv_Op) (ls : xv_L) (st : List Value) (σ : xv_S) (off : Int) (r : Nat) : xv_ev ro d M ((.ifnonnull off, a, b, w, v) :: ops) ls (.ref r :: st) σ = xv_ev ro d M (xv_at M.2.2.2.2.2.2 a) ls st σ := xv_ev1 rfl rfl
def xv_tk {α : Type} (o : Option Int) (f : Int → Option α) : Option α := match o with
  | some x => f x
  | none => none
theorem xr_tk {α : Type} (x : Int) (f : Int → Option α) : xv_tk (some x) f = f x := rfl
theorem xr_tsw (ro : xv_Ro) (d : Nat) (M : xv_M) (a b w : Nat) (v : Value) (ops : List xv_Op) (ls : xv_L) (st : List Value) (σ : xv_S) (df lo hi : Int) (os : Array Int) (x : Int32) : xv_ev ro d M ((.tableswitch df lo hi os, a, b, w, v) :: ops) ls (.int x :: st) σ =
    if x.toInt < lo ∨ hi < x.toInt then xv_ev ro d M (xv_at M.2.2.2.2.2.2 ((a : Int) + df).toNat) ls st σ else xv_tk (os[(x.toInt - lo).toNat]?) fun o => xv_ev ro d M (xv_at M.2.2.2.2.2.2 ((a : Int) + o).toNat) ls st σ := by
  by_cases h : x.toInt < lo ∨ hi < x.toInt
  · rw [if_pos h]; exact xv_ev1 rfl (by show xv_tab a df lo hi os (.int x :: st) = _; unfold xv_tab; dsimp only; rw [if_pos h])
  · rw [if_neg h]
    unfold xv_tk
    cases ho : os[(x.toInt - lo).toNat]? with
    | none =>
      apply xv_opt_ext; intro r; rw [xv_ev_iff]
      constructor
      · rintro ⟨n, hn⟩
        cases n with
        | zero => unfold xv_exec at hn; cases hn
        | succ n =>
          obtain ⟨_, _, h1, _⟩ := xv_exec_1 rfl hn
          have h2 : xv_tab a df lo hi os (.int x :: st) = none := by unfold xv_tab; dsimp only; rw [if_neg h, ho]; rfl
          change xv_tab a df lo hi os (.int x :: st) = _ at h1
          rw [h2] at h1; cases h1
      · intro h; cases h
    | some q => exact xv_ev1 rfl (by show xv_tab a df lo hi os (.int x :: st) = _; unfold xv_tab; dsimp only; rw [if_neg h, ho]; rfl)
/-- a field that is read: a reference for ever, or a number -/
def xv_gk {α : Type} (b : Nat) (o : Option (Nat × Option Nat)) (f : Nat → Option α) (g : Option α) : Option α := match o with
  | some (c, some r) => if c = b then f r else none
  | some (c, none) => if c = b then g else none
  | none => none
theorem xr_gk1 {α : Type} (b r : Nat) (f : Nat → Option α) (g : Option α) : xv_gk b (some (b, some r)) f g = f r := by simp [xv_gk]
theorem xr_gk2 {α : Type} (b : Nat) (f : Nat → Option α) (g : Option α) : xv_gk b (some (b, none)) f g = g := by simp [xv_gk]
def xv_pk {α : Type} (b : Nat) (o : Option (Nat × Option Nat)) (g : Option α) : Option α := match o with
  | some (c, none) => if c = b then g else none
  | _ => none
theorem xr_pk {α : Type} (b : Nat) (g : Option α) : xv_pk b (some (b, none)) g = g := by simp [xv_pk]
def xv_ak {α : Type} (kd : Nat) (i : Int32) (o : Option (Nat × Nat)) (g : Option α) : Option α := match o with
  | some (k, n) => if k = kd ∧ xv_inB i n = true then g else none
  | none => none
theorem xr_ak {α : Type} (kd n : Nat) (i : Int32) (g : Option α) : xv_ak kd i (some (kd, n)) g = if xv_inB i n = true then g else none := by simp [xv_ak]
theorem xv_getf_mk {o a b : Nat} {I : Nat → Nat → Int32} {J : Nat → Nat → Int64} {st : List Value} {α : Type} (F : List Value → Option α) :
    (match xv_getf a b (xv_mk I J) (.ref o :: st) with | some s => F s | none => none) = xv_gk b (xv_fv o a) (fun r => F (.ref r :: st)) (F (.int (I o a) :: st)) := by
  unfold xv_getf xv_fv xv_mk
  dsimp only
  cases h : xv_shl[o]? with
  | none =>
    dsimp only
    by_cases hb : 1000 = b
    · rw [if_pos hb]; simp [xv_gk]
    · rw [if_neg hb]; simp [xv_gk]
  | some sp =>
    match sp with
    | .inl (kd, n, s, t) => simp [xv_mkc, xv_gk]
    | .inr (ci, fl) =>
      dsimp only [xv_mkc]
      by_cases hb : ci = b
      · rw [if_pos hb, xv_fl_get]
        cases hf : fl[a]? with
        | none => simp [xv_gk]
        | some q => cases q <;> simp [xv_gk, hb]
      · rw [if_neg hb]
        cases hf : fl[a]? with
        | none => simp [xv_gk]
        | some q => cases q <;> simp [xv_gk, hb]
theorem xr_getf (ro : xv_Ro) (d : Nat) (M : xv_M) (a b w : Nat) (v : Value) (ops : List xv_Op) (ls : xv_L) (st : List Value) (z : Nat × Nat) (I : Nat → Nat → Int32) (J : Nat → Nat → Int64) (n o : Nat) : xv_ev ro d M ((.getfield n, a, b, w, v) :: ops) ls (.ref o :: st) (z, xv_mk I J) =
    xv_gk b (xv_fv o a) (fun r => xv_ev ro d M ops ls (.ref r :: st) (z, xv_mk I J)) (xv_ev ro d M ops ls (.int (I o a) :: st) (z, xv_mk I J)) := by
  rw [← xv_getf_mk (F := fun s => xv_ev ro d M ops ls s (z, xv_mk I J))]
  cases h : xv_getf a b (xv_mk I J) (.ref o :: st) with
  | none => exact xv_ev2n rfl (by simp [xv_hp, h])
  | some q => exact xv_ev2 rfl (by simp [xv_hp, h])
theorem xv_putf_mk {o a b : Nat} {I : Nat → Nat → Int32} {J : Nat → Nat → Int64} {st : List Value} {x : Int32} (t : Nat) (hf : xv_fv o a = some (b, none)) (ht : xv_ty t (.int x) = true) : xv_putf a b t (xv_mk I J) (.int x :: .ref o :: st) = some (st, xv_mk (xv_u2 I o a x) J) := by
  unfold xv_fv at hf
  cases h : xv_shl[o]? with
  | none => rw [h] at hf; cases hf
  | some sp =>
    match sp, h with
    | .inl (kd, m, s, t), h => rw [h] at hf; cases hf
    | .inr (ci, fl), h =>
      rw [h] at hf
      dsimp only at hf
      cases hq : fl[a]? with
      | none => rw [hq] at hf; cases hf
      | some q =>
        rw [hq] at hf
        cases hf
        have hl : a < fl.length := (List.getElem?_eq_some_iff.mp hq).1
        have hm : xv_mk I J o = .inr (b, xv_fl (I o) fl 0) := by simp [xv_mk, h, xv_mkc]
        unfold xv_putf
        dsimp only
        rw [hm]
        dsimp only
        rw [if_pos ⟨rfl, by rw [xv_fl_len]; exact hl, ht⟩, xv_fl_set _ _ _ _ _ hq]
        congr 2
        refine xv_mk_set h ?_ (fun j hj => ?_) (fun j hj => rfl)
        · show _ = xv_mkc _ _ (.inr (b, fl))
          unfold xv_mkc
          dsimp only
          refine congrArg (fun g => (Sum.inr (b, xv_fl g fl 0) : xv_C)) ?_
          funext j
          simp [xv_u2]
        · funext a'
          simp [xv_u2, hj]
theorem xr_putf (ro : xv_Ro) (d : Nat) (M : xv_M) (a b w : Nat) (ops : List xv_Op) (ls : xv_L) (st : List Value) (z : Nat × Nat) (I : Nat → Nat → Int32) (J : Nat → Nat → Int64) (n o : Nat) (x : Int32) (hf : xv_fv o a = some (b, none)) : xv_ev ro d M ((.putfield n, a, b, w, .int 0) :: ops) ls (.int x :: .ref o :: st) (z, xv_mk I J) =
    xv_ev ro d M ops ls st (z, xv_mk (xv_u2 I o a x) J) := by
  refine xv_ev2 rfl ?_
  show (xv_putf a b 0 (xv_mk I J) (.int x :: .ref o :: st)).map _ = _
  rw [xv_putf_mk 0 hf rfl]; rfl
theorem xr_putfb (ro : xv_Ro) (d : Nat) (M : xv_M) (a b w : Nat) (ops : List xv_Op) (ls : xv_L) (st : List Value) (z : Nat × Nat) (I : Nat → Nat → Int32) (J : Nat → Nat → Int64) (n o : Nat) (x : Int32) (hf : xv_fv o a = some (b, none)) (hx : x = 0 ∨ x = 1) : xv_ev ro d M ((.putfield n, a, b, w, .int 2) :: ops) ls (.int x :: .ref o :: st) (z, xv_mk I J) =
    xv_ev ro d M ops ls st (z, xv_mk (xv_u2 I o a x) J) := by
  refine xv_ev2 rfl ?_
  show (xv_putf a b 2 (xv_mk I J) (.int x :: .ref o :: st)).map _ = _
  rw [xv_putf_mk 2 hf (by simp [xv_ty, hx])]; rfl

theorem xr_iaload (ro : xv_Ro) (d : Nat) (M : xv_M) (a w : Nat) (v : Value) (ops : List xv_Op) (ls : xv_L) (st : List Value) (z : Nat × Nat) (I : Nat → Nat → Int32) (J : Nat → Nat → Int64) (k : Nat) (i : Int32) : xv_ev ro d M ((.iaload, a, 0, w, v) :: ops) ls (.int i :: .ref k :: st) (z, xv_mk I J) = xv_ak 0 i (xv_ar k) (xv_ev ro d M ops ls (.int (I k i.toNatClampNeg) :: st) (z, xv_mk I J)) := by
  have key : xv_ild 0 (xv_mk I J) (.int i :: .ref k :: st) = xv_ak 0 i (xv_ar k) (some (.int (I k i.toNatClampNeg) :: st)) := by
    unfold xv_ild xv_ar xv_mk xv_ak
    dsimp only
    cases h : xv_shl[k]? with
    | none => rfl
    | some sp =>
      match sp with
      | .inr (ci, fl) => rfl
      | .inl (kd, n, s, t) =>
        dsimp only [xv_mkc]
        by_cases h1 : kd = 1
        · subst h1; simp
        · by_cases h34 : kd = 3 ∨ kd = 4
          · rcases h34 with rfl | rfl <;> simp
          · rw [if_neg h1, if_neg h34]
  unfold xv_ak at key ⊢
  cases hr : xv_ar k with
  | none => rw [hr] at key; exact xv_ev2n rfl (by simp [xv_hp]; exact key)
  | some q =>
    rw [hr] at key
    dsimp only at key ⊢
    by_cases hc : q.1 = 0 ∧ xv_inB i q.2 = true
    · rw [if_pos hc] at key ⊢; exact xv_ev2 rfl (by simp [xv_hp, key])
    · rw [if_neg hc] at key ⊢; exact xv_ev2n rfl (by simp [xv_hp]; exact key)
theorem xr_baload (ro : xv_Ro) (d : Nat) (M : xv_M) (a w : Nat) (v : Value) (ops : List xv_Op) (ls : xv_L) (st : List Value) (z : Nat × Nat) (I : Nat → Nat → Int32) (J : Nat → Nat → Int64) (k : Nat) (i : Int32) : xv_ev ro d M ((.baload, a, 0, w, v) :: ops) ls (.int i :: .ref k :: st) (z, xv_mk I J) = xv_ak 2 i (xv_ar k) (xv_ev ro d M ops ls (.int (I k i.toNatClampNeg) :: st) (z, xv_mk I J)) := by
  have key : xv_ild 2 (xv_mk I J) (.int i :: .ref k :: st) = xv_ak 2 i (xv_ar k) (some (.int (I k i.toNatClampNeg) :: st)) := by
    unfold xv_ild xv_ar xv_mk xv_ak
    dsimp only
    cases h : xv_shl[k]? with
    | none => rfl
    | some sp =>
      match sp with
      | .inr (ci, fl) => rfl
      | .inl (kd, n, s, t) =>
        dsimp only [xv_mkc]
        by_cases h1 : kd = 1
        · subst h1; simp
        · by_cases h34 : kd = 3 ∨ kd = 4
          · rcases h34 with rfl | rfl <;> simp
          · rw [if_neg h1, if_neg h34]
  unfold xv_ak at key ⊢
  cases hr : xv_ar k with
  | none => rw [hr] at key; exact xv_ev2n rfl (by simp [xv_hp]; exact key)
  | some q =>
    rw [hr] at key
    dsimp only at key ⊢
    by_cases hc : q.1 = 2 ∧ xv_inB i q.2 = true
    · rw [if_pos hc] at key ⊢; exact xv_ev2 rfl (by simp [xv_hp, key])
    · rw [if_neg hc] at key ⊢; exact xv_ev2n rfl (by simp [xv_hp]; exact key)
theorem xr_laload (ro : xv_Ro) (d : Nat) (M : xv_M) (a w : Nat) (v : Value) (ops : List xv_Op) (ls : xv_L) (st : List Value) (z : Nat × Nat) (I : Nat → Nat → Int32) (J : Nat → Nat → Int64) (k : Nat) (i : Int32) : xv_ev ro d M ((.laload, a, 0, w, v) :: ops) ls (.int i :: .ref k :: st) (z, xv_mk I J) = xv_ak 1 i (xv_ar k) (xv_ev ro d M ops ls (.long (J k i.toNatClampNeg) :: st) (z, xv_mk I J)) := by
  have key : xv_lld (xv_mk I J) (.int i :: .ref k :: st) = xv_ak 1 i (xv_ar k) (some (.long (J k i.toNatClampNeg) :: st)) := by
    unfold xv_lld xv_ar xv_mk xv_ak
    dsimp only
    cases h : xv_shl[k]? with
    | none => rfl
    | some sp =>
      match sp with
      | .inr (ci, fl) => rfl
      | .inl (kd, n, s, t) =>
        dsimp only [xv_mkc]
        by_cases h1 : kd = 1
        · subst h1; simp
        · by_cases h34 : kd = 3 ∨ kd = 4
          · rcases h34 with rfl | rfl <;> simp
          · rw [if_neg h1, if_neg h34]; simp [h1]
  unfold xv_ak at key ⊢
  cases hr : xv_ar k with
  | none => rw [hr] at key; exact xv_ev2n rfl (by simp [xv_hp]; exact key)
  | some q =>
    rw [hr] at key
    dsimp only at key ⊢
    by_cases hc : q.1 = 1 ∧ xv_inB i q.2 = true
    · rw [if_pos hc] at key ⊢; exact xv_ev2 rfl (by simp [xv_hp, key])
    · rw [if_neg hc] at key ⊢; exact xv_ev2n rfl (by simp [xv_hp]; exact key)
theorem xr_iastore (ro : xv_Ro) (d : Nat) (M : xv_M) (a b w : Nat) (v : Value) (ops : List xv_Op) (ls : xv_L) (st : List Value) (z : Nat × Nat) (I : Nat → Nat → Int32) (J : Nat → Nat → Int64) (k : Nat) (i : Int32) (x : Int32) : xv_ev ro d M ((.iastore, a, b, w, v) :: ops) ls (.int x :: .int i :: .ref k :: st) (z, xv_mk I J) = xv_ak 0 i (xv_ar k) (xv_ev ro d M ops ls st (z, xv_mk (xv_u2 I k i.toNatClampNeg x) J)) := by
  have key : xv_isto 0 (fun x => x) (xv_mk I J) (.int x :: .int i :: .ref k :: st) = xv_ak 0 i (xv_ar k) (some (st, xv_mk (xv_u2 I k i.toNatClampNeg x) J)) := by
    have hm : xv_mk I J k = match xv_shl[k]? with | some sp => xv_mkc (I k) (J k) sp | none => .inr (1000, []) := rfl
    unfold xv_isto xv_ar xv_ak
    dsimp only
    rw [hm]
    cases h : xv_shl[k]? with
    | none => rfl
    | some sp =>
      match sp, h with
      | .inr (ci, fl), h => rfl
      | .inl (kd, n, s, t), h =>
        dsimp only [xv_mkc]
        by_cases h1 : kd = 1
        · subst h1; rw [if_pos rfl]; simp
        · by_cases h34 : kd = 3 ∨ kd = 4
          · rcases h34 with rfl | rfl <;> simp
          · rw [if_neg h1, if_neg h34]; dsimp only; by_cases hc : kd = 0 ∧ xv_inB i n = true
            · rw [if_pos hc, if_pos hc]
              obtain ⟨rfl, -⟩ := hc
              congr 2
              refine xv_mk_set h ?_ (fun j hj => by funext a'; simp [xv_u2, hj]) (fun j hj => by rfl)
              simp only [xv_mkc]
              rw [if_neg (by decide), if_neg (by decide)]
              congr 4
              funext q
              simp [xv_u2, upd]
            · rw [if_neg hc, if_neg hc]
  unfold xv_ak at key ⊢
  cases hr : xv_ar k with
  | none => rw [hr] at key; exact xv_ev2n rfl (by simp [xv_hp]; exact key)
  | some q =>
    rw [hr] at key
    dsimp only at key ⊢
    by_cases hc : q.1 = 0 ∧ xv_inB i q.2 = true
    · rw [if_pos hc] at key ⊢; exact xv_ev2 rfl (by simp [xv_hp, key])
    · rw [if_neg hc] at key ⊢; exact xv_ev2n rfl (by simp [xv_hp]; exact key)
theorem xr_bastore (ro : xv_Ro) (d : Nat) (M : xv_M) (a b w : Nat) (v : Value) (ops : List xv_Op) (ls : xv_L) (st : List Value) (z : Nat × Nat) (I : Nat → Nat → Int32) (J : Nat → Nat → Int64) (k : Nat) (i : Int32) (x : Int32) : xv_ev ro d M ((.bastore, a, b, w, v) :: ops) ls (.int x :: .int i :: .ref k :: st) (z, xv_mk I J) = xv_ak 2 i (xv_ar k) (xv_ev ro d M ops ls st (z, xv_mk (xv_u2 I k i.toNatClampNeg (vp_nar .byte x)) J)) := by
  have key : xv_isto 2 (fun x => vp_nar .byte x) (xv_mk I J) (.int x :: .int i :: .ref k :: st) = xv_ak 2 i (xv_ar k) (some (st, xv_mk (xv_u2 I k i.toNatClampNeg (vp_nar .byte x)) J)) := by
    have hm : xv_mk I J k = match xv_shl[k]? with | some sp => xv_mkc (I k) (J k) sp | none => .inr (1000, []) := rfl
    unfold xv_isto xv_ar xv_ak
    dsimp only
    rw [hm]
    cases h : xv_shl[k]? with
    | none => rfl
    | some sp =>
      match sp, h with
      | .inr (ci, fl), h => rfl
      | .inl (kd, n, s, t), h =>
        dsimp only [xv_mkc]
        by_cases h1 : kd = 1
        · subst h1; rw [if_pos rfl]; simp
        · by_cases h34 : kd = 3 ∨ kd = 4
          · rcases h34 with rfl | rfl <;> simp
          · rw [if_neg h1, if_neg h34]; dsimp only; by_cases hc : kd = 2 ∧ xv_inB i n = true
            · rw [if_pos hc, if_pos hc]
              obtain ⟨rfl, -⟩ := hc
              congr 2
              refine xv_mk_set h ?_ (fun j hj => by funext a'; simp [xv_u2, hj]) (fun j hj => by rfl)
              simp only [xv_mkc]
              rw [if_neg (by decide), if_neg (by decide)]
              congr 4
              funext q
              simp [xv_u2, upd]
            · rw [if_neg hc, if_neg hc]
  unfold xv_ak at key ⊢
  cases hr : xv_ar k with
  | none => rw [hr] at key; exact xv_ev2n rfl (by simp [xv_hp]; exact key)
  | some q =>
    rw [hr] at key
    dsimp only at key ⊢
    by_cases hc : q.1 = 2 ∧ xv_inB i q.2 = true
    · rw [if_pos hc] at key ⊢; exact xv_ev2 rfl (by simp [xv_hp, key])
    · rw [if_neg hc] at key ⊢; exact xv_ev2n rfl (by simp [xv_hp]; exact key)
theorem xr_lastore (ro : xv_Ro) (d : Nat) (M : xv_M) (a b w : Nat) (v : Value) (ops : List xv_Op) (ls : xv_L) (st : List Value) (z : Nat × Nat) (I : Nat → Nat → Int32) (J : Nat → Nat → Int64) (k : Nat) (i : Int32) (x : Int64) : xv_ev ro d M ((.lastore, a, b, w, v) :: ops) ls (.long x :: .int i :: .ref k :: st) (z, xv_mk I J) = xv_ak 1 i (xv_ar k) (xv_ev ro d M ops ls st (z, xv_mk I (xv_u2 J k i.toNatClampNeg x))) := by
  have key : xv_lsto (xv_mk I J) (.long x :: .int i :: .ref k :: st) = xv_ak 1 i (xv_ar k) (some (st, xv_mk I (xv_u2 J k i.toNatClampNeg x))) := by
    have hm : xv_mk I J k = match xv_shl[k]? with | some sp => xv_mkc (I k) (J k) sp | none => .inr (1000, []) := rfl
    unfold xv_lsto xv_ar xv_ak
    dsimp only
    rw [hm]
    cases h : xv_shl[k]? with
    | none => rfl
    | some sp =>
      match sp, h with
      | .inr (ci, fl), h => rfl
      | .inl (kd, n, s, t), h =>
        dsimp only [xv_mkc]
        by_cases h1 : kd = 1
        · subst h1; rw [if_pos rfl]; dsimp only
          by_cases hc : 1 = 1 ∧ xv_inB i n = true
          · rw [if_pos hc, if_pos hc]
            congr 2
            refine xv_mk_set h ?_ (fun j hj => by rfl) (fun j hj => by funext a'; simp [xv_u2, hj])
            have hq : vp_updL (J k) i.toNatClampNeg x = (xv_u2 J k i.toNatClampNeg x) k := by funext q; simp [xv_u2, vp_updL]
            rw [hq]
            rfl
          · rw [if_neg hc, if_neg hc]
        · by_cases h34 : kd = 3 ∨ kd = 4
          · rcases h34 with rfl | rfl <;> simp
          · rw [if_neg h1, if_neg h34]; dsimp only; simp [h1]
  unfold xv_ak at key ⊢
  cases hr : xv_ar k with
  | none => rw [hr] at key; exact xv_ev2n rfl (by simp [xv_hp]; exact key)
  | some q =>
    rw [hr] at key
    dsimp only at key ⊢
    by_cases hc : q.1 = 1 ∧ xv_inB i q.2 = true
    · rw [if_pos hc] at key ⊢; exact xv_ev2 rfl (by simp [xv_hp, key])
    · rw [if_neg hc] at key ⊢; exact xv_ev2n rfl (by simp [xv_hp]; exact key)
end
section
/-! the rest of the equations; the facts of the world -/
def xv_rk {α : Type} (i : Int32) (o : Option (Nat × Nat × Nat)) (f : Nat → Option α) : Option α := match o with
  | some (n, s, t) => if xv_inB i n = true then f (s + t * i.toNatClampNeg) else none
  | none => none
theorem xr_rk {α : Type} (i : Int32) (n s t : Nat) (f : Nat → Option α) : xv_rk i (some (n, s, t)) f = if xv_inB i n = true then f (s + t * i.toNatClampNeg) else none := rfl
theorem xr_aaload (ro : xv_Ro) (d : Nat) (M : xv_M) (a b w : Nat) (v : Value) (ops : List xv_Op) (ls : xv_L) (st : List Value) (z : Nat × Nat) (I : Nat → Nat → Int32) (J : Nat → Nat → Int64) (k : Nat) (i : Int32) : xv_ev ro d M ((.aaload, a, b, w, v) :: ops) ls (.int i :: .ref k :: st) (z, xv_mk I J) = xv_rk i (xv_rr k) fun r => xv_ev ro d M ops ls (.ref r :: st) (z, xv_mk I J) := by
  have key : xv_ald (xv_mk I J) (.int i :: .ref k :: st) = xv_rk i (xv_rr k) fun r => some (.ref r :: st) := by
    unfold xv_ald xv_rr xv_mk xv_rk
    dsimp only
    cases h : xv_shl[k]? with
    | none => rfl
    | some sp =>
      match sp with
      | .inr (ci, fl) => rfl
      | .inl (kd, n, s, t) =>
        dsimp only [xv_mkc]
        by_cases h1 : kd = 1
        · subst h1; simp
        · by_cases h34 : kd = 3 ∨ kd = 4
          · rw [if_neg h1, if_pos h34, if_pos h34]
            dsimp only
            by_cases hc : xv_inB i n = true
            · have hin := xv_inB_use hc
              have hlt : i.toNatClampNeg < n := Nat.not_le.mp fun q => hin (Or.inr q)
              rw [if_pos ⟨h34, hc⟩, if_pos hc, if_pos hlt]; rfl
            · rw [if_neg (fun h => hc h.2), if_neg hc]
          · rw [if_neg h1, if_neg h34, if_neg h34]
  unfold xv_rk at key ⊢
  cases hr : xv_rr k with
  | none => rw [hr] at key; exact xv_ev2n rfl (by simp [xv_hp]; exact key)
  | some q =>
    rw [hr] at key
    dsimp only at key ⊢
    by_cases hc : xv_inB i q.1 = true
    · rw [if_pos hc] at key ⊢; exact xv_ev2 rfl (by simp [xv_hp, key])
    · rw [if_neg hc] at key ⊢; exact xv_ev2n rfl (by simp [xv_hp]; exact key)
def xv_nk {α : Type} (o : Option (Nat × Nat)) (f : Nat → Option α) : Option α := match o with
  | some (k, n) => if k < 5 then f n else none
  | none => none
theorem xr_nk0 {α : Type} (n : Nat) (f : Nat → Option α) : xv_nk (some (0, n)) f = f n := rfl
theorem xr_nk1 {α : Type} (n : Nat) (f : Nat → Option α) : xv_nk (some (1, n)) f = f n := rfl
theorem xr_alen (ro : xv_Ro) (d : Nat) (M : xv_M) (a w : Nat) (v : Value) (ops : List xv_Op) (ls : xv_L) (st : List Value) (z : Nat × Nat) (I : Nat → Nat → Int32) (J : Nat → Nat → Int64) (k : Nat) : xv_ev ro d M ((.arraylength, a, 0, w, v) :: ops) ls (.ref k :: st) (z, xv_mk I J) = xv_nk (xv_ar k) fun n => xv_ev ro d M ops ls (.int (Int32.ofNat n) :: st) (z, xv_mk I J) := by
  have key : xv_len (xv_mk I J) (.ref k :: st) = xv_nk (xv_ar k) fun n => some (.int (Int32.ofNat n) :: st) := by
    unfold xv_len xv_ar xv_mk xv_nk
    dsimp only
    cases h : xv_shl[k]? with
    | none => rfl
    | some sp => match sp with
      | .inr (ci, fl) => rfl
      | .inl (kd, n, s, t) => rfl
  unfold xv_nk at key ⊢
  cases hr : xv_ar k with
  | none => rw [hr] at key; exact xv_ev2n rfl (by simp [xv_hp]; exact key)
  | some q =>
    rw [hr] at key
    dsimp only at key ⊢
    by_cases hc : q.1 < 5
    · rw [if_pos hc] at key ⊢; exact xv_ev2 rfl (by simp [xv_hp, key])
    · rw [if_neg hc] at key ⊢; exact xv_ev2n rfl (by simp [xv_hp]; exact key)
theorem xr_getstatic (ro : xv_Ro) (d : Nat) (M : xv_M) (a b w : Nat) (v : Value) (ops : List xv_Op) (ls : xv_L) (st : List Value) (σ : xv_S) (n : Nat) : xv_ev ro d M ((.getstatic n, a, b, w, v) :: ops) ls st σ = xv_ev ro d M ops ls (.ref 1000000 :: st) σ := xv_ev2 rfl rfl
def xv_rq {α : Type} (o : Option (Nat × (Nat → Int32))) (f : Nat → (Nat → Int32) → Option α) : Option α := match o with
  | some (n, g) => f n g
  | none => none
theorem xr_rq {α : Type} (n : Nat) (g : Nat → Int32) (f : Nat → (Nat → Int32) → Option α) : xv_rq (some (n, g)) f = f n g := rfl
theorem xr_ialdr (ro : xv_Ro) (d : Nat) (M : xv_M) (a w : Nat) (v : Value) (ops : List xv_Op) (ls : xv_L) (st : List Value) (σ : xv_S) (k : Nat) (i : Int32) : xv_ev ro d M ((.iaload, a, 1, w, v) :: ops) ls (.int i :: .ref k :: st) σ = xv_rq (ro k) fun n g => if xv_inB i n = true then xv_ev ro d M ops ls (.int (g i.toNatClampNeg) :: st) σ else none := by
  unfold xv_rq
  cases h : ro k with
  | none => exact xv_ev2n rfl (by simp [xv_hp, xv_ildr, h])
  | some q =>
    dsimp only
    by_cases hc : xv_inB i q.1 = true
    · rw [if_pos hc]; exact xv_ev2 rfl (by simp [xv_hp, xv_ildr, h, hc])
    · rw [if_neg hc]; exact xv_ev2n rfl (by simp [xv_hp, xv_ildr, h, hc])
theorem xr_alenr (ro : xv_Ro) (d : Nat) (M : xv_M) (a w : Nat) (v : Value) (ops : List xv_Op) (ls : xv_L) (st : List Value) (σ : xv_S) (k : Nat) : xv_ev ro d M ((.arraylength, a, 1, w, v) :: ops) ls (.ref k :: st) σ = xv_rq (ro k) fun n g => xv_ev ro d M ops ls (.int (Int32.ofNat n) :: st) σ := by
  unfold xv_rq
  cases h : ro k with
  | none => exact xv_ev2n rfl (by simp [xv_hp, xv_lenr, h])
  | some q => exact xv_ev2 rfl (by simp [xv_hp, xv_lenr, h])
def xv_l4 : List Value → Bool
  | [] => true
  | [_] => true
  | [_, _] => true
  | [_, _, _] => true
  | [_, _, _, _] => true
  | _ => false
theorem xv_l4_use {l : List Value} (h : xv_l4 l = true) : l.length ≤ 4 := by
  unfold xv_l4 at h
  split at h <;> simp_all
theorem xr_l40 : xv_l4 [] = true := rfl
theorem xr_l41 (a : Value) : xv_l4 [a] = true := rfl
theorem xr_l42 (a b : Value) : xv_l4 [a, b] = true := rfl
theorem xr_l43 (a b c : Value) : xv_l4 [a, b, c] = true := rfl
theorem xr_l44 (a b c d : Value) : xv_l4 [a, b, c, d] = true := rfl
theorem xv_oc_mk {I : Nat → Nat → Int32} {J : Nat → Nat → Int64} {r ci : Nat} (h : xv_oc r = some ci) : ∃ fs, xv_mk I J r = .inr (ci, fs) := by
  unfold xv_oc at h
  unfold xv_mk
  cases hq : xv_shl[r]? with
  | none => rw [hq] at h; cases h
  | some sp =>
    rw [hq] at h
    match sp, h with
    | .inr (c, fl), h => cases h; exact ⟨_, rfl⟩
def xv_ok {α : Type} (ci : Nat) (o : Option Nat) (g : Option α) : Option α := if o = some ci then g else none
theorem xr_ok {α : Type} (ci : Nat) (g : Option α) : xv_ok ci (some ci) g = g := if_pos rfl
theorem xr_invV0 (ro : xv_Ro) (d : Nat) (M : xv_M) (a w : Nat) (ci : Int32) (ops : List xv_Op) (ls : xv_L) (st : List Value) (z : Nat × Nat) (I : Nat → Nat → Int32) (J : Nat → Nat → Int64) (n r : Nat) (hl : xv_l4 st = true) (hc : xv_oc r = some ci.toNatClampNeg) : xv_ev ro (d + 1) M ((.invokevirtual n, a, 0, w, .int ci) :: ops) ls (.ref r :: st) (z, xv_mk I J) = xv_bd (xv_evm ro d a [.ref r] (z, xv_mk I J)) fun r σ => xv_ev ro (d + 1) M ops ls (r.toList ++ st) σ := by
  obtain ⟨fs, hm⟩ := xv_oc_mk (I := I) (J := J) hc
  refine xv_ev3 rfl (by simp) ?_ (xv_l4_use hl)
  simp [xv_call, xv_cv, hm]
theorem xr_invS0 (ro : xv_Ro) (d : Nat) (M : xv_M) (a w : Nat) (ci : Int32) (ops : List xv_Op) (ls : xv_L) (st : List Value) (σ : xv_S) (n : Nat) (hl : xv_l4 st = true) : xv_ev ro (d + 1) M ((.invokestatic n, a, 0, w, .int ci) :: ops) ls (st) σ = xv_bd (xv_evm ro d a [] σ) fun r σ => xv_ev ro (d + 1) M ops ls (r.toList ++ st) σ := xv_ev3 rfl (by simp) (by simp [xv_call]) (xv_l4_use hl)
theorem xr_invV1 (ro : xv_Ro) (d : Nat) (M : xv_M) (a w : Nat) (ci : Int32) (ops : List xv_Op) (ls : xv_L) (st : List Value) (z : Nat × Nat) (I : Nat → Nat → Int32) (J : Nat → Nat → Int64) (n r : Nat) (x1 : Value) (hl : xv_l4 st = true) (hc : xv_oc r = some ci.toNatClampNeg) : xv_ev ro (d + 1) M ((.invokevirtual n, a, 1, w, .int ci) :: ops) ls (x1 :: .ref r :: st) (z, xv_mk I J) = xv_bd (xv_evm ro d a [.ref r, x1] (z, xv_mk I J)) fun r σ => xv_ev ro (d + 1) M ops ls (r.toList ++ st) σ := by
  obtain ⟨fs, hm⟩ := xv_oc_mk (I := I) (J := J) hc
  refine xv_ev3 rfl (by simp) ?_ (xv_l4_use hl)
  simp [xv_call, xv_cv, hm]
theorem xr_invS1 (ro : xv_Ro) (d : Nat) (M : xv_M) (a w : Nat) (ci : Int32) (ops : List xv_Op) (ls : xv_L) (st : List Value) (σ : xv_S) (n : Nat) (x1 : Value) (hl : xv_l4 st = true) : xv_ev ro (d + 1) M ((.invokestatic n, a, 1, w, .int ci) :: ops) ls (x1 :: st) σ = xv_bd (xv_evm ro d a [x1] σ) fun r σ => xv_ev ro (d + 1) M ops ls (r.toList ++ st) σ := xv_ev3 rfl (by simp) (by simp [xv_call]) (xv_l4_use hl)
theorem xr_invV2 (ro : xv_Ro) (d : Nat) (M : xv_M) (a w : Nat) (ci : Int32) (ops : List xv_Op) (ls : xv_L) (st : List Value) (z : Nat × Nat) (I : Nat → Nat → Int32) (J : Nat → Nat → Int64) (n r : Nat) (x1 x2 : Value) (hl : xv_l4 st = true) (hc : xv_oc r = some ci.toNatClampNeg) : xv_ev ro (d + 1) M ((.invokevirtual n, a, 2, w, .int ci) :: ops) ls (x2 :: x1 :: .ref r :: st) (z, xv_mk I J) = xv_bd (xv_evm ro d a [.ref r, x1, x2] (z, xv_mk I J)) fun r σ => xv_ev ro (d + 1) M ops ls (r.toList ++ st) σ := by
  obtain ⟨fs, hm⟩ := xv_oc_mk (I := I) (J := J) hc
  refine xv_ev3 rfl (by simp) ?_ (xv_l4_use hl)
  simp [xv_call, xv_cv, hm]
theorem xr_invS2 (ro : xv_Ro) (d : Nat) (M : xv_M) (a w : Nat) (ci : Int32) (ops : List xv_Op) (ls : xv_L) (st : List Value) (σ : xv_S) (n : Nat) (x1 x2 : Value) (hl : xv_l4 st = true) : xv_ev ro (d + 1) M ((.invokestatic n, a, 2, w, .int ci) :: ops) ls (x2 :: x1 :: st) σ = xv_bd (xv_evm ro d a [x1, x2] σ) fun r σ => xv_ev ro (d + 1) M ops ls (r.toList ++ st) σ := xv_ev3 rfl (by simp) (by simp [xv_call]) (xv_l4_use hl)
theorem xr_invV3 (ro : xv_Ro) (d : Nat) (M : xv_M) (a w : Nat) (ci : Int32) (ops : List xv_Op) (ls : xv_L) (st : List Value) (z : Nat × Nat) (I : Nat → Nat → Int32) (J : Nat → Nat → Int64) (n r : Nat) (x1 x2 x3 : Value) (hl : xv_l4 st = true) (hc : xv_oc r = some ci.toNatClampNeg) : xv_ev ro (d + 1) M ((.invokevirtual n, a, 3, w, .int ci) :: ops) ls (x3 :: x2 :: x1 :: .ref r :: st) (z, xv_mk I J) = xv_bd (xv_evm ro d a [.ref r, x1, x2, x3] (z, xv_mk I J)) fun r σ => xv_ev ro (d + 1) M ops ls (r.toList ++ st) σ := by
  obtain ⟨fs, hm⟩ := xv_oc_mk (I := I) (J := J) hc
  refine xv_ev3 rfl (by simp) ?_ (xv_l4_use hl)
  simp [xv_call, xv_cv, hm]
theorem xr_invS3 (ro : xv_Ro) (d : Nat) (M : xv_M) (a w : Nat) (ci : Int32) (ops : List xv_Op) (ls : xv_L) (st : List Value) (σ : xv_S) (n : Nat) (x1 x2 x3 : Value) (hl : xv_l4 st = true) : xv_ev ro (d + 1) M ((.invokestatic n, a, 3, w, .int ci) :: ops) ls (x3 :: x2 :: x1 :: st) σ = xv_bd (xv_evm ro d a [x1, x2, x3] σ) fun r σ => xv_ev ro (d + 1) M ops ls (r.toList ++ st) σ := xv_ev3 rfl (by simp) (by simp [xv_call]) (xv_l4_use hl)
theorem xr_invV4 (ro : xv_Ro) (d : Nat) (M : xv_M) (a w : Nat) (ci : Int32) (ops : List xv_Op) (ls : xv_L) (st : List Value) (z : Nat × Nat) (I : Nat → Nat → Int32) (J : Nat → Nat → Int64) (n r : Nat) (x1 x2 x3 x4 : Value) (hl : xv_l4 st = true) (hc : xv_oc r = some ci.toNatClampNeg) : xv_ev ro (d + 1) M ((.invokevirtual n, a, 4, w, .int ci) :: ops) ls (x4 :: x3 :: x2 :: x1 :: .ref r :: st) (z, xv_mk I J) = xv_bd (xv_evm ro d a [.ref r, x1, x2, x3, x4] (z, xv_mk I J)) fun r σ => xv_ev ro (d + 1) M ops ls (r.toList ++ st) σ := by
  obtain ⟨fs, hm⟩ := xv_oc_mk (I := I) (J := J) hc
  refine xv_ev3 rfl (by simp) ?_ (xv_l4_use hl)
  simp [xv_call, xv_cv, hm]
theorem xr_invS4 (ro : xv_Ro) (d : Nat) (M : xv_M) (a w : Nat) (ci : Int32) (ops : List xv_Op) (ls : xv_L) (st : List Value) (σ : xv_S) (n : Nat) (x1 x2 x3 x4 : Value) (hl : xv_l4 st = true) : xv_ev ro (d + 1) M ((.invokestatic n, a, 4, w, .int ci) :: ops) ls (x4 :: x3 :: x2 :: x1 :: st) σ = xv_bd (xv_evm ro d a [x1, x2, x3, x4] σ) fun r σ => xv_ev ro (d + 1) M ops ls (r.toList ++ st) σ := xv_ev3 rfl (by simp) (by simp [xv_call]) (xv_l4_use hl)
theorem xr_invV5 (ro : xv_Ro) (d : Nat) (M : xv_M) (a w : Nat) (ci : Int32) (ops : List xv_Op) (ls : xv_L) (st : List Value) (z : Nat × Nat) (I : Nat → Nat → Int32) (J : Nat → Nat → Int64) (n r : Nat) (x1 x2 x3 x4 x5 : Value) (hl : xv_l4 st = true) (hc : xv_oc r = some ci.toNatClampNeg) : xv_ev ro (d + 1) M ((.invokevirtual n, a, 5, w, .int ci) :: ops) ls (x5 :: x4 :: x3 :: x2 :: x1 :: .ref r :: st) (z, xv_mk I J) = xv_bd (xv_evm ro d a [.ref r, x1, x2, x3, x4, x5] (z, xv_mk I J)) fun r σ => xv_ev ro (d + 1) M ops ls (r.toList ++ st) σ := by
  obtain ⟨fs, hm⟩ := xv_oc_mk (I := I) (J := J) hc
  refine xv_ev3 rfl (by simp) ?_ (xv_l4_use hl)
  simp [xv_call, xv_cv, hm]
theorem xr_invS5 (ro : xv_Ro) (d : Nat) (M : xv_M) (a w : Nat) (ci : Int32) (ops : List xv_Op) (ls : xv_L) (st : List Value) (σ : xv_S) (n : Nat) (x1 x2 x3 x4 x5 : Value) (hl : xv_l4 st = true) : xv_ev ro (d + 1) M ((.invokestatic n, a, 5, w, .int ci) :: ops) ls (x5 :: x4 :: x3 :: x2 :: x1 :: st) σ = xv_bd (xv_evm ro d a [x1, x2, x3, x4, x5] σ) fun r σ => xv_ev ro (d + 1) M ops ls (r.toList ++ st) σ := xv_ev3 rfl (by simp) (by simp [xv_call]) (xv_l4_use hl)
theorem xr_math0 (ro : xv_Ro) (d : Nat) (M : xv_M) (b w : Nat) (ops : List xv_Op) (ls : xv_L) (st : List Value) (σ : xv_S) (n : Nat) (x : Int32) (hl : xv_l4 st = true) : xv_ev ro (d + 1) M ((.invokestatic n, 0, b, w, .null) :: ops) ls (.int x :: st) σ = xv_ev ro (d + 1) M ops ls (.int (if 0 ≤ x then x else 0 - x) :: st) σ := xv_ev3n rfl rfl (xv_l4_use hl)
theorem xr_math1 (ro : xv_Ro) (d : Nat) (M : xv_M) (b w : Nat) (ops : List xv_Op) (ls : xv_L) (st : List Value) (σ : xv_S) (n : Nat) (x : Int64) (hl : xv_l4 st = true) : xv_ev ro (d + 1) M ((.invokestatic n, 1, b, w, .null) :: ops) ls (.long x :: st) σ = xv_ev ro (d + 1) M ops ls (.long (if 0 < x then x else -x) :: st) σ := xv_ev3n rfl rfl (xv_l4_use hl)
theorem xr_math2 (ro : xv_Ro) (d : Nat) (M : xv_M) (b w : Nat) (ops : List xv_Op) (ls : xv_L) (st : List Value) (σ : xv_S) (n : Nat) (x y : Int32) (hl : xv_l4 st = true) : xv_ev ro (d + 1) M ((.invokestatic n, 2, b, w, .null) :: ops) ls (.int y :: .int x :: st) σ = xv_ev ro (d + 1) M ops ls (.int (if x < y then y else x) :: st) σ := xv_ev3n rfl rfl (xv_l4_use hl)
theorem xr_math3 (ro : xv_Ro) (d : Nat) (M : xv_M) (b w : Nat) (ops : List xv_Op) (ls : xv_L) (st : List Value) (σ : xv_S) (n : Nat) (x y : Int64) (hl : xv_l4 st = true) : xv_ev ro (d + 1) M ((.invokestatic n, 3, b, w, .null) :: ops) ls (.long y :: .long x :: st) σ = xv_ev ro (d + 1) M ops ls (.long (if y < x then x else y) :: st) σ := xv_ev3n rfl rfl (xv_l4_use hl)
theorem xr_math4 (ro : xv_Ro) (d : Nat) (M : xv_M) (b w : Nat) (ops : List xv_Op) (ls : xv_L) (st : List Value) (σ : xv_S) (n : Nat) (x y : Int32) (hl : xv_l4 st = true) : xv_ev ro (d + 1) M ((.invokestatic n, 4, b, w, .null) :: ops) ls (.int y :: .int x :: st) σ = xv_ev ro (d + 1) M ops ls (.int (if y < x then y else x) :: st) σ := xv_ev3n rfl rfl (xv_l4_use hl)
theorem xr_math5 (ro : xv_Ro) (d : Nat) (M : xv_M) (b w : Nat) (ops : List xv_Op) (ls : xv_L) (st : List Value) (σ : xv_S) (n : Nat) (x y : Int64) (hl : xv_l4 st = true) : xv_ev ro (d + 1) M ((.invokestatic n, 5, b, w, .null) :: ops) ls (.long y :: .long x :: st) σ = xv_ev ro (d + 1) M ops ls (.long (if y < x then y else x) :: st) σ := xv_ev3n rfl rfl (xv_l4_use hl)
theorem xr_reti (ro : xv_Ro) (d : Nat) (M : xv_M) (a b w : Nat) (v : Value) (ops : List xv_Op) (ls : xv_L) (σ : xv_S) (x : Int32) (hr : M.2.2.2.1 = some .int) : xv_ev ro d M ((.ireturn, a, b, w, v) :: ops) ls [.int x] σ = some (some (.int x), σ) := xv_ev4 rfl (by simp [xv_ret, hr])
theorem xr_retz (ro : xv_Ro) (d : Nat) (M : xv_M) (a b w : Nat) (v : Value) (ops : List xv_Op) (ls : xv_L) (σ : xv_S) (x : Int32) (hr : M.2.2.2.1 = some .boolean) : xv_ev ro d M ((.ireturn, a, b, w, v) :: ops) ls [.int x] σ = if x = 0 ∨ x = 1 then some (some (.int x), σ) else none := by
  by_cases h : x = 0 ∨ x = 1
  · rw [if_pos h]; exact xv_ev4 rfl (by simp [xv_ret, hr, h])
  · rw [if_neg h]
    apply xv_opt_ext; intro r; rw [xv_ev_iff]
    constructor
    · rintro ⟨n, hn⟩
      cases n with
      | zero => unfold xv_exec at hn; cases hn
      | succ n =>
        obtain ⟨_, h1, _⟩ := xv_exec_4 rfl hn
        simp [xv_ret, hr, h] at h1
    · intro h; cases h
theorem xr_retl (ro : xv_Ro) (d : Nat) (M : xv_M) (a b w : Nat) (v : Value) (ops : List xv_Op) (ls : xv_L) (σ : xv_S) (x : Int64) : xv_ev ro d M ((.lreturn, a, b, w, v) :: ops) ls [.long x] σ = some (some (.long x), σ) := xv_ev4 rfl rfl
theorem xr_reta (ro : xv_Ro) (d : Nat) (M : xv_M) (a b w : Nat) (v : Value) (ops : List xv_Op) (ls : xv_L) (σ : xv_S) (x : Nat) : xv_ev ro d M ((.areturn, a, b, w, v) :: ops) ls [.ref x] σ = some (some (.ref x), σ) := xv_ev4 rfl rfl
theorem xr_retn (ro : xv_Ro) (d : Nat) (M : xv_M) (a b w : Nat) (v : Value) (ops : List xv_Op) (ls : xv_L) (σ : xv_S) : xv_ev ro d M ((.areturn, a, b, w, v) :: ops) ls [.null] σ = some (some .null, σ) := xv_ev4 rfl rfl
theorem xr_retv (ro : xv_Ro) (d : Nat) (M : xv_M) (a b w : Nat) (v : Value) (ops : List xv_Op) (ls : xv_L) (σ : xv_S) : xv_ev ro d M ((.return_, a, b, w, v) :: ops) ls [] σ = some (none, σ) := xv_ev4 rfl rfl
theorem xr_ci0 : (0 : Int32).toNatClampNeg = 0 := by decide
theorem xr_ci1 : (1 : Int32).toNatClampNeg = 1 := by decide
theorem xr_ci2 : (2 : Int32).toNatClampNeg = 2 := by decide
theorem xr_ci3 : (3 : Int32).toNatClampNeg = 3 := by decide
theorem xr_ci4 : (4 : Int32).toNatClampNeg = 4 := by decide
theorem xr_ci5 : (5 : Int32).toNatClampNeg = 5 := by decide
theorem xr_ci6 : (6 : Int32).toNatClampNeg = 6 := by decide
theorem xr_ci7 : (7 : Int32).toNatClampNeg = 7 := by decide
theorem xr_ci8 : (8 : Int32).toNatClampNeg = 8 := by decide
theorem xr_ci9 : (9 : Int32).toNatClampNeg = 9 := by decide
theorem xr_ci10 : (10 : Int32).toNatClampNeg = 10 := by decide
theorem xr_ci11 : (11 : Int32).toNatClampNeg = 11 := by decide
theorem xr_tl0 (l : List Value) : (none : Option Value).toList ++ l = l := rfl
theorem xr_tl1 (r : Value) (l : List Value) : (some r : Option Value).toList ++ l = r :: l := rfl
theorem xf_oc0 : xv_oc 0 = some 1 := rfl
theorem xf_0_0 : xv_fv 0 0 = some (1, some 1) := rfl
theorem xf_0_1 : xv_fv 0 1 = some (1, some 3) := rfl
theorem xf_0_2 : xv_fv 0 2 = some (1, some 5) := rfl
theorem xf_0_3 : xv_fv 0 3 = some (1, some 13) := rfl
theorem xf_0_4 : xv_fv 0 4 = some (1, some 21) := rfl
theorem xf_0_5 : xv_fv 0 5 = some (1, some 22) := rfl
theorem xf_0_6 : xv_fv 0 6 = some (1, some 25) := rfl
theorem xf_0_7 : xv_fv 0 7 = some (1, some 68) := rfl
theorem xf_0_8 : xv_fv 0 8 = some (1, some 111) := rfl
theorem xf_0_9 : xv_fv 0 9 = some (1, none) := rfl
theorem xf_0_10 : xv_fv 0 10 = some (1, some 154) := rfl
theorem xf_0_11 : xv_fv 0 11 = some (1, some 156) := rfl
theorem xf_0_12 : xv_fv 0 12 = some (1, some 160) := rfl
theorem xf_0_13 : xv_fv 0 13 = some (1, some 166) := rfl
theorem xf_oc1 : xv_oc 1 = some 2 := rfl
theorem xf_1_0 : xv_fv 1 0 = some (2, some 2) := rfl
theorem xf_1_1 : xv_fv 1 1 = some (2, none) := rfl
theorem xf_1_2 : xv_fv 1 2 = some (2, none) := rfl
theorem xf_1_3 : xv_fv 1 3 = some (2, none) := rfl
theorem xf_1_4 : xv_fv 1 4 = some (2, none) := rfl
theorem xf_ar2 : xv_ar 2 = some (0, 260) := rfl
theorem xf_oc3 : xv_oc 3 = some 3 := rfl
theorem xf_3_0 : xv_fv 3 0 = some (3, some 4) := rfl
theorem xf_3_1 : xv_fv 3 1 = some (3, none) := rfl
theorem xf_ar4 : xv_ar 4 = some (0, 8) := rfl
theorem xf_oc5 : xv_oc 5 = some 4 := rfl
theorem xf_5_0 : xv_fv 5 0 = some (4, some 6) := rfl
theorem xf_5_1 : xv_fv 5 1 = some (4, some 7) := rfl
theorem xf_5_2 : xv_fv 5 2 = some (4, some 8) := rfl
theorem xf_5_3 : xv_fv 5 3 = some (4, some 9) := rfl
theorem xf_5_4 : xv_fv 5 4 = some (4, some 10) := rfl
theorem xf_5_5 : xv_fv 5 5 = some (4, some 11) := rfl
theorem xf_5_6 : xv_fv 5 6 = some (4, some 12) := rfl
theorem xf_5_7 : xv_fv 5 7 = some (4, none) := rfl
theorem xf_5_8 : xv_fv 5 8 = some (4, none) := rfl
theorem xf_ar6 : xv_ar 6 = some (0, 240) := rfl
theorem xf_ar7 : xv_ar 7 = some (0, 240) := rfl
theorem xf_ar8 : xv_ar 8 = some (0, 16) := rfl
theorem xf_ar9 : xv_ar 9 = some (0, 16) := rfl
theorem xf_ar10 : xv_ar 10 = some (0, 16) := rfl
theorem xf_ar11 : xv_ar 11 = some (0, 16) := rfl
theorem xf_ar12 : xv_ar 12 = some (1, 32) := rfl
theorem xf_oc13 : xv_oc 13 = some 4 := rfl
theorem xf_13_0 : xv_fv 13 0 = some (4, some 14) := rfl
theorem xf_13_1 : xv_fv 13 1 = some (4, some 15) := rfl
theorem xf_13_2 : xv_fv 13 2 = some (4, some 16) := rfl
theorem xf_13_3 : xv_fv 13 3 = some (4, some 17) := rfl
theorem xf_13_4 : xv_fv 13 4 = some (4, some 18) := rfl
theorem xf_13_5 : xv_fv 13 5 = some (4, some 19) := rfl
theorem xf_13_6 : xv_fv 13 6 = some (4, some 20) := rfl
theorem xf_13_7 : xv_fv 13 7 = some (4, none) := rfl
theorem xf_13_8 : xv_fv 13 8 = some (4, none) := rfl
theorem xf_ar14 : xv_ar 14 = some (0, 240) := rfl
theorem xf_ar15 : xv_ar 15 = some (0, 240) := rfl
theorem xf_ar16 : xv_ar 16 = some (0, 16) := rfl
theorem xf_ar17 : xv_ar 17 = some (0, 16) := rfl
theorem xf_ar18 : xv_ar 18 = some (0, 16) := rfl
theorem xf_ar19 : xv_ar 19 = some (0, 16) := rfl
theorem xf_ar20 : xv_ar 20 = some (1, 32) := rfl
theorem xf_oc21 : xv_oc 21 = some 5 := rfl
theorem xf_21_0 : xv_fv 21 0 = some (5, none) := rfl
theorem xf_21_1 : xv_fv 21 1 = some (5, none) := rfl
theorem xf_21_2 : xv_fv 21 2 = some (5, none) := rfl
theorem xf_21_3 : xv_fv 21 3 = some (5, none) := rfl
theorem xf_21_4 : xv_fv 21 4 = some (5, none) := rfl
theorem xf_21_5 : xv_fv 21 5 = some (5, none) := rfl
theorem xf_21_6 : xv_fv 21 6 = some (5, none) := rfl
theorem xf_21_7 : xv_fv 21 7 = some (5, none) := rfl
theorem xf_oc22 : xv_oc 22 = some 6 := rfl
theorem xf_22_0 : xv_fv 22 0 = some (6, some 23) := rfl
theorem xf_22_1 : xv_fv 22 1 = some (6, some 24) := rfl
theorem xf_ar23 : xv_ar 23 = some (0, 5) := rfl
theorem xf_ar24 : xv_ar 24 = some (1, 32) := rfl
theorem xf_oc25 : xv_oc 25 = some 7 := rfl
theorem xf_25_0 : xv_fv 25 0 = some (7, some 26) := rfl
theorem xf_25_1 : xv_fv 25 1 = some (7, some 27) := rfl
theorem xf_25_2 : xv_fv 25 2 = some (7, none) := rfl
theorem xf_25_3 : xv_fv 25 3 = some (7, none) := rfl
theorem xf_25_4 : xv_fv 25 4 = some (7, none) := rfl
theorem xf_25_5 : xv_fv 25 5 = some (7, none) := rfl
theorem xf_25_6 : xv_fv 25 6 = some (7, none) := rfl
theorem xf_ar26 : xv_ar 26 = some (3, 10) := rfl
theorem xf_rr26 : xv_rr 26 = some (10, 28, 2) := rfl
theorem xf_ar27 : xv_ar 27 = some (4, 20) := rfl
theorem xf_rr27 : xv_rr 27 = some (20, 48, 1) := rfl
theorem xf_oc28 : xv_oc 28 = some 8 := rfl
theorem xf_ar29 : xv_ar 29 = some (0, 12) := rfl
theorem xf_oc30 : xv_oc 30 = some 8 := rfl
theorem xf_ar31 : xv_ar 31 = some (0, 12) := rfl
theorem xf_oc32 : xv_oc 32 = some 8 := rfl
theorem xf_ar33 : xv_ar 33 = some (0, 12) := rfl
theorem xf_oc34 : xv_oc 34 = some 8 := rfl
theorem xf_ar35 : xv_ar 35 = some (0, 12) := rfl
theorem xf_oc36 : xv_oc 36 = some 8 := rfl
theorem xf_ar37 : xv_ar 37 = some (0, 12) := rfl
theorem xf_oc38 : xv_oc 38 = some 8 := rfl
theorem xf_ar39 : xv_ar 39 = some (0, 12) := rfl
theorem xf_oc40 : xv_oc 40 = some 8 := rfl
theorem xf_ar41 : xv_ar 41 = some (0, 12) := rfl
theorem xf_oc42 : xv_oc 42 = some 8 := rfl
theorem xf_ar43 : xv_ar 43 = some (0, 12) := rfl
theorem xf_oc44 : xv_oc 44 = some 8 := rfl
theorem xf_ar45 : xv_ar 45 = some (0, 12) := rfl
theorem xf_oc46 : xv_oc 46 = some 8 := rfl
theorem xf_ar47 : xv_ar 47 = some (0, 12) := rfl
theorem xf_oc48 : xv_oc 48 = some 9 := rfl
theorem xf_oc49 : xv_oc 49 = some 9 := rfl
theorem xf_oc50 : xv_oc 50 = some 9 := rfl
theorem xf_oc51 : xv_oc 51 = some 9 := rfl
theorem xf_oc52 : xv_oc 52 = some 9 := rfl
theorem xf_oc53 : xv_oc 53 = some 9 := rfl
theorem xf_oc54 : xv_oc 54 = some 9 := rfl
theorem xf_oc55 : xv_oc 55 = some 9 := rfl
theorem xf_oc56 : xv_oc 56 = some 9 := rfl
theorem xf_oc57 : xv_oc 57 = some 9 := rfl
theorem xf_oc58 : xv_oc 58 = some 9 := rfl
theorem xf_oc59 : xv_oc 59 = some 9 := rfl
theorem xf_oc60 : xv_oc 60 = some 9 := rfl
theorem xf_oc61 : xv_oc 61 = some 9 := rfl
theorem xf_oc62 : xv_oc 62 = some 9 := rfl
theorem xf_oc63 : xv_oc 63 = some 9 := rfl
theorem xf_oc64 : xv_oc 64 = some 9 := rfl
theorem xf_oc65 : xv_oc 65 = some 9 := rfl
theorem xf_oc66 : xv_oc 66 = some 9 := rfl
theorem xf_oc67 : xv_oc 67 = some 9 := rfl
theorem xf_oc68 : xv_oc 68 = some 7 := rfl
theorem xf_68_0 : xv_fv 68 0 = some (7, some 69) := rfl
theorem xf_68_1 : xv_fv 68 1 = some (7, some 70) := rfl
theorem xf_68_2 : xv_fv 68 2 = some (7, none) := rfl
theorem xf_68_3 : xv_fv 68 3 = some (7, none) := rfl
theorem xf_68_4 : xv_fv 68 4 = some (7, none) := rfl
theorem xf_68_5 : xv_fv 68 5 = some (7, none) := rfl
theorem xf_68_6 : xv_fv 68 6 = some (7, none) := rfl
theorem xf_ar69 : xv_ar 69 = some (3, 10) := rfl
theorem xf_rr69 : xv_rr 69 = some (10, 71, 2) := rfl
theorem xf_ar70 : xv_ar 70 = some (4, 20) := rfl
theorem xf_rr70 : xv_rr 70 = some (20, 91, 1) := rfl
theorem xf_oc71 : xv_oc 71 = some 8 := rfl
theorem xf_ar72 : xv_ar 72 = some (0, 12) := rfl
theorem xf_oc73 : xv_oc 73 = some 8 := rfl
theorem xf_ar74 : xv_ar 74 = some (0, 12) := rfl
theorem xf_oc75 : xv_oc 75 = some 8 := rfl
theorem xf_ar76 : xv_ar 76 = some (0, 12) := rfl
theorem xf_oc77 : xv_oc 77 = some 8 := rfl
theorem xf_ar78 : xv_ar 78 = some (0, 12) := rfl
theorem xf_oc79 : xv_oc 79 = some 8 := rfl
theorem xf_ar80 : xv_ar 80 = some (0, 12) := rfl
theorem xf_oc81 : xv_oc 81 = some 8 := rfl
theorem xf_ar82 : xv_ar 82 = some (0, 12) := rfl
theorem xf_oc83 : xv_oc 83 = some 8 := rfl
theorem xf_ar84 : xv_ar 84 = some (0, 12) := rfl
theorem xf_oc85 : xv_oc 85 = some 8 := rfl
theorem xf_ar86 : xv_ar 86 = some (0, 12) := rfl
theorem xf_oc87 : xv_oc 87 = some 8 := rfl
theorem xf_ar88 : xv_ar 88 = some (0, 12) := rfl
theorem xf_oc89 : xv_oc 89 = some 8 := rfl
theorem xf_ar90 : xv_ar 90 = some (0, 12) := rfl
theorem xf_oc91 : xv_oc 91 = some 9 := rfl
theorem xf_oc92 : xv_oc 92 = some 9 := rfl
theorem xf_oc93 : xv_oc 93 = some 9 := rfl
theorem xf_oc94 : xv_oc 94 = some 9 := rfl
theorem xf_oc95 : xv_oc 95 = some 9 := rfl
theorem xf_oc96 : xv_oc 96 = some 9 := rfl
theorem xf_oc97 : xv_oc 97 = some 9 := rfl
theorem xf_oc98 : xv_oc 98 = some 9 := rfl
theorem xf_oc99 : xv_oc 99 = some 9 := rfl
theorem xf_oc100 : xv_oc 100 = some 9 := rfl
theorem xf_oc101 : xv_oc 101 = some 9 := rfl
theorem xf_oc102 : xv_oc 102 = some 9 := rfl
theorem xf_oc103 : xv_oc 103 = some 9 := rfl
theorem xf_oc104 : xv_oc 104 = some 9 := rfl
theorem xf_oc105 : xv_oc 105 = some 9 := rfl
theorem xf_oc106 : xv_oc 106 = some 9 := rfl
theorem xf_oc107 : xv_oc 107 = some 9 := rfl
theorem xf_oc108 : xv_oc 108 = some 9 := rfl
theorem xf_oc109 : xv_oc 109 = some 9 := rfl
theorem xf_oc110 : xv_oc 110 = some 9 := rfl
theorem xf_oc111 : xv_oc 111 = some 7 := rfl
theorem xf_111_0 : xv_fv 111 0 = some (7, some 112) := rfl
theorem xf_111_1 : xv_fv 111 1 = some (7, some 113) := rfl
theorem xf_111_2 : xv_fv 111 2 = some (7, none) := rfl
theorem xf_111_3 : xv_fv 111 3 = some (7, none) := rfl
theorem xf_111_4 : xv_fv 111 4 = some (7, none) := rfl
theorem xf_111_5 : xv_fv 111 5 = some (7, none) := rfl
theorem xf_111_6 : xv_fv 111 6 = some (7, none) := rfl
theorem xf_ar112 : xv_ar 112 = some (3, 10) := rfl
theorem xf_rr112 : xv_rr 112 = some (10, 114, 2) := rfl
theorem xf_ar113 : xv_ar 113 = some (4, 20) := rfl
theorem xf_rr113 : xv_rr 113 = some (20, 134, 1) := rfl
theorem xf_oc114 : xv_oc 114 = some 8 := rfl
theorem xf_ar115 : xv_ar 115 = some (0, 12) := rfl
theorem xf_oc116 : xv_oc 116 = some 8 := rfl
theorem xf_ar117 : xv_ar 117 = some (0, 12) := rfl
theorem xf_oc118 : xv_oc 118 = some 8 := rfl
theorem xf_ar119 : xv_ar 119 = some (0, 12) := rfl
theorem xf_oc120 : xv_oc 120 = some 8 := rfl
theorem xf_ar121 : xv_ar 121 = some (0, 12) := rfl
theorem xf_oc122 : xv_oc 122 = some 8 := rfl
theorem xf_ar123 : xv_ar 123 = some (0, 12) := rfl
theorem xf_oc124 : xv_oc 124 = some 8 := rfl
theorem xf_ar125 : xv_ar 125 = some (0, 12) := rfl
theorem xf_oc126 : xv_oc 126 = some 8 := rfl
theorem xf_ar127 : xv_ar 127 = some (0, 12) := rfl
theorem xf_oc128 : xv_oc 128 = some 8 := rfl
theorem xf_ar129 : xv_ar 129 = some (0, 12) := rfl
theorem xf_oc130 : xv_oc 130 = some 8 := rfl
theorem xf_ar131 : xv_ar 131 = some (0, 12) := rfl
theorem xf_oc132 : xv_oc 132 = some 8 := rfl
theorem xf_ar133 : xv_ar 133 = some (0, 12) := rfl
theorem xf_oc134 : xv_oc 134 = some 9 := rfl
theorem xf_oc135 : xv_oc 135 = some 9 := rfl
theorem xf_oc136 : xv_oc 136 = some 9 := rfl
theorem xf_oc137 : xv_oc 137 = some 9 := rfl
theorem xf_oc138 : xv_oc 138 = some 9 := rfl
theorem xf_oc139 : xv_oc 139 = some 9 := rfl
theorem xf_oc140 : xv_oc 140 = some 9 := rfl
theorem xf_oc141 : xv_oc 141 = some 9 := rfl
theorem xf_oc142 : xv_oc 142 = some 9 := rfl
theorem xf_oc143 : xv_oc 143 = some 9 := rfl
theorem xf_oc144 : xv_oc 144 = some 9 := rfl
theorem xf_oc145 : xv_oc 145 = some 9 := rfl
theorem xf_oc146 : xv_oc 146 = some 9 := rfl
theorem xf_oc147 : xv_oc 147 = some 9 := rfl
theorem xf_oc148 : xv_oc 148 = some 9 := rfl
theorem xf_oc149 : xv_oc 149 = some 9 := rfl
theorem xf_oc150 : xv_oc 150 = some 9 := rfl
theorem xf_oc151 : xv_oc 151 = some 9 := rfl
theorem xf_oc152 : xv_oc 152 = some 9 := rfl
theorem xf_oc153 : xv_oc 153 = some 9 := rfl
theorem xf_oc154 : xv_oc 154 = some 8 := rfl
theorem xf_ar155 : xv_ar 155 = some (0, 12) := rfl
theorem xf_oc156 : xv_oc 156 = some 10 := rfl
theorem xf_156_0 : xv_fv 156 0 = some (10, some 157) := rfl
theorem xf_156_1 : xv_fv 156 1 = some (10, some 158) := rfl
theorem xf_156_2 : xv_fv 156 2 = some (10, some 159) := rfl
theorem xf_156_3 : xv_fv 156 3 = some (10, none) := rfl
theorem xf_156_4 : xv_fv 156 4 = some (10, none) := rfl
theorem xf_ar157 : xv_ar 157 = some (0, 10) := rfl
theorem xf_ar158 : xv_ar 158 = some (0, 10) := rfl
theorem xf_ar159 : xv_ar 159 = some (0, 10) := rfl
theorem xf_oc160 : xv_oc 160 = some 11 := rfl
theorem xf_160_0 : xv_fv 160 0 = some (11, some 161) := rfl
theorem xf_160_1 : xv_fv 160 1 = some (11, some 162) := rfl
theorem xf_160_2 : xv_fv 160 2 = some (11, some 163) := rfl
theorem xf_160_3 : xv_fv 160 3 = some (11, some 164) := rfl
theorem xf_160_4 : xv_fv 160 4 = some (11, some 165) := rfl
theorem xf_160_5 : xv_fv 160 5 = some (11, none) := rfl
theorem xf_160_6 : xv_fv 160 6 = some (11, none) := rfl
theorem xf_ar161 : xv_ar 161 = some (0, 5) := rfl
theorem xf_ar162 : xv_ar 162 = some (0, 5) := rfl
theorem xf_ar163 : xv_ar 163 = some (0, 5) := rfl
theorem xf_ar164 : xv_ar 164 = some (0, 5) := rfl
theorem xf_ar165 : xv_ar 165 = some (0, 5) := rfl
theorem xf_ar166 : xv_ar 166 = some (0, 12) := rfl
theorem xf_oc167 : xv_oc 167 = some 0 := rfl
theorem xf_167_0 : xv_fv 167 0 = some (0, some 168) := rfl
theorem xf_167_1 : xv_fv 167 1 = some (0, some 169) := rfl
theorem xf_167_2 : xv_fv 167 2 = some (0, some 170) := rfl
theorem xf_167_3 : xv_fv 167 3 = some (0, some 171) := rfl
theorem xf_167_4 : xv_fv 167 4 = some (0, some 172) := rfl
theorem xf_167_5 : xv_fv 167 5 = some (0, none) := rfl
theorem xf_167_6 : xv_fv 167 6 = some (0, some 173) := rfl
theorem xf_167_7 : xv_fv 167 7 = some (0, none) := rfl
theorem xf_167_8 : xv_fv 167 8 = some (0, none) := rfl
theorem xf_167_9 : xv_fv 167 9 = some (0, none) := rfl
theorem xf_167_10 : xv_fv 167 10 = some (0, none) := rfl
theorem xf_167_11 : xv_fv 167 11 = some (0, none) := rfl
theorem xf_167_12 : xv_fv 167 12 = some (0, none) := rfl
theorem xf_167_13 : xv_fv 167 13 = some (0, none) := rfl
theorem xf_167_14 : xv_fv 167 14 = some (0, none) := rfl
theorem xf_167_15 : xv_fv 167 15 = some (0, none) := rfl
theorem xf_167_16 : xv_fv 167 16 = some (0, none) := rfl
theorem xf_167_17 : xv_fv 167 17 = some (0, some 174) := rfl
theorem xf_167_18 : xv_fv 167 18 = some (0, some 175) := rfl
theorem xf_167_19 : xv_fv 167 19 = some (0, some 176) := rfl
theorem xf_167_20 : xv_fv 167 20 = some (0, some 177) := rfl
theorem xf_167_21 : xv_fv 167 21 = some (0, some 178) := rfl
theorem xf_167_22 : xv_fv 167 22 = some (0, some 179) := rfl
theorem xf_167_23 : xv_fv 167 23 = some (0, some 180) := rfl
theorem xf_167_24 : xv_fv 167 24 = some (0, some 181) := rfl
theorem xf_167_25 : xv_fv 167 25 = some (0, some 182) := rfl
theorem xf_167_26 : xv_fv 167 26 = some (0, some 183) := rfl
theorem xf_167_27 : xv_fv 167 27 = some (0, some 184) := rfl
theorem xf_167_28 : xv_fv 167 28 = some (0, some 185) := rfl
theorem xf_167_29 : xv_fv 167 29 = some (0, some 186) := rfl
theorem xf_167_30 : xv_fv 167 30 = some (0, some 187) := rfl
theorem xf_167_31 : xv_fv 167 31 = some (0, some 188) := rfl
theorem xf_167_32 : xv_fv 167 32 = some (0, none) := rfl
theorem xf_167_33 : xv_fv 167 33 = some (0, none) := rfl
theorem xf_167_34 : xv_fv 167 34 = some (0, none) := rfl
theorem xf_167_35 : xv_fv 167 35 = some (0, none) := rfl
theorem xf_167_36 : xv_fv 167 36 = some (0, some 189) := rfl
theorem xf_167_37 : xv_fv 167 37 = some (0, none) := rfl
theorem xf_167_38 : xv_fv 167 38 = some (0, some 190) := rfl
theorem xf_167_39 : xv_fv 167 39 = some (0, some 191) := rfl
theorem xf_167_40 : xv_fv 167 40 = some (0, some 192) := rfl
theorem xf_167_41 : xv_fv 167 41 = some (0, some 193) := rfl
theorem xf_167_42 : xv_fv 167 42 = some (0, none) := rfl
theorem xf_167_43 : xv_fv 167 43 = some (0, none) := rfl
theorem xf_167_44 : xv_fv 167 44 = some (0, none) := rfl
theorem xf_167_45 : xv_fv 167 45 = some (0, some 194) := rfl
theorem xf_167_46 : xv_fv 167 46 = some (0, some 195) := rfl
theorem xf_167_47 : xv_fv 167 47 = some (0, some 196) := rfl
theorem xf_167_48 : xv_fv 167 48 = some (0, some 197) := rfl
theorem xf_167_49 : xv_fv 167 49 = some (0, some 198) := rfl
theorem xf_167_50 : xv_fv 167 50 = some (0, some 199) := rfl
theorem xf_167_51 : xv_fv 167 51 = some (0, none) := rfl
theorem xf_ar168 : xv_ar 168 = some (0, 304) := rfl
theorem xf_ar169 : xv_ar 169 = some (0, 304) := rfl
theorem xf_ar170 : xv_ar 170 = some (0, 304) := rfl
theorem xf_ar171 : xv_ar 171 = some (0, 5) := rfl
theorem xf_ar172 : xv_ar 172 = some (1, 8) := rfl
theorem xf_ar173 : xv_ar 173 = some (2, 260) := rfl
theorem xf_ar174 : xv_ar 174 = some (0, 260) := rfl
theorem xf_ar175 : xv_ar 175 = some (0, 260) := rfl
theorem xf_ar176 : xv_ar 176 = some (0, 16) := rfl
theorem xf_ar177 : xv_ar 177 = some (0, 16) := rfl
theorem xf_ar178 : xv_ar 178 = some (0, 16) := rfl
theorem xf_ar179 : xv_ar 179 = some (0, 16) := rfl
theorem xf_ar180 : xv_ar 180 = some (0, 260) := rfl
theorem xf_ar181 : xv_ar 181 = some (0, 16) := rfl
theorem xf_ar182 : xv_ar 182 = some (0, 16) := rfl
theorem xf_ar183 : xv_ar 183 = some (0, 16) := rfl
theorem xf_ar184 : xv_ar 184 = some (0, 16) := rfl
theorem xf_ar185 : xv_ar 185 = some (0, 260) := rfl
theorem xf_ar186 : xv_ar 186 = some (0, 8) := rfl
theorem xf_ar187 : xv_ar 187 = some (0, 60) := rfl
theorem xf_ar188 : xv_ar 188 = some (1, 60) := rfl
theorem xf_ar189 : xv_ar 189 = some (0, 12) := rfl
theorem xf_ar190 : xv_ar 190 = some (0, 20) := rfl
theorem xf_ar191 : xv_ar 191 = some (0, 20) := rfl
theorem xf_ar192 : xv_ar 192 = some (0, 20) := rfl
theorem xf_ar193 : xv_ar 193 = some (0, 10) := rfl
theorem xf_ar194 : xv_ar 194 = some (1, 32) := rfl
theorem xf_ar195 : xv_ar 195 = some (0, 10) := rfl
theorem xf_ar196 : xv_ar 196 = some (0, 11) := rfl
theorem xf_ar197 : xv_ar 197 = some (0, 5) := rfl
theorem xf_ar198 : xv_ar 198 = some (0, 5) := rfl
theorem xf_ar199 : xv_ar 199 = some (0, 5) := rfl
end
