section
/-- a private method of a class that the tables say can be made, by its rows of tables_1 -/
def lw_okq (q : MethodName × Nat) : Prop := (q.1.cls ≠ "java/lang/invoke/MethodHandle" ∧ q.1.cls ≠ "java/lang/invoke/VarHandle") ∧ Cond.instantiable q.1.cls q.2 ∈ tables_1 ∧ Cond.privateMethod q.1 ∈ tables_1 ∧ Cond.instanceMethod q.1 ∈ tables_1
theorem lw_p0 : lw_okq (⟨"CutFromOthers$Form", "addPlaces", "(I)V"⟩, 6) := ⟨⟨by decide +kernel, by decide +kernel⟩, List.mem_of_getElem? (i := 37) (by decide +kernel), List.mem_of_getElem? (i := 321) (by decide +kernel), List.mem_of_getElem? (i := 322) (by decide +kernel)⟩
theorem lw_p1 : lw_okq (⟨"CutFromOthers$Stock", "relate", "(I)V"⟩, 5) := ⟨⟨by decide +kernel, by decide +kernel⟩, List.mem_of_getElem? (i := 30) (by decide +kernel), List.mem_of_getElem? (i := 338) (by decide +kernel), List.mem_of_getElem? (i := 339) (by decide +kernel)⟩
theorem lw_p2 : lw_okq (⟨"CutFromOthers$Stock", "sortIn", "(I)V"⟩, 5) := ⟨⟨by decide +kernel, by decide +kernel⟩, List.mem_of_getElem? (i := 30) (by decide +kernel), List.mem_of_getElem? (i := 354) (by decide +kernel), List.mem_of_getElem? (i := 355) (by decide +kernel)⟩
theorem lw_p3 : lw_okq (⟨"CutFromOthers", "figuresCome", "(III)I"⟩, 10) := ⟨⟨by decide +kernel, by decide +kernel⟩, List.mem_of_getElem? (i := 22) (by decide +kernel), List.mem_of_getElem? (i := 370) (by decide +kernel), List.mem_of_getElem? (i := 371) (by decide +kernel)⟩
theorem lw_p4 : lw_okq (⟨"CutFromOthers$Tape", "readLine", "()Z"⟩, 5) := ⟨⟨by decide +kernel, by decide +kernel⟩, List.mem_of_getElem? (i := 85) (by decide +kernel), List.mem_of_getElem? (i := 452) (by decide +kernel), List.mem_of_getElem? (i := 453) (by decide +kernel)⟩
theorem lw_p5 : lw_okq (⟨"CutFromOthers$Tape", "readJoined", "(II)Z"⟩, 5) := ⟨⟨by decide +kernel, by decide +kernel⟩, List.mem_of_getElem? (i := 85) (by decide +kernel), List.mem_of_getElem? (i := 456) (by decide +kernel), List.mem_of_getElem? (i := 457) (by decide +kernel)⟩
theorem lw_p6 : lw_okq (⟨"CutFromOthers$Tape", "readOperand", "(I)Z"⟩, 5) := ⟨⟨by decide +kernel, by decide +kernel⟩, List.mem_of_getElem? (i := 85) (by decide +kernel), List.mem_of_getElem? (i := 460) (by decide +kernel), List.mem_of_getElem? (i := 461) (by decide +kernel)⟩
theorem lw_p7 : lw_okq (⟨"CutFromOthers$Tape", "isDigit", "()Z"⟩, 5) := ⟨⟨by decide +kernel, by decide +kernel⟩, List.mem_of_getElem? (i := 85) (by decide +kernel), List.mem_of_getElem? (i := 464) (by decide +kernel), List.mem_of_getElem? (i := 465) (by decide +kernel)⟩
theorem lw_p8 : lw_okq (⟨"CutFromOthers$Tape", "readNumber", "()V"⟩, 5) := ⟨⟨by decide +kernel, by decide +kernel⟩, List.mem_of_getElem? (i := 85) (by decide +kernel), List.mem_of_getElem? (i := 468) (by decide +kernel), List.mem_of_getElem? (i := 469) (by decide +kernel)⟩
theorem lw_p9 : lw_okq (⟨"CutFromOthers$Tape", "write", "(I)V"⟩, 5) := ⟨⟨by decide +kernel, by decide +kernel⟩, List.mem_of_getElem? (i := 85) (by decide +kernel), List.mem_of_getElem? (i := 472) (by decide +kernel), List.mem_of_getElem? (i := 473) (by decide +kernel)⟩
theorem lw_p10 : lw_okq (⟨"CutFromOthers$Tape", "isAhead", "(Ljava/lang/String;)Z"⟩, 5) := ⟨⟨by decide +kernel, by decide +kernel⟩, List.mem_of_getElem? (i := 85) (by decide +kernel), List.mem_of_getElem? (i := 477) (by decide +kernel), List.mem_of_getElem? (i := 478) (by decide +kernel)⟩
theorem lw_p11 : lw_okq (⟨"CutFromOthers$Tape", "accepts", "(C)Z"⟩, 5) := ⟨⟨by decide +kernel, by decide +kernel⟩, List.mem_of_getElem? (i := 85) (by decide +kernel), List.mem_of_getElem? (i := 567) (by decide +kernel), List.mem_of_getElem? (i := 568) (by decide +kernel)⟩
theorem lw_p12 : lw_okq (⟨"CutFromOthers$Rule", "workOut", "()I"⟩, 5) := ⟨⟨by decide +kernel, by decide +kernel⟩, List.mem_of_getElem? (i := 107) (by decide +kernel), List.mem_of_getElem? (i := 610) (by decide +kernel), List.mem_of_getElem? (i := 611) (by decide +kernel)⟩
theorem lw_p13 : lw_okq (⟨"CutFromOthers$Rule", "pop", "()I"⟩, 5) := ⟨⟨by decide +kernel, by decide +kernel⟩, List.mem_of_getElem? (i := 107) (by decide +kernel), List.mem_of_getElem? (i := 614) (by decide +kernel), List.mem_of_getElem? (i := 615) (by decide +kernel)⟩
theorem lw_p14 : lw_okq (⟨"CutFromOthers$Rule", "step", "(I)V"⟩, 5) := ⟨⟨by decide +kernel, by decide +kernel⟩, List.mem_of_getElem? (i := 107) (by decide +kernel), List.mem_of_getElem? (i := 618) (by decide +kernel), List.mem_of_getElem? (i := 619) (by decide +kernel)⟩
theorem lw_p15 : lw_okq (⟨"CutFromOthers$Rule", "push", "(I)V"⟩, 5) := ⟨⟨by decide +kernel, by decide +kernel⟩, List.mem_of_getElem? (i := 107) (by decide +kernel), List.mem_of_getElem? (i := 622) (by decide +kernel), List.mem_of_getElem? (i := 623) (by decide +kernel)⟩
def lw_privs_1 : List (MethodName × Nat) := [(⟨"CutFromOthers$Form", "addPlaces", "(I)V"⟩, 6), (⟨"CutFromOthers$Stock", "relate", "(I)V"⟩, 5), (⟨"CutFromOthers$Stock", "sortIn", "(I)V"⟩, 5), (⟨"CutFromOthers", "figuresCome", "(III)I"⟩, 10), (⟨"CutFromOthers$Tape", "readLine", "()Z"⟩, 5), (⟨"CutFromOthers$Tape", "readJoined", "(II)Z"⟩, 5), (⟨"CutFromOthers$Tape", "readOperand", "(I)Z"⟩, 5), (⟨"CutFromOthers$Tape", "isDigit", "()Z"⟩, 5), (⟨"CutFromOthers$Tape", "readNumber", "()V"⟩, 5), (⟨"CutFromOthers$Tape", "write", "(I)V"⟩, 5), (⟨"CutFromOthers$Tape", "isAhead", "(Ljava/lang/String;)Z"⟩, 5), (⟨"CutFromOthers$Tape", "accepts", "(C)Z"⟩, 5), (⟨"CutFromOthers$Rule", "workOut", "()I"⟩, 5), (⟨"CutFromOthers$Rule", "pop", "()I"⟩, 5), (⟨"CutFromOthers$Rule", "step", "(I)V"⟩, 5), (⟨"CutFromOthers$Rule", "push", "(I)V"⟩, 5)]
theorem lw_r1 : ∀ q ∈ lw_privs_1, lw_okq q := List.forall_mem_cons.mpr ⟨lw_p0, List.forall_mem_cons.mpr ⟨lw_p1, List.forall_mem_cons.mpr ⟨lw_p2, List.forall_mem_cons.mpr ⟨lw_p3, List.forall_mem_cons.mpr ⟨lw_p4, List.forall_mem_cons.mpr ⟨lw_p5, List.forall_mem_cons.mpr ⟨lw_p6, List.forall_mem_cons.mpr ⟨lw_p7, List.forall_mem_cons.mpr ⟨lw_p8, List.forall_mem_cons.mpr ⟨lw_p9, List.forall_mem_cons.mpr ⟨lw_p10, List.forall_mem_cons.mpr ⟨lw_p11, List.forall_mem_cons.mpr ⟨lw_p12, List.forall_mem_cons.mpr ⟨lw_p13, List.forall_mem_cons.mpr ⟨lw_p14, List.forall_mem_cons.mpr ⟨lw_p15, fun _ h => absurd h List.not_mem_nil⟩⟩⟩⟩⟩⟩⟩⟩⟩⟩⟩⟩⟩⟩⟩⟩
theorem lw_p16 : lw_okq (⟨"CutFromOthers", "isBlockAndFigure", "(I)Z"⟩, 10) := ⟨⟨by decide +kernel, by decide +kernel⟩, List.mem_of_getElem? (i := 22) (by decide +kernel), List.mem_of_getElem? (i := 647) (by decide +kernel), List.mem_of_getElem? (i := 648) (by decide +kernel)⟩
theorem lw_p17 : lw_okq (⟨"CutFromOthers", "isTwoFigures", "(I)Z"⟩, 10) := ⟨⟨by decide +kernel, by decide +kernel⟩, List.mem_of_getElem? (i := 22) (by decide +kernel), List.mem_of_getElem? (i := 666) (by decide +kernel), List.mem_of_getElem? (i := 667) (by decide +kernel)⟩
theorem lw_p18 : lw_okq (⟨"CutFromOthers", "firstOutOf", "(I)I"⟩, 10) := ⟨⟨by decide +kernel, by decide +kernel⟩, List.mem_of_getElem? (i := 22) (by decide +kernel), List.mem_of_getElem? (i := 698) (by decide +kernel), List.mem_of_getElem? (i := 699) (by decide +kernel)⟩
theorem lw_p19 : lw_okq (⟨"CutFromOthers$Rows", "firstOfLength", "(II)I"⟩, 7) := ⟨⟨by decide +kernel, by decide +kernel⟩, List.mem_of_getElem? (i := 129) (by decide +kernel), List.mem_of_getElem? (i := 727) (by decide +kernel), List.mem_of_getElem? (i := 728) (by decide +kernel)⟩
theorem lw_p20 : lw_okq (⟨"CutFromOthers$Rows", "richestNext", "(II)I"⟩, 7) := ⟨⟨by decide +kernel, by decide +kernel⟩, List.mem_of_getElem? (i := 129) (by decide +kernel), List.mem_of_getElem? (i := 739) (by decide +kernel), List.mem_of_getElem? (i := 740) (by decide +kernel)⟩
theorem lw_p21 : lw_okq (⟨"CutFromOthers$Form", "unlikePlaces", "()I"⟩, 6) := ⟨⟨by decide +kernel, by decide +kernel⟩, List.mem_of_getElem? (i := 37) (by decide +kernel), List.mem_of_getElem? (i := 785) (by decide +kernel), List.mem_of_getElem? (i := 786) (by decide +kernel)⟩
theorem lw_p22 : lw_okq (⟨"CutFromOthers", "partOf", "(I)I"⟩, 10) := ⟨⟨by decide +kernel, by decide +kernel⟩, List.mem_of_getElem? (i := 22) (by decide +kernel), List.mem_of_getElem? (i := 816) (by decide +kernel), List.mem_of_getElem? (i := 817) (by decide +kernel)⟩
theorem lw_p23 : lw_okq (⟨"CutFromOthers", "refusalOfTold", "(II)I"⟩, 10) := ⟨⟨by decide +kernel, by decide +kernel⟩, List.mem_of_getElem? (i := 22) (by decide +kernel), List.mem_of_getElem? (i := 825) (by decide +kernel), List.mem_of_getElem? (i := 826) (by decide +kernel)⟩
theorem lw_p24 : lw_okq (⟨"CutFromOthers$Told", "meant", "(J)I"⟩, 4) := ⟨⟨by decide +kernel, by decide +kernel⟩, List.mem_of_getElem? (i := 157) (by decide +kernel), List.mem_of_getElem? (i := 838) (by decide +kernel), List.mem_of_getElem? (i := 839) (by decide +kernel)⟩
theorem lw_p25 : lw_okq (⟨"CutFromOthers$Told", "goOn", "(I)V"⟩, 4) := ⟨⟨by decide +kernel, by decide +kernel⟩, List.mem_of_getElem? (i := 157) (by decide +kernel), List.mem_of_getElem? (i := 858) (by decide +kernel), List.mem_of_getElem? (i := 859) (by decide +kernel)⟩
theorem lw_p26 : lw_okq (⟨"CutFromOthers$Rows", "nth", "(II)I"⟩, 7) := ⟨⟨by decide +kernel, by decide +kernel⟩, List.mem_of_getElem? (i := 129) (by decide +kernel), List.mem_of_getElem? (i := 890) (by decide +kernel), List.mem_of_getElem? (i := 891) (by decide +kernel)⟩
theorem lw_p27 : lw_okq (⟨"CutFromOthers$Stones", "own", "(IIII)I"⟩, 4) := ⟨⟨by decide +kernel, by decide +kernel⟩, List.mem_of_getElem? (i := 226) (by decide +kernel), List.mem_of_getElem? (i := 973) (by decide +kernel), List.mem_of_getElem? (i := 974) (by decide +kernel)⟩
theorem lw_p28 : lw_okq (⟨"CutFromOthers$Stones", "answer", "(IIIII)I"⟩, 4) := ⟨⟨by decide +kernel, by decide +kernel⟩, List.mem_of_getElem? (i := 226) (by decide +kernel), List.mem_of_getElem? (i := 977) (by decide +kernel), List.mem_of_getElem? (i := 978) (by decide +kernel)⟩
theorem lw_p29 : lw_okq (⟨"CutFromOthers$Stones", "note", "(I)V"⟩, 4) := ⟨⟨by decide +kernel, by decide +kernel⟩, List.mem_of_getElem? (i := 226) (by decide +kernel), List.mem_of_getElem? (i := 985) (by decide +kernel), List.mem_of_getElem? (i := 986) (by decide +kernel)⟩
theorem lw_p30 : lw_okq (⟨"CutFromOthers", "refusalOfElement", "(II)I"⟩, 10) := ⟨⟨by decide +kernel, by decide +kernel⟩, List.mem_of_getElem? (i := 22) (by decide +kernel), List.mem_of_getElem? (i := 1019) (by decide +kernel), List.mem_of_getElem? (i := 1020) (by decide +kernel)⟩
theorem lw_p31 : lw_okq (⟨"CutFromOthersModel", "newFigure", "(II)I"⟩, 50) := ⟨⟨by decide +kernel, by decide +kernel⟩, List.mem_of_getElem? (i := 1084) (by decide +kernel), List.mem_of_getElem? (i := 1252) (by decide +kernel), List.mem_of_getElem? (i := 1253) (by decide +kernel)⟩
def lw_privs_2 : List (MethodName × Nat) := [(⟨"CutFromOthers", "isBlockAndFigure", "(I)Z"⟩, 10), (⟨"CutFromOthers", "isTwoFigures", "(I)Z"⟩, 10), (⟨"CutFromOthers", "firstOutOf", "(I)I"⟩, 10), (⟨"CutFromOthers$Rows", "firstOfLength", "(II)I"⟩, 7), (⟨"CutFromOthers$Rows", "richestNext", "(II)I"⟩, 7), (⟨"CutFromOthers$Form", "unlikePlaces", "()I"⟩, 6), (⟨"CutFromOthers", "partOf", "(I)I"⟩, 10), (⟨"CutFromOthers", "refusalOfTold", "(II)I"⟩, 10), (⟨"CutFromOthers$Told", "meant", "(J)I"⟩, 4), (⟨"CutFromOthers$Told", "goOn", "(I)V"⟩, 4), (⟨"CutFromOthers$Rows", "nth", "(II)I"⟩, 7), (⟨"CutFromOthers$Stones", "own", "(IIII)I"⟩, 4), (⟨"CutFromOthers$Stones", "answer", "(IIIII)I"⟩, 4), (⟨"CutFromOthers$Stones", "note", "(I)V"⟩, 4), (⟨"CutFromOthers", "refusalOfElement", "(II)I"⟩, 10), (⟨"CutFromOthersModel", "newFigure", "(II)I"⟩, 50)]
theorem lw_r2 : ∀ q ∈ lw_privs_2, lw_okq q := List.forall_mem_cons.mpr ⟨lw_p16, List.forall_mem_cons.mpr ⟨lw_p17, List.forall_mem_cons.mpr ⟨lw_p18, List.forall_mem_cons.mpr ⟨lw_p19, List.forall_mem_cons.mpr ⟨lw_p20, List.forall_mem_cons.mpr ⟨lw_p21, List.forall_mem_cons.mpr ⟨lw_p22, List.forall_mem_cons.mpr ⟨lw_p23, List.forall_mem_cons.mpr ⟨lw_p24, List.forall_mem_cons.mpr ⟨lw_p25, List.forall_mem_cons.mpr ⟨lw_p26, List.forall_mem_cons.mpr ⟨lw_p27, List.forall_mem_cons.mpr ⟨lw_p28, List.forall_mem_cons.mpr ⟨lw_p29, List.forall_mem_cons.mpr ⟨lw_p30, List.forall_mem_cons.mpr ⟨lw_p31, fun _ h => absurd h List.not_mem_nil⟩⟩⟩⟩⟩⟩⟩⟩⟩⟩⟩⟩⟩⟩⟩⟩
theorem lw_p32 : lw_okq (⟨"CutFromOthersModel", "isFigure", "(I)Z"⟩, 50) := ⟨⟨by decide +kernel, by decide +kernel⟩, List.mem_of_getElem? (i := 1084) (by decide +kernel), List.mem_of_getElem? (i := 1272) (by decide +kernel), List.mem_of_getElem? (i := 1273) (by decide +kernel)⟩
theorem lw_p33 : lw_okq (⟨"CutFromOthersModel", "get", "(II)I"⟩, 50) := ⟨⟨by decide +kernel, by decide +kernel⟩, List.mem_of_getElem? (i := 1084) (by decide +kernel), List.mem_of_getElem? (i := 1276) (by decide +kernel), List.mem_of_getElem? (i := 1277) (by decide +kernel)⟩
theorem lw_p34 : lw_okq (⟨"CutFromOthersModel", "becomes", "(III)V"⟩, 50) := ⟨⟨by decide +kernel, by decide +kernel⟩, List.mem_of_getElem? (i := 1084) (by decide +kernel), List.mem_of_getElem? (i := 1280) (by decide +kernel), List.mem_of_getElem? (i := 1281) (by decide +kernel)⟩
theorem lw_p35 : lw_okq (⟨"CutFromOthersModel", "isBlock", "(I)Z"⟩, 50) := ⟨⟨by decide +kernel, by decide +kernel⟩, List.mem_of_getElem? (i := 1084) (by decide +kernel), List.mem_of_getElem? (i := 1288) (by decide +kernel), List.mem_of_getElem? (i := 1289) (by decide +kernel)⟩
theorem lw_p36 : lw_okq (⟨"CutFromOthersModel", "isLine", "()Z"⟩, 50) := ⟨⟨by decide +kernel, by decide +kernel⟩, List.mem_of_getElem? (i := 1084) (by decide +kernel), List.mem_of_getElem? (i := 1308) (by decide +kernel), List.mem_of_getElem? (i := 1309) (by decide +kernel)⟩
theorem lw_p37 : lw_okq (⟨"CutFromOthersModel", "isE", "()Z"⟩, 50) := ⟨⟨by decide +kernel, by decide +kernel⟩, List.mem_of_getElem? (i := 1084) (by decide +kernel), List.mem_of_getElem? (i := 1312) (by decide +kernel), List.mem_of_getElem? (i := 1313) (by decide +kernel)⟩
theorem lw_p38 : lw_okq (⟨"CutFromOthersModel", "isA", "()Z"⟩, 50) := ⟨⟨by decide +kernel, by decide +kernel⟩, List.mem_of_getElem? (i := 1084) (by decide +kernel), List.mem_of_getElem? (i := 1316) (by decide +kernel), List.mem_of_getElem? (i := 1317) (by decide +kernel)⟩
theorem lw_p39 : lw_okq (⟨"CutFromOthersModel", "isB", "()Z"⟩, 50) := ⟨⟨by decide +kernel, by decide +kernel⟩, List.mem_of_getElem? (i := 1084) (by decide +kernel), List.mem_of_getElem? (i := 1320) (by decide +kernel), List.mem_of_getElem? (i := 1321) (by decide +kernel)⟩
theorem lw_p40 : lw_okq (⟨"CutFromOthersModel", "isS", "()Z"⟩, 50) := ⟨⟨by decide +kernel, by decide +kernel⟩, List.mem_of_getElem? (i := 1084) (by decide +kernel), List.mem_of_getElem? (i := 1324) (by decide +kernel), List.mem_of_getElem? (i := 1325) (by decide +kernel)⟩
theorem lw_p41 : lw_okq (⟨"CutFromOthersModel", "isP", "()Z"⟩, 50) := ⟨⟨by decide +kernel, by decide +kernel⟩, List.mem_of_getElem? (i := 1084) (by decide +kernel), List.mem_of_getElem? (i := 1328) (by decide +kernel), List.mem_of_getElem? (i := 1329) (by decide +kernel)⟩
theorem lw_p42 : lw_okq (⟨"CutFromOthersModel", "isO", "()Z"⟩, 50) := ⟨⟨by decide +kernel, by decide +kernel⟩, List.mem_of_getElem? (i := 1084) (by decide +kernel), List.mem_of_getElem? (i := 1332) (by decide +kernel), List.mem_of_getElem? (i := 1333) (by decide +kernel)⟩
theorem lw_p43 : lw_okq (⟨"CutFromOthersModel", "isDigit", "()Z"⟩, 50) := ⟨⟨by decide +kernel, by decide +kernel⟩, List.mem_of_getElem? (i := 1084) (by decide +kernel), List.mem_of_getElem? (i := 1336) (by decide +kernel), List.mem_of_getElem? (i := 1337) (by decide +kernel)⟩
theorem lw_p44 : lw_okq (⟨"CutFromOthersModel", "sign", "()I"⟩, 50) := ⟨⟨by decide +kernel, by decide +kernel⟩, List.mem_of_getElem? (i := 1084) (by decide +kernel), List.mem_of_getElem? (i := 1340) (by decide +kernel), List.mem_of_getElem? (i := 1341) (by decide +kernel)⟩
theorem lw_p45 : lw_okq (⟨"CutFromOthersModel", "codes", "(I)Z"⟩, 50) := ⟨⟨by decide +kernel, by decide +kernel⟩, List.mem_of_getElem? (i := 1084) (by decide +kernel), List.mem_of_getElem? (i := 1344) (by decide +kernel), List.mem_of_getElem? (i := 1345) (by decide +kernel)⟩
theorem lw_p46 : lw_okq (⟨"CutFromOthersModel", "is", "(I)Z"⟩, 50) := ⟨⟨by decide +kernel, by decide +kernel⟩, List.mem_of_getElem? (i := 1084) (by decide +kernel), List.mem_of_getElem? (i := 1351) (by decide +kernel), List.mem_of_getElem? (i := 1352) (by decide +kernel)⟩
theorem lw_p47 : lw_okq (⟨"CutFromOthersModel", "bringsIn", "(III)I"⟩, 50) := ⟨⟨by decide +kernel, by decide +kernel⟩, List.mem_of_getElem? (i := 1084) (by decide +kernel), List.mem_of_getElem? (i := 1362) (by decide +kernel), List.mem_of_getElem? (i := 1363) (by decide +kernel)⟩
def lw_privs_3 : List (MethodName × Nat) := [(⟨"CutFromOthersModel", "isFigure", "(I)Z"⟩, 50), (⟨"CutFromOthersModel", "get", "(II)I"⟩, 50), (⟨"CutFromOthersModel", "becomes", "(III)V"⟩, 50), (⟨"CutFromOthersModel", "isBlock", "(I)Z"⟩, 50), (⟨"CutFromOthersModel", "isLine", "()Z"⟩, 50), (⟨"CutFromOthersModel", "isE", "()Z"⟩, 50), (⟨"CutFromOthersModel", "isA", "()Z"⟩, 50), (⟨"CutFromOthersModel", "isB", "()Z"⟩, 50), (⟨"CutFromOthersModel", "isS", "()Z"⟩, 50), (⟨"CutFromOthersModel", "isP", "()Z"⟩, 50), (⟨"CutFromOthersModel", "isO", "()Z"⟩, 50), (⟨"CutFromOthersModel", "isDigit", "()Z"⟩, 50), (⟨"CutFromOthersModel", "sign", "()I"⟩, 50), (⟨"CutFromOthersModel", "codes", "(I)Z"⟩, 50), (⟨"CutFromOthersModel", "is", "(I)Z"⟩, 50), (⟨"CutFromOthersModel", "bringsIn", "(III)I"⟩, 50)]
theorem lw_r3 : ∀ q ∈ lw_privs_3, lw_okq q := List.forall_mem_cons.mpr ⟨lw_p32, List.forall_mem_cons.mpr ⟨lw_p33, List.forall_mem_cons.mpr ⟨lw_p34, List.forall_mem_cons.mpr ⟨lw_p35, List.forall_mem_cons.mpr ⟨lw_p36, List.forall_mem_cons.mpr ⟨lw_p37, List.forall_mem_cons.mpr ⟨lw_p38, List.forall_mem_cons.mpr ⟨lw_p39, List.forall_mem_cons.mpr ⟨lw_p40, List.forall_mem_cons.mpr ⟨lw_p41, List.forall_mem_cons.mpr ⟨lw_p42, List.forall_mem_cons.mpr ⟨lw_p43, List.forall_mem_cons.mpr ⟨lw_p44, List.forall_mem_cons.mpr ⟨lw_p45, List.forall_mem_cons.mpr ⟨lw_p46, List.forall_mem_cons.mpr ⟨lw_p47, fun _ h => absurd h List.not_mem_nil⟩⟩⟩⟩⟩⟩⟩⟩⟩⟩⟩⟩⟩⟩⟩⟩
theorem lw_p48 : lw_okq (⟨"CutFromOthersModel", "worked", "(II)I"⟩, 50) := ⟨⟨by decide +kernel, by decide +kernel⟩, List.mem_of_getElem? (i := 1084) (by decide +kernel), List.mem_of_getElem? (i := 1372) (by decide +kernel), List.mem_of_getElem? (i := 1373) (by decide +kernel)⟩
theorem lw_p49 : lw_okq (⟨"CutFromOthersModel", "isIn", "(I)Z"⟩, 50) := ⟨⟨by decide +kernel, by decide +kernel⟩, List.mem_of_getElem? (i := 1084) (by decide +kernel), List.mem_of_getElem? (i := 1405) (by decide +kernel), List.mem_of_getElem? (i := 1406) (by decide +kernel)⟩
theorem lw_p50 : lw_okq (⟨"CutFromOthersModel", "areTwo", "(I)Z"⟩, 50) := ⟨⟨by decide +kernel, by decide +kernel⟩, List.mem_of_getElem? (i := 1084) (by decide +kernel), List.mem_of_getElem? (i := 1422) (by decide +kernel), List.mem_of_getElem? (i := 1423) (by decide +kernel)⟩
theorem lw_p51 : lw_okq (⟨"CutFromOthersModel", "cutOf", "(I)I"⟩, 50) := ⟨⟨by decide +kernel, by decide +kernel⟩, List.mem_of_getElem? (i := 1084) (by decide +kernel), List.mem_of_getElem? (i := 1430) (by decide +kernel), List.mem_of_getElem? (i := 1431) (by decide +kernel)⟩
theorem lw_p52 : lw_okq (⟨"CutFromOthersModel", "looks", "(I)V"⟩, 50) := ⟨⟨by decide +kernel, by decide +kernel⟩, List.mem_of_getElem? (i := 1084) (by decide +kernel), List.mem_of_getElem? (i := 1442) (by decide +kernel), List.mem_of_getElem? (i := 1443) (by decide +kernel)⟩
theorem lw_p53 : lw_okq (⟨"CutFromOthersModel", "longestOf", "(I)I"⟩, 50) := ⟨⟨by decide +kernel, by decide +kernel⟩, List.mem_of_getElem? (i := 1084) (by decide +kernel), List.mem_of_getElem? (i := 1446) (by decide +kernel), List.mem_of_getElem? (i := 1447) (by decide +kernel)⟩
theorem lw_p54 : lw_okq (⟨"CutFromOthersModel", "mostOf", "(II)I"⟩, 50) := ⟨⟨by decide +kernel, by decide +kernel⟩, List.mem_of_getElem? (i := 1084) (by decide +kernel), List.mem_of_getElem? (i := 1450) (by decide +kernel), List.mem_of_getElem? (i := 1451) (by decide +kernel)⟩
theorem lw_p55 : lw_okq (⟨"CutFromOthersModel", "firstOf", "(II)I"⟩, 50) := ⟨⟨by decide +kernel, by decide +kernel⟩, List.mem_of_getElem? (i := 1084) (by decide +kernel), List.mem_of_getElem? (i := 1454) (by decide +kernel), List.mem_of_getElem? (i := 1455) (by decide +kernel)⟩
theorem lw_p56 : lw_okq (⟨"CutFromOthersModel", "rich", "(III)V"⟩, 50) := ⟨⟨by decide +kernel, by decide +kernel⟩, List.mem_of_getElem? (i := 1084) (by decide +kernel), List.mem_of_getElem? (i := 1462) (by decide +kernel), List.mem_of_getElem? (i := 1463) (by decide +kernel)⟩
theorem lw_p57 : lw_okq (⟨"CutFromOthersModel", "nextRich", "(III)I"⟩, 50) := ⟨⟨by decide +kernel, by decide +kernel⟩, List.mem_of_getElem? (i := 1084) (by decide +kernel), List.mem_of_getElem? (i := 1466) (by decide +kernel), List.mem_of_getElem? (i := 1467) (by decide +kernel)⟩
theorem lw_p58 : lw_okq (⟨"CutFromOthersModel", "through", "(II)I"⟩, 50) := ⟨⟨by decide +kernel, by decide +kernel⟩, List.mem_of_getElem? (i := 1084) (by decide +kernel), List.mem_of_getElem? (i := 1474) (by decide +kernel), List.mem_of_getElem? (i := 1475) (by decide +kernel)⟩
theorem lw_p59 : lw_okq (⟨"CutFromOthersModel", "between", "(II)I"⟩, 50) := ⟨⟨by decide +kernel, by decide +kernel⟩, List.mem_of_getElem? (i := 1084) (by decide +kernel), List.mem_of_getElem? (i := 1478) (by decide +kernel), List.mem_of_getElem? (i := 1479) (by decide +kernel)⟩
theorem lw_p60 : lw_okq (⟨"CutFromOthersModel", "plays", "(I)V"⟩, 50) := ⟨⟨by decide +kernel, by decide +kernel⟩, List.mem_of_getElem? (i := 1084) (by decide +kernel), List.mem_of_getElem? (i := 1508) (by decide +kernel), List.mem_of_getElem? (i := 1509) (by decide +kernel)⟩
theorem lw_p61 : lw_okq (⟨"CutFromOthersModel", "noRow", "(I)I"⟩, 50) := ⟨⟨by decide +kernel, by decide +kernel⟩, List.mem_of_getElem? (i := 1084) (by decide +kernel), List.mem_of_getElem? (i := 1520) (by decide +kernel), List.mem_of_getElem? (i := 1521) (by decide +kernel)⟩
theorem lw_p62 : lw_okq (⟨"CutFromOthersModel", "canBe", "(II)I"⟩, 50) := ⟨⟨by decide +kernel, by decide +kernel⟩, List.mem_of_getElem? (i := 1084) (by decide +kernel), List.mem_of_getElem? (i := 1524) (by decide +kernel), List.mem_of_getElem? (i := 1525) (by decide +kernel)⟩
theorem lw_p63 : lw_okq (⟨"CutFromOthersModel", "asTold", "(III)I"⟩, 50) := ⟨⟨by decide +kernel, by decide +kernel⟩, List.mem_of_getElem? (i := 1084) (by decide +kernel), List.mem_of_getElem? (i := 1528) (by decide +kernel), List.mem_of_getElem? (i := 1529) (by decide +kernel)⟩
def lw_privs_4 : List (MethodName × Nat) := [(⟨"CutFromOthersModel", "worked", "(II)I"⟩, 50), (⟨"CutFromOthersModel", "isIn", "(I)Z"⟩, 50), (⟨"CutFromOthersModel", "areTwo", "(I)Z"⟩, 50), (⟨"CutFromOthersModel", "cutOf", "(I)I"⟩, 50), (⟨"CutFromOthersModel", "looks", "(I)V"⟩, 50), (⟨"CutFromOthersModel", "longestOf", "(I)I"⟩, 50), (⟨"CutFromOthersModel", "mostOf", "(II)I"⟩, 50), (⟨"CutFromOthersModel", "firstOf", "(II)I"⟩, 50), (⟨"CutFromOthersModel", "rich", "(III)V"⟩, 50), (⟨"CutFromOthersModel", "nextRich", "(III)I"⟩, 50), (⟨"CutFromOthersModel", "through", "(II)I"⟩, 50), (⟨"CutFromOthersModel", "between", "(II)I"⟩, 50), (⟨"CutFromOthersModel", "plays", "(I)V"⟩, 50), (⟨"CutFromOthersModel", "noRow", "(I)I"⟩, 50), (⟨"CutFromOthersModel", "canBe", "(II)I"⟩, 50), (⟨"CutFromOthersModel", "asTold", "(III)I"⟩, 50)]
theorem lw_r4 : ∀ q ∈ lw_privs_4, lw_okq q := List.forall_mem_cons.mpr ⟨lw_p48, List.forall_mem_cons.mpr ⟨lw_p49, List.forall_mem_cons.mpr ⟨lw_p50, List.forall_mem_cons.mpr ⟨lw_p51, List.forall_mem_cons.mpr ⟨lw_p52, List.forall_mem_cons.mpr ⟨lw_p53, List.forall_mem_cons.mpr ⟨lw_p54, List.forall_mem_cons.mpr ⟨lw_p55, List.forall_mem_cons.mpr ⟨lw_p56, List.forall_mem_cons.mpr ⟨lw_p57, List.forall_mem_cons.mpr ⟨lw_p58, List.forall_mem_cons.mpr ⟨lw_p59, List.forall_mem_cons.mpr ⟨lw_p60, List.forall_mem_cons.mpr ⟨lw_p61, List.forall_mem_cons.mpr ⟨lw_p62, List.forall_mem_cons.mpr ⟨lw_p63, fun _ h => absurd h List.not_mem_nil⟩⟩⟩⟩⟩⟩⟩⟩⟩⟩⟩⟩⟩⟩⟩⟩
theorem lw_p64 : lw_okq (⟨"CutFromOthersModel", "toldAt", "(II)I"⟩, 50) := ⟨⟨by decide +kernel, by decide +kernel⟩, List.mem_of_getElem? (i := 1084) (by decide +kernel), List.mem_of_getElem? (i := 1532) (by decide +kernel), List.mem_of_getElem? (i := 1533) (by decide +kernel)⟩
theorem lw_p65 : lw_okq (⟨"CutFromOthersModel", "nextOf", "(I)I"⟩, 50) := ⟨⟨by decide +kernel, by decide +kernel⟩, List.mem_of_getElem? (i := 1084) (by decide +kernel), List.mem_of_getElem? (i := 1536) (by decide +kernel), List.mem_of_getElem? (i := 1537) (by decide +kernel)⟩
theorem lw_p66 : lw_okq (⟨"CutFromOthersModel", "waysOn", "(III)I"⟩, 50) := ⟨⟨by decide +kernel, by decide +kernel⟩, List.mem_of_getElem? (i := 1084) (by decide +kernel), List.mem_of_getElem? (i := 1544) (by decide +kernel), List.mem_of_getElem? (i := 1545) (by decide +kernel)⟩
theorem lw_p67 : lw_okq (⟨"CutFromOthersModel", "firstUnknown", "(I)I"⟩, 50) := ⟨⟨by decide +kernel, by decide +kernel⟩, List.mem_of_getElem? (i := 1084) (by decide +kernel), List.mem_of_getElem? (i := 1548) (by decide +kernel), List.mem_of_getElem? (i := 1549) (by decide +kernel)⟩
theorem lw_p68 : lw_okq (⟨"CutFromOthersModel", "cutsBy", "(III)I"⟩, 50) := ⟨⟨by decide +kernel, by decide +kernel⟩, List.mem_of_getElem? (i := 1084) (by decide +kernel), List.mem_of_getElem? (i := 1592) (by decide +kernel), List.mem_of_getElem? (i := 1593) (by decide +kernel)⟩
theorem lw_p69 : lw_okq (⟨"CutFromOthersModel", "ran", "(I)V"⟩, 50) := ⟨⟨by decide +kernel, by decide +kernel⟩, List.mem_of_getElem? (i := 1084) (by decide +kernel), List.mem_of_getElem? (i := 1596) (by decide +kernel), List.mem_of_getElem? (i := 1597) (by decide +kernel)⟩
theorem lw_p70 : lw_okq (⟨"CutFromOthersModel", "holdsBy", "(III)I"⟩, 50) := ⟨⟨by decide +kernel, by decide +kernel⟩, List.mem_of_getElem? (i := 1084) (by decide +kernel), List.mem_of_getElem? (i := 1603) (by decide +kernel), List.mem_of_getElem? (i := 1604) (by decide +kernel)⟩
theorem lw_p71 : lw_okq (⟨"CutFromOthersModel", "leavesBy", "(III)I"⟩, 50) := ⟨⟨by decide +kernel, by decide +kernel⟩, List.mem_of_getElem? (i := 1084) (by decide +kernel), List.mem_of_getElem? (i := 1607) (by decide +kernel), List.mem_of_getElem? (i := 1608) (by decide +kernel)⟩
theorem lw_p72 : lw_okq (⟨"CutFromOthersModel", "tells", "(III)I"⟩, 50) := ⟨⟨by decide +kernel, by decide +kernel⟩, List.mem_of_getElem? (i := 1084) (by decide +kernel), List.mem_of_getElem? (i := 1611) (by decide +kernel), List.mem_of_getElem? (i := 1612) (by decide +kernel)⟩
theorem lw_p73 : lw_okq (⟨"CutFromOthersModel", "isRow", "(I)Z"⟩, 50) := ⟨⟨by decide +kernel, by decide +kernel⟩, List.mem_of_getElem? (i := 1084) (by decide +kernel), List.mem_of_getElem? (i := 1631) (by decide +kernel), List.mem_of_getElem? (i := 1632) (by decide +kernel)⟩
def lw_privs_5 : List (MethodName × Nat) := [(⟨"CutFromOthersModel", "toldAt", "(II)I"⟩, 50), (⟨"CutFromOthersModel", "nextOf", "(I)I"⟩, 50), (⟨"CutFromOthersModel", "waysOn", "(III)I"⟩, 50), (⟨"CutFromOthersModel", "firstUnknown", "(I)I"⟩, 50), (⟨"CutFromOthersModel", "cutsBy", "(III)I"⟩, 50), (⟨"CutFromOthersModel", "ran", "(I)V"⟩, 50), (⟨"CutFromOthersModel", "holdsBy", "(III)I"⟩, 50), (⟨"CutFromOthersModel", "leavesBy", "(III)I"⟩, 50), (⟨"CutFromOthersModel", "tells", "(III)I"⟩, 50), (⟨"CutFromOthersModel", "isRow", "(I)Z"⟩, 50)]
theorem lw_r5 : ∀ q ∈ lw_privs_5, lw_okq q := List.forall_mem_cons.mpr ⟨lw_p64, List.forall_mem_cons.mpr ⟨lw_p65, List.forall_mem_cons.mpr ⟨lw_p66, List.forall_mem_cons.mpr ⟨lw_p67, List.forall_mem_cons.mpr ⟨lw_p68, List.forall_mem_cons.mpr ⟨lw_p69, List.forall_mem_cons.mpr ⟨lw_p70, List.forall_mem_cons.mpr ⟨lw_p71, List.forall_mem_cons.mpr ⟨lw_p72, List.forall_mem_cons.mpr ⟨lw_p73, fun _ h => absurd h List.not_mem_nil⟩⟩⟩⟩⟩⟩⟩⟩⟩⟩
def lw_privs : List (MethodName × Nat) := lw_privs_1 ++ (lw_privs_2 ++ (lw_privs_3 ++ (lw_privs_4 ++ (lw_privs_5))))
def lw_tbl : List Cond := k2_sels lw_privs ++ tables_1
theorem lw_privs_ok : ∀ q ∈ lw_privs, lw_okq q := by
  show ∀ q ∈ lw_privs_1 ++ (lw_privs_2 ++ (lw_privs_3 ++ (lw_privs_4 ++ (lw_privs_5)))), lw_okq q
  exact List.forall_mem_append.mpr ⟨lw_r1, List.forall_mem_append.mpr ⟨lw_r2, List.forall_mem_append.mpr ⟨lw_r3, List.forall_mem_append.mpr ⟨lw_r4, lw_r5⟩⟩⟩⟩
/-- the words that ride along into every method -/
def x_tbl : List Cond := lw_tbl.filter goodWord
theorem x_tb (i : Nat) {w : Cond} (h : lw_tbl[i]? = some w) (hg : goodWord w = true) : w ∈ x_tbl := List.mem_filter.mpr ⟨List.mem_of_getElem? h, hg⟩
theorem x_tl (i : Nat) {w : Cond} (h : lw_tbl[i]? = some w) : w ∈ lw_tbl := List.mem_of_getElem? h
theorem x_in {ws : List Cond} (ps : List Nat) (h : ws = ps.filterMap (fun i => lw_tbl[i]?)) (hg : ws.all goodWord = true) : ∀ w ∈ ws, w ∈ x_tbl := by
  intro w hw
  have h1 := List.all_eq_true.mp hg w hw
  rw [h] at hw
  obtain ⟨i, -, hi⟩ := List.mem_filterMap.mp hw
  exact List.mem_filter.mpr ⟨List.mem_of_getElem? hi, h1⟩
theorem x_goodIn {ws : List Cond} (h : ∀ w ∈ ws, w ∈ x_tbl) : GoodIn x_tbl ws := fun w hw => ⟨h w hw, good_of_word (List.mem_filter.mp (h w hw)).2⟩
end
section
def RX0 : String := "CutFromOthers$Changes"
def TX0 : u_T := fun k => match k with
  | 0 => ("CutFromOthers$Changes", "kept", "[I", true)
  | 1 => ("CutFromOthers$Changes", "done", "I", false)
  | _ => ("CutFromOthers$Changes", "undone", "I", false)
def tyX0 : Nat → FieldType := fun k => match k with
  | 0 => .array .int
  | 1 => .int
  | _ => .int
theorem nmX0 : ∀ a, a < 3 → ∀ b, b < 3 → a ≠ b → (TX0 a).2.1 ≠ (TX0 b).2.1 := by decide +kernel
theorem tyX0_ok : ∀ k, k < 3 → parseFieldDescriptor (TX0 k).2.2.1 = some (tyX0 k) := by decide +kernel
abbrev cX0_init : ByteArray := prog_2_method_1_code
def yX0_init : MethodName := ⟨RX0, "<init>", "()V"⟩
abbrev cX0_done : ByteArray := prog_2_method_2_code
def yX0_done : MethodName := ⟨RX0, "done", "()I"⟩
abbrev cX0_add : ByteArray := prog_2_method_3_code
def yX0_add : MethodName := ⟨RX0, "add", "(IIII)V"⟩
abbrev cX0_takeBack : ByteArray := prog_2_method_4_code
def yX0_takeBack : MethodName := ⟨RX0, "takeBack", "(LCutFromOthers$Stock;)I"⟩
abbrev cX0_doAgain : ByteArray := prog_2_method_5_code
def yX0_doAgain : MethodName := ⟨RX0, "doAgain", "(LCutFromOthers$Stock;)I"⟩
def RX1 : String := "CutFromOthers$Form"
def TX1 : u_T := fun k => match k with
  | 0 => ("CutFromOthers$Form", "turns", "[I", true)
  | 1 => ("CutFromOthers$Form", "places", "[I", true)
  | 2 => ("CutFromOthers$Form", "wayNumbers", "[I", true)
  | 3 => ("CutFromOthers$Form", "shape", "I", false)
  | 4 => ("CutFromOthers$Form", "cells", "I", false)
  | _ => ("CutFromOthers$Form", "placed", "I", false)
def tyX1 : Nat → FieldType := fun k => match k with
  | 0 => .array .int
  | 1 => .array .int
  | 2 => .array .int
  | 3 => .int
  | 4 => .int
  | _ => .int
theorem nmX1 : ∀ a, a < 6 → ∀ b, b < 6 → a ≠ b → (TX1 a).2.1 ≠ (TX1 b).2.1 := by decide +kernel
theorem tyX1_ok : ∀ k, k < 6 → parseFieldDescriptor (TX1 k).2.2.1 = some (tyX1 k) := by decide +kernel
abbrev cX1_init : ByteArray := prog_3_method_1_code
def yX1_init : MethodName := ⟨RX1, "<init>", "()V"⟩
abbrev cX1_take : ByteArray := prog_3_method_2_code
def yX1_take : MethodName := ⟨RX1, "take", "(I)V"⟩
abbrev cX1_countWays : ByteArray := prog_3_method_3_code
def yX1_countWays : MethodName := ⟨RX1, "countWays", "(I)I"⟩
abbrev cX1_firstPlace : ByteArray := prog_3_method_4_code
def yX1_firstPlace : MethodName := ⟨RX1, "firstPlace", "(I)I"⟩
abbrev cX1_wayAt : ByteArray := prog_3_method_5_code
def yX1_wayAt : MethodName := ⟨RX1, "wayAt", "(I)I"⟩
abbrev cX1_shapeAt : ByteArray := prog_3_method_6_code
def yX1_shapeAt : MethodName := ⟨RX1, "shapeAt", "(I)I"⟩
abbrev cX1_canBeCutOf : ByteArray := prog_3_method_7_code
def yX1_canBeCutOf : MethodName := ⟨RX1, "canBeCutOf", "(I)Z"⟩
abbrev cX1_leastWith : ByteArray := prog_3_method_8_code
def yX1_leastWith : MethodName := ⟨RX1, "leastWith", "(LCutFromOthers$Form;)I"⟩
abbrev cX1_wide : ByteArray := prog_3_method_9_code
def yX1_wide : MethodName := ⟨RX1, "wide", "(I)I"⟩
abbrev cX1_tall : ByteArray := prog_3_method_10_code
def yX1_tall : MethodName := ⟨RX1, "tall", "(I)I"⟩
abbrev cX1_unlikePlaces : ByteArray := prog_3_method_11_code
def yX1_unlikePlaces : MethodName := ⟨RX1, "unlikePlaces", "()I"⟩
abbrev cX1_addPlaces : ByteArray := prog_3_method_12_code
def yX1_addPlaces : MethodName := ⟨RX1, "addPlaces", "(I)V"⟩
abbrev cX1_cornered : ByteArray := prog_3_method_13_code
def yX1_cornered : MethodName := ⟨RX1, "cornered", "(I)I"⟩
abbrev cX1_turnedOnce : ByteArray := prog_3_method_14_code
def yX1_turnedOnce : MethodName := ⟨RX1, "turnedOnce", "(I)I"⟩
def RX2 : String := "CutFromOthers$Rows"
def TX2 : u_T := fun k => match k with
  | 0 => ("CutFromOthers$Rows", "stock", "LCutFromOthers$Stock;", true)
  | 1 => ("CutFromOthers$Rows", "rule", "LCutFromOthers$Rule;", true)
  | 2 => ("CutFromOthers$Rows", "lengths", "[I", true)
  | 3 => ("CutFromOthers$Rows", "sums", "[I", true)
  | 4 => ("CutFromOthers$Rows", "steps", "[I", true)
  | 5 => ("CutFromOthers$Rows", "cuts", "[I", true)
  | _ => ("CutFromOthers$Rows", "losing", "I", false)
def tyX2 : Nat → FieldType := fun k => match k with
  | 0 => .object "CutFromOthers$Stock"
  | 1 => .object "CutFromOthers$Rule"
  | 2 => .array .int
  | 3 => .array .int
  | 4 => .array .int
  | 5 => .array .int
  | _ => .int
theorem nmX2 : ∀ a, a < 7 → ∀ b, b < 7 → a ≠ b → (TX2 a).2.1 ≠ (TX2 b).2.1 := by decide +kernel
theorem tyX2_ok : ∀ k, k < 7 → parseFieldDescriptor (TX2 k).2.2.1 = some (tyX2 k) := by decide +kernel
abbrev cX2_init : ByteArray := prog_4_method_1_code
def yX2_init : MethodName := ⟨RX2, "<init>", "(LCutFromOthers$Stock;LCutFromOthers$Rule;)V"⟩
abbrev cX2_measure : ByteArray := prog_4_method_2_code
def yX2_measure : MethodName := ⟨RX2, "measure", "(I)V"⟩
abbrev cX2_longestOf : ByteArray := prog_4_method_3_code
def yX2_longestOf : MethodName := ⟨RX2, "longestOf", "(I)I"⟩
abbrev cX2_inLongest : ByteArray := prog_4_method_4_code
def yX2_inLongest : MethodName := ⟨RX2, "inLongest", "(II)I"⟩
abbrev cX2_longestWithout : ByteArray := prog_4_method_5_code
def yX2_longestWithout : MethodName := ⟨RX2, "longestWithout", "(II)I"⟩
abbrev cX2_longestWith : ByteArray := prog_4_method_6_code
def yX2_longestWith : MethodName := ⟨RX2, "longestWith", "(III)I"⟩
abbrev cX2_weigh : ByteArray := prog_4_method_7_code
def yX2_weigh : MethodName := ⟨RX2, "weigh", "(I)V"⟩
abbrev cX2_mostOf : ByteArray := prog_4_method_8_code
def yX2_mostOf : MethodName := ⟨RX2, "mostOf", "(I)I"⟩
abbrev cX2_inRichest : ByteArray := prog_4_method_9_code
def yX2_inRichest : MethodName := ⟨RX2, "inRichest", "(II)I"⟩
abbrev cX2_play : ByteArray := prog_4_method_10_code
def yX2_play : MethodName := ⟨RX2, "play", "()V"⟩
abbrev cX2_firstWinning : ByteArray := prog_4_method_11_code
def yX2_firstWinning : MethodName := ⟨RX2, "firstWinning", "(I)I"⟩
abbrev cX2_cutsPlayed : ByteArray := prog_4_method_12_code
def yX2_cutsPlayed : MethodName := ⟨RX2, "cutsPlayed", "(I)I"⟩
abbrev cX2_draw : ByteArray := prog_4_method_13_code
def yX2_draw : MethodName := ⟨RX2, "draw", "(IIII)I"⟩
abbrev cX2_firstOfLength : ByteArray := prog_4_method_14_code
def yX2_firstOfLength : MethodName := ⟨RX2, "firstOfLength", "(II)I"⟩
abbrev cX2_richestNext : ByteArray := prog_4_method_15_code
def yX2_richestNext : MethodName := ⟨RX2, "richestNext", "(II)I"⟩
abbrev cX2_nth : ByteArray := prog_4_method_16_code
def yX2_nth : MethodName := ⟨RX2, "nth", "(II)I"⟩
def RX3 : String := "CutFromOthers$Rule"
def TX3 : u_T := fun k => match k with
  | 0 => ("CutFromOthers$Rule", "code", "[I", true)
  | 1 => ("CutFromOthers$Rule", "named", "[I", true)
  | 2 => ("CutFromOthers$Rule", "held", "[I", true)
  | 3 => ("CutFromOthers$Rule", "length", "I", false)
  | _ => ("CutFromOthers$Rule", "top", "I", false)
def tyX3 : Nat → FieldType := fun k => match k with
  | 0 => .array .int
  | 1 => .array .int
  | 2 => .array .int
  | 3 => .int
  | _ => .int
theorem nmX3 : ∀ a, a < 5 → ∀ b, b < 5 → a ≠ b → (TX3 a).2.1 ≠ (TX3 b).2.1 := by decide +kernel
theorem tyX3_ok : ∀ k, k < 5 → parseFieldDescriptor (TX3 k).2.2.1 = some (tyX3 k) := by decide +kernel
abbrev cX3_init : ByteArray := prog_5_method_1_code
def yX3_init : MethodName := ⟨RX3, "<init>", "()V"⟩
abbrev cX3_take : ByteArray := prog_5_method_2_code
def yX3_take : MethodName := ⟨RX3, "take", "(LCutFromOthers$Tape;)V"⟩
abbrev cX3_worthOf : ByteArray := prog_5_method_3_code
def yX3_worthOf : MethodName := ⟨RX3, "worthOf", "(LCutFromOthers$Stock;III)I"⟩
abbrev cX3_workOut : ByteArray := prog_5_method_4_code
def yX3_workOut : MethodName := ⟨RX3, "workOut", "()I"⟩
abbrev cX3_step : ByteArray := prog_5_method_5_code
def yX3_step : MethodName := ⟨RX3, "step", "(I)V"⟩
abbrev cX3_join : ByteArray := prog_5_method_6_code
def yX3_join : MethodName := ⟨RX3, "join", "(III)I"⟩
abbrev cX3_truth : ByteArray := prog_5_method_7_code
def yX3_truth : MethodName := ⟨RX3, "truth", "(Z)I"⟩
abbrev cX3_push : ByteArray := prog_5_method_8_code
def yX3_push : MethodName := ⟨RX3, "push", "(I)V"⟩
abbrev cX3_pop : ByteArray := prog_5_method_9_code
def yX3_pop : MethodName := ⟨RX3, "pop", "()I"⟩
def RX4 : String := "CutFromOthers$Shelves"
def TX4 : u_T := fun k => match k with
  | 0 => ("CutFromOthers$Shelves", "sorts", "[I", true)
  | 1 => ("CutFromOthers$Shelves", "sizes", "[I", true)
  | _ => ("CutFromOthers$Shelves", "elements", "[J", true)
def tyX4 : Nat → FieldType := fun k => match k with
  | 0 => .array .int
  | 1 => .array .int
  | _ => .array .long
theorem nmX4 : ∀ a, a < 3 → ∀ b, b < 3 → a ≠ b → (TX4 a).2.1 ≠ (TX4 b).2.1 := by decide +kernel
theorem tyX4_ok : ∀ k, k < 3 → parseFieldDescriptor (TX4 k).2.2.1 = some (tyX4 k) := by decide +kernel
abbrev cX4_init : ByteArray := prog_6_method_1_code
def yX4_init : MethodName := ⟨RX4, "<init>", "()V"⟩
abbrev cX4_has : ByteArray := prog_6_method_2_code
def yX4_has : MethodName := ⟨RX4, "has", "(I)Z"⟩
abbrev cX4_sortOf : ByteArray := prog_6_method_3_code
def yX4_sortOf : MethodName := ⟨RX4, "sortOf", "(I)I"⟩
abbrev cX4_isRow : ByteArray := prog_6_method_4_code
def yX4_isRow : MethodName := ⟨RX4, "isRow", "(I)Z"⟩
abbrev cX4_sizeOf : ByteArray := prog_6_method_5_code
def yX4_sizeOf : MethodName := ⟨RX4, "sizeOf", "(I)I"⟩
abbrev cX4_set : ByteArray := prog_6_method_6_code
def yX4_set : MethodName := ⟨RX4, "set", "(III)V"⟩
abbrev cX4_empty : ByteArray := prog_6_method_7_code
def yX4_empty : MethodName := ⟨RX4, "empty", "(I)V"⟩
abbrev cX4_hasStretch : ByteArray := prog_6_method_8_code
def yX4_hasStretch : MethodName := ⟨RX4, "hasStretch", "(III)Z"⟩
abbrev cX4_at : ByteArray := prog_6_method_9_code
def yX4_at : MethodName := ⟨RX4, "at", "(II)J"⟩
abbrev cX4_write : ByteArray := prog_6_method_10_code
def yX4_write : MethodName := ⟨RX4, "write", "(IIJ)V"⟩
abbrev cX4_copy : ByteArray := prog_6_method_11_code
def yX4_copy : MethodName := ⟨RX4, "copy", "(IIIII)V"⟩
abbrev cX4_narrowed : ByteArray := prog_6_method_12_code
def yX4_narrowed : MethodName := ⟨RX4, "narrowed", "(IJ)J"⟩
def RX5 : String := "CutFromOthers$Stock"
def TX5 : u_T := fun k => match k with
  | 0 => ("CutFromOthers$Stock", "forms", "[LCutFromOthers$Form;", true)
  | 1 => ("CutFromOthers$Stock", "traits", "[I", true)
  | 2 => ("CutFromOthers$Stock", "below", "[I", true)
  | 3 => ("CutFromOthers$Stock", "byCells", "[I", true)
  | _ => ("CutFromOthers$Stock", "came", "I", false)
def tyX5 : Nat → FieldType := fun k => match k with
  | 0 => .array (.object "CutFromOthers$Form")
  | 1 => .array .int
  | 2 => .array .int
  | 3 => .array .int
  | _ => .int
theorem nmX5 : ∀ a, a < 5 → ∀ b, b < 5 → a ≠ b → (TX5 a).2.1 ≠ (TX5 b).2.1 := by decide +kernel
theorem tyX5_ok : ∀ k, k < 5 → parseFieldDescriptor (TX5 k).2.2.1 = some (tyX5 k) := by decide +kernel
abbrev cX5_init : ByteArray := prog_7_method_1_code
def yX5_init : MethodName := ⟨RX5, "<init>", "()V"⟩
abbrev cX5_came : ByteArray := prog_7_method_2_code
def yX5_came : MethodName := ⟨RX5, "came", "()I"⟩
abbrev cX5_has : ByteArray := prog_7_method_3_code
def yX5_has : MethodName := ⟨RX5, "has", "(I)Z"⟩
abbrev cX5_all : ByteArray := prog_7_method_4_code
def yX5_all : MethodName := ⟨RX5, "all", "()I"⟩
abbrev cX5_formOf : ByteArray := prog_7_method_5_code
def yX5_formOf : MethodName := ⟨RX5, "formOf", "(I)LCutFromOthers$Form;"⟩
abbrev cX5_traitOf : ByteArray := prog_7_method_6_code
def yX5_traitOf : MethodName := ⟨RX5, "traitOf", "(II)I"⟩
abbrev cX5_setTrait : ByteArray := prog_7_method_7_code
def yX5_setTrait : MethodName := ⟨RX5, "setTrait", "(III)V"⟩
abbrev cX5_outOf : ByteArray := prog_7_method_8_code
def yX5_outOf : MethodName := ⟨RX5, "outOf", "(I)I"⟩
abbrev cX5_bySize : ByteArray := prog_7_method_9_code
def yX5_bySize : MethodName := ⟨RX5, "bySize", "(I)I"⟩
abbrev cX5_add : ByteArray := prog_7_method_10_code
def yX5_add : MethodName := ⟨RX5, "add", "(II)I"⟩
abbrev cX5_cuttableOf : ByteArray := prog_7_method_11_code
def yX5_cuttableOf : MethodName := ⟨RX5, "cuttableOf", "(I)I"⟩
abbrev cX5_above : ByteArray := prog_7_method_12_code
def yX5_above : MethodName := ⟨RX5, "above", "(I)I"⟩
abbrev cX5_outOfAny : ByteArray := prog_7_method_13_code
def yX5_outOfAny : MethodName := ⟨RX5, "outOfAny", "(I)I"⟩
abbrev cX5_relate : ByteArray := prog_7_method_14_code
def yX5_relate : MethodName := ⟨RX5, "relate", "(I)V"⟩
abbrev cX5_sortIn : ByteArray := prog_7_method_15_code
def yX5_sortIn : MethodName := ⟨RX5, "sortIn", "(I)V"⟩
def RX6 : String := "CutFromOthers$Stones"
def TX6 : u_T := fun k => match k with
  | 0 => ("CutFromOthers$Stones", "kinds", "[I", true)
  | 1 => ("CutFromOthers$Stones", "traces", "[I", true)
  | 2 => ("CutFromOthers$Stones", "came", "I", false)
  | _ => ("CutFromOthers$Stones", "began", "I", false)
def tyX6 : Nat → FieldType := fun k => match k with
  | 0 => .array .int
  | 1 => .array .int
  | 2 => .int
  | _ => .int
theorem nmX6 : ∀ a, a < 4 → ∀ b, b < 4 → a ≠ b → (TX6 a).2.1 ≠ (TX6 b).2.1 := by decide +kernel
theorem tyX6_ok : ∀ k, k < 4 → parseFieldDescriptor (TX6 k).2.2.1 = some (tyX6 k) := by decide +kernel
abbrev cX6_init : ByteArray := prog_8_method_1_code
def yX6_init : MethodName := ⟨RX6, "<init>", "()V"⟩
abbrev cX6_kept : ByteArray := prog_8_method_2_code
def yX6_kept : MethodName := ⟨RX6, "kept", "()I"⟩
abbrev cX6_ran : ByteArray := prog_8_method_3_code
def yX6_ran : MethodName := ⟨RX6, "ran", "()I"⟩
abbrev cX6_has : ByteArray := prog_8_method_4_code
def yX6_has : MethodName := ⟨RX6, "has", "(I)Z"⟩
abbrev cX6_kindOf : ByteArray := prog_8_method_5_code
def yX6_kindOf : MethodName := ⟨RX6, "kindOf", "(I)I"⟩
abbrev cX6_add : ByteArray := prog_8_method_6_code
def yX6_add : MethodName := ⟨RX6, "add", "(I)I"⟩
abbrev cX6_traced : ByteArray := prog_8_method_7_code
def yX6_traced : MethodName := ⟨RX6, "traced", "(I)I"⟩
abbrev cX6_isUnder : ByteArray := prog_8_method_8_code
def yX6_isUnder : MethodName := ⟨RX6, "isUnder", "(II)Z"⟩
abbrev cX6_start : ByteArray := prog_8_method_9_code
def yX6_start : MethodName := ⟨RX6, "start", "(III)I"⟩
abbrev cX6_own : ByteArray := prog_8_method_10_code
def yX6_own : MethodName := ⟨RX6, "own", "(IIII)I"⟩
abbrev cX6_answer : ByteArray := prog_8_method_11_code
def yX6_answer : MethodName := ⟨RX6, "answer", "(IIIII)I"⟩
abbrev cX6_note : ByteArray := prog_8_method_12_code
def yX6_note : MethodName := ⟨RX6, "note", "(I)V"⟩
def RX7 : String := "CutFromOthers$Tape"
def TX7 : u_T := fun k => match k with
  | 0 => ("CutFromOthers$Tape", "bytes", "[I", true)
  | 1 => ("CutFromOthers$Tape", "code", "[I", true)
  | 2 => ("CutFromOthers$Tape", "fed", "I", false)
  | 3 => ("CutFromOthers$Tape", "at", "I", false)
  | _ => ("CutFromOthers$Tape", "written", "I", false)
def tyX7 : Nat → FieldType := fun k => match k with
  | 0 => .array .int
  | 1 => .array .int
  | 2 => .int
  | 3 => .int
  | _ => .int
theorem nmX7 : ∀ a, a < 5 → ∀ b, b < 5 → a ≠ b → (TX7 a).2.1 ≠ (TX7 b).2.1 := by decide +kernel
theorem tyX7_ok : ∀ k, k < 5 → parseFieldDescriptor (TX7 k).2.2.1 = some (tyX7 k) := by decide +kernel
abbrev cX7_init : ByteArray := prog_9_method_1_code
def yX7_init : MethodName := ⟨RX7, "<init>", "()V"⟩
abbrev cX7_length : ByteArray := prog_9_method_2_code
def yX7_length : MethodName := ⟨RX7, "length", "()I"⟩
abbrev cX7_add : ByteArray := prog_9_method_3_code
def yX7_add : MethodName := ⟨RX7, "add", "(I)I"⟩
abbrev cX7_clear : ByteArray := prog_9_method_4_code
def yX7_clear : MethodName := ⟨RX7, "clear", "()V"⟩
abbrev cX7_read : ByteArray := prog_9_method_5_code
def yX7_read : MethodName := ⟨RX7, "read", "()I"⟩
abbrev cX7_copyCode : ByteArray := prog_9_method_6_code
def yX7_copyCode : MethodName := ⟨RX7, "copyCode", "([I)I"⟩
abbrev cX7_readLine : ByteArray := prog_9_method_7_code
def yX7_readLine : MethodName := ⟨RX7, "readLine", "()Z"⟩
abbrev cX7_readJoined : ByteArray := prog_9_method_8_code
def yX7_readJoined : MethodName := ⟨RX7, "readJoined", "(II)Z"⟩
abbrev cX7_readOperand : ByteArray := prog_9_method_9_code
def yX7_readOperand : MethodName := ⟨RX7, "readOperand", "(I)Z"⟩
abbrev cX7_readNumber : ByteArray := prog_9_method_10_code
def yX7_readNumber : MethodName := ⟨RX7, "readNumber", "()V"⟩
abbrev cX7_signsOf : ByteArray := prog_9_method_11_code
def yX7_signsOf : MethodName := ⟨RX7, "signsOf", "(I)Ljava/lang/String;"⟩
abbrev cX7_isDigit : ByteArray := prog_9_method_12_code
def yX7_isDigit : MethodName := ⟨RX7, "isDigit", "()Z"⟩
abbrev cX7_isAhead : ByteArray := prog_9_method_13_code
def yX7_isAhead : MethodName := ⟨RX7, "isAhead", "(Ljava/lang/String;)Z"⟩
abbrev cX7_accepts : ByteArray := prog_9_method_14_code
def yX7_accepts : MethodName := ⟨RX7, "accepts", "(C)Z"⟩
abbrev cX7_write : ByteArray := prog_9_method_15_code
def yX7_write : MethodName := ⟨RX7, "write", "(I)V"⟩
def RX8 : String := "CutFromOthers$Told"
def TX8 : u_T := fun k => match k with
  | 0 => ("CutFromOthers$Told", "stock", "LCutFromOthers$Stock;", true)
  | 1 => ("CutFromOthers$Told", "fillings", "[I", false)
  | 2 => ("CutFromOthers$Told", "longer", "[I", false)
  | _ => ("CutFromOthers$Told", "lastRead", "I", false)
def tyX8 : Nat → FieldType := fun k => match k with
  | 0 => .object "CutFromOthers$Stock"
  | 1 => .array .int
  | 2 => .array .int
  | _ => .int
theorem nmX8 : ∀ a, a < 4 → ∀ b, b < 4 → a ≠ b → (TX8 a).2.1 ≠ (TX8 b).2.1 := by decide +kernel
theorem tyX8_ok : ∀ k, k < 4 → parseFieldDescriptor (TX8 k).2.2.1 = some (tyX8 k) := by decide +kernel
abbrev cX8_init : ByteArray := prog_10_method_1_code
def yX8_init : MethodName := ⟨RX8, "<init>", "(LCutFromOthers$Stock;)V"⟩
abbrev cX8_firstWrong : ByteArray := prog_10_method_2_code
def yX8_firstWrong : MethodName := ⟨RX8, "firstWrong", "(LCutFromOthers$Shelves;IIII)I"⟩
abbrev cX8_lastOnes : ByteArray := prog_10_method_3_code
def yX8_lastOnes : MethodName := ⟨RX8, "lastOnes", "(LCutFromOthers$Shelves;II)I"⟩
abbrev cX8_firstFilling : ByteArray := prog_10_method_4_code
def yX8_firstFilling : MethodName := ⟨RX8, "firstFilling", "(LCutFromOthers$Shelves;II)I"⟩
abbrev cX8_countFillings : ByteArray := prog_10_method_5_code
def yX8_countFillings : MethodName := ⟨RX8, "countFillings", "(LCutFromOthers$Shelves;II)I"⟩
abbrev cX8_goOn : ByteArray := prog_10_method_6_code
def yX8_goOn : MethodName := ⟨RX8, "goOn", "(I)V"⟩
abbrev cX8_meant : ByteArray := prog_10_method_7_code
def yX8_meant : MethodName := ⟨RX8, "meant", "(J)I"⟩
abbrev cX8_firstUnknown : ByteArray := prog_10_method_8_code
def yX8_firstUnknown : MethodName := ⟨RX8, "firstUnknown", "(LCutFromOthers$Shelves;I)I"⟩
def RX9 : String := "CutFromOthers$Yard"
def TX9 : u_T := fun k => match k with
  | 0 => ("CutFromOthers$Yard", "left", "[I", true)
  | 1 => ("CutFromOthers$Yard", "cutOf", "[I", true)
  | 2 => ("CutFromOthers$Yard", "ledger", "[I", true)
  | 3 => ("CutFromOthers$Yard", "imageLeft", "[I", true)
  | 4 => ("CutFromOthers$Yard", "imageCutOf", "[I", true)
  | 5 => ("CutFromOthers$Yard", "imageLedger", "[I", true)
  | 6 => ("CutFromOthers$Yard", "came", "I", false)
  | 7 => ("CutFromOthers$Yard", "imageBlocks", "I", false)
  | _ => ("CutFromOthers$Yard", "hasImage", "Z", false)
def tyX9 : Nat → FieldType := fun k => match k with
  | 0 => .array .int
  | 1 => .array .int
  | 2 => .array .int
  | 3 => .array .int
  | 4 => .array .int
  | 5 => .array .int
  | 6 => .int
  | 7 => .int
  | _ => .boolean
theorem nmX9 : ∀ a, a < 9 → ∀ b, b < 9 → a ≠ b → (TX9 a).2.1 ≠ (TX9 b).2.1 := by decide +kernel
theorem tyX9_ok : ∀ k, k < 9 → parseFieldDescriptor (TX9 k).2.2.1 = some (tyX9 k) := by decide +kernel
abbrev cX9_init : ByteArray := prog_11_method_1_code
def yX9_init : MethodName := ⟨RX9, "<init>", "()V"⟩
abbrev cX9_blocks : ByteArray := prog_11_method_2_code
def yX9_blocks : MethodName := ⟨RX9, "blocks", "()I"⟩
abbrev cX9_has : ByteArray := prog_11_method_3_code
def yX9_has : MethodName := ⟨RX9, "has", "(I)Z"⟩
abbrev cX9_add : ByteArray := prog_11_method_4_code
def yX9_add : MethodName := ⟨RX9, "add", "(I)I"⟩
abbrev cX9_leftOf : ByteArray := prog_11_method_5_code
def yX9_leftOf : MethodName := ⟨RX9, "leftOf", "(I)I"⟩
abbrev cX9_cutsOf : ByteArray := prog_11_method_6_code
def yX9_cutsOf : MethodName := ⟨RX9, "cutsOf", "(I)I"⟩
abbrev cX9_ledger : ByteArray := prog_11_method_7_code
def yX9_ledger : MethodName := ⟨RX9, "ledger", "(I)I"⟩
abbrev cX9_take : ByteArray := prog_11_method_8_code
def yX9_take : MethodName := ⟨RX9, "take", "(III)V"⟩
abbrev cX9_letPass : ByteArray := prog_11_method_9_code
def yX9_letPass : MethodName := ⟨RX9, "letPass", "(I)I"⟩
abbrev cX9_store : ByteArray := prog_11_method_10_code
def yX9_store : MethodName := ⟨RX9, "store", "()V"⟩
abbrev cX9_restore : ByteArray := prog_11_method_11_code
def yX9_restore : MethodName := ⟨RX9, "restore", "()Z"⟩
def RX10 : String := "CutFromOthers"
def TX10 : u_T := fun k => match k with
  | 0 => ("CutFromOthers", "stock", "LCutFromOthers$Stock;", true)
  | 1 => ("CutFromOthers", "tape", "LCutFromOthers$Tape;", true)
  | 2 => ("CutFromOthers", "rule", "LCutFromOthers$Rule;", true)
  | 3 => ("CutFromOthers", "rows", "LCutFromOthers$Rows;", true)
  | 4 => ("CutFromOthers", "told", "LCutFromOthers$Told;", true)
  | 5 => ("CutFromOthers", "yard", "LCutFromOthers$Yard;", true)
  | 6 => ("CutFromOthers", "changes", "LCutFromOthers$Changes;", true)
  | 7 => ("CutFromOthers", "stones", "LCutFromOthers$Stones;", true)
  | 8 => ("CutFromOthers", "shelves", "LCutFromOthers$Shelves;", true)
  | _ => ("CutFromOthers", "guest", "LCutFromOthers$Form;", true)
def tyX10 : Nat → FieldType := fun k => match k with
  | 0 => .object "CutFromOthers$Stock"
  | 1 => .object "CutFromOthers$Tape"
  | 2 => .object "CutFromOthers$Rule"
  | 3 => .object "CutFromOthers$Rows"
  | 4 => .object "CutFromOthers$Told"
  | 5 => .object "CutFromOthers$Yard"
  | 6 => .object "CutFromOthers$Changes"
  | 7 => .object "CutFromOthers$Stones"
  | 8 => .object "CutFromOthers$Shelves"
  | _ => .object "CutFromOthers$Form"
theorem nmX10 : ∀ a, a < 10 → ∀ b, b < 10 → a ≠ b → (TX10 a).2.1 ≠ (TX10 b).2.1 := by decide +kernel
theorem tyX10_ok : ∀ k, k < 10 → parseFieldDescriptor (TX10 k).2.2.1 = some (tyX10 k) := by decide +kernel
abbrev cX10_init : ByteArray := prog_1_method_1_code
def yX10_init : MethodName := ⟨RX10, "<init>", "()V"⟩
abbrev cX10_figure : ByteArray := prog_1_method_2_code
def yX10_figure : MethodName := ⟨RX10, "figure", "(I)I"⟩
abbrev cX10_figures : ByteArray := prog_1_method_3_code
def yX10_figures : MethodName := ⟨RX10, "figures", "(III)I"⟩
abbrev cX10_block : ByteArray := prog_1_method_4_code
def yX10_block : MethodName := ⟨RX10, "block", "(I)I"⟩
abbrev cX10_mend : ByteArray := prog_1_method_5_code
def yX10_mend : MethodName := ⟨RX10, "mend", "(III)I"⟩
abbrev cX10_of : ByteArray := prog_1_method_6_code
def yX10_of : MethodName := ⟨RX10, "of", "(II)I"⟩
abbrev cX10_feed : ByteArray := prog_1_method_7_code
def yX10_feed : MethodName := ⟨RX10, "feed", "(I)I"⟩
abbrev cX10_law : ByteArray := prog_1_method_8_code
def yX10_law : MethodName := ⟨RX10, "law", "()I"⟩
abbrev cX10_brings : ByteArray := prog_1_method_9_code
def yX10_brings : MethodName := ⟨RX10, "brings", "(III)I"⟩
abbrev cX10_size : ByteArray := prog_1_method_10_code
def yX10_size : MethodName := ⟨RX10, "size", "(II)I"⟩
abbrev cX10_turned : ByteArray := prog_1_method_11_code
def yX10_turned : MethodName := ⟨RX10, "turned", "(II)I"⟩
abbrev cX10_ways : ByteArray := prog_1_method_12_code
def yX10_ways : MethodName := ⟨RX10, "ways", "(II)I"⟩
abbrev cX10_inside : ByteArray := prog_1_method_13_code
def yX10_inside : MethodName := ⟨RX10, "inside", "(I)I"⟩
abbrev cX10_around : ByteArray := prog_1_method_14_code
def yX10_around : MethodName := ⟨RX10, "around", "(II)I"⟩
abbrev cX10_common : ByteArray := prog_1_method_15_code
def yX10_common : MethodName := ⟨RX10, "common", "(I)I"⟩
abbrev cX10_longest : ByteArray := prog_1_method_16_code
def yX10_longest : MethodName := ⟨RX10, "longest", "(II)I"⟩
abbrev cX10_richest : ByteArray := prog_1_method_17_code
def yX10_richest : MethodName := ⟨RX10, "richest", "(III)I"⟩
abbrev cX10_with : ByteArray := prog_1_method_18_code
def yX10_with : MethodName := ⟨RX10, "with", "(II)I"⟩
abbrev cX10_spare : ByteArray := prog_1_method_19_code
def yX10_spare : MethodName := ⟨RX10, "spare", "(II)I"⟩
abbrev cX10_when : ByteArray := prog_1_method_20_code
def yX10_when : MethodName := ⟨RX10, "when", "(II)I"⟩
abbrev cX10_smallest : ByteArray := prog_1_method_21_code
def yX10_smallest : MethodName := ⟨RX10, "smallest", "(II)I"⟩
abbrev cX10_leave : ByteArray := prog_1_method_22_code
def yX10_leave : MethodName := ⟨RX10, "leave", "(II)I"⟩
abbrev cX10_byTurns : ByteArray := prog_1_method_23_code
def yX10_byTurns : MethodName := ⟨RX10, "byTurns", "(II)I"⟩
abbrev cX10_egg : ByteArray := prog_1_method_24_code
def yX10_egg : MethodName := ⟨RX10, "egg", "(II)I"⟩
abbrev cX10_judge : ByteArray := prog_1_method_25_code
def yX10_judge : MethodName := ⟨RX10, "judge", "(II)I"⟩
abbrev cX10_filled : ByteArray := prog_1_method_26_code
def yX10_filled : MethodName := ⟨RX10, "filled", "(III)I"⟩
abbrev cX10_last : ByteArray := prog_1_method_27_code
def yX10_last : MethodName := ⟨RX10, "last", "(II)I"⟩
abbrev cX10_drawn : ByteArray := prog_1_method_28_code
def yX10_drawn : MethodName := ⟨RX10, "drawn", "(IIII)I"⟩
abbrev cX10_cut : ByteArray := prog_1_method_29_code
def yX10_cut : MethodName := ⟨RX10, "cut", "(I)I"⟩
abbrev cX10_pass : ByteArray := prog_1_method_30_code
def yX10_pass : MethodName := ⟨RX10, "pass", "(I)I"⟩
abbrev cX10_led : ByteArray := prog_1_method_31_code
def yX10_led : MethodName := ⟨RX10, "led", "(I)I"⟩
abbrev cX10_image : ByteArray := prog_1_method_32_code
def yX10_image : MethodName := ⟨RX10, "image", "()I"⟩
abbrev cX10_back : ByteArray := prog_1_method_33_code
def yX10_back : MethodName := ⟨RX10, "back", "()I"⟩
abbrev cX10_undo : ByteArray := prog_1_method_34_code
def yX10_undo : MethodName := ⟨RX10, "undo", "()I"⟩
abbrev cX10_redo : ByteArray := prog_1_method_35_code
def yX10_redo : MethodName := ⟨RX10, "redo", "()I"⟩
abbrev cX10_body : ByteArray := prog_1_method_36_code
def yX10_body : MethodName := ⟨RX10, "body", "(I)I"⟩
abbrev cX10_act : ByteArray := prog_1_method_37_code
def yX10_act : MethodName := ⟨RX10, "act", "(III)I"⟩
abbrev cX10_trace : ByteArray := prog_1_method_38_code
def yX10_trace : MethodName := ⟨RX10, "trace", "(I)I"⟩
abbrev cX10_keep : ByteArray := prog_1_method_39_code
def yX10_keep : MethodName := ⟨RX10, "keep", "(II)I"⟩
abbrev cX10_row : ByteArray := prog_1_method_40_code
def yX10_row : MethodName := ⟨RX10, "row", "(III)I"⟩
abbrev cX10_put : ByteArray := prog_1_method_41_code
def yX10_put : MethodName := ⟨RX10, "put", "(IIJ)I"⟩
abbrev cX10_element : ByteArray := prog_1_method_42_code
def yX10_element : MethodName := ⟨RX10, "element", "(II)J"⟩
abbrev cX10_shift : ByteArray := prog_1_method_43_code
def yX10_shift : MethodName := ⟨RX10, "shift", "(IIIII)I"⟩
abbrev cX10_taken : ByteArray := prog_1_method_44_code
def yX10_taken : MethodName := ⟨RX10, "taken", "(II)I"⟩
abbrev cX10_count : ByteArray := prog_1_method_45_code
def yX10_count : MethodName := ⟨RX10, "count", "(I)I"⟩
abbrev cX10_isShape : ByteArray := prog_1_method_46_code
def yX10_isShape : MethodName := ⟨RX10, "isShape", "(I)Z"⟩
abbrev cX10_isYear : ByteArray := prog_1_method_47_code
def yX10_isYear : MethodName := ⟨RX10, "isYear", "(I)Z"⟩
abbrev cX10_holds : ByteArray := prog_1_method_48_code
def yX10_holds : MethodName := ⟨RX10, "holds", "(II)Z"⟩
abbrev cX10_isBlockAndFigure : ByteArray := prog_1_method_49_code
def yX10_isBlockAndFigure : MethodName := ⟨RX10, "isBlockAndFigure", "(I)Z"⟩
abbrev cX10_isTwoFigures : ByteArray := prog_1_method_50_code
def yX10_isTwoFigures : MethodName := ⟨RX10, "isTwoFigures", "(I)Z"⟩
abbrev cX10_firstOutOf : ByteArray := prog_1_method_51_code
def yX10_firstOutOf : MethodName := ⟨RX10, "firstOutOf", "(I)I"⟩
abbrev cX10_partOf : ByteArray := prog_1_method_52_code
def yX10_partOf : MethodName := ⟨RX10, "partOf", "(I)I"⟩
abbrev cX10_figuresCome : ByteArray := prog_1_method_53_code
def yX10_figuresCome : MethodName := ⟨RX10, "figuresCome", "(III)I"⟩
abbrev cX10_refusalOfTold : ByteArray := prog_1_method_54_code
def yX10_refusalOfTold : MethodName := ⟨RX10, "refusalOfTold", "(II)I"⟩
abbrev cX10_refusalOfElement : ByteArray := prog_1_method_55_code
def yX10_refusalOfElement : MethodName := ⟨RX10, "refusalOfElement", "(II)I"⟩
def RX11 : String := "CutFromOthersModel"
def TX11 : u_T := fun k => match k with
  | 0 => ("CutFromOthersModel", "figures", "I", false)
  | 1 => ("CutFromOthersModel", "shape", "[I", true)
  | 2 => ("CutFromOthersModel", "worth", "[I", true)
  | 3 => ("CutFromOthersModel", "fades", "[I", true)
  | 4 => ("CutFromOthersModel", "wanted", "[I", true)
  | 5 => ("CutFromOthersModel", "blocks", "I", false)
  | 6 => ("CutFromOthersModel", "left", "[I", true)
  | 7 => ("CutFromOthersModel", "cuts", "[I", true)
  | 8 => ("CutFromOthersModel", "now", "I", false)
  | 9 => ("CutFromOthersModel", "taped", "I", false)
  | 10 => ("CutFromOthersModel", "tape", "[I", true)
  | 11 => ("CutFromOthersModel", "isTold", "Z", false)
  | 12 => ("CutFromOthersModel", "lines", "I", false)
  | 13 => ("CutFromOthersModel", "asks", "[I", true)
  | 14 => ("CutFromOthersModel", "says", "[I", true)
  | 15 => ("CutFromOthersModel", "ends", "[I", true)
  | 16 => ("CutFromOthersModel", "code", "[I", true)
  | 17 => ("CutFromOthersModel", "at", "I", false)
  | 18 => ("CutFromOthersModel", "open", "I", false)
  | 19 => ("CutFromOthersModel", "coded", "I", false)
  | 20 => ("CutFromOthersModel", "newLines", "I", false)
  | 21 => ("CutFromOthersModel", "newAsks", "[I", true)
  | 22 => ("CutFromOthersModel", "newSays", "[I", true)
  | 23 => ("CutFromOthersModel", "newEnds", "[I", true)
  | 24 => ("CutFromOthersModel", "newCode", "[I", true)
  | 25 => ("CutFromOthersModel", "stack", "[I", true)
  | 26 => ("CutFromOthersModel", "names", "[I", true)
  | 27 => ("CutFromOthersModel", "led", "[I", true)
  | 28 => ("CutFromOthersModel", "imaged", "Z", false)
  | 29 => ("CutFromOthersModel", "oldBlocks", "I", false)
  | 30 => ("CutFromOthersModel", "oldNow", "I", false)
  | 31 => ("CutFromOthersModel", "oldLeft", "[I", true)
  | 32 => ("CutFromOthersModel", "oldCuts", "[I", true)
  | 33 => ("CutFromOthersModel", "oldLed", "[I", true)
  | 34 => ("CutFromOthersModel", "changes", "I", false)
  | 35 => ("CutFromOthersModel", "done", "I", false)
  | 36 => ("CutFromOthersModel", "changed", "[I", true)
  | 37 => ("CutFromOthersModel", "bodies", "I", false)
  | 38 => ("CutFromOthersModel", "kind", "[I", true)
  | 39 => ("CutFromOthersModel", "traced", "I", false)
  | 40 => ("CutFromOthersModel", "traces", "[I", true)
  | 41 => ("CutFromOthersModel", "holding", "[I", true)
  | 42 => ("CutFromOthersModel", "rowLength", "[I", true)
  | 43 => ("CutFromOthersModel", "rowOf", "[J", true)
  | 44 => ("CutFromOthersModel", "of", "[I", true)
  | 45 => ("CutFromOthersModel", "more", "[I", true)
  | 46 => ("CutFromOthersModel", "brought", "[I", true)
  | 47 => ("CutFromOthersModel", "longs", "[I", true)
  | 48 => ("CutFromOthersModel", "wins", "[I", true)
  | _ => ("CutFromOthersModel", "lasts", "[I", true)
def tyX11 : Nat → FieldType := fun k => match k with
  | 0 => .int
  | 1 => .array .int
  | 2 => .array .int
  | 3 => .array .int
  | 4 => .array .int
  | 5 => .int
  | 6 => .array .int
  | 7 => .array .int
  | 8 => .int
  | 9 => .int
  | 10 => .array .int
  | 11 => .boolean
  | 12 => .int
  | 13 => .array .int
  | 14 => .array .int
  | 15 => .array .int
  | 16 => .array .int
  | 17 => .int
  | 18 => .int
  | 19 => .int
  | 20 => .int
  | 21 => .array .int
  | 22 => .array .int
  | 23 => .array .int
  | 24 => .array .int
  | 25 => .array .int
  | 26 => .array .int
  | 27 => .array .int
  | 28 => .boolean
  | 29 => .int
  | 30 => .int
  | 31 => .array .int
  | 32 => .array .int
  | 33 => .array .int
  | 34 => .int
  | 35 => .int
  | 36 => .array .int
  | 37 => .int
  | 38 => .array .int
  | 39 => .int
  | 40 => .array .int
  | 41 => .array .int
  | 42 => .array .int
  | 43 => .array .long
  | 44 => .array .int
  | 45 => .array .int
  | 46 => .array .int
  | 47 => .array .int
  | 48 => .array .int
  | _ => .array .int
theorem nmX11 : ∀ a, a < 50 → ∀ b, b < 50 → a ≠ b → (TX11 a).2.1 ≠ (TX11 b).2.1 := by decide +kernel
theorem tyX11_ok : ∀ k, k < 50 → parseFieldDescriptor (TX11 k).2.2.1 = some (tyX11 k) := by decide +kernel
abbrev cX11_init : ByteArray := prog_13_method_1_code
def yX11_init : MethodName := ⟨RX11, "<init>", "()V"⟩
abbrev cX11_within : ByteArray := prog_13_method_2_code
def yX11_within : MethodName := ⟨RX11, "within", "(III)Z"⟩
abbrev cX11_isFigure : ByteArray := prog_13_method_3_code
def yX11_isFigure : MethodName := ⟨RX11, "isFigure", "(I)Z"⟩
abbrev cX11_isBlock : ByteArray := prog_13_method_4_code
def yX11_isBlock : MethodName := ⟨RX11, "isBlock", "(I)Z"⟩
abbrev cX11_isIn : ByteArray := prog_13_method_5_code
def yX11_isIn : MethodName := ⟨RX11, "isIn", "(I)Z"⟩
abbrev cX11_areTwo : ByteArray := prog_13_method_6_code
def yX11_areTwo : MethodName := ⟨RX11, "areTwo", "(I)Z"⟩
abbrev cX11_isShape : ByteArray := prog_13_method_7_code
def yX11_isShape : MethodName := ⟨RX11, "isShape", "(I)Z"⟩
abbrev cX11_isYear : ByteArray := prog_13_method_8_code
def yX11_isYear : MethodName := ⟨RX11, "isYear", "(I)Z"⟩
abbrev cX11_isShelf : ByteArray := prog_13_method_9_code
def yX11_isShelf : MethodName := ⟨RX11, "isShelf", "(I)Z"⟩
abbrev cX11_has : ByteArray := prog_13_method_10_code
def yX11_has : MethodName := ⟨RX11, "has", "(II)Z"⟩
abbrev cX11_cells : ByteArray := prog_13_method_11_code
def yX11_cells : MethodName := ⟨RX11, "cells", "(I)I"⟩
abbrev cX11_pushed : ByteArray := prog_13_method_12_code
def yX11_pushed : MethodName := ⟨RX11, "pushed", "(I)I"⟩
abbrev cX11_turnedOnce : ByteArray := prog_13_method_13_code
def yX11_turnedOnce : MethodName := ⟨RX11, "turnedOnce", "(I)I"⟩
abbrev cX11_turnedBy : ByteArray := prog_13_method_14_code
def yX11_turnedBy : MethodName := ⟨RX11, "turnedBy", "(II)I"⟩
abbrev cX11_moved : ByteArray := prog_13_method_15_code
def yX11_moved : MethodName := ⟨RX11, "moved", "(III)I"⟩
abbrev cX11_placed : ByteArray := prog_13_method_16_code
def yX11_placed : MethodName := ⟨RX11, "placed", "(II)I"⟩
abbrev cX11_isWay : ByteArray := prog_13_method_17_code
def yX11_isWay : MethodName := ⟨RX11, "isWay", "(I)Z"⟩
abbrev cX11_waysIn : ByteArray := prog_13_method_18_code
def yX11_waysIn : MethodName := ⟨RX11, "waysIn", "(III)I"⟩
abbrev cX11_isCutOf : ByteArray := prog_13_method_19_code
def yX11_isCutOf : MethodName := ⟨RX11, "isCutOf", "(II)Z"⟩
abbrev cX11_cutOf : ByteArray := prog_13_method_20_code
def yX11_cutOf : MethodName := ⟨RX11, "cutOf", "(I)I"⟩
abbrev cX11_looks : ByteArray := prog_13_method_21_code
def yX11_looks : MethodName := ⟨RX11, "looks", "(I)V"⟩
abbrev cX11_newFigure : ByteArray := prog_13_method_22_code
def yX11_newFigure : MethodName := ⟨RX11, "newFigure", "(II)I"⟩
abbrev cX11_figure : ByteArray := prog_13_method_23_code
def yX11_figure : MethodName := ⟨RX11, "figure", "(I)I"⟩
abbrev cX11_figures : ByteArray := prog_13_method_24_code
def yX11_figures : MethodName := ⟨RX11, "figures", "(III)I"⟩
abbrev cX11_block : ByteArray := prog_13_method_25_code
def yX11_block : MethodName := ⟨RX11, "block", "(I)I"⟩
abbrev cX11_get : ByteArray := prog_13_method_26_code
def yX11_get : MethodName := ⟨RX11, "get", "(II)I"⟩
abbrev cX11_becomes : ByteArray := prog_13_method_27_code
def yX11_becomes : MethodName := ⟨RX11, "becomes", "(III)V"⟩
abbrev cX11_mend : ByteArray := prog_13_method_28_code
def yX11_mend : MethodName := ⟨RX11, "mend", "(III)I"⟩
abbrev cX11_of : ByteArray := prog_13_method_29_code
def yX11_of : MethodName := ⟨RX11, "of", "(II)I"⟩
abbrev cX11_undo : ByteArray := prog_13_method_30_code
def yX11_undo : MethodName := ⟨RX11, "undo", "()I"⟩
abbrev cX11_redo : ByteArray := prog_13_method_31_code
def yX11_redo : MethodName := ⟨RX11, "redo", "()I"⟩
abbrev cX11_feed : ByteArray := prog_13_method_32_code
def yX11_feed : MethodName := ⟨RX11, "feed", "(I)I"⟩
abbrev cX11_sign : ByteArray := prog_13_method_33_code
def yX11_sign : MethodName := ⟨RX11, "sign", "()I"⟩
abbrev cX11_is : ByteArray := prog_13_method_34_code
def yX11_is : MethodName := ⟨RX11, "is", "(I)Z"⟩
abbrev cX11_codes : ByteArray := prog_13_method_35_code
def yX11_codes : MethodName := ⟨RX11, "codes", "(I)Z"⟩
abbrev cX11_isDigit : ByteArray := prog_13_method_36_code
def yX11_isDigit : MethodName := ⟨RX11, "isDigit", "()Z"⟩
abbrev cX11_nameOf : ByteArray := prog_13_method_37_code
def yX11_nameOf : MethodName := ⟨RX11, "nameOf", "(I)I"⟩
abbrev cX11_isO : ByteArray := prog_13_method_38_code
def yX11_isO : MethodName := ⟨RX11, "isO", "()Z"⟩
abbrev cX11_isP : ByteArray := prog_13_method_39_code
def yX11_isP : MethodName := ⟨RX11, "isP", "()Z"⟩
abbrev cX11_isS : ByteArray := prog_13_method_40_code
def yX11_isS : MethodName := ⟨RX11, "isS", "()Z"⟩
abbrev cX11_isB : ByteArray := prog_13_method_41_code
def yX11_isB : MethodName := ⟨RX11, "isB", "()Z"⟩
abbrev cX11_isA : ByteArray := prog_13_method_42_code
def yX11_isA : MethodName := ⟨RX11, "isA", "()Z"⟩
abbrev cX11_isE : ByteArray := prog_13_method_43_code
def yX11_isE : MethodName := ⟨RX11, "isE", "()Z"⟩
abbrev cX11_isLine : ByteArray := prog_13_method_44_code
def yX11_isLine : MethodName := ⟨RX11, "isLine", "()Z"⟩
abbrev cX11_law : ByteArray := prog_13_method_45_code
def yX11_law : MethodName := ⟨RX11, "law", "()I"⟩
abbrev cX11_both : ByteArray := prog_13_method_46_code
def yX11_both : MethodName := ⟨RX11, "both", "(III)I"⟩
abbrev cX11_worked : ByteArray := prog_13_method_47_code
def yX11_worked : MethodName := ⟨RX11, "worked", "(II)I"⟩
abbrev cX11_bringsIn : ByteArray := prog_13_method_48_code
def yX11_bringsIn : MethodName := ⟨RX11, "bringsIn", "(III)I"⟩
abbrev cX11_brings : ByteArray := prog_13_method_49_code
def yX11_brings : MethodName := ⟨RX11, "brings", "(III)I"⟩
abbrev cX11_size : ByteArray := prog_13_method_50_code
def yX11_size : MethodName := ⟨RX11, "size", "(II)I"⟩
abbrev cX11_turned : ByteArray := prog_13_method_51_code
def yX11_turned : MethodName := ⟨RX11, "turned", "(II)I"⟩
abbrev cX11_ways : ByteArray := prog_13_method_52_code
def yX11_ways : MethodName := ⟨RX11, "ways", "(II)I"⟩
abbrev cX11_inside : ByteArray := prog_13_method_53_code
def yX11_inside : MethodName := ⟨RX11, "inside", "(I)I"⟩
abbrev cX11_around : ByteArray := prog_13_method_54_code
def yX11_around : MethodName := ⟨RX11, "around", "(II)I"⟩
abbrev cX11_common : ByteArray := prog_13_method_55_code
def yX11_common : MethodName := ⟨RX11, "common", "(I)I"⟩
abbrev cX11_longestOf : ByteArray := prog_13_method_56_code
def yX11_longestOf : MethodName := ⟨RX11, "longestOf", "(I)I"⟩
abbrev cX11_mostOf : ByteArray := prog_13_method_57_code
def yX11_mostOf : MethodName := ⟨RX11, "mostOf", "(II)I"⟩
abbrev cX11_longest : ByteArray := prog_13_method_58_code
def yX11_longest : MethodName := ⟨RX11, "longest", "(II)I"⟩
abbrev cX11_firstOf : ByteArray := prog_13_method_59_code
def yX11_firstOf : MethodName := ⟨RX11, "firstOf", "(II)I"⟩
abbrev cX11_rich : ByteArray := prog_13_method_60_code
def yX11_rich : MethodName := ⟨RX11, "rich", "(III)V"⟩
abbrev cX11_richest : ByteArray := prog_13_method_61_code
def yX11_richest : MethodName := ⟨RX11, "richest", "(III)I"⟩
abbrev cX11_nextRich : ByteArray := prog_13_method_62_code
def yX11_nextRich : MethodName := ⟨RX11, "nextRich", "(III)I"⟩
abbrev cX11_between : ByteArray := prog_13_method_63_code
def yX11_between : MethodName := ⟨RX11, "between", "(II)I"⟩
abbrev cX11_through : ByteArray := prog_13_method_64_code
def yX11_through : MethodName := ⟨RX11, "through", "(II)I"⟩
abbrev cX11_with : ByteArray := prog_13_method_65_code
def yX11_with : MethodName := ⟨RX11, "with", "(II)I"⟩
abbrev cX11_spare : ByteArray := prog_13_method_66_code
def yX11_spare : MethodName := ⟨RX11, "spare", "(II)I"⟩
abbrev cX11_when : ByteArray := prog_13_method_67_code
def yX11_when : MethodName := ⟨RX11, "when", "(II)I"⟩
abbrev cX11_smallest : ByteArray := prog_13_method_68_code
def yX11_smallest : MethodName := ⟨RX11, "smallest", "(II)I"⟩
abbrev cX11_leave : ByteArray := prog_13_method_69_code
def yX11_leave : MethodName := ⟨RX11, "leave", "(II)I"⟩
abbrev cX11_plays : ByteArray := prog_13_method_70_code
def yX11_plays : MethodName := ⟨RX11, "plays", "(I)V"⟩
abbrev cX11_byTurns : ByteArray := prog_13_method_71_code
def yX11_byTurns : MethodName := ⟨RX11, "byTurns", "(II)I"⟩
abbrev cX11_egg : ByteArray := prog_13_method_72_code
def yX11_egg : MethodName := ⟨RX11, "egg", "(II)I"⟩
abbrev cX11_noRow : ByteArray := prog_13_method_73_code
def yX11_noRow : MethodName := ⟨RX11, "noRow", "(I)I"⟩
abbrev cX11_toldAt : ByteArray := prog_13_method_74_code
def yX11_toldAt : MethodName := ⟨RX11, "toldAt", "(II)I"⟩
abbrev cX11_asTold : ByteArray := prog_13_method_75_code
def yX11_asTold : MethodName := ⟨RX11, "asTold", "(III)I"⟩
abbrev cX11_nextOf : ByteArray := prog_13_method_76_code
def yX11_nextOf : MethodName := ⟨RX11, "nextOf", "(I)I"⟩
abbrev cX11_canBe : ByteArray := prog_13_method_77_code
def yX11_canBe : MethodName := ⟨RX11, "canBe", "(II)I"⟩
abbrev cX11_judge : ByteArray := prog_13_method_78_code
def yX11_judge : MethodName := ⟨RX11, "judge", "(II)I"⟩
abbrev cX11_waysOn : ByteArray := prog_13_method_79_code
def yX11_waysOn : MethodName := ⟨RX11, "waysOn", "(III)I"⟩
abbrev cX11_firstUnknown : ByteArray := prog_13_method_80_code
def yX11_firstUnknown : MethodName := ⟨RX11, "firstUnknown", "(I)I"⟩
abbrev cX11_filled : ByteArray := prog_13_method_81_code
def yX11_filled : MethodName := ⟨RX11, "filled", "(III)I"⟩
abbrev cX11_last : ByteArray := prog_13_method_82_code
def yX11_last : MethodName := ⟨RX11, "last", "(II)I"⟩
abbrev cX11_drawn : ByteArray := prog_13_method_83_code
def yX11_drawn : MethodName := ⟨RX11, "drawn", "(IIII)I"⟩
abbrev cX11_pick : ByteArray := prog_13_method_84_code
def yX11_pick : MethodName := ⟨RX11, "pick", "(II)I"⟩
abbrev cX11_cut : ByteArray := prog_13_method_85_code
def yX11_cut : MethodName := ⟨RX11, "cut", "(I)I"⟩
abbrev cX11_pass : ByteArray := prog_13_method_86_code
def yX11_pass : MethodName := ⟨RX11, "pass", "(I)I"⟩
abbrev cX11_led : ByteArray := prog_13_method_87_code
def yX11_led : MethodName := ⟨RX11, "led", "(I)I"⟩
abbrev cX11_image : ByteArray := prog_13_method_88_code
def yX11_image : MethodName := ⟨RX11, "image", "()I"⟩
abbrev cX11_back : ByteArray := prog_13_method_89_code
def yX11_back : MethodName := ⟨RX11, "back", "()I"⟩
abbrev cX11_above : ByteArray := prog_13_method_90_code
def yX11_above : MethodName := ⟨RX11, "above", "(I)I"⟩
abbrev cX11_ran : ByteArray := prog_13_method_91_code
def yX11_ran : MethodName := ⟨RX11, "ran", "(I)V"⟩
abbrev cX11_cutsBy : ByteArray := prog_13_method_92_code
def yX11_cutsBy : MethodName := ⟨RX11, "cutsBy", "(III)I"⟩
abbrev cX11_holdsBy : ByteArray := prog_13_method_93_code
def yX11_holdsBy : MethodName := ⟨RX11, "holdsBy", "(III)I"⟩
abbrev cX11_leavesBy : ByteArray := prog_13_method_94_code
def yX11_leavesBy : MethodName := ⟨RX11, "leavesBy", "(III)I"⟩
abbrev cX11_tells : ByteArray := prog_13_method_95_code
def yX11_tells : MethodName := ⟨RX11, "tells", "(III)I"⟩
abbrev cX11_body : ByteArray := prog_13_method_96_code
def yX11_body : MethodName := ⟨RX11, "body", "(I)I"⟩
abbrev cX11_act : ByteArray := prog_13_method_97_code
def yX11_act : MethodName := ⟨RX11, "act", "(III)I"⟩
abbrev cX11_trace : ByteArray := prog_13_method_98_code
def yX11_trace : MethodName := ⟨RX11, "trace", "(I)I"⟩
abbrev cX11_keep : ByteArray := prog_13_method_99_code
def yX11_keep : MethodName := ⟨RX11, "keep", "(II)I"⟩
abbrev cX11_row : ByteArray := prog_13_method_100_code
def yX11_row : MethodName := ⟨RX11, "row", "(III)I"⟩
abbrev cX11_isRow : ByteArray := prog_13_method_101_code
def yX11_isRow : MethodName := ⟨RX11, "isRow", "(I)Z"⟩
abbrev cX11_kept : ByteArray := prog_13_method_102_code
def yX11_kept : MethodName := ⟨RX11, "kept", "(IJ)J"⟩
abbrev cX11_put : ByteArray := prog_13_method_103_code
def yX11_put : MethodName := ⟨RX11, "put", "(IIJ)I"⟩
abbrev cX11_element : ByteArray := prog_13_method_104_code
def yX11_element : MethodName := ⟨RX11, "element", "(II)J"⟩
abbrev cX11_shift : ByteArray := prog_13_method_105_code
def yX11_shift : MethodName := ⟨RX11, "shift", "(IIIII)I"⟩
abbrev cX11_taken : ByteArray := prog_13_method_106_code
def yX11_taken : MethodName := ⟨RX11, "taken", "(II)I"⟩
abbrev cX11_count : ByteArray := prog_13_method_107_code
def yX11_count : MethodName := ⟨RX11, "count", "(I)I"⟩
def RJ11 : String := "java/lang/Character"
abbrev cJ11_isValidCodePoint_9a6ad : ByteArray := prog_14_method_11_code
def yJ11_isValidCodePoint_9a6ad : MethodName := ⟨RJ11, "isValidCodePoint", "(I)Z"⟩
abbrev cJ11_highSurrogate_5068e : ByteArray := prog_14_method_28_code
def yJ11_highSurrogate_5068e : MethodName := ⟨RJ11, "highSurrogate", "(I)C"⟩
abbrev cJ11_lowSurrogate_5068e : ByteArray := prog_14_method_29_code
def yJ11_lowSurrogate_5068e : MethodName := ⟨RJ11, "lowSurrogate", "(I)C"⟩
def RJ6 : String := "java/lang/Integer"
abbrev cJ6_bitCount_0f7a4 : ByteArray := prog_15_method_49_code
def yJ6_bitCount_0f7a4 : MethodName := ⟨RJ6, "bitCount", "(I)I"⟩
def RJ9 : String := "java/lang/Math"
abbrev cJ9_abs_0f7a4 : ByteArray := prog_16_method_59_code
def yJ9_abs_0f7a4 : MethodName := ⟨RJ9, "abs", "(I)I"⟩
abbrev cJ9_max_7cf53 : ByteArray := prog_16_method_65_code
def yJ9_max_7cf53 : MethodName := ⟨RJ9, "max", "(II)I"⟩
abbrev cJ9_min_7cf53 : ByteArray := prog_16_method_69_code
def yJ9_min_7cf53 : MethodName := ⟨RJ9, "min", "(II)I"⟩
def RJ0 : String := "java/lang/String"
abbrev cJ0_length_8abf5 : ByteArray := prog_17_method_54_code
def yJ0_length_8abf5 : MethodName := ⟨RJ0, "length", "()I"⟩
abbrev cJ0_indexOf_0f7a4 : ByteArray := prog_17_method_79_code
def yJ0_indexOf_0f7a4 : MethodName := ⟨RJ0, "indexOf", "(I)I"⟩
abbrev cJ0_indexOf_7cf53 : ByteArray := prog_17_method_80_code
def yJ0_indexOf_7cf53 : MethodName := ⟨RJ0, "indexOf", "(II)I"⟩
abbrev cJ0_coder_7d493 : ByteArray := prog_17_method_152_code
def yJ0_coder_7d493 : MethodName := ⟨RJ0, "coder", "()B"⟩
abbrev cJ0_isLatin1_aae02 : ByteArray := prog_17_method_154_code
def yJ0_isLatin1_aae02 : MethodName := ⟨RJ0, "isLatin1", "()Z"⟩
abbrev cJ0_checkBoundsBeginEnd_23922 : ByteArray := prog_17_method_158_code
def yJ0_checkBoundsBeginEnd_23922 : MethodName := ⟨RJ0, "checkBoundsBeginEnd", "(III)V"⟩
def RJ1 : String := "java/lang/StringLatin1"
abbrev cJ1_canEncode_9a6ad : ByteArray := prog_18_method_4_code
def yJ1_canEncode_9a6ad : MethodName := ⟨RJ1, "canEncode", "(I)Z"⟩
abbrev cJ1_indexOf_4cfef : ByteArray := prog_18_method_22_code
def yJ1_indexOf_4cfef : MethodName := ⟨RJ1, "indexOf", "([BIII)I"⟩
abbrev cJ1_indexOfChar_4cfef : ByteArray := prog_18_method_23_code
def yJ1_indexOfChar_4cfef : MethodName := ⟨RJ1, "indexOfChar", "([BIII)I"⟩
def RJ2 : String := "java/lang/StringUTF16"
abbrev cJ2_getChar_3b067 : ByteArray := prog_19_method_5_code
def yJ2_getChar_3b067 : MethodName := ⟨RJ2, "getChar", "([BI)C"⟩
abbrev cJ2_length_9d52b : ByteArray := prog_19_method_6_code
def yJ2_length_9d52b : MethodName := ⟨RJ2, "length", "([B)I"⟩
abbrev cJ2_indexOf_4cfef : ByteArray := prog_19_method_40_code
def yJ2_indexOf_4cfef : MethodName := ⟨RJ2, "indexOf", "([BIII)I"⟩
abbrev cJ2_indexOfChar_4cfef : ByteArray := prog_19_method_47_code
def yJ2_indexOfChar_4cfef : MethodName := ⟨RJ2, "indexOfChar", "([BIII)I"⟩
abbrev cJ2_indexOfCharUnsafe_4cfef : ByteArray := prog_19_method_48_code
def yJ2_indexOfCharUnsafe_4cfef : MethodName := ⟨RJ2, "indexOfCharUnsafe", "([BIII)I"⟩
abbrev cJ2_indexOfSupplementary_4cfef : ByteArray := prog_19_method_49_code
def yJ2_indexOfSupplementary_4cfef : MethodName := ⟨RJ2, "indexOfSupplementary", "([BIII)I"⟩
abbrev cJ2_checkBoundsBeginEnd_d044e : ByteArray := prog_19_method_93_code
def yJ2_checkBoundsBeginEnd_d044e : MethodName := ⟨RJ2, "checkBoundsBeginEnd", "(II[B)V"⟩
def RJ10 : String := "java/lang/System"
def RJ3 : String := "jdk/internal/util/Preconditions"
abbrev cJ3_checkFromToIndex_8c36e : ByteArray := prog_21_method_12_code
def yJ3_checkFromToIndex_8c36e : MethodName := ⟨RJ3, "checkFromToIndex", "(IIILjava/util/function/BiFunction;)I"⟩
def RL : String := "CutFromOthersLaw"
abbrev cL_law : ByteArray := code
def yL_law : MethodName := ⟨RL, "law", "([I)Z"⟩
abbrev vwCl : List vw_C := [(RX0, TX0, 3), (RX1, TX1, 6), (RX2, TX2, 7), (RX3, TX3, 5), (RX4, TX4, 3), (RX5, TX5, 5), (RX6, TX6, 4), (RX7, TX7, 5), (RX8, TX8, 4), (RX9, TX9, 9), (RX10, TX10, 10), (RX11, TX11, 50)]
theorem inX0 : ∀ w ∈ u_ws RX0 TX0 3, w ∈ x_tbl := x_in [292, 294, 296] (by decide +kernel) (by decide +kernel)
theorem inX1 : ∀ w ∈ u_ws RX1 TX1 6, w ∈ x_tbl := x_in [128, 130, 132, 134, 136, 138] (by decide +kernel) (by decide +kernel)
theorem inX2 : ∀ w ∈ u_ws RX2 TX2 7, w ∈ x_tbl := x_in [215, 217, 219, 221, 223, 225, 227] (by decide +kernel) (by decide +kernel)
theorem inX3 : ∀ w ∈ u_ws RX3 TX3 5, w ∈ x_tbl := x_in [191, 193, 195, 197, 199] (by decide +kernel) (by decide +kernel)
theorem inX4 : ∀ w ∈ u_ws RX4 TX4 3, w ∈ x_tbl := x_in [327, 329, 331] (by decide +kernel) (by decide +kernel)
theorem inX5 : ∀ w ∈ u_ws RX5 TX5 5, w ∈ x_tbl := x_in [147, 149, 151, 153, 155] (by decide +kernel) (by decide +kernel)
theorem inX6 : ∀ w ∈ u_ws RX6 TX6 4, w ∈ x_tbl := x_in [309, 311, 313, 315] (by decide +kernel) (by decide +kernel)
theorem inX7 : ∀ w ∈ u_ws RX7 TX7 5, w ∈ x_tbl := x_in [169, 171, 173, 175, 177] (by decide +kernel) (by decide +kernel)
theorem inX8 : ∀ w ∈ u_ws RX8 TX8 4, w ∈ x_tbl := x_in [240, 242, 244, 246] (by decide +kernel) (by decide +kernel)
theorem inX9 : ∀ w ∈ u_ws RX9 TX9 9, w ∈ x_tbl := x_in [264, 266, 268, 270, 272, 274, 276, 278, 280] (by decide +kernel) (by decide +kernel)
theorem inX10 : ∀ w ∈ u_ws RX10 TX10 10, w ∈ x_tbl := x_in [347, 349, 351, 353, 355, 357, 359, 361, 363, 365] (by decide +kernel) (by decide +kernel)
theorem inX11 : ∀ w ∈ u_ws RX11 TX11 50, w ∈ x_tbl := x_in [1213, 1215, 1217, 1219, 1221, 1223, 1225, 1227, 1229, 1231, 1233, 1235, 1237, 1239, 1241, 1243, 1245, 1247, 1249, 1251, 1253, 1255, 1257, 1259, 1261, 1263, 1265, 1267, 1269, 1271, 1273, 1275, 1277, 1279, 1281, 1283, 1285, 1287, 1289, 1291, 1293, 1295, 1297, 1299, 1301, 1303, 1305, 1307, 1309, 1311] (by decide +kernel) (by decide +kernel)
def x_ft : List (List Nat) := [[0, 1, 1], [0, 0, 0, 1, 1, 1], [0, 0, 0, 0, 0, 0, 1], [0, 0, 0, 1, 1], [0, 0, 0], [0, 0, 0, 0, 1], [0, 0, 1, 1], [0, 0, 1, 1, 1], [0, 0, 0, 1], [0, 0, 0, 0, 0, 0, 1, 1, 2], [0, 0, 0, 0, 0, 0, 0, 0, 0, 0], [1, 0, 0, 0, 0, 1, 0, 0, 1, 1, 0, 2, 1, 0, 0, 0, 0, 1, 1, 1, 1, 0, 0, 0, 0, 0, 0, 0, 2, 1, 1, 0, 0, 0, 1, 1, 0, 1, 0, 1, 0, 0, 0, 0, 0, 0, 0, 0, 0, 0]]
end
section
/-! THE MEMORY'S PICTURE: how many cells, the kind of each (0 to 11: an object of that class of vwCl; 12 ints, 13 longs, 14 Forms), its length, its ints, its longs, its references. An address of the picture is the number of the cell in the order of their making; from 1000 on: what was there before (strings, tables). -/
abbrev mM : Type := Nat × (Nat → Nat) × (Nat → Nat) × (Nat → Nat → Int32) × (Nat → Nat → Int64) × (Nat → Nat → Option Nat)
abbrev m_n (M : mM) : Nat := M.1
abbrev m_k (M : mM) : Nat → Nat := M.2.1
abbrev m_l (M : mM) : Nat → Nat := M.2.2.1
abbrev m_i (M : mM) : Nat → Nat → Int32 := M.2.2.2.1
abbrev m_j (M : mM) : Nat → Nat → Int64 := M.2.2.2.2.1
abbrev m_r (M : mM) : Nat → Nat → Option Nat := M.2.2.2.2.2
/-- one place of one cell becomes v -/
def u2 {α : Type} (f : Nat → Nat → α) (a k : Nat) (v : α) : Nat → Nat → α := fun b j => if b = a then (if j = k then v else f b j) else f b j
/-- a whole cell becomes g -/
def u1 {α : Type} (f : Nat → Nat → α) (a : Nat) (g : Nat → α) : Nat → Nat → α := fun b => if b = a then g else f b
theorem u2_row {α : Type} (f : Nat → Nat → α) (a k : Nat) (v : α) : u2 f a k v a = fun j => if j = k then v else f a j := by funext j; simp [u2]
theorem u2_ne {α : Type} (f : Nat → Nat → α) {a b : Nat} (k : Nat) (v : α) (h : b ≠ a) : u2 f a k v b = f b := by funext j; simp [u2, h]
theorem u1_row {α : Type} (f : Nat → Nat → α) (a : Nat) (g : Nat → α) : u1 f a g a = g := by simp [u1]
theorem u1_ne {α : Type} (f : Nat → Nat → α) {a b : Nat} (g : Nat → α) (h : b ≠ a) : u1 f a g b = f b := by simp [u1, h]
abbrev m_seti (M : mM) (a k : Nat) (v : Int32) : mM := (M.1, M.2.1, M.2.2.1, u2 M.2.2.2.1 a k v, M.2.2.2.2.1, M.2.2.2.2.2)
abbrev m_setj (M : mM) (a k : Nat) (v : Int64) : mM := (M.1, M.2.1, M.2.2.1, M.2.2.2.1, u2 M.2.2.2.2.1 a k v, M.2.2.2.2.2)
abbrev m_setr (M : mM) (a k : Nat) (v : Option Nat) : mM := (M.1, M.2.1, M.2.2.1, M.2.2.2.1, M.2.2.2.2.1, u2 M.2.2.2.2.2 a k v)
abbrev m_rowi (M : mM) (a : Nat) (g : Nat → Int32) : mM := (M.1, M.2.1, M.2.2.1, u1 M.2.2.2.1 a g, M.2.2.2.2.1, M.2.2.2.2.2)
abbrev m_rowj (M : mM) (a : Nat) (g : Nat → Int64) : mM := (M.1, M.2.1, M.2.2.1, M.2.2.2.1, u1 M.2.2.2.2.1 a g, M.2.2.2.2.2)
/-- a new cell of a kind and a length, all 0, null -/
abbrev m_new (M : mM) (k n : Nat) : mM := (M.1 + 1, (fun b => if b = M.1 then k else M.2.1 b), (fun b => if b = M.1 then n else M.2.2.1 b), u1 M.2.2.2.1 M.1 (fun _ => 0), u1 M.2.2.2.2.1 M.1 (fun _ => 0), u1 M.2.2.2.2.2 M.1 (fun _ => none))
/-- the fields of an object: 0 a reference, 1 an int, 2 a boolean -/
def x_fs (ts : List Nat) (fi : Nat → Int32) (fr : Nat → Value) : List Value := (List.range ts.length).map (fun j => if ts.getD j 0 = 0 then fr j else .int (fi j))
theorem x_fs_at {ts : List Nat} {fi : Nat → Int32} {fr : Nat → Value} {k t : Nat} (h : ts[k]? = some t) : (x_fs ts fi fr)[k]? = some (if t = 0 then fr k else .int (fi k)) := by
  obtain ⟨hl, rfl⟩ := List.getElem?_eq_some_iff.mp h
  simp [x_fs, hl]
theorem x_fs_len {ts : List Nat} {fi : Nat → Int32} {fr : Nat → Value} : (x_fs ts fi fr).length = ts.length := by simp [x_fs]
theorem x_fs_seti {ts : List Nat} {fi : Nat → Int32} {fr : Nat → Value} {k t : Nat} {v : Int32} (h : ts[k]? = some t) (ht : t ≠ 0) : (x_fs ts fi fr).set k (.int v) = x_fs ts (fun j => if j = k then v else fi j) fr := by
  have hl := (List.getElem?_eq_some_iff.mp h).1
  apply List.ext_getElem?
  intro j
  by_cases hj : j = k
  · subst hj
    rw [List.getElem?_set_self (by rw [x_fs_len]; exact hl), x_fs_at h, if_neg ht, if_pos rfl]
  · rw [List.getElem?_set_ne (Ne.symm hj)]
    simp only [x_fs, List.getElem?_map]
    cases hr : (List.range ts.length)[j]? with
    | none => rfl
    | some q =>
      have : q = j := by
        obtain ⟨h1, h2⟩ := List.getElem?_eq_some_iff.mp hr
        simpa using h2.symm
      subst this
      simp [hj]
theorem x_fs_setr {ts : List Nat} {fi : Nat → Int32} {fr fr2 : Nat → Value} {k : Nat} (h : ts[k]? = some 0) (h2 : ∀ j, j ≠ k → fr2 j = fr j) : (x_fs ts fi fr).set k (fr2 k) = x_fs ts fi fr2 := by
  have hl := (List.getElem?_eq_some_iff.mp h).1
  apply List.ext_getElem?
  intro j
  by_cases hj : j = k
  · subst hj
    rw [List.getElem?_set_self (by rw [x_fs_len]; exact hl), x_fs_at h, if_pos rfl]
  · rw [List.getElem?_set_ne (Ne.symm hj)]
    simp only [x_fs, List.getElem?_map]
    cases hr : (List.range ts.length)[j]? with
    | none => rfl
    | some q =>
      have : q = j := by
        obtain ⟨h1, h2⟩ := List.getElem?_eq_some_iff.mp hr
        simpa using h2.symm
      subst this
      simp [h2 q hj]
def x_ad (xt : Nat → Nat) (L : List Nat) (k : Nat) : Nat := if k < 1000 then L.getD k 0 else xt k
def cv (xt : Nat → Nat) (L : List Nat) : Value → Value
  | .ref k => .ref (x_ad xt L k)
  | v => v
theorem cv_cat (xt : Nat → Nat) (L : List Nat) (v : Value) : (cv xt L v).category = v.category := by cases v <;> rfl
def x_cl (ty : Nat → ClassId) (ad : Nat → Nat) (M : mM) (a : Nat) : va_E :=
  if m_k M a = 12 then .inl (ty 0, m_l M a, .inl (m_i M a))
  else if m_k M a = 13 then .inl (ty 1, m_l M a, .inr (.inl (m_j M a)))
  else if m_k M a = 14 then .inl (ty 2, m_l M a, .inr (.inr (.inr (.inr (fun j => (m_r M a j).map ad)))))
  else .inr (m_k M a, x_fs (x_ft.getD (m_k M a) []) (m_i M a) (fun j => va_rf ((m_r M a j).map ad)))
def x_ws (ty : Nat → ClassId) (xt : Nat → Nat) (L : List Nat) (M : mM) : va_W := (List.range (m_n M)).map (fun k => (x_ad xt L k, x_cl ty (x_ad xt L) M k))
theorem x_ws_at {ty : Nat → ClassId} {xt : Nat → Nat} {L : List Nat} {M : mM} {a : Nat} (h : a < m_n M) : (x_ws ty xt L M)[a]? = some (x_ad xt L a, x_cl ty (x_ad xt L) M a) := by
  simp [x_ws, h]
theorem x_ws_set {ty : Nat → ClassId} {xt : Nat → Nat} {L : List Nat} {M M' : mM} {a : Nat} {e : va_E} (h : a < m_n M) (hn : m_n M' = m_n M) (he : x_cl ty (x_ad xt L) M' a = e) (hr : ∀ b, b ≠ a → x_cl ty (x_ad xt L) M' b = x_cl ty (x_ad xt L) M b) : (x_ws ty xt L M).set a (x_ad xt L a, e) = x_ws ty xt L M' := by
  apply List.ext_getElem?
  intro j
  have hlen : (x_ws ty xt L M).length = m_n M := by simp [x_ws]
  by_cases hj : j = a
  · subst hj
    rw [List.getElem?_set_self (by rw [hlen]; exact h), x_ws_at (by rw [hn]; exact h), he]
  · rw [List.getElem?_set_ne (Ne.symm hj)]
    by_cases hl : j < m_n M
    · rw [x_ws_at hl, x_ws_at (by rw [hn]; exact hl), hr j hj]
    · rw [List.getElem?_eq_none (by rw [hlen]; omega), List.getElem?_eq_none (by simp only [x_ws, List.length_map, List.length_range]; omega)]
/-- the picture holds of the heap H: the cells' addresses are L's -/
def PR (D : va_G) (ty : Nat → ClassId) (xt : Nat → Nat) (A : Nat → Prop) (L : List Nat) (M : mM) (H : Heap) : Prop :=
  L.length = m_n M ∧ m_n M ≤ 1000 ∧ (∀ a j r, a < m_n M → m_r M a j = some r → r < m_n M) ∧ va_P D vwCl (x_ws ty xt L M) H ∧ va_D A (x_ws ty xt L M)
/-- the places of a frame -/
def LR (xt : Nat → Nat) (L : List Nat) (nL : Nat) (lc : Array Slot) (ls : List (Option Value)) : Prop :=
  lc.size = nL ∧ lv_wf lc ∧ ∀ (i : Nat) (v : Value), ls[i]? = some (some v) → lc[i]? = some (Slot.val (cv xt L v))
def x_lv (xt : Nat → Nat) (L : List Nat) (ls : List (Option Value)) : List (Nat × Value) := (List.range ls.length).filterMap (fun i => match ls[i]? with
  | some (some v) => some (i, cv xt L v)
  | _ => none)
theorem x_lv_mem {xt : Nat → Nat} {L : List Nat} {ls : List (Option Value)} {q : Nat × Value} : q ∈ x_lv xt L ls ↔ ∃ i v, ls[i]? = some (some v) ∧ q = (i, cv xt L v) := by
  unfold x_lv
  rw [List.mem_filterMap]
  constructor
  · rintro ⟨i, hi, h⟩
    split at h
    · next v hv =>
      cases h
      exact ⟨i, v, hv, rfl⟩
    · cases h
  · rintro ⟨i, v, h, rfl⟩
    refine ⟨i, List.mem_range.mpr (List.getElem?_eq_some_iff.mp h).1, ?_⟩
    rw [h]
theorem LR.has {xt : Nat → Nat} {L : List Nat} {nL : Nat} {lc : Array Slot} {ls : List (Option Value)} (h : LR xt L nL lc ls) : lv_has lc nL (x_lv xt L ls) := by
  refine ⟨h.1, h.2.1, fun q hq => ?_⟩
  obtain ⟨i, v, h1, rfl⟩ := x_lv_mem.mp hq
  exact h.2.2 i v h1
/-- nothing of two words ends at this place -/
def x_ok (ls : List (Option Value)) : Nat → Bool
  | 0 => true
  | i + 1 => match ls[i]? with
    | some (some (.long _)) => false
    | some (some (.double _)) => false
    | _ => true
theorem x_ok_cat {ls : List (Option Value)} {i : Nat} {v : Value} (h : x_ok ls (i + 1) = true) (hv : ls[i]? = some (some v)) : v.category = 1 := by
  simp only [x_ok, hv] at h
  cases v <;> first | rfl | (simp at h)
theorem LR.st1 {xt : Nat → Nat} {L : List Nat} {nL i : Nat} {lc : Array Slot} {ls : List (Option Value)} {v : Value} (hok : x_ok ls i = true) (h : lv_has lc nL ((i, cv xt L v) :: (x_lv xt L ls).filter (fun q => !(q.1 == i) && !(q.1 + 1 == i && q.2.category == 2)))) : LR xt L nL lc (ls.set i (some v)) := by
  refine ⟨h.1, h.2.1, fun j w hw => ?_⟩
  by_cases hj : j = i
  · subst hj
    have hl : j < ls.length := by
      have := (List.getElem?_eq_some_iff.mp hw).1
      simpa using this
    rw [List.getElem?_set_self hl] at hw
    cases hw
    exact h.2.2 (j, cv xt L v) List.mem_cons_self
  · rw [List.getElem?_set_ne (Ne.symm hj)] at hw
    refine h.2.2 (j, cv xt L w) (List.mem_cons_of_mem _ (List.mem_filter.mpr ⟨x_lv_mem.mpr ⟨j, w, hw, rfl⟩, ?_⟩))
    simp only [Bool.and_eq_true, Bool.not_eq_true', beq_eq_false_iff_ne, Bool.and_eq_false_iff]
    refine ⟨hj, ?_⟩
    by_cases h1 : j + 1 = i
    · subst h1
      right
      rw [cv_cat, x_ok_cat hok hw]
      decide
    · left
      exact h1
theorem LR.st2 {xt : Nat → Nat} {L : List Nat} {nL i : Nat} {lc : Array Slot} {ls : List (Option Value)} {v : Value} (hok : x_ok ls i = true) (h : lv_has lc nL ((i, cv xt L v) :: (x_lv xt L ls).filter (fun q => !(q.1 == i) && (!(q.1 == i + 1) && !(q.1 + 1 == i && q.2.category == 2))))) : LR xt L nL lc ((ls.set (i + 1) none).set i (some v)) := by
  refine ⟨h.1, h.2.1, fun j w hw => ?_⟩
  by_cases hj : j = i
  · subst hj
    have hl : j < (ls.set (j + 1) none).length := by
      have := (List.getElem?_eq_some_iff.mp hw).1
      simpa using this
    rw [List.getElem?_set_self hl] at hw
    cases hw
    exact h.2.2 (j, cv xt L v) List.mem_cons_self
  · rw [List.getElem?_set_ne (Ne.symm hj)] at hw
    by_cases h2 : j = i + 1
    · subst h2
      exfalso
      have hl : i + 1 < ls.length := by
        have := (List.getElem?_eq_some_iff.mp hw).1
        simpa using this
      rw [List.getElem?_set_self hl] at hw
      cases hw
    · rw [List.getElem?_set_ne (Ne.symm h2)] at hw
      refine h.2.2 (j, cv xt L w) (List.mem_cons_of_mem _ (List.mem_filter.mpr ⟨x_lv_mem.mpr ⟨j, w, hw, rfl⟩, ?_⟩))
      simp only [Bool.and_eq_true, Bool.not_eq_true', beq_eq_false_iff_ne, Bool.and_eq_false_iff]
      refine ⟨hj, h2, ?_⟩
      by_cases h1 : j + 1 = i
      · subst h1
        right
        rw [cv_cat, x_ok_cat hok hw]
        decide
      · left
        exact h1
end
section
/-! WHAT WAS THERE BEFORE: tables, strings, links of the nest -/
def x_most : Nat → Int32 := fun j => ([999, 9, 99] : List Int32).getD j 0
def x_abov : Nat → Int32 := fun j => ([-1, 0, 0, 2, 1, 3, 0, 4] : List Int32).getD j 0
def x_bods : Nat → Int32 := fun j => ([1, 10, 11, 2, 20, 0, 0, 0, 0, 30, 0, 0, 0, 41, 40, 0, 0, 0, 50, 0, 0, 0, 0, 60, 70, 0, 0, 0, 0, 80, 0, 81] : List Int32).getD j 0
def x_sl : List Nat := [6, 1, 1, 3, 2, 3]
def x_sb : List (List Int32) := [[119, 102, 97, 99, 110, 107], [124], [38], [60, 61, 62], [43, 45], [42, 47, 37]]
def x_sr : List (Nat × String) := [(68, "wfacnk"), (76, "|"), (78, "&"), (80, "<=>"), (82, "+-"), (84, "*/%")]
def x_nF : List (String × Nat × String × String × String × String) := [("CutFromOthers", 159, "CutFromOthers$Form", "turns", "[I", "CutFromOthers"), ("CutFromOthers", 123, "CutFromOthers$Form", "shape", "I", "CutFromOthers"), ("CutFromOthers$Stock", 54, "CutFromOthers$Form", "shape", "I", "CutFromOthers"), ("CutFromOthers$Rule", 48, "CutFromOthers$Form", "cells", "I", "CutFromOthers"), ("CutFromOthers", 156, "CutFromOthers$Form", "cells", "I", "CutFromOthers"), ("CutFromOthers$Stock", 61, "CutFromOthers$Form", "cells", "I", "CutFromOthers")]
def x_nM : List (String × Nat × MethodName × String) := [("CutFromOthers$Stock", 27, ⟨"CutFromOthers$Form", "<init>", "()V"⟩, "CutFromOthers"), ("CutFromOthers", 18, ⟨"CutFromOthers$Tape", "<init>", "()V"⟩, "CutFromOthers"), ("CutFromOthers", 25, ⟨"CutFromOthers$Rule", "<init>", "()V"⟩, "CutFromOthers"), ("CutFromOthers", 50, ⟨"CutFromOthers$Yard", "<init>", "()V"⟩, "CutFromOthers"), ("CutFromOthers", 57, ⟨"CutFromOthers$Changes", "<init>", "()V"⟩, "CutFromOthers"), ("CutFromOthers", 64, ⟨"CutFromOthers$Stones", "<init>", "()V"⟩, "CutFromOthers"), ("CutFromOthers", 71, ⟨"CutFromOthers$Shelves", "<init>", "()V"⟩, "CutFromOthers"), ("CutFromOthers", 78, ⟨"CutFromOthers$Form", "<init>", "()V"⟩, "CutFromOthers"), ("CutFromOthers$Stock", 50, ⟨"CutFromOthers", "holds", "(II)Z"⟩, "CutFromOthers"), ("CutFromOthers$Rows", 42, ⟨"CutFromOthers", "holds", "(II)Z"⟩, "CutFromOthers"), ("CutFromOthers$Told", 57, ⟨"CutFromOthers", "holds", "(II)Z"⟩, "CutFromOthers")]
/-- what the heap holds of it -/
def ExH (xt : Nat → Nat) (A : Nat → Prop) (U : State) (H : Heap) : Prop :=
  (va_Z "CutFromOthers" "MOST_OF_TRAIT" "[I" (.ref (xt 1001)) A U H ∧ va_T .int (xt 1001) 3 (fun j => .int (x_most j)) A U H) ∧
  (va_Z "CutFromOthers$Stones" "ABOVE" "[I" (.ref (xt 1002)) A U H ∧ va_T .int (xt 1002) 8 (fun j => .int (x_abov j)) A U H) ∧
  (va_Z "CutFromOthers$Stones" "BODIES" "[I" (.ref (xt 1003)) A U H ∧ va_T .int (xt 1003) 32 (fun j => .int (x_bods j)) A U H) ∧
  vk_S 6 x_sl x_sb (fun i => xt (1010 + i)) (fun i => xt (1020 + i)) A U H ∧ va_Z "java/lang/String" "COMPACT_STRINGS" "Z" (.int 1) A U H
/-- what the machine's tables hold of it -/
def ExV (xt : Nat → Nat) (U : State) : Prop :=
  (∀ (i : Nat) (q : Nat × String), x_sr[i]? = some q → vk_R "CutFromOthers$Tape" q.1 q.2 (xt (1010 + i)) U) ∧
  (∀ q ∈ x_nF, va_Nw (.fieldLinkNest q.1 q.2.1 q.2.2.1 q.2.2.2.1 q.2.2.2.2.1 q.2.2.2.2.2) U) ∧
  (∀ q ∈ x_nM, va_Nw (.methodLinkNest q.1 q.2.1 q.2.2.1 q.2.2.2) U) ∧ va_AO "CutFromOthers$Form" U
theorem ExH.kept {xt : Nat → Nat} {A : Nat → Prop} {U : State} {H H1 : Heap} (h : ExH xt A U H) (hq : ∀ a : Nat, a < H.size → ¬ A a → H1[a]? = H[a]?) : ExH xt A U H1 :=
  ⟨⟨h.1.1.kept hq, h.1.2.kept hq⟩, ⟨h.2.1.1.kept hq, h.2.1.2.kept hq⟩, ⟨h.2.2.1.1.kept hq, h.2.2.1.2.kept hq⟩, h.2.2.2.1.kept hq, h.2.2.2.2.kept hq⟩
theorem ExH.narrow {xt : Nat → Nat} {A B : Nat → Prop} {U : State} {H : Heap} (h : ExH xt A U H) (hq : ∀ q, B q → A q) : ExH xt B U H :=
  ⟨⟨h.1.1.narrow hq, h.1.2.narrow hq⟩, ⟨h.2.1.1.narrow hq, h.2.1.2.narrow hq⟩, ⟨h.2.2.1.1.narrow hq, h.2.2.1.2.narrow hq⟩, h.2.2.2.1.narrow hq, h.2.2.2.2.narrow hq⟩
theorem ExH.moved {xt : Nat → Nat} {A : Nat → Prop} {u U : State} {H : Heap} (hvm : u.vm.Alike U.vm) (h : ExH xt A u H) : ExH xt A U H :=
  ⟨⟨h.1.1.moved hvm, h.1.2.moved hvm⟩, ⟨h.2.1.1.moved hvm, h.2.1.2.moved hvm⟩, ⟨h.2.2.1.1.moved hvm, h.2.2.1.2.moved hvm⟩, h.2.2.2.1.moved hvm, h.2.2.2.2.moved hvm⟩
theorem ExV.warm {xt : Nat → Nat} {s U : State} (hW : s.WarmedH U.vm) (h : ExV xt s) : ExV xt U :=
  ⟨fun i q hq => (h.1 i q hq).warm hW, fun q hq => (h.2.1 q hq).warmF hW, fun q hq => (h.2.2.1 q hq).warmM hW, h.2.2.2.moved hW.alike⟩
theorem ExV.same {xt : Nat → Nat} {u U : State} (hv : U.vm = u.vm) (h : ExV xt u) : ExV xt U :=
  ⟨fun i q hq => (h.1 i q hq).same hv, fun q hq => (h.2.1 q hq).same rfl hv.symm, fun q hq => (h.2.2.1 q hq).same rfl hv.symm, by
    have h4 := h.2.2.2
    exact va_AO.moved (by rw [hv]; exact Vm.Alike.refl _) h4⟩
/-- the array classes -/
def x_ty (ty : Nat → ClassId) : List (ClassId × FieldType) := [(ty 0, .int), (ty 1, .long), (ty 2, .object "CutFromOthers$Form")]
/-- where one stands: the machine's words of W, its end, the cells that may change, the classes' numbers, what was there before, how many places, the addresses at the start -/
abbrev cxT : Type := (Program × Launch × Env × Room × State × MethodId × Array Value × List Frame × Method × Code) × (State → Prop) × (Nat → Prop) × va_G × (Nat → ClassId) × (Nat → Nat) × Nat × List Nat
def x_init (X : cxT) : Prop := X.1.2.2.2.2.2.2.2.2.1.name = "<init>"
def x_nl (X : cxT) : Nat := X.2.2.2.2.2.2.1
/-- the machine, at pc with these places, this stack and this memory, comes to its end -/
def WP : cxT → Nat → Nat → Nat → List (Option Value) → List Value → mM → Prop
  | ((p, l, e, R, s, m, args, below, meth, c), Z, A, D, ty, xt, nL, L0), cells, slots, pc, ls, st, M => ∀ (L : List Nat) (H : Heap) (locs : List Loc) (lc : Array Slot), L0 <+: L → PR D ty xt A L M H → va_S A s.heap H locs → LR xt L nL lc ls → W p l e R s m args below meth c H locs cells slots Z (F0 m pc lc (st.map (cv xt L)))
/-- what holds all along a method: depth d of calls is left, C cells and S slots -/
def Good : cxT → String → ByteArray → Nat → Nat → Nat → Prop
  | ((p, _, _, R, s, m, args, _, meth, c), _, A, D, ty, xt, nL, _), own, cc, d, C, S => p.tables.exec = Jvm.exec ∧ c.code = cc ∧ c.maxLocals = nL ∧ s.vm.findClass own = some m.cls ∧ (∀ w ∈ x_tbl, w.before args s = true) ∧ meth.locks = false ∧ va_K D vwCl (x_ty ty) s ∧ (∀ q : Nat, s.heap.size ≤ q → A q) ∧ ExH xt A s s.heap ∧ ExV xt s ∧ d ≤ R.frames ∧ 64 * d ≤ R.locals ∧ C ≤ R.cells ∧ S ≤ R.slots
/-- what a method leaves -/
def QO (D : va_G) (ty : Nat → ClassId) (xt : Nat → Nat) (A : Nat → Prop) (L : List Nat) (Q : Option Value → mM → Prop) : Array Value → State → Outcome → State → Prop := fun _ st oc t =>
  (∃ (r : Option Value) (M' : mM) (L' : List Nat), oc = .returned (r.map (cv xt L')) ∧ Q r M' ∧ L <+: L' ∧ PR D ty xt A L' M' t.heap ∧ va_K D vwCl (x_ty ty) t) ∧ va_F A st t
/-- the end of a method's frame -/
def RQ : cxT → Option FieldType → Nat → Nat → (Option Value → mM → Prop) → Prop
  | ((_, _, _, _, s, _, args, below, meth, _), Z, A, D, ty, xt, _, L0), ret, mc, ms, Q => meth.sig.returnType = ret ∧ Z = MQ below (QO D ty xt A L0 Q) args s mc ms A
/-- a method: its name, its bytes, its places, what it returns -/
abbrev mI : Type := MethodName × ByteArray × Nat × Option FieldType
abbrev x_cw (i : mI) : Cond := Cond.code i.1 i.2.1 i.2.2.1 i.2.2.2
abbrev x_rm (d mc ms : Nat) : Room := { frames := d, cells := mc, slots := ms, locals := 64 * d }
/-- THE CONTRACT: called with these values over this memory, at depth d, it returns, and Q holds of the answer and the memory -/
def CT (d mc ms : Nat) (i : mI) (av : List Value) (M : mM) (Q : Option Value → mM → Prop) : Prop :=
  ∀ (l : Launch) (D : va_G) (ty : Nat → ClassId) (xt : Nat → Nat) (L : List Nat) (sz : Nat), Met l i.1 (x_cw i :: x_tbl) (x_rm d mc ms) (va_Pc (av.map (cv xt L)) (fun U => U.heap.size = sz ∧ PR D ty xt (fun _ => True) L M U.heap ∧ va_K D vwCl (x_ty ty) U ∧ ExH xt (va_A (x_ws ty xt L M) sz) U U.heap ∧ ExV xt U)) (QO D ty xt (va_A (x_ws ty xt L M) sz) L Q) mc ms (va_A (x_ws ty xt L M) sz)
/-- the places at a method's start -/
def x_en : List Value → List (Option Value)
  | [] => []
  | .long v :: r => some (.long v) :: none :: x_en r
  | .double v :: r => some (.double v) :: none :: x_en r
  | v :: r => some v :: x_en r
theorem x_en_args (xt : Nat → Nat) (L : List Nat) : ∀ (av : List Value) (k i : Nat) (v : Value), (x_en av)[i]? = some (some v) → (k + i, cv xt L v) ∈ lv_args k (av.map (cv xt L)) := by
  intro av
  induction av with
  | nil => intro k i v h; simp [x_en] at h
  | cons a r ih =>
    intro k i v h
    have two : a.category = 2 → (x_en (a :: r) = some a :: none :: x_en r) := by
      intro hc
      cases a <;> first | rfl | (simp [Value.category] at hc)
    have one : ¬ a.category = 2 → (x_en (a :: r) = some a :: x_en r) := by
      intro hc
      cases a <;> first | rfl | (simp [Value.category] at hc)
    by_cases hc : a.category = 2
    · rw [two hc] at h
      show _ ∈ (k, cv xt L a) :: lv_args (if (cv xt L a).category = 2 then k + 2 else k + 1) (r.map (cv xt L))
      rw [cv_cat, if_pos hc]
      match i, h with
      | 0, h => simp at h; subst h; exact List.mem_cons_self
      | 1, h => simp at h
      | i + 2, h =>
        have h2 := ih (k + 2) i v (by simpa using h)
        rw [show k + 2 + i = k + (i + 2) by omega] at h2
        exact List.mem_cons_of_mem _ h2
    · rw [one hc] at h
      show _ ∈ (k, cv xt L a) :: lv_args (if (cv xt L a).category = 2 then k + 2 else k + 1) (r.map (cv xt L))
      rw [cv_cat, if_neg hc]
      match i, h with
      | 0, h => simp at h; subst h; exact List.mem_cons_self
      | i + 1, h =>
        have h2 := ih (k + 1) i v (by simpa using h)
        rw [show k + 1 + i = k + (i + 1) by omega] at h2
        exact List.mem_cons_of_mem _ h2
theorem x_en_get {xt : Nat → Nat} {L : List Nat} {av : List Value} {n i : Nat} {v : Value} (h : (x_en av ++ List.replicate n none)[i]? = some (some v)) : (i, cv xt L v) ∈ lv_args 0 (av.map (cv xt L)) := by
  by_cases hi : i < (x_en av).length
  · rw [List.getElem?_append_left hi] at h
    have := x_en_args xt L av 0 i v h
    rwa [Nat.zero_add] at this
  · rw [List.getElem?_append_right (by omega)] at h
    simp [List.getElem?_replicate] at h
theorem PR.weaken {D : va_G} {ty : Nat → ClassId} {xt : Nat → Nat} {A B : Nat → Prop} {L : List Nat} {M : mM} {H : Heap} (h : PR D ty xt A L M H) (hAB : ∀ (k : Nat) (q : Nat × va_E), (x_ws ty xt L M)[k]? = some q → A q.1 → B q.1) : PR D ty xt B L M H :=
  ⟨h.1, h.2.1, h.2.2.1, h.2.2.2.1, h.2.2.2.2.1, fun k q hk => hAB k q hk (h.2.2.2.2.2 k q hk)⟩
/-- A METHOD'S CONTRACT OUT OF ITS WALK -/
theorem CT.of {d mc ms : Nat} {y : MethodName} {cc : ByteArray} {nL : Nat} {ret : Option FieldType} {av : List Value} {M : mM} {Q : Option Value → mM → Prop} (hy : plainName y.cls = true) (hn : (lg_sl av).length ≤ nL)
    (h : ∀ X : cxT, Good X y.cls cc d mc ms → RQ X ret mc ms Q → x_nl X = nL → (y.name = "<init>" → x_init X) → WP X 0 0 0 (x_en av ++ List.replicate (nL - (x_en av).length) none) [] M) : CT d mc ms (y, cc, nL, ret) av M Q := by
  intro l D ty xt L sz
  refine Met.ofW (cc := cc) (maxL := nL) (ret := ret) hy rfl ?_
  intro p e s m args below meth c s₁ B hml hv
  obtain ⟨rfl, hsz, hP, hK, hE, hV⟩ := hv
  subst hsz
  have hts : ∀ w ∈ x_cw (y, cc, nL, ret) :: x_tbl, w.before _ s = true := atoms_spec (ws := x_cw (y, cc, nL, ret) :: x_tbl) B.pre
  have hP2 : PR D ty xt (va_A (x_ws ty xt L M) s.heap.size) L M s.heap := ⟨hP.1, hP.2.1, hP.2.2.1, hP.2.2.2.1, hP.2.2.2.2.self⟩
  have key := h ((p, l, e, x_rm d mc ms, s, m, (av.map (cv xt L)).toArray, below, meth, c), MQ below (QO D ty xt (va_A (x_ws ty xt L M) s.heap.size) L Q) (av.map (cv xt L)).toArray s mc ms (va_A (x_ws ty xt L M) s.heap.size), va_A (x_ws ty xt L M) s.heap.size, D, ty, xt, nL, L)
    ⟨B.exec, B.bytes, hml, findClass_of_methodNamed B.named, fun w hw => hts w (List.mem_cons_of_mem _ hw), B.notSynchronized, hK, fun q hq => Or.inr hq, hE, hV, Nat.le_refl _, Nat.le_refl _, Nat.le_refl _, Nat.le_refl _⟩ ⟨B.returns, rfl⟩ rfl (fun hi => by
      show meth.name = "<init>"
      rw [(name_of_methodNamed B.named B.method).1]
      exact hi)
  have hlen : (lg_sl (av.map (cv xt L))).length ≤ nL := by
    have : ∀ vs : List Value, (lg_sl (vs.map (cv xt L))).length = (lg_sl vs).length := by
      intro vs
      induction vs with
      | nil => rfl
      | cons a r ih => cases a <;> simp_all [lg_sl, cv, Value.category]
    rw [this]
    exact hn
  have hl := lv_entry (av.map (cv xt L)) (n := nL) hlen
  rw [lg_entry_eq]
  refine key L s.heap [] _ (List.prefix_refl L) hP2 va_S.rf ⟨hl.1, hl.2.1, fun i v hi => ?_⟩
  exact hl.2.2 _ (x_en_get hi)
end
section
theorem wp_iconst {X : cxT} {own : String} {cc : ByteArray} {d C S cells slots pc : Nat} {ls : List (Option Value)} {st : List Value} {M : mM} {n : Int} {v : Int32} (hX : Good X own cc d C S) (hd : decode cc pc = .ok (.iconst n, 1)) (hv : Int32.ofInt n = v) (k : WP X cells slots (pc + 1) ls (.int v :: st) M) : WP X cells slots pc ls st M := by
  obtain ⟨⟨p, l, e, R, s, m, args, below, meth, c⟩, Z, A, D, ty, xt, nL, L0⟩ := X
  intro L H locs lc h0 hP hS hl
  exact lv_iconst hX.1 hX.2.1 hd hv (k L H locs lc h0 hP hS hl)
theorem wp_bipush {X : cxT} {own : String} {cc : ByteArray} {d C S cells slots pc : Nat} {ls : List (Option Value)} {st : List Value} {M : mM} {n : Int} {v : Int32} (hX : Good X own cc d C S) (hd : decode cc pc = .ok (.bipush n, 2)) (hv : (Int8.ofInt n).toInt32 = v) (k : WP X cells slots (pc + 2) ls (.int v :: st) M) : WP X cells slots pc ls st M := by
  obtain ⟨⟨p, l, e, R, s, m, args, below, meth, c⟩, Z, A, D, ty, xt, nL, L0⟩ := X
  intro L H locs lc h0 hP hS hl
  exact lv_bipush hX.1 hX.2.1 hd hv (k L H locs lc h0 hP hS hl)
theorem wp_sipush {X : cxT} {own : String} {cc : ByteArray} {d C S cells slots pc : Nat} {ls : List (Option Value)} {st : List Value} {M : mM} {n : Int} {v : Int32} (hX : Good X own cc d C S) (hd : decode cc pc = .ok (.sipush n, 3)) (hv : (Int16.ofInt n).toInt32 = v) (k : WP X cells slots (pc + 3) ls (.int v :: st) M) : WP X cells slots pc ls st M := by
  obtain ⟨⟨p, l, e, R, s, m, args, below, meth, c⟩, Z, A, D, ty, xt, nL, L0⟩ := X
  intro L H locs lc h0 hP hS hl
  exact lv_sipush hX.1 hX.2.1 hd hv (k L H locs lc h0 hP hS hl)
theorem wp_lconst {X : cxT} {own : String} {cc : ByteArray} {d C S cells slots pc : Nat} {ls : List (Option Value)} {st : List Value} {M : mM} {n : Fin 2} {v : Int64} (hX : Good X own cc d C S) (hd : decode cc pc = .ok (.lconst n, 1)) (hv : Int64.ofNat (n : Nat) = v) (k : WP X cells slots (pc + 1) ls (.long v :: st) M) : WP X cells slots pc ls st M := by
  obtain ⟨⟨p, l, e, R, s, m, args, below, meth, c⟩, Z, A, D, ty, xt, nL, L0⟩ := X
  intro L H locs lc h0 hP hS hl
  exact lv_lconst hX.1 hX.2.1 hd hv (k L H locs lc h0 hP hS hl)
theorem wp_ldc {X : cxT} {own : String} {cc : ByteArray} {d C S cells slots pc : Nat} {ls : List (Option Value)} {st : List Value} {M : mM} {index : Nat} {v : Int32} (hX : Good X own cc d C S) (hd : decode cc pc = .ok (.ldc index, 2)) (hw : Cond.constant own index v ∈ x_tbl) (k : WP X cells slots (pc + 2) ls (.int v :: st) M) : WP X cells slots pc ls st M := by
  obtain ⟨⟨p, l, e, R, s, m, args, below, meth, c⟩, Z, A, D, ty, xt, nL, L0⟩ := X
  intro L H locs lc h0 hP hS hl
  exact lv_ldc hX.1 hX.2.1 hX.2.2.2.1 (hX.2.2.2.2.1 _ hw) hd (k L H locs lc h0 hP hS hl)
theorem wp_ldc2 {X : cxT} {own : String} {cc : ByteArray} {d C S cells slots pc : Nat} {ls : List (Option Value)} {st : List Value} {M : mM} {index : Nat} {v : Int64} (hX : Good X own cc d C S) (hd : decode cc pc = .ok (.ldc2_w index, 3)) (hw : Cond.constantLong own index v ∈ x_tbl) (k : WP X cells slots (pc + 3) ls (.long v :: st) M) : WP X cells slots pc ls st M := by
  obtain ⟨⟨p, l, e, R, s, m, args, below, meth, c⟩, Z, A, D, ty, xt, nL, L0⟩ := X
  intro L H locs lc h0 hP hS hl
  exact lv_ldc2 hX.1 hX.2.1 hX.2.2.2.1 (hX.2.2.2.2.1 _ hw) hd (k L H locs lc h0 hP hS hl)
theorem wp_ldcw {X : cxT} {own : String} {cc : ByteArray} {d C S cells slots pc : Nat} {ls : List (Option Value)} {st : List Value} {M : mM} {index : Nat} {v : Int32} (hX : Good X own cc d C S) (hd : decode cc pc = .ok (.ldc_w index, 3)) (hw : Cond.constant own index v ∈ x_tbl) (k : WP X cells slots (pc + 3) ls (.int v :: st) M) : WP X cells slots pc ls st M := by
  obtain ⟨⟨p, l, e, R, s, m, args, below, meth, c⟩, Z, A, D, ty, xt, nL, L0⟩ := X
  intro L H locs lc h0 hP hS hl
  intro T hT X9
  obtain ⟨t, a1, b1⟩ := k L H locs lc h0 hP hS hl T hT X9
  exact ⟨t, va_ldcwI X9 hX.1 hX.2.2.2.1 (hX.2.2.2.2.1 _ hw) (g := F0 m pc lc (st.map (cv xt L))) rfl (by rw [hX.2.1]; exact hd) t a1, b1⟩
theorem wp_iload_n {X : cxT} {own : String} {cc : ByteArray} {d C S cells slots pc : Nat} {ls : List (Option Value)} {st : List Value} {M : mM} {j : Fin 4} {x : Int32} (hX : Good X own cc d C S) (hd : decode cc pc = .ok (.iload_n j, 1)) (hv : ls[(j : Nat)]? = some (some (.int x))) (k : WP X cells slots (pc + 1) ls (.int x :: st) M) : WP X cells slots pc ls st M := by
  obtain ⟨⟨p, l, e, R, s, m, args, below, meth, c⟩, Z, A, D, ty, xt, nL, L0⟩ := X
  intro L H locs lc h0 hP hS hl
  exact lv_iload_n hX.1 hX.2.1 hd rfl (hl.2.2 _ _ hv) (k L H locs lc h0 hP hS hl)
theorem wp_iload {X : cxT} {own : String} {cc : ByteArray} {d C S cells slots pc : Nat} {ls : List (Option Value)} {st : List Value} {M : mM} {i : Nat} {x : Int32} (hX : Good X own cc d C S) (hd : decode cc pc = .ok (.iload i, 2)) (hv : ls[i]? = some (some (.int x))) (k : WP X cells slots (pc + 2) ls (.int x :: st) M) : WP X cells slots pc ls st M := by
  obtain ⟨⟨p, l, e, R, s, m, args, below, meth, c⟩, Z, A, D, ty, xt, nL, L0⟩ := X
  intro L H locs lc h0 hP hS hl
  exact lv_iload hX.1 hX.2.1 hd (hl.2.2 _ _ hv) (k L H locs lc h0 hP hS hl)
theorem wp_lload_n {X : cxT} {own : String} {cc : ByteArray} {d C S cells slots pc : Nat} {ls : List (Option Value)} {st : List Value} {M : mM} {j : Fin 4} {x : Int64} (hX : Good X own cc d C S) (hd : decode cc pc = .ok (.lload_n j, 1)) (hv : ls[(j : Nat)]? = some (some (.long x))) (k : WP X cells slots (pc + 1) ls (.long x :: st) M) : WP X cells slots pc ls st M := by
  obtain ⟨⟨p, l, e, R, s, m, args, below, meth, c⟩, Z, A, D, ty, xt, nL, L0⟩ := X
  intro L H locs lc h0 hP hS hl
  exact lv_lload_n hX.1 hX.2.1 hd rfl (hl.2.2 _ _ hv) (k L H locs lc h0 hP hS hl)
theorem wp_lload {X : cxT} {own : String} {cc : ByteArray} {d C S cells slots pc : Nat} {ls : List (Option Value)} {st : List Value} {M : mM} {i : Nat} {x : Int64} (hX : Good X own cc d C S) (hd : decode cc pc = .ok (.lload i, 2)) (hv : ls[i]? = some (some (.long x))) (k : WP X cells slots (pc + 2) ls (.long x :: st) M) : WP X cells slots pc ls st M := by
  obtain ⟨⟨p, l, e, R, s, m, args, below, meth, c⟩, Z, A, D, ty, xt, nL, L0⟩ := X
  intro L H locs lc h0 hP hS hl
  exact lv_lload hX.1 hX.2.1 hd (hl.2.2 _ _ hv) (k L H locs lc h0 hP hS hl)
theorem wp_aload_n {X : cxT} {own : String} {cc : ByteArray} {d C S cells slots pc : Nat} {ls : List (Option Value)} {st : List Value} {M : mM} {j : Fin 4} {x : Nat} (hX : Good X own cc d C S) (hd : decode cc pc = .ok (.aload_n j, 1)) (hv : ls[(j : Nat)]? = some (some (.ref x))) (k : WP X cells slots (pc + 1) ls (.ref x :: st) M) : WP X cells slots pc ls st M := by
  obtain ⟨⟨p, l, e, R, s, m, args, below, meth, c⟩, Z, A, D, ty, xt, nL, L0⟩ := X
  intro L H locs lc h0 hP hS hl
  exact lv_aload_n hX.1 hX.2.1 hd rfl (hl.2.2 _ _ hv) (k L H locs lc h0 hP hS hl)
theorem wp_aload {X : cxT} {own : String} {cc : ByteArray} {d C S cells slots pc : Nat} {ls : List (Option Value)} {st : List Value} {M : mM} {i : Nat} {x : Nat} (hX : Good X own cc d C S) (hd : decode cc pc = .ok (.aload i, 2)) (hv : ls[i]? = some (some (.ref x))) (k : WP X cells slots (pc + 2) ls (.ref x :: st) M) : WP X cells slots pc ls st M := by
  obtain ⟨⟨p, l, e, R, s, m, args, below, meth, c⟩, Z, A, D, ty, xt, nL, L0⟩ := X
  intro L H locs lc h0 hP hS hl
  exact lv_aload hX.1 hX.2.1 hd (hl.2.2 _ _ hv) (k L H locs lc h0 hP hS hl)
theorem wp_istore_n {X : cxT} {own : String} {cc : ByteArray} {d C S cells slots pc : Nat} {ls : List (Option Value)} {st : List Value} {M : mM} {j : Fin 4} {i : Nat} {x : Int32} (hX : Good X own cc d C S) (hd : decode cc pc = .ok (.istore_n j, 1)) (hi : (j : Nat) = i) (hok : x_ok ls i = true) (hn : x_nl X = ls.length) (hlt : i < ls.length) (k : WP X cells slots (pc + 1) (ls.set i (some (.int x))) st M) : WP X cells slots pc ls (.int x :: st) M := by
  obtain ⟨⟨p, l, e, R, s, m, args, below, meth, c⟩, Z, A, D, ty, xt, nL, L0⟩ := X
  intro L H locs lc h0 hP hS hl
  have hn : nL = ls.length := hn
  exact lv_istore_n hX.1 hX.2.1 hd hi hl.has (by omega) rfl (fun lc' hl' => k L H locs lc' h0 hP hS (LR.st1 (v := .int x) hok hl'))
theorem wp_istore {X : cxT} {own : String} {cc : ByteArray} {d C S cells slots pc : Nat} {ls : List (Option Value)} {st : List Value} {M : mM} {i : Nat} {x : Int32} (hX : Good X own cc d C S) (hd : decode cc pc = .ok (.istore i, 2)) (hok : x_ok ls i = true) (hn : x_nl X = ls.length) (hlt : i < ls.length) (k : WP X cells slots (pc + 2) (ls.set i (some (.int x))) st M) : WP X cells slots pc ls (.int x :: st) M := by
  obtain ⟨⟨p, l, e, R, s, m, args, below, meth, c⟩, Z, A, D, ty, xt, nL, L0⟩ := X
  intro L H locs lc h0 hP hS hl
  have hn : nL = ls.length := hn
  exact lv_istore hX.1 hX.2.1 hd hl.has (by omega) rfl (fun lc' hl' => k L H locs lc' h0 hP hS (LR.st1 (v := .int x) hok hl'))
theorem wp_lstore_n {X : cxT} {own : String} {cc : ByteArray} {d C S cells slots pc : Nat} {ls : List (Option Value)} {st : List Value} {M : mM} {j : Fin 4} {i : Nat} {x : Int64} (hX : Good X own cc d C S) (hd : decode cc pc = .ok (.lstore_n j, 1)) (hi : (j : Nat) = i) (hok : x_ok ls i = true) (hn : x_nl X = ls.length) (hlt : i + 1 < ls.length) (k : WP X cells slots (pc + 1) ((ls.set (i + 1) none).set i (some (.long x))) st M) : WP X cells slots pc ls (.long x :: st) M := by
  obtain ⟨⟨p, l, e, R, s, m, args, below, meth, c⟩, Z, A, D, ty, xt, nL, L0⟩ := X
  intro L H locs lc h0 hP hS hl
  have hn : nL = ls.length := hn
  exact lv_lstore_n hX.1 hX.2.1 hd hi hl.has (by omega) rfl (fun lc' hl' => k L H locs lc' h0 hP hS (LR.st2 (v := .long x) hok hl'))
theorem wp_lstore {X : cxT} {own : String} {cc : ByteArray} {d C S cells slots pc : Nat} {ls : List (Option Value)} {st : List Value} {M : mM} {i : Nat} {x : Int64} (hX : Good X own cc d C S) (hd : decode cc pc = .ok (.lstore i, 2)) (hok : x_ok ls i = true) (hn : x_nl X = ls.length) (hlt : i + 1 < ls.length) (k : WP X cells slots (pc + 2) ((ls.set (i + 1) none).set i (some (.long x))) st M) : WP X cells slots pc ls (.long x :: st) M := by
  obtain ⟨⟨p, l, e, R, s, m, args, below, meth, c⟩, Z, A, D, ty, xt, nL, L0⟩ := X
  intro L H locs lc h0 hP hS hl
  have hn : nL = ls.length := hn
  exact lv_lstore hX.1 hX.2.1 hd hl.has (by omega) rfl (fun lc' hl' => k L H locs lc' h0 hP hS (LR.st2 (v := .long x) hok hl'))
theorem wp_astore_n {X : cxT} {own : String} {cc : ByteArray} {d C S cells slots pc : Nat} {ls : List (Option Value)} {st : List Value} {M : mM} {j : Fin 4} {i : Nat} {x : Nat} (hX : Good X own cc d C S) (hd : decode cc pc = .ok (.astore_n j, 1)) (hi : (j : Nat) = i) (hok : x_ok ls i = true) (hn : x_nl X = ls.length) (hlt : i < ls.length) (k : WP X cells slots (pc + 1) (ls.set i (some (.ref x))) st M) : WP X cells slots pc ls (.ref x :: st) M := by
  obtain ⟨⟨p, l, e, R, s, m, args, below, meth, c⟩, Z, A, D, ty, xt, nL, L0⟩ := X
  intro L H locs lc h0 hP hS hl
  have hn : nL = ls.length := hn
  exact lv_astore_n hX.1 hX.2.1 hd hi hl.has (by omega) rfl (fun lc' hl' => k L H locs lc' h0 hP hS (LR.st1 (v := .ref x) hok hl'))
theorem wp_astore {X : cxT} {own : String} {cc : ByteArray} {d C S cells slots pc : Nat} {ls : List (Option Value)} {st : List Value} {M : mM} {i : Nat} {x : Nat} (hX : Good X own cc d C S) (hd : decode cc pc = .ok (.astore i, 2)) (hok : x_ok ls i = true) (hn : x_nl X = ls.length) (hlt : i < ls.length) (k : WP X cells slots (pc + 2) (ls.set i (some (.ref x))) st M) : WP X cells slots pc ls (.ref x :: st) M := by
  obtain ⟨⟨p, l, e, R, s, m, args, below, meth, c⟩, Z, A, D, ty, xt, nL, L0⟩ := X
  intro L H locs lc h0 hP hS hl
  have hn : nL = ls.length := hn
  exact lv_astore hX.1 hX.2.1 hd hl.has (by omega) rfl (fun lc' hl' => k L H locs lc' h0 hP hS (LR.st1 (v := .ref x) hok hl'))
theorem wp_iinc {X : cxT} {own : String} {cc : ByteArray} {d C S cells slots pc : Nat} {ls : List (Option Value)} {st : List Value} {M : mM} {i : Nat} {n : Int} {x v : Int32} (hX : Good X own cc d C S) (hd : decode cc pc = .ok (.iinc i n, 3)) (hx : ls[i]? = some (some (.int x))) (hv : x + Int32.ofInt n = v) (hok : x_ok ls i = true) (hn : x_nl X = ls.length) (k : WP X cells slots (pc + 3) (ls.set i (some (.int v))) st M) : WP X cells slots pc ls st M := by
  obtain ⟨⟨p, l, e, R, s, m, args, below, meth, c⟩, Z, A, D, ty, xt, nL, L0⟩ := X
  intro L H locs lc h0 hP hS hl
  have hn : nL = ls.length := hn
  have hi := (List.getElem?_eq_some_iff.mp hx).1
  obtain ⟨j, hj⟩ := List.getElem?_of_mem (x_lv_mem.mpr ⟨i, _, hx, rfl⟩ : (i, cv xt L (.int x)) ∈ x_lv xt L ls)
  exact lv_iinc hX.1 hX.2.1 hd hl.has (k := j) hj hv (by omega) rfl (fun lc' hl' => k L H locs lc' h0 hP hS (LR.st1 (v := .int v) hok hl'))
theorem wp_iadd {X : cxT} {own : String} {cc : ByteArray} {d C S cells slots pc : Nat} {ls : List (Option Value)} {st : List Value} {M : mM} {x y : Int32} (hX : Good X own cc d C S) (hd : decode cc pc = .ok (.iadd, 1))  (k : WP X cells slots (pc + 1) ls (.int (x + y) :: st) M) : WP X cells slots pc ls (.int y :: .int x :: st) M := by
  obtain ⟨⟨p, l, e, R, s, m, args, below, meth, c⟩, Z, A, D, ty, xt, nL, L0⟩ := X
  intro L H locs lc h0 hP hS hl
  exact lv_iadd hX.1 hX.2.1 hd (k L H locs lc h0 hP hS hl)
theorem wp_isub {X : cxT} {own : String} {cc : ByteArray} {d C S cells slots pc : Nat} {ls : List (Option Value)} {st : List Value} {M : mM} {x y : Int32} (hX : Good X own cc d C S) (hd : decode cc pc = .ok (.isub, 1))  (k : WP X cells slots (pc + 1) ls (.int (x - y) :: st) M) : WP X cells slots pc ls (.int y :: .int x :: st) M := by
  obtain ⟨⟨p, l, e, R, s, m, args, below, meth, c⟩, Z, A, D, ty, xt, nL, L0⟩ := X
  intro L H locs lc h0 hP hS hl
  exact lv_isub hX.1 hX.2.1 hd (k L H locs lc h0 hP hS hl)
theorem wp_imul {X : cxT} {own : String} {cc : ByteArray} {d C S cells slots pc : Nat} {ls : List (Option Value)} {st : List Value} {M : mM} {x y : Int32} (hX : Good X own cc d C S) (hd : decode cc pc = .ok (.imul, 1))  (k : WP X cells slots (pc + 1) ls (.int (x * y) :: st) M) : WP X cells slots pc ls (.int y :: .int x :: st) M := by
  obtain ⟨⟨p, l, e, R, s, m, args, below, meth, c⟩, Z, A, D, ty, xt, nL, L0⟩ := X
  intro L H locs lc h0 hP hS hl
  exact lv_imul hX.1 hX.2.1 hd (k L H locs lc h0 hP hS hl)
theorem wp_iand {X : cxT} {own : String} {cc : ByteArray} {d C S cells slots pc : Nat} {ls : List (Option Value)} {st : List Value} {M : mM} {x y : Int32} (hX : Good X own cc d C S) (hd : decode cc pc = .ok (.iand, 1))  (k : WP X cells slots (pc + 1) ls (.int (x &&& y) :: st) M) : WP X cells slots pc ls (.int y :: .int x :: st) M := by
  obtain ⟨⟨p, l, e, R, s, m, args, below, meth, c⟩, Z, A, D, ty, xt, nL, L0⟩ := X
  intro L H locs lc h0 hP hS hl
  exact lv_iand hX.1 hX.2.1 hd (k L H locs lc h0 hP hS hl)
theorem wp_ior {X : cxT} {own : String} {cc : ByteArray} {d C S cells slots pc : Nat} {ls : List (Option Value)} {st : List Value} {M : mM} {x y : Int32} (hX : Good X own cc d C S) (hd : decode cc pc = .ok (.ior, 1))  (k : WP X cells slots (pc + 1) ls (.int (x ||| y) :: st) M) : WP X cells slots pc ls (.int y :: .int x :: st) M := by
  obtain ⟨⟨p, l, e, R, s, m, args, below, meth, c⟩, Z, A, D, ty, xt, nL, L0⟩ := X
  intro L H locs lc h0 hP hS hl
  exact lv_ior hX.1 hX.2.1 hd (k L H locs lc h0 hP hS hl)
theorem wp_ixor {X : cxT} {own : String} {cc : ByteArray} {d C S cells slots pc : Nat} {ls : List (Option Value)} {st : List Value} {M : mM} {x y : Int32} (hX : Good X own cc d C S) (hd : decode cc pc = .ok (.ixor, 1))  (k : WP X cells slots (pc + 1) ls (.int (x ^^^ y) :: st) M) : WP X cells slots pc ls (.int y :: .int x :: st) M := by
  obtain ⟨⟨p, l, e, R, s, m, args, below, meth, c⟩, Z, A, D, ty, xt, nL, L0⟩ := X
  intro L H locs lc h0 hP hS hl
  exact lv_ixor hX.1 hX.2.1 hd (k L H locs lc h0 hP hS hl)
theorem wp_ishl {X : cxT} {own : String} {cc : ByteArray} {d C S cells slots pc : Nat} {ls : List (Option Value)} {st : List Value} {M : mM} {x y : Int32} (hX : Good X own cc d C S) (hd : decode cc pc = .ok (.ishl, 1))  (k : WP X cells slots (pc + 1) ls (.int (x <<< (y &&& 31)) :: st) M) : WP X cells slots pc ls (.int y :: .int x :: st) M := by
  obtain ⟨⟨p, l, e, R, s, m, args, below, meth, c⟩, Z, A, D, ty, xt, nL, L0⟩ := X
  intro L H locs lc h0 hP hS hl
  exact lv_ishl hX.1 hX.2.1 hd (k L H locs lc h0 hP hS hl)
theorem wp_ishr {X : cxT} {own : String} {cc : ByteArray} {d C S cells slots pc : Nat} {ls : List (Option Value)} {st : List Value} {M : mM} {x y : Int32} (hX : Good X own cc d C S) (hd : decode cc pc = .ok (.ishr, 1))  (k : WP X cells slots (pc + 1) ls (.int (x >>> (y &&& 31)) :: st) M) : WP X cells slots pc ls (.int y :: .int x :: st) M := by
  obtain ⟨⟨p, l, e, R, s, m, args, below, meth, c⟩, Z, A, D, ty, xt, nL, L0⟩ := X
  intro L H locs lc h0 hP hS hl
  exact lv_ishr hX.1 hX.2.1 hd (k L H locs lc h0 hP hS hl)
theorem wp_iushr {X : cxT} {own : String} {cc : ByteArray} {d C S cells slots pc : Nat} {ls : List (Option Value)} {st : List Value} {M : mM} {x y : Int32} (hX : Good X own cc d C S) (hd : decode cc pc = .ok (.iushr, 1))  (k : WP X cells slots (pc + 1) ls (.int ((x.toUInt32 >>> (y.toUInt32 &&& Int32.toUInt32 31)).toInt32) :: st) M) : WP X cells slots pc ls (.int y :: .int x :: st) M := by
  obtain ⟨⟨p, l, e, R, s, m, args, below, meth, c⟩, Z, A, D, ty, xt, nL, L0⟩ := X
  intro L H locs lc h0 hP hS hl
  exact lv_iushr hX.1 hX.2.1 hd rfl (k L H locs lc h0 hP hS hl)
theorem wp_idiv {X : cxT} {own : String} {cc : ByteArray} {d C S cells slots pc : Nat} {ls : List (Option Value)} {st : List Value} {M : mM} {x y : Int32} (hX : Good X own cc d C S) (hd : decode cc pc = .ok (.idiv, 1)) (hne : ¬ y = 0) (k : WP X cells slots (pc + 1) ls (.int (x / y) :: st) M) : WP X cells slots pc ls (.int y :: .int x :: st) M := by
  obtain ⟨⟨p, l, e, R, s, m, args, below, meth, c⟩, Z, A, D, ty, xt, nL, L0⟩ := X
  intro L H locs lc h0 hP hS hl
  exact lv_idiv hX.1 hX.2.1 hd hne (k L H locs lc h0 hP hS hl)
theorem wp_irem {X : cxT} {own : String} {cc : ByteArray} {d C S cells slots pc : Nat} {ls : List (Option Value)} {st : List Value} {M : mM} {x y : Int32} (hX : Good X own cc d C S) (hd : decode cc pc = .ok (.irem, 1)) (hne : ¬ y = 0) (k : WP X cells slots (pc + 1) ls (.int (x - x / y * y) :: st) M) : WP X cells slots pc ls (.int y :: .int x :: st) M := by
  obtain ⟨⟨p, l, e, R, s, m, args, below, meth, c⟩, Z, A, D, ty, xt, nL, L0⟩ := X
  intro L H locs lc h0 hP hS hl
  exact lv_irem hX.1 hX.2.1 hd hne (k L H locs lc h0 hP hS hl)
theorem wp_ineg {X : cxT} {own : String} {cc : ByteArray} {d C S cells slots pc : Nat} {ls : List (Option Value)} {st : List Value} {M : mM} {x : Int32} (hX : Good X own cc d C S) (hd : decode cc pc = .ok (.ineg, 1))  (k : WP X cells slots (pc + 1) ls (.int (-x) :: st) M) : WP X cells slots pc ls (.int x :: st) M := by
  obtain ⟨⟨p, l, e, R, s, m, args, below, meth, c⟩, Z, A, D, ty, xt, nL, L0⟩ := X
  intro L H locs lc h0 hP hS hl
  exact lv_ineg hX.1 hX.2.1 hd (k L H locs lc h0 hP hS hl)
theorem wp_ladd {X : cxT} {own : String} {cc : ByteArray} {d C S cells slots pc : Nat} {ls : List (Option Value)} {st : List Value} {M : mM} {x y : Int64} (hX : Good X own cc d C S) (hd : decode cc pc = .ok (.ladd, 1))  (k : WP X cells slots (pc + 1) ls (.long (x + y) :: st) M) : WP X cells slots pc ls (.long y :: .long x :: st) M := by
  obtain ⟨⟨p, l, e, R, s, m, args, below, meth, c⟩, Z, A, D, ty, xt, nL, L0⟩ := X
  intro L H locs lc h0 hP hS hl
  exact lv_ladd hX.1 hX.2.1 hd (k L H locs lc h0 hP hS hl)
theorem wp_lsub {X : cxT} {own : String} {cc : ByteArray} {d C S cells slots pc : Nat} {ls : List (Option Value)} {st : List Value} {M : mM} {x y : Int64} (hX : Good X own cc d C S) (hd : decode cc pc = .ok (.lsub, 1))  (k : WP X cells slots (pc + 1) ls (.long (x - y) :: st) M) : WP X cells slots pc ls (.long y :: .long x :: st) M := by
  obtain ⟨⟨p, l, e, R, s, m, args, below, meth, c⟩, Z, A, D, ty, xt, nL, L0⟩ := X
  intro L H locs lc h0 hP hS hl
  exact lv_lsub hX.1 hX.2.1 hd (k L H locs lc h0 hP hS hl)
theorem wp_lmul {X : cxT} {own : String} {cc : ByteArray} {d C S cells slots pc : Nat} {ls : List (Option Value)} {st : List Value} {M : mM} {x y : Int64} (hX : Good X own cc d C S) (hd : decode cc pc = .ok (.lmul, 1))  (k : WP X cells slots (pc + 1) ls (.long (x * y) :: st) M) : WP X cells slots pc ls (.long y :: .long x :: st) M := by
  obtain ⟨⟨p, l, e, R, s, m, args, below, meth, c⟩, Z, A, D, ty, xt, nL, L0⟩ := X
  intro L H locs lc h0 hP hS hl
  exact lv_lmul hX.1 hX.2.1 hd (k L H locs lc h0 hP hS hl)
theorem wp_land {X : cxT} {own : String} {cc : ByteArray} {d C S cells slots pc : Nat} {ls : List (Option Value)} {st : List Value} {M : mM} {x y : Int64} (hX : Good X own cc d C S) (hd : decode cc pc = .ok (.land, 1))  (k : WP X cells slots (pc + 1) ls (.long (x &&& y) :: st) M) : WP X cells slots pc ls (.long y :: .long x :: st) M := by
  obtain ⟨⟨p, l, e, R, s, m, args, below, meth, c⟩, Z, A, D, ty, xt, nL, L0⟩ := X
  intro L H locs lc h0 hP hS hl
  exact lv_land hX.1 hX.2.1 hd (k L H locs lc h0 hP hS hl)
theorem wp_lor {X : cxT} {own : String} {cc : ByteArray} {d C S cells slots pc : Nat} {ls : List (Option Value)} {st : List Value} {M : mM} {x y : Int64} (hX : Good X own cc d C S) (hd : decode cc pc = .ok (.lor, 1))  (k : WP X cells slots (pc + 1) ls (.long (x ||| y) :: st) M) : WP X cells slots pc ls (.long y :: .long x :: st) M := by
  obtain ⟨⟨p, l, e, R, s, m, args, below, meth, c⟩, Z, A, D, ty, xt, nL, L0⟩ := X
  intro L H locs lc h0 hP hS hl
  exact lv_lor hX.1 hX.2.1 hd (k L H locs lc h0 hP hS hl)
theorem wp_lshl {X : cxT} {own : String} {cc : ByteArray} {d C S cells slots pc : Nat} {ls : List (Option Value)} {st : List Value} {M : mM} {x : Int64} {y : Int32} (hX : Good X own cc d C S) (hd : decode cc pc = .ok (.lshl, 1))  (k : WP X cells slots (pc + 1) ls (.long (x <<< (y.toInt64 &&& 63)) :: st) M) : WP X cells slots pc ls (.int y :: .long x :: st) M := by
  obtain ⟨⟨p, l, e, R, s, m, args, below, meth, c⟩, Z, A, D, ty, xt, nL, L0⟩ := X
  intro L H locs lc h0 hP hS hl
  exact lv_lshl hX.1 hX.2.1 hd rfl (k L H locs lc h0 hP hS hl)
theorem wp_lcmp {X : cxT} {own : String} {cc : ByteArray} {d C S cells slots pc : Nat} {ls : List (Option Value)} {st : List Value} {M : mM} {x y : Int64} (hX : Good X own cc d C S) (hd : decode cc pc = .ok (.lcmp, 1))  (k : WP X cells slots (pc + 1) ls (.int (lg_cmp x y) :: st) M) : WP X cells slots pc ls (.long y :: .long x :: st) M := by
  obtain ⟨⟨p, l, e, R, s, m, args, below, meth, c⟩, Z, A, D, ty, xt, nL, L0⟩ := X
  intro L H locs lc h0 hP hS hl
  exact W.lcmp hX.1 hX.2.1 hd (k L H locs lc h0 hP hS hl)
theorem wp_i2l {X : cxT} {own : String} {cc : ByteArray} {d C S cells slots pc : Nat} {ls : List (Option Value)} {st : List Value} {M : mM} {x : Int32} (hX : Good X own cc d C S) (hd : decode cc pc = .ok (.i2l, 1))  (k : WP X cells slots (pc + 1) ls (.long x.toInt64 :: st) M) : WP X cells slots pc ls (.int x :: st) M := by
  obtain ⟨⟨p, l, e, R, s, m, args, below, meth, c⟩, Z, A, D, ty, xt, nL, L0⟩ := X
  intro L H locs lc h0 hP hS hl
  exact lv_i2l hX.1 hX.2.1 hd rfl (k L H locs lc h0 hP hS hl)
theorem wp_l2i {X : cxT} {own : String} {cc : ByteArray} {d C S cells slots pc : Nat} {ls : List (Option Value)} {st : List Value} {M : mM} {x : Int64} (hX : Good X own cc d C S) (hd : decode cc pc = .ok (.l2i, 1))  (k : WP X cells slots (pc + 1) ls (.int x.toInt32 :: st) M) : WP X cells slots pc ls (.long x :: st) M := by
  obtain ⟨⟨p, l, e, R, s, m, args, below, meth, c⟩, Z, A, D, ty, xt, nL, L0⟩ := X
  intro L H locs lc h0 hP hS hl
  exact lv_l2i hX.1 hX.2.1 hd rfl (k L H locs lc h0 hP hS hl)
theorem wp_i2b {X : cxT} {own : String} {cc : ByteArray} {d C S cells slots pc : Nat} {ls : List (Option Value)} {st : List Value} {M : mM} {x : Int32} (hX : Good X own cc d C S) (hd : decode cc pc = .ok (.i2b, 1))  (k : WP X cells slots (pc + 1) ls (.int x.toInt8.toInt32 :: st) M) : WP X cells slots pc ls (.int x :: st) M := by
  obtain ⟨⟨p, l, e, R, s, m, args, below, meth, c⟩, Z, A, D, ty, xt, nL, L0⟩ := X
  intro L H locs lc h0 hP hS hl
  exact lv_i2b hX.1 hX.2.1 hd rfl (k L H locs lc h0 hP hS hl)
theorem wp_i2s {X : cxT} {own : String} {cc : ByteArray} {d C S cells slots pc : Nat} {ls : List (Option Value)} {st : List Value} {M : mM} {x : Int32} (hX : Good X own cc d C S) (hd : decode cc pc = .ok (.i2s, 1))  (k : WP X cells slots (pc + 1) ls (.int x.toInt16.toInt32 :: st) M) : WP X cells slots pc ls (.int x :: st) M := by
  obtain ⟨⟨p, l, e, R, s, m, args, below, meth, c⟩, Z, A, D, ty, xt, nL, L0⟩ := X
  intro L H locs lc h0 hP hS hl
  exact lv_i2s hX.1 hX.2.1 hd rfl (k L H locs lc h0 hP hS hl)
theorem wp_i2c {X : cxT} {own : String} {cc : ByteArray} {d C S cells slots pc : Nat} {ls : List (Option Value)} {st : List Value} {M : mM} {x : Int32} (hX : Good X own cc d C S) (hd : decode cc pc = .ok (.i2c, 1))  (k : WP X cells slots (pc + 1) ls (.int (x.toUInt32 % 65536).toInt32 :: st) M) : WP X cells slots pc ls (.int x :: st) M := by
  obtain ⟨⟨p, l, e, R, s, m, args, below, meth, c⟩, Z, A, D, ty, xt, nL, L0⟩ := X
  intro L H locs lc h0 hP hS hl
  exact lv_i2c hX.1 hX.2.1 hd rfl (k L H locs lc h0 hP hS hl)
theorem wp_dup {X : cxT} {own : String} {cc : ByteArray} {d C S cells slots pc : Nat} {ls : List (Option Value)} {st : List Value} {M : mM} {a : Value} (hX : Good X own cc d C S) (hd : decode cc pc = .ok (.dup, 1)) (h1 : a.category = 1) (k : WP X cells slots (pc + 1) ls (a :: a :: st) M) : WP X cells slots pc ls (a :: st) M := by
  obtain ⟨⟨p, l, e, R, s, m, args, below, meth, c⟩, Z, A, D, ty, xt, nL, L0⟩ := X
  intro L H locs lc h0 hP hS hl
  exact lv_dup hX.1 hX.2.1 hd (by rw [cv_cat]; exact h1) (k L H locs lc h0 hP hS hl)
theorem wp_pop {X : cxT} {own : String} {cc : ByteArray} {d C S cells slots pc : Nat} {ls : List (Option Value)} {st : List Value} {M : mM} {a : Value} (hX : Good X own cc d C S) (hd : decode cc pc = .ok (.pop, 1)) (h1 : a.category = 1) (k : WP X cells slots (pc + 1) ls st M) : WP X cells slots pc ls (a :: st) M := by
  obtain ⟨⟨p, l, e, R, s, m, args, below, meth, c⟩, Z, A, D, ty, xt, nL, L0⟩ := X
  intro L H locs lc h0 hP hS hl
  exact lv_pop hX.1 hX.2.1 hd (by rw [cv_cat]; exact h1) (k L H locs lc h0 hP hS hl)
theorem wp_dup_x1 {X : cxT} {own : String} {cc : ByteArray} {d C S cells slots pc : Nat} {ls : List (Option Value)} {st : List Value} {M : mM} {a b : Value} (hX : Good X own cc d C S) (hd : decode cc pc = .ok (.dup_x1, 1)) (h1 : a.category = 1) (h2 : b.category = 1) (k : WP X cells slots (pc + 1) ls (a :: b :: a :: st) M) : WP X cells slots pc ls (a :: b :: st) M := by
  obtain ⟨⟨p, l, e, R, s, m, args, below, meth, c⟩, Z, A, D, ty, xt, nL, L0⟩ := X
  intro L H locs lc h0 hP hS hl
  exact lv_dup_x1 hX.1 hX.2.1 hd (by rw [cv_cat]; exact h1) (by rw [cv_cat]; exact h2) (k L H locs lc h0 hP hS hl)
theorem wp_dup2 {X : cxT} {own : String} {cc : ByteArray} {d C S cells slots pc : Nat} {ls : List (Option Value)} {st : List Value} {M : mM} {a b : Value} (hX : Good X own cc d C S) (hd : decode cc pc = .ok (.dup2, 1)) (h1 : a.category = 1) (h2 : b.category = 1) (k : WP X cells slots (pc + 1) ls (a :: b :: a :: b :: st) M) : WP X cells slots pc ls (a :: b :: st) M := by
  obtain ⟨⟨p, l, e, R, s, m, args, below, meth, c⟩, Z, A, D, ty, xt, nL, L0⟩ := X
  intro L H locs lc h0 hP hS hl
  exact lv_dup2_11 hX.1 hX.2.1 hd (by rw [cv_cat]; exact h1) (by rw [cv_cat]; exact h2) (k L H locs lc h0 hP hS hl)
-- BRANCHES
theorem wp_icmp_eq {X : cxT} {own : String} {cc : ByteArray} {d C S cells slots pc : Nat} {ls : List (Option Value)} {st : List Value} {M : mM} {x y : Int32} {off : Int} {tgt : Nat} (hX : Good X own cc d C S) (hd : decode cc pc = .ok (.if_icmp .eq off, 3)) (ht : (pc : Int) + off = (tgt : Int)) (kt : x = y → WP X cells slots tgt ls st M) (kf : ¬ x = y → WP X cells slots (pc + 3) ls st M) : WP X cells slots pc ls (.int y :: .int x :: st) M := by
  obtain ⟨⟨p, l, e, R, s, m, args, below, meth, c⟩, Z, A, D, ty, xt, nL, L0⟩ := X
  intro L H locs lc h0 hP hS hl
  exact lv_icmp_eq hX.1 hX.2.1 hd ht (fun h => kt h L H locs lc h0 hP hS hl) (fun h => kf h L H locs lc h0 hP hS hl)
theorem wp_icmp_ne {X : cxT} {own : String} {cc : ByteArray} {d C S cells slots pc : Nat} {ls : List (Option Value)} {st : List Value} {M : mM} {x y : Int32} {off : Int} {tgt : Nat} (hX : Good X own cc d C S) (hd : decode cc pc = .ok (.if_icmp .ne off, 3)) (ht : (pc : Int) + off = (tgt : Int)) (kt : ¬ x = y → WP X cells slots tgt ls st M) (kf : x = y → WP X cells slots (pc + 3) ls st M) : WP X cells slots pc ls (.int y :: .int x :: st) M := by
  obtain ⟨⟨p, l, e, R, s, m, args, below, meth, c⟩, Z, A, D, ty, xt, nL, L0⟩ := X
  intro L H locs lc h0 hP hS hl
  exact lv_icmp_ne hX.1 hX.2.1 hd ht (fun h => kt h L H locs lc h0 hP hS hl) (fun h => kf h L H locs lc h0 hP hS hl)
theorem wp_icmp_lt {X : cxT} {own : String} {cc : ByteArray} {d C S cells slots pc : Nat} {ls : List (Option Value)} {st : List Value} {M : mM} {x y : Int32} {off : Int} {tgt : Nat} (hX : Good X own cc d C S) (hd : decode cc pc = .ok (.if_icmp .lt off, 3)) (ht : (pc : Int) + off = (tgt : Int)) (kt : x < y → WP X cells slots tgt ls st M) (kf : ¬ x < y → WP X cells slots (pc + 3) ls st M) : WP X cells slots pc ls (.int y :: .int x :: st) M := by
  obtain ⟨⟨p, l, e, R, s, m, args, below, meth, c⟩, Z, A, D, ty, xt, nL, L0⟩ := X
  intro L H locs lc h0 hP hS hl
  exact lv_icmp_lt hX.1 hX.2.1 hd ht (fun h => kt h L H locs lc h0 hP hS hl) (fun h => kf h L H locs lc h0 hP hS hl)
theorem wp_icmp_ge {X : cxT} {own : String} {cc : ByteArray} {d C S cells slots pc : Nat} {ls : List (Option Value)} {st : List Value} {M : mM} {x y : Int32} {off : Int} {tgt : Nat} (hX : Good X own cc d C S) (hd : decode cc pc = .ok (.if_icmp .ge off, 3)) (ht : (pc : Int) + off = (tgt : Int)) (kt : y ≤ x → WP X cells slots tgt ls st M) (kf : ¬ y ≤ x → WP X cells slots (pc + 3) ls st M) : WP X cells slots pc ls (.int y :: .int x :: st) M := by
  obtain ⟨⟨p, l, e, R, s, m, args, below, meth, c⟩, Z, A, D, ty, xt, nL, L0⟩ := X
  intro L H locs lc h0 hP hS hl
  exact lv_icmp_ge hX.1 hX.2.1 hd ht (fun h => kt h L H locs lc h0 hP hS hl) (fun h => kf h L H locs lc h0 hP hS hl)
theorem wp_icmp_gt {X : cxT} {own : String} {cc : ByteArray} {d C S cells slots pc : Nat} {ls : List (Option Value)} {st : List Value} {M : mM} {x y : Int32} {off : Int} {tgt : Nat} (hX : Good X own cc d C S) (hd : decode cc pc = .ok (.if_icmp .gt off, 3)) (ht : (pc : Int) + off = (tgt : Int)) (kt : y < x → WP X cells slots tgt ls st M) (kf : ¬ y < x → WP X cells slots (pc + 3) ls st M) : WP X cells slots pc ls (.int y :: .int x :: st) M := by
  obtain ⟨⟨p, l, e, R, s, m, args, below, meth, c⟩, Z, A, D, ty, xt, nL, L0⟩ := X
  intro L H locs lc h0 hP hS hl
  exact lv_icmp_gt hX.1 hX.2.1 hd ht (fun h => kt h L H locs lc h0 hP hS hl) (fun h => kf h L H locs lc h0 hP hS hl)
theorem wp_icmp_le {X : cxT} {own : String} {cc : ByteArray} {d C S cells slots pc : Nat} {ls : List (Option Value)} {st : List Value} {M : mM} {x y : Int32} {off : Int} {tgt : Nat} (hX : Good X own cc d C S) (hd : decode cc pc = .ok (.if_icmp .le off, 3)) (ht : (pc : Int) + off = (tgt : Int)) (kt : x ≤ y → WP X cells slots tgt ls st M) (kf : ¬ x ≤ y → WP X cells slots (pc + 3) ls st M) : WP X cells slots pc ls (.int y :: .int x :: st) M := by
  obtain ⟨⟨p, l, e, R, s, m, args, below, meth, c⟩, Z, A, D, ty, xt, nL, L0⟩ := X
  intro L H locs lc h0 hP hS hl
  exact lv_icmp_le hX.1 hX.2.1 hd ht (fun h => kt h L H locs lc h0 hP hS hl) (fun h => kf h L H locs lc h0 hP hS hl)
theorem wp_if_eq {X : cxT} {own : String} {cc : ByteArray} {d C S cells slots pc : Nat} {ls : List (Option Value)} {st : List Value} {M : mM} {x : Int32} {off : Int} {tgt : Nat} (hX : Good X own cc d C S) (hd : decode cc pc = .ok (.ifCond .eq off, 3)) (ht : (pc : Int) + off = (tgt : Int)) (kt : x = 0 → WP X cells slots tgt ls st M) (kf : ¬ x = 0 → WP X cells slots (pc + 3) ls st M) : WP X cells slots pc ls (.int x :: st) M := by
  obtain ⟨⟨p, l, e, R, s, m, args, below, meth, c⟩, Z, A, D, ty, xt, nL, L0⟩ := X
  intro L H locs lc h0 hP hS hl
  exact lv_if_eq hX.1 hX.2.1 hd ht (fun h => kt h L H locs lc h0 hP hS hl) (fun h => kf h L H locs lc h0 hP hS hl)
theorem wp_if_ne {X : cxT} {own : String} {cc : ByteArray} {d C S cells slots pc : Nat} {ls : List (Option Value)} {st : List Value} {M : mM} {x : Int32} {off : Int} {tgt : Nat} (hX : Good X own cc d C S) (hd : decode cc pc = .ok (.ifCond .ne off, 3)) (ht : (pc : Int) + off = (tgt : Int)) (kt : ¬ x = 0 → WP X cells slots tgt ls st M) (kf : x = 0 → WP X cells slots (pc + 3) ls st M) : WP X cells slots pc ls (.int x :: st) M := by
  obtain ⟨⟨p, l, e, R, s, m, args, below, meth, c⟩, Z, A, D, ty, xt, nL, L0⟩ := X
  intro L H locs lc h0 hP hS hl
  exact lv_if_ne hX.1 hX.2.1 hd ht (fun h => kt h L H locs lc h0 hP hS hl) (fun h => kf h L H locs lc h0 hP hS hl)
theorem wp_if_lt {X : cxT} {own : String} {cc : ByteArray} {d C S cells slots pc : Nat} {ls : List (Option Value)} {st : List Value} {M : mM} {x : Int32} {off : Int} {tgt : Nat} (hX : Good X own cc d C S) (hd : decode cc pc = .ok (.ifCond .lt off, 3)) (ht : (pc : Int) + off = (tgt : Int)) (kt : x < 0 → WP X cells slots tgt ls st M) (kf : ¬ x < 0 → WP X cells slots (pc + 3) ls st M) : WP X cells slots pc ls (.int x :: st) M := by
  obtain ⟨⟨p, l, e, R, s, m, args, below, meth, c⟩, Z, A, D, ty, xt, nL, L0⟩ := X
  intro L H locs lc h0 hP hS hl
  exact lv_if_lt hX.1 hX.2.1 hd ht (fun h => kt h L H locs lc h0 hP hS hl) (fun h => kf h L H locs lc h0 hP hS hl)
theorem wp_if_ge {X : cxT} {own : String} {cc : ByteArray} {d C S cells slots pc : Nat} {ls : List (Option Value)} {st : List Value} {M : mM} {x : Int32} {off : Int} {tgt : Nat} (hX : Good X own cc d C S) (hd : decode cc pc = .ok (.ifCond .ge off, 3)) (ht : (pc : Int) + off = (tgt : Int)) (kt : 0 ≤ x → WP X cells slots tgt ls st M) (kf : ¬ 0 ≤ x → WP X cells slots (pc + 3) ls st M) : WP X cells slots pc ls (.int x :: st) M := by
  obtain ⟨⟨p, l, e, R, s, m, args, below, meth, c⟩, Z, A, D, ty, xt, nL, L0⟩ := X
  intro L H locs lc h0 hP hS hl
  exact lv_if_ge hX.1 hX.2.1 hd ht (fun h => kt h L H locs lc h0 hP hS hl) (fun h => kf h L H locs lc h0 hP hS hl)
theorem wp_if_gt {X : cxT} {own : String} {cc : ByteArray} {d C S cells slots pc : Nat} {ls : List (Option Value)} {st : List Value} {M : mM} {x : Int32} {off : Int} {tgt : Nat} (hX : Good X own cc d C S) (hd : decode cc pc = .ok (.ifCond .gt off, 3)) (ht : (pc : Int) + off = (tgt : Int)) (kt : 0 < x → WP X cells slots tgt ls st M) (kf : ¬ 0 < x → WP X cells slots (pc + 3) ls st M) : WP X cells slots pc ls (.int x :: st) M := by
  obtain ⟨⟨p, l, e, R, s, m, args, below, meth, c⟩, Z, A, D, ty, xt, nL, L0⟩ := X
  intro L H locs lc h0 hP hS hl
  exact lv_if_gt hX.1 hX.2.1 hd ht (fun h => kt h L H locs lc h0 hP hS hl) (fun h => kf h L H locs lc h0 hP hS hl)
theorem wp_if_le {X : cxT} {own : String} {cc : ByteArray} {d C S cells slots pc : Nat} {ls : List (Option Value)} {st : List Value} {M : mM} {x : Int32} {off : Int} {tgt : Nat} (hX : Good X own cc d C S) (hd : decode cc pc = .ok (.ifCond .le off, 3)) (ht : (pc : Int) + off = (tgt : Int)) (kt : x ≤ 0 → WP X cells slots tgt ls st M) (kf : ¬ x ≤ 0 → WP X cells slots (pc + 3) ls st M) : WP X cells slots pc ls (.int x :: st) M := by
  obtain ⟨⟨p, l, e, R, s, m, args, below, meth, c⟩, Z, A, D, ty, xt, nL, L0⟩ := X
  intro L H locs lc h0 hP hS hl
  exact lv_if_le hX.1 hX.2.1 hd ht (fun h => kt h L H locs lc h0 hP hS hl) (fun h => kf h L H locs lc h0 hP hS hl)
theorem wp_goto {X : cxT} {own : String} {cc : ByteArray} {d C S cells slots pc : Nat} {ls : List (Option Value)} {st : List Value} {M : mM} {off : Int} {tgt : Nat} (hX : Good X own cc d C S) (hd : decode cc pc = .ok (.goto off, 3)) (ht : (pc : Int) + off = (tgt : Int)) (k : WP X cells slots tgt ls st M) : WP X cells slots pc ls st M := by
  obtain ⟨⟨p, l, e, R, s, m, args, below, meth, c⟩, Z, A, D, ty, xt, nL, L0⟩ := X
  intro L H locs lc h0 hP hS hl
  exact lv_goto hX.1 hX.2.1 hd ht (k L H locs lc h0 hP hS hl)
theorem wp_lookup {X : cxT} {own : String} {cc : ByteArray} {d C S cells slots pc : Nat} {ls : List (Option Value)} {st : List Value} {M : mM} {dflt : Int} {ps : Array (Int × Int)} {len : Nat} {x : Int32} {off : Int} {tgt : Nat} (hX : Good X own cc d C S) (hd : decode cc pc = .ok (.lookupswitch dflt ps, len)) (hp : (ps.toList.zip (ps.toList.drop 1)).all (fun (a, next) => a.1 < next.1) = true) (ho : Op.lookupswitch.offset ps.toList dflt x.toInt = off) (ht : (pc : Int) + off = (tgt : Int)) (k : WP X cells slots tgt ls st M) : WP X cells slots pc ls (.int x :: st) M := by
  obtain ⟨⟨p, l, e, R, s, m, args, below, meth, c⟩, Z, A, D, ty, xt, nL, L0⟩ := X
  intro L H locs lc h0 hP hS hl
  exact lv_lookup hX.1 hX.2.1 hd hp ho ht (k L H locs lc h0 hP hS hl)
theorem wp_tabOut {X : cxT} {own : String} {cc : ByteArray} {d C S cells slots pc : Nat} {ls : List (Option Value)} {st : List Value} {M : mM} {dflt lo hi : Int} {offs : Array Int} {len : Nat} {x : Int32} {tgt : Nat} (hX : Good X own cc d C S) (hd : decode cc pc = .ok (.tableswitch dflt lo hi offs, len)) (h : x.toInt < lo ∨ hi < x.toInt) (ht : (pc : Int) + dflt = (tgt : Int)) (k : WP X cells slots tgt ls st M) : WP X cells slots pc ls (.int x :: st) M := by
  obtain ⟨⟨p, l, e, R, s, m, args, below, meth, c⟩, Z, A, D, ty, xt, nL, L0⟩ := X
  intro L H locs lc h0 hP hS hl
  exact lv_tableOut hX.1 hX.2.1 hd h ht (k L H locs lc h0 hP hS hl)
theorem wp_tabIn {X : cxT} {own : String} {cc : ByteArray} {d C S cells slots pc : Nat} {ls : List (Option Value)} {st : List Value} {M : mM} {dflt lo hi : Int} {offs : Array Int} {len : Nat} {x : Int32} {off : Int} {tgt : Nat} (hX : Good X own cc d C S) (hd : decode cc pc = .ok (.tableswitch dflt lo hi offs, len)) (h1 : ¬ x.toInt < lo) (h2 : ¬ hi < x.toInt) (ho : offs[(x.toInt - lo).toNat]? = some off) (ht : (pc : Int) + off = (tgt : Int)) (k : WP X cells slots tgt ls st M) : WP X cells slots pc ls (.int x :: st) M := by
  obtain ⟨⟨p, l, e, R, s, m, args, below, meth, c⟩, Z, A, D, ty, xt, nL, L0⟩ := X
  intro L H locs lc h0 hP hS hl
  exact lv_tableIn hX.1 hX.2.1 hd h1 h2 ho ht (k L H locs lc h0 hP hS hl)
theorem wp_ls {X : cxT} {cells slots pc : Nat} {ls ls2 : List (Option Value)} {st : List Value} {M : mM} (h : ∀ (i : Nat) (v : Value), ls2[i]? = some (some v) → ls[i]? = some (some v)) (k : WP X cells slots pc ls2 st M) : WP X cells slots pc ls st M := by
  obtain ⟨⟨p, l, e, R, s, m, args, below, meth, c⟩, Z, A, D, ty, xt, nL, L0⟩ := X
  intro L H locs lc h0 hP hS hl
  exact k L H locs lc h0 hP hS ⟨hl.1, hl.2.1, fun i v hi => hl.2.2 i v (h i v hi)⟩
theorem wp_ireturn {X : cxT} {own : String} {cc : ByteArray} {d C S cells slots pc : Nat} {ls : List (Option Value)} {M : mM} {mc ms : Nat} {Q : Option Value → mM → Prop} {v : Int32} {t : FieldType} (hX : Good X own cc d C S) (hR : RQ X (some t) mc ms Q) (hd : decode cc pc = .ok (.ireturn, 1)) (hn : narrow t (.int v) = .int v) (hc : cells ≤ mc) (hs : slots ≤ ms) (hq : Q (some (.int v)) M) : WP X cells slots pc ls [.int v] M := by
  obtain ⟨⟨p, l, e, R, s, m, args, below, meth, c⟩, Z, A, D, ty, xt, nL, L0⟩ := X
  intro L H locs lc h0 hP hS hl
  obtain ⟨hr, hZ⟩ := hR
  subst hZ
  refine W.widen (k := mc) (n := ms) hc hs ?_
  exact W.zret hX.1 hX.2.1 hr hn (fun t ht hW => ⟨⟨some (.int v), M, L, rfl, hq, h0, by rw [ht]; exact hP, va_K.moved hW.alike hX.2.2.2.2.2.2.1⟩, hS.F ht⟩) hS.2.2 hd hX.2.2.2.2.2.1
theorem wp_lreturn {X : cxT} {own : String} {cc : ByteArray} {d C S cells slots pc : Nat} {ls : List (Option Value)} {M : mM} {mc ms : Nat} {Q : Option Value → mM → Prop} {v : Int64} (hX : Good X own cc d C S) (hR : RQ X (some .long) mc ms Q) (hd : decode cc pc = .ok (.lreturn, 1)) (hc : cells ≤ mc) (hs : slots ≤ ms) (hq : Q (some (.long v)) M) : WP X cells slots pc ls [.long v] M := by
  obtain ⟨⟨p, l, e, R, s, m, args, below, meth, c⟩, Z, A, D, ty, xt, nL, L0⟩ := X
  intro L H locs lc h0 hP hS hl
  obtain ⟨hr, hZ⟩ := hR
  subst hZ
  refine W.widen (k := mc) (n := ms) hc hs ?_
  exact W.lret hX.1 hX.2.1 hr (fun t ht hW => ⟨⟨some (.long v), M, L, rfl, hq, h0, by rw [ht]; exact hP, va_K.moved hW.alike hX.2.2.2.2.2.2.1⟩, hS.F ht⟩) hS.2.2 hd hX.2.2.2.2.2.1
theorem wp_areturn {X : cxT} {own : String} {cc : ByteArray} {d C S cells slots pc : Nat} {ls : List (Option Value)} {M : mM} {mc ms : Nat} {Q : Option Value → mM → Prop} {a : Nat} {t : FieldType} (hX : Good X own cc d C S) (hR : RQ X (some t) mc ms Q) (hd : decode cc pc = .ok (.areturn, 1)) (ht : (∃ n, t = .object n) ∨ ∃ r, t = .array r) (hc : cells ≤ mc) (hs : slots ≤ ms) (hq : Q (some (.ref a)) M) : WP X cells slots pc ls [.ref a] M := by
  obtain ⟨⟨p, l, e, R, s, m, args, below, meth, c⟩, Z, A, D, ty, xt, nL, L0⟩ := X
  intro L H locs lc h0 hP hS hl
  obtain ⟨hr, hZ⟩ := hR
  subst hZ
  refine W.widen (k := mc) (n := ms) hc hs ?_
  exact W.aret hX.1 hX.2.1 hr ht (Or.inr ⟨_, rfl⟩) (fun t ht hW => ⟨⟨some (.ref a), M, L, rfl, hq, h0, by rw [ht]; exact hP, va_K.moved hW.alike hX.2.2.2.2.2.2.1⟩, hS.F ht⟩) hS.2.2 hd hX.2.2.2.2.2.1
theorem wp_return {X : cxT} {own : String} {cc : ByteArray} {d C S cells slots pc : Nat} {ls : List (Option Value)} {M : mM} {mc ms : Nat} {Q : Option Value → mM → Prop} (hX : Good X own cc d C S) (hR : RQ X none mc ms Q) (hd : decode cc pc = .ok (.return_, 1)) (hc : cells ≤ mc) (hs : slots ≤ ms) (hq : Q none M) : WP X cells slots pc ls [] M := by
  obtain ⟨⟨p, l, e, R, s, m, args, below, meth, c⟩, Z, A, D, ty, xt, nL, L0⟩ := X
  intro L H locs lc h0 hP hS hl
  obtain ⟨hr, hZ⟩ := hR
  subst hZ
  refine W.widen (k := mc) (n := ms) hc hs ?_
  exact W.vret hX.1 hX.2.1 hr (fun t ht hW => ⟨⟨none, M, L, rfl, hq, h0, by rw [ht]; exact hP, va_K.moved hW.alike hX.2.2.2.2.2.2.1⟩, hS.F ht⟩) hS.2.2 hd hX.2.2.2.2.2.1
end
section
/-! FIELDS, ARRAYS, NEW CELLS -/
def x_kt : FieldType → Nat
  | .int => 1
  | .boolean => 2
  | .object _ => 0
  | .array _ => 0
  | _ => 9
/-- what is known of a class of the list -/
def CF (ci : Nat) (C : String) (T : u_T) (N : Nat) (ty : Nat → FieldType) : Prop :=
  vwCl[ci]? = some (C, T, N) ∧ (x_ft.getD ci []).length = N ∧ ci < 12 ∧ (∀ w ∈ u_ws C T N, w ∈ x_tbl) ∧ (∀ k, k < N → parseFieldDescriptor (T k).2.2.1 = some (ty k)) ∧ (∀ a, a < N → ∀ b, b < N → a ≠ b → (T a).2.1 ≠ (T b).2.1) ∧ ∀ k, k < N → x_kt (ty k) = (x_ft.getD ci []).getD k 9
/-- entry idx of the class own: field k of class ci, of sort t -/
def FL (own : String) (idx ci k t : Nat) : Prop := ∃ (C : String) (T : u_T) (N : Nat) (ty : Nat → FieldType), CF ci C T N ty ∧ k < N ∧ (x_ft.getD ci [])[k]? = some t ∧ ((Cond.fieldLink own idx (T k).1 (T k).2.1 (T k).2.2.1 ∈ x_tbl) ∨ ∃ host, (own, idx, (T k).1, (T k).2.1, (T k).2.2.1, host) ∈ x_nF)
/-- the same, to be written: not final, or final and in a constructor of the class -/
def FP (own : String) (idx ci k t : Nat) : Prop := ∃ (C : String) (T : u_T) (N : Nat) (ty : Nat → FieldType), CF ci C T N ty ∧ k < N ∧ (x_ft.getD ci [])[k]? = some t ∧ (Cond.fieldLink own idx (T k).1 (T k).2.1 (T k).2.2.1 ∈ x_tbl) ∧ (T k).2.2.2 = false
def FF (own : String) (idx ci k t : Nat) : Prop := ∃ (C : String) (T : u_T) (N : Nat) (ty : Nat → FieldType), CF ci C T N ty ∧ k < N ∧ (x_ft.getD ci [])[k]? = some t ∧ (Cond.fieldLink own idx (T k).1 (T k).2.1 (T k).2.2.1 ∈ x_tbl) ∧ (T k).2.2.2 = true ∧ (T k).1 = own
theorem x_cl_o {ty : Nat → ClassId} {ad : Nat → Nat} {M : mM} {a ci : Nat} (h : m_k M a = ci) (hc : ci < 12) : x_cl ty ad M a = .inr (ci, x_fs (x_ft.getD ci []) (m_i M a) (fun j => va_rf ((m_r M a j).map ad))) := by
  subst h
  unfold x_cl
  rw [if_neg (by omega), if_neg (by omega), if_neg (by omega)]
theorem x_cl_i {ty : Nat → ClassId} {ad : Nat → Nat} {M : mM} {a : Nat} (h : m_k M a = 12) : x_cl ty ad M a = .inl (ty 0, m_l M a, .inl (m_i M a)) := by
  unfold x_cl
  rw [if_pos h]
theorem x_cl_j {ty : Nat → ClassId} {ad : Nat → Nat} {M : mM} {a : Nat} (h : m_k M a = 13) : x_cl ty ad M a = .inl (ty 1, m_l M a, .inr (.inl (m_j M a))) := by
  unfold x_cl
  rw [if_neg (by omega), if_pos h]
theorem x_cl_r {ty : Nat → ClassId} {ad : Nat → Nat} {M : mM} {a : Nat} (h : m_k M a = 14) : x_cl ty ad M a = .inl (ty 2, m_l M a, .inr (.inr (.inr (.inr (fun j => (m_r M a j).map ad))))) := by
  unfold x_cl
  rw [if_neg (by omega), if_neg (by omega), if_pos h]
theorem x_cl_eq {ty : Nat → ClassId} {ad : Nat → Nat} {M M' : mM} {b : Nat} (h1 : m_k M' b = m_k M b) (h2 : m_l M' b = m_l M b) (h3 : m_i M' b = m_i M b) (h4 : m_j M' b = m_j M b) (h5 : m_r M' b = m_r M b) : x_cl ty ad M' b = x_cl ty ad M b := by
  unfold x_cl
  rw [h1, h2, h3, h4, h5]
/-- a cell written: the picture goes along -/
theorem PR.put {D : va_G} {ty : Nat → ClassId} {xt : Nat → Nat} {A : Nat → Prop} {L : List Nat} {M M' : mM} {H H1 : Heap} {a : Nat} {e : va_E} (h : PR D ty xt A L M H) (ha : a < m_n M) (hn : m_n M' = m_n M) (he : x_cl ty (x_ad xt L) M' a = e) (hr : ∀ b, b ≠ a → x_cl ty (x_ad xt L) M' b = x_cl ty (x_ad xt L) M b) (hw : ∀ b j r, b < m_n M' → m_r M' b j = some r → r < m_n M') (h1 : va_P D vwCl ((x_ws ty xt L M).set a (x_ad xt L a, e)) H1) (h2 : va_D A ((x_ws ty xt L M).set a (x_ad xt L a, e))) : PR D ty xt A L M' H1 := by
  rw [x_ws_set ha hn he hr] at h1 h2
  exact ⟨by rw [hn]; exact h.1, by rw [hn]; exact h.2.1, hw, h1, h2⟩
section HEAP
variable {X : cxT} {own : String} {cc : ByteArray} {d C S cells slots pc : Nat} {ls : List (Option Value)} {st : List Value} {M : mM}
theorem wp_get {idx ci k t a : Nat} (hX : Good X own cc d C S) (hf : FL own idx ci k t) (hd : decode cc pc = .ok (.getfield idx, 3)) (ha : a < m_n M) (hk : m_k M a = ci) {v : Value}
    (hv : ∀ ad : Nat → Nat, (if t = 0 then va_rf ((m_r M a k).map ad) else .int (m_i M a k)) = (match v with
      | .ref r => .ref (ad r)
      | w => w)) (hlt : ∀ r, v = .ref r → r < 1000) (kk : WP X cells slots (pc + 3) ls (v :: st) M) : WP X cells slots pc ls (.ref a :: st) M := by
  obtain ⟨⟨p, l, e, R, s, m, args, below, meth, c⟩, Z, A, D, ty, xt, nL, L0⟩ := X
  intro L H locs lc h0 hP hS hl
  obtain ⟨C0, T, N, ty0, hC, hkN, ht, hlink⟩ := hf
  have hcell := x_ws_at (ty := ty) (xt := xt) (L := L) ha
  rw [x_cl_o hk hC.2.2.1] at hcell
  have hcv : (if t = 0 then va_rf ((m_r M a k).map (x_ad xt L)) else .int (m_i M a k)) = cv xt L v := by
    rw [hv (x_ad xt L)]
    cases v <;> rfl
  have hat := x_fs_at (fi := m_i M a) (fr := fun j => va_rf ((m_r M a j).map (x_ad xt L))) ht
  rw [hcv] at hat
  rcases hlink with hlink | ⟨host, hlink⟩
  · exact va_get hX.1 hX.2.1 hX.2.2.2.2.1 hC.2.2.2.1 hX.2.2.2.1 hX.2.2.2.2.2.2.1 hP.2.2.2.1 a hcell hC.1 k hkN (hX.2.2.2.2.1 _ hlink) (fun _ h9 => h9) hat hd (kk L H locs lc h0 hP hS hl)
  · exact va_getN hX.1 hX.2.1 hX.2.2.2.2.1 hC.2.2.2.1 hX.2.2.2.1 hX.2.2.2.2.2.2.1 hP.2.2.2.1 a hcell hC.1 k hkN ((hX.2.2.2.2.2.2.2.2.2.1.2.1 _ hlink).use rfl) (fun _ h9 => h9) hat hd (kk L H locs lc h0 hP hS hl)
/-- an int field (a boolean) -/
theorem wp_geti {idx ci k t a : Nat} (hX : Good X own cc d C S) (hf : FL own idx ci k t) (hd : decode cc pc = .ok (.getfield idx, 3)) (ht : ¬ t = 0) (ha : a < m_n M) (hk : m_k M a = ci) (kk : WP X cells slots (pc + 3) ls (.int (m_i M a k) :: st) M) : WP X cells slots pc ls (.ref a :: st) M :=
  wp_get hX hf hd ha hk (v := .int (m_i M a k)) (fun ad => by rw [if_neg ht]) (fun r h => by cases h) kk
/-- a field that holds a reference -/
theorem wp_getr {idx ci k a r : Nat} (hX : Good X own cc d C S) (hf : FL own idx ci k 0) (hd : decode cc pc = .ok (.getfield idx, 3)) (ha : a < m_n M) (hk : m_k M a = ci) (hr : m_r M a k = some r) (hlt : r < 1000) (kk : WP X cells slots (pc + 3) ls (.ref r :: st) M) : WP X cells slots pc ls (.ref a :: st) M :=
  wp_get hX hf hd ha hk (v := .ref r) (fun ad => by rw [if_pos rfl, hr]; rfl) (fun r' h => by cases h; exact hlt) kk
theorem x_kt_1 {ty : FieldType} (h : x_kt ty = 1) : ty = .int := by cases ty <;> first | rfl | (simp [x_kt] at h)
theorem x_kt_2 {ty : FieldType} (h : x_kt ty = 2) : ty = .boolean := by cases ty <;> first | rfl | (simp [x_kt] at h)
theorem x_kt_0 {ty : FieldType} (h : x_kt ty = 0) (r : Nat) : narrow ty (.ref r) = .ref r ∧ fits ty (.ref r) = true := by cases ty <;> first | exact ⟨rfl, rfl⟩ | (simp [x_kt] at h)
theorem CF.kt {ci : Nat} {C0 : String} {T : u_T} {N : Nat} {ty : Nat → FieldType} (h : CF ci C0 T N ty) {k t : Nat} (hk : k < N) (ht : (x_ft.getD ci [])[k]? = some t) : x_kt (ty k) = t := by
  rw [h.2.2.2.2.2.2 k hk, List.getD_eq_getElem?_getD, ht]
  rfl
theorem wp_puti {idx ci k a : Nat} {v : Int32} (hX : Good X own cc d C S) (hf : FP own idx ci k 1) (hd : decode cc pc = .ok (.putfield idx, 3)) (ha : a < m_n M) (hk : m_k M a = ci) (kk : WP X cells slots (pc + 3) ls st (m_seti M a k v)) : WP X cells slots pc ls (.int v :: .ref a :: st) M := by
  obtain ⟨⟨p, l, e, R, s, m, args, below, meth, c⟩, Z, A, D, ty, xt, nL, L0⟩ := X
  intro L H locs lc h0 hP hS hl
  obtain ⟨C0, T, N, ty0, hC, hkN, ht, hlink, hfin⟩ := hf
  have hcell := x_ws_at (ty := ty) (xt := xt) (L := L) ha
  rw [x_cl_o hk hC.2.2.1] at hcell
  have hty := x_kt_1 (hC.kt hkN ht)
  have hd1 := hC.2.2.2.2.1 k hkN
  rw [hty] at hd1
  refine va_put hX.1 hX.2.1 hX.2.2.2.2.1 hC.2.2.2.1 ty0 hC.2.2.2.2.1 hC.2.2.2.2.2.1 hX.2.2.2.1 hX.2.2.2.2.2.2.1 hP.2.2.2.1 hP.2.2.2.2 hS a hcell hC.1 k hkN (hX.2.2.2.2.1 _ hlink) (fun _ h9 => h9) hfin (ty := .int) (v := .int v) hd1 rfl rfl (by rw [x_fs_len, hC.2.1]; exact hkN) hd (fun H1 locs1 h1 h2 h3 => ?_)
  refine kk L H1 locs1 lc h0 (hP.put (M' := m_seti M a k v) ha rfl ?_ (fun b hb => x_cl_eq rfl rfl (u2_ne _ _ _ hb) rfl rfl) hP.2.2.1 h1 h2) h3 hl
  rw [x_cl_o (show m_k (m_seti M a k v) a = ci from hk) hC.2.2.1, x_fs_seti ht (by decide)]
  show Sum.inr (ci, x_fs _ (u2 (m_i M) a k v a) _) = _
  rw [u2_row]
theorem wp_putz {idx ci k a : Nat} {v : Int32} (hX : Good X own cc d C S) (hf : FP own idx ci k 2) (hd : decode cc pc = .ok (.putfield idx, 3)) (hv : narrow .boolean (.int v) = .int v ∧ fits .boolean (.int v) = true) (ha : a < m_n M) (hk : m_k M a = ci) (kk : WP X cells slots (pc + 3) ls st (m_seti M a k v)) : WP X cells slots pc ls (.int v :: .ref a :: st) M := by
  obtain ⟨⟨p, l, e, R, s, m, args, below, meth, c⟩, Z, A, D, ty, xt, nL, L0⟩ := X
  intro L H locs lc h0 hP hS hl
  obtain ⟨C0, T, N, ty0, hC, hkN, ht, hlink, hfin⟩ := hf
  have hcell := x_ws_at (ty := ty) (xt := xt) (L := L) ha
  rw [x_cl_o hk hC.2.2.1] at hcell
  have hty := x_kt_2 (hC.kt hkN ht)
  have hd1 := hC.2.2.2.2.1 k hkN
  rw [hty] at hd1
  refine va_put hX.1 hX.2.1 hX.2.2.2.2.1 hC.2.2.2.1 ty0 hC.2.2.2.2.1 hC.2.2.2.2.2.1 hX.2.2.2.1 hX.2.2.2.2.2.2.1 hP.2.2.2.1 hP.2.2.2.2 hS a hcell hC.1 k hkN (hX.2.2.2.2.1 _ hlink) (fun _ h9 => h9) hfin (ty := .boolean) (v := .int v) hd1 hv.1 hv.2 (by rw [x_fs_len, hC.2.1]; exact hkN) hd (fun H1 locs1 h1 h2 h3 => ?_)
  refine kk L H1 locs1 lc h0 (hP.put (M' := m_seti M a k v) ha rfl ?_ (fun b hb => x_cl_eq rfl rfl (u2_ne _ _ _ hb) rfl rfl) hP.2.2.1 h1 h2) h3 hl
  rw [x_cl_o (show m_k (m_seti M a k v) a = ci from hk) hC.2.2.1, x_fs_seti ht (by decide)]
  show Sum.inr (ci, x_fs _ (u2 (m_i M) a k v a) _) = _
  rw [u2_row]
theorem x_wf_setr {M : mM} {a k r : Nat} (h : ∀ b j q, b < m_n M → m_r M b j = some q → q < m_n M) (hr : r < m_n M) : ∀ b j q, b < m_n (m_setr M a k (some r)) → m_r (m_setr M a k (some r)) b j = some q → q < m_n (m_setr M a k (some r)) := by
  intro b j q hb hq
  have hq : u2 (m_r M) a k (some r) b j = some q := hq
  show q < m_n M
  unfold u2 at hq
  split at hq
  · split at hq
    · cases hq; exact hr
    · exact h b j q hb hq
  · exact h b j q hb hq
theorem x_fs_setr2 {ts : List Nat} {fi : Nat → Int32} {f : Nat → Nat → Option Nat} {ad : Nat → Nat} {a k r : Nat} (ht : ts[k]? = some 0) : (x_fs ts fi (fun j => va_rf ((f a j).map ad))).set k (Value.ref (ad r)) = x_fs ts fi (fun j => va_rf ((u2 f a k (some r) a j).map ad)) := by
  have e3 : Value.ref (ad r) = (fun j => va_rf ((u2 f a k (some r) a j).map ad)) k := by
    simp [u2, va_rf]
  rw [e3]
  exact x_fs_setr (fr := fun j => va_rf ((f a j).map ad)) (fr2 := fun j => va_rf ((u2 f a k (some r) a j).map ad)) ht (fun j hj => by simp [u2, hj])
theorem wp_putr {idx ci k a r : Nat} (hX : Good X own cc d C S) (hf : FP own idx ci k 0) (hd : decode cc pc = .ok (.putfield idx, 3)) (ha : a < m_n M) (hk : m_k M a = ci) (hr : r < m_n M) (kk : WP X cells slots (pc + 3) ls st (m_setr M a k (some r))) : WP X cells slots pc ls (.ref r :: .ref a :: st) M := by
  obtain ⟨⟨p, l, e, R, s, m, args, below, meth, c⟩, Z, A, D, ty, xt, nL, L0⟩ := X
  intro L H locs lc h0 hP hS hl
  obtain ⟨C0, T, N, ty0, hC, hkN, ht, hlink, hfin⟩ := hf
  have hcell := x_ws_at (ty := ty) (xt := xt) (L := L) ha
  rw [x_cl_o hk hC.2.2.1] at hcell
  have hty := x_kt_0 (hC.kt hkN ht) (x_ad xt L r)
  refine va_put hX.1 hX.2.1 hX.2.2.2.2.1 hC.2.2.2.1 ty0 hC.2.2.2.2.1 hC.2.2.2.2.2.1 hX.2.2.2.1 hX.2.2.2.2.2.2.1 hP.2.2.2.1 hP.2.2.2.2 hS a hcell hC.1 k hkN (hX.2.2.2.2.1 _ hlink) (fun _ h9 => h9) hfin (v := .ref (x_ad xt L r)) (hC.2.2.2.2.1 k hkN) hty.1 hty.2 (by rw [x_fs_len, hC.2.1]; exact hkN) hd (fun H1 locs1 h1 h2 h3 => ?_)
  refine kk L H1 locs1 lc h0 (hP.put (M' := m_setr M a k (some r)) ha rfl ?_ (fun b hb => x_cl_eq rfl rfl rfl rfl (u2_ne _ _ _ hb)) (x_wf_setr hP.2.2.1 hr) h1 h2) h3 hl
  rw [x_cl_o (show m_k (m_setr M a k (some r)) a = ci from hk) hC.2.2.1]
  exact congrArg (fun z => Sum.inr (ci, z)) (x_fs_setr2 ht).symm
theorem wp_putF {idx ci k a r : Nat} (hX : Good X own cc d C S) (hin : x_init X) (hf : FF own idx ci k 0) (hd : decode cc pc = .ok (.putfield idx, 3)) (ha : a < m_n M) (hk : m_k M a = ci) (hr : r < m_n M) (kk : WP X cells slots (pc + 3) ls st (m_setr M a k (some r))) : WP X cells slots pc ls (.ref r :: .ref a :: st) M := by
  obtain ⟨⟨p, l, e, R, s, m, args, below, meth, c⟩, Z, A, D, ty, xt, nL, L0⟩ := X
  intro L H locs lc h0 hP hS hl
  obtain ⟨C0, T, N, ty0, hC, hkN, ht, hlink, hfin, hown2⟩ := hf
  have hcell := x_ws_at (ty := ty) (xt := xt) (L := L) ha
  rw [x_cl_o hk hC.2.2.1] at hcell
  have hty := x_kt_0 (hC.kt hkN ht) (x_ad xt L r)
  refine va_putF hX.1 hX.2.1 hX.2.2.2.2.1 hC.2.2.2.1 ty0 hC.2.2.2.2.1 hC.2.2.2.2.2.1 hX.2.2.2.1 hX.2.2.2.2.2.2.1 hP.2.2.2.1 hP.2.2.2.2 hS a hcell hC.1 k hkN (hX.2.2.2.2.1 _ hlink) (fun _ h9 => h9) hfin hin hown2 (v := .ref (x_ad xt L r)) (hC.2.2.2.2.1 k hkN) hty.1 hty.2 (by rw [x_fs_len, hC.2.1]; exact hkN) hd (fun H1 locs1 h1 h2 h3 => ?_)
  refine kk L H1 locs1 lc h0 (hP.put (M' := m_setr M a k (some r)) ha rfl ?_ (fun b hb => x_cl_eq rfl rfl rfl rfl (u2_ne _ _ _ hb)) (x_wf_setr hP.2.2.1 hr) h1 h2) h3 hl
  rw [x_cl_o (show m_k (m_setr M a k (some r)) a = ci from hk) hC.2.2.1]
  exact congrArg (fun z => Sum.inr (ci, z)) (x_fs_setr2 ht).symm
/-- arrays of ints -/
theorem wp_iald {a : Nat} {i : Int32} (hX : Good X own cc d C S) (hd : decode cc pc = .ok (.iaload, 1)) (ha : a < m_n M) (hk : m_k M a = 12) (hi : vp_in i (m_l M a)) (kk : WP X cells slots (pc + 1) ls (.int (m_i M a i.toNatClampNeg) :: st) M) : WP X cells slots pc ls (.int i :: .ref a :: st) M := by
  obtain ⟨⟨p, l, e, R, s, m, args, below, meth, c⟩, Z, A, D, ty, xt, nL, L0⟩ := X
  intro L H locs lc h0 hP hS hl
  have hcell := x_ws_at (ty := ty) (xt := xt) (L := L) ha
  rw [x_cl_i hk] at hcell
  exact va_iald hX.1 hX.2.1 hX.2.2.2.2.2.2.1 hP.2.2.2.1 a 0 hcell rfl hi hd (kk L H locs lc h0 hP hS hl)
theorem wp_iast {a : Nat} {i v : Int32} (hX : Good X own cc d C S) (hd : decode cc pc = .ok (.iastore, 1)) (ha : a < m_n M) (hk : m_k M a = 12) (hi : vp_in i (m_l M a)) (kk : WP X cells slots (pc + 1) ls st (m_seti M a i.toNatClampNeg v)) : WP X cells slots pc ls (.int v :: .int i :: .ref a :: st) M := by
  obtain ⟨⟨p, l, e, R, s, m, args, below, meth, c⟩, Z, A, D, ty, xt, nL, L0⟩ := X
  intro L H locs lc h0 hP hS hl
  have hcell := x_ws_at (ty := ty) (xt := xt) (L := L) ha
  rw [x_cl_i hk] at hcell
  refine va_iast hX.1 hX.2.1 hX.2.2.2.2.2.2.1 hP.2.2.2.1 hP.2.2.2.2 hS a 0 hcell rfl hi hd (fun H1 locs1 h1 h2 h3 => ?_)
  refine kk L H1 locs1 lc h0 (hP.put (M' := m_seti M a i.toNatClampNeg v) ha rfl ?_ (fun b hb => x_cl_eq rfl rfl (u2_ne _ _ _ hb) rfl rfl) hP.2.2.1 h1 h2) h3 hl
  rw [x_cl_i (show m_k (m_seti M a i.toNatClampNeg v) a = 12 from hk)]
  show Sum.inl (ty 0, m_l M a, Sum.inl (u2 (m_i M) a i.toNatClampNeg v a)) = _
  rw [u2_row]
  rfl
/-- arrays of longs -/
theorem wp_lald {a : Nat} {i : Int32} (hX : Good X own cc d C S) (hd : decode cc pc = .ok (.laload, 1)) (ha : a < m_n M) (hk : m_k M a = 13) (hi : vp_in i (m_l M a)) (kk : WP X cells slots (pc + 1) ls (.long (m_j M a i.toNatClampNeg) :: st) M) : WP X cells slots pc ls (.int i :: .ref a :: st) M := by
  obtain ⟨⟨p, l, e, R, s, m, args, below, meth, c⟩, Z, A, D, ty, xt, nL, L0⟩ := X
  intro L H locs lc h0 hP hS hl
  have hcell := x_ws_at (ty := ty) (xt := xt) (L := L) ha
  rw [x_cl_j hk] at hcell
  exact va_lald hX.1 hX.2.1 hX.2.2.2.2.2.2.1 hP.2.2.2.1 a 1 hcell rfl hi hd (kk L H locs lc h0 hP hS hl)
theorem wp_last {a : Nat} {i : Int32} {v : Int64} (hX : Good X own cc d C S) (hd : decode cc pc = .ok (.lastore, 1)) (ha : a < m_n M) (hk : m_k M a = 13) (hi : vp_in i (m_l M a)) (kk : WP X cells slots (pc + 1) ls st (m_setj M a i.toNatClampNeg v)) : WP X cells slots pc ls (.long v :: .int i :: .ref a :: st) M := by
  obtain ⟨⟨p, l, e, R, s, m, args, below, meth, c⟩, Z, A, D, ty, xt, nL, L0⟩ := X
  intro L H locs lc h0 hP hS hl
  have hcell := x_ws_at (ty := ty) (xt := xt) (L := L) ha
  rw [x_cl_j hk] at hcell
  refine va_last hX.1 hX.2.1 hX.2.2.2.2.2.2.1 hP.2.2.2.1 hP.2.2.2.2 hS a 1 hcell rfl hi hd (fun H1 locs1 h1 h2 h3 => ?_)
  refine kk L H1 locs1 lc h0 (hP.put (M' := m_setj M a i.toNatClampNeg v) ha rfl ?_ (fun b hb => x_cl_eq rfl rfl rfl (u2_ne _ _ _ hb) rfl) hP.2.2.1 h1 h2) h3 hl
  rw [x_cl_j (show m_k (m_setj M a i.toNatClampNeg v) a = 13 from hk)]
  show Sum.inl (ty 1, m_l M a, Sum.inr (Sum.inl (u2 (m_j M) a i.toNatClampNeg v a))) = _
  rw [u2_row]
  rfl
/-- arrays of Forms -/
theorem wp_aald {a r : Nat} {i : Int32} (hX : Good X own cc d C S) (hd : decode cc pc = .ok (.aaload, 1)) (ha : a < m_n M) (hk : m_k M a = 14) (hi : vp_in i (m_l M a)) (hr : m_r M a i.toNatClampNeg = some r) (kk : WP X cells slots (pc + 1) ls (.ref r :: st) M) : WP X cells slots pc ls (.int i :: .ref a :: st) M := by
  obtain ⟨⟨p, l, e, R, s, m, args, below, meth, c⟩, Z, A, D, ty, xt, nL, L0⟩ := X
  intro L H locs lc h0 hP hS hl
  have hcell := x_ws_at (ty := ty) (xt := xt) (L := L) ha
  rw [x_cl_r hk] at hcell
  refine va_aldq hX.1 hX.2.1 hX.2.2.2.2.2.2.1 hP.2.2.2.1 a 2 (C := "CutFromOthers$Form") hcell rfl hi hd ?_
  have e1 : va_rf ((m_r M a i.toNatClampNeg).map (x_ad xt L)) = cv xt L (.ref r) := by rw [hr]; rfl
  rw [e1]
  exact kk L H locs lc h0 hP hS hl
theorem wp_aast {a r : Nat} {i : Int32} (hX : Good X own cc d C S) (hd : decode cc pc = .ok (.aastore, 1)) (ha : a < m_n M) (hk : m_k M a = 14) (hi : vp_in i (m_l M a)) (hr : r < m_n M) (hkr : m_k M r = 1) (kk : WP X cells slots (pc + 1) ls st (m_setr M a i.toNatClampNeg (some r))) : WP X cells slots pc ls (.ref r :: .int i :: .ref a :: st) M := by
  obtain ⟨⟨p, l, e, R, s, m, args, below, meth, c⟩, Z, A, D, ty, xt, nL, L0⟩ := X
  intro L H locs lc h0 hP hS hl
  have hcell := x_ws_at (ty := ty) (xt := xt) (L := L) ha
  rw [x_cl_r hk] at hcell
  have hcv := x_ws_at (ty := ty) (xt := xt) (L := L) hr
  rw [x_cl_o hkr (by decide)] at hcv
  refine va_astq hX.1 hX.2.1 hX.2.2.2.2.2.2.1 hP.2.2.2.1 hP.2.2.2.2 hS a 2 r 1 (r := (RX1, TX1, 6)) hcell rfl hcv rfl hi hd (fun H1 locs1 h1 h2 h3 => ?_)
  refine kk L H1 locs1 lc h0 (hP.put (M' := m_setr M a i.toNatClampNeg (some r)) ha rfl ?_ (fun b hb => x_cl_eq rfl rfl rfl rfl (u2_ne _ _ _ hb)) (x_wf_setr hP.2.2.1 hr) h1 h2) h3 hl
  rw [x_cl_r (show m_k (m_setr M a i.toNatClampNeg (some r)) a = 14 from hk)]
  show Sum.inl (ty 2, m_l M a, Sum.inr (Sum.inr (Sum.inr (Sum.inr (fun j => (u2 (m_r M) a i.toNatClampNeg (some r) a j).map (x_ad xt L)))))) = _
  congr 7
  funext j
  rw [u2_row]
  unfold va_up
  by_cases hj : j = i.toNatClampNeg
  · simp [hj]
  · simp [hj]
end HEAP
end
section
/-! CALLS -/
/-- a method of the tables: n parameters -/
def MF (i : mI) (n : Nat) : Prop := x_cw i ∈ x_tbl ∧ Cond.initialized i.1.cls ∈ x_tbl ∧ (i.1.cls ≠ "java/lang/invoke/MethodHandle" ∧ i.1.cls ≠ "java/lang/invoke/VarHandle" ∧ (parseMethodDescriptor i.1.desc).map (fun d => d.parameters.length) = some n) ∧ i.2.2.1 ≤ 40
/-- the link: the class's own entry, or a nest mate's -/
def ML (own : String) (idx : Nat) (i : mI) : Prop := Cond.methodLink own idx i.1 ∈ x_tbl ∨ ∃ host, (own, idx, i.1, host) ∈ x_nM
theorem x_gd {i : mI} (h : x_cw i ∈ x_tbl) : GoodIn x_tbl (x_cw i :: x_tbl) := x_goodIn (fun w hw => (List.mem_cons.mp hw).elim (fun e => e ▸ h) id)
theorem x_A_sub {ty : Nat → ClassId} {xt : Nat → Nat} {A : Nat → Prop} {L : List Nat} {M : mM} {H0 H : Heap} {locs : List Loc} (hD : va_D A (x_ws ty xt L M)) (hS : va_S A H0 H locs) (hA : ∀ q : Nat, H0.size ≤ q → A q) : ∀ q, va_A (x_ws ty xt L M) H.size q → A q := by
  intro q hq
  rcases hq with ⟨k, e, hk⟩ | hq
  · exact hD.2 k (q, e) hk
  · exact hA q (Nat.le_trans hS.1 hq)
/-- the start of a callee's contract, out of the caller's world -/
theorem x_pre {X : cxT} {own : String} {cc : ByteArray} {d C S : Nat} {p : Program} {l : Launch} {e : Env} {R : Room} {s : State} {m : MethodId} {args : Array Value} {below : List Frame} {meth : Method} {c : Code} {Z : State → Prop} {A : Nat → Prop} {D : va_G} {ty : Nat → ClassId} {xt : Nat → Nat} {nL : Nat} {L0 : List Nat} (hX : Good ((p, l, e, R, s, m, args, below, meth, c), Z, A, D, ty, xt, nL, L0) own cc d C S) {L : List Nat} {M : mM} {H : Heap} {locs : List Loc} (hP : PR D ty xt A L M H) (hS : va_S A s.heap H locs) (av : List Value) :
    PreS s H (va_Pc (av.map (cv xt L)) (fun U => U.heap.size = H.size ∧ PR D ty xt (fun _ => True) L M U.heap ∧ va_K D vwCl (x_ty ty) U ∧ ExH xt (va_A (x_ws ty xt L M) H.size) U U.heap ∧ ExV xt U)) (av.map (cv xt L)) := by
  refine ⟨fun a U g mk q => ?_, fun U hU hW => ?_⟩
  · obtain ⟨q0, q1, q2, q3, q4, q5⟩ := q
    exact ⟨q0, q1, q2, va_K.moved (u := U) (U := U.calling g mk a) (Vm.Alike.refl U.vm) q3, ExH.moved (u := U) (U := U.calling g mk a) (Vm.Alike.refl U.vm) q4, ExV.same (u := U) (U := U.calling g mk a) rfl q5⟩
  · refine ⟨rfl, by rw [hU], by rw [hU]; exact hP.weaken (fun _ _ _ _ => trivial), va_K.moved hW.alike hX.2.2.2.2.2.2.1, ?_, ExV.warm hW hX.2.2.2.2.2.2.2.2.2.1⟩
    rw [hU]
    exact ExH.moved hW.alike ((hX.2.2.2.2.2.2.2.2.1.kept hS.2.1).narrow (x_A_sub hP.2.2.2.2 hS hX.2.2.2.2.2.2.2.1))
/-- the cells of the world behind a call, as the caller names them -/
theorem x_behind {D : va_G} {ty : Nat → ClassId} {xt : Nat → Nat} {A : Nat → Prop} {L L' : List Nat} {M M' : mM} {H H0 H1 : Heap} {locs : List Loc} (hP : PR D ty xt A L M H) (hS : va_S A H0 H locs) (hA : ∀ q : Nat, H0.size ≤ q → A q) (h : PR D ty xt (va_A (x_ws ty xt L M) H.size) L' M' H1) : PR D ty xt A L' M' H1 :=
  h.weaken (fun _ _ _ hq => x_A_sub hP.2.2.2.2 hS hA _ hq)
/-- values that stay the same when cells come -/
def x_old (n : Nat) (v : Value) : Prop := ∀ r, v = .ref r → r < n ∨ 1000 ≤ r
theorem x_pre_get {L L' : List Nat} (h : L <+: L') {k : Nat} (hk : k < L.length) : L'.getD k 0 = L.getD k 0 := by
  obtain ⟨t, rfl⟩ := h
  simp [List.getD_eq_getElem?_getD, List.getElem?_append_left hk]
theorem cv_old {xt : Nat → Nat} {L L' : List Nat} (h : L <+: L') {v : Value} (hv : x_old L.length v) : cv xt L' v = cv xt L v := by
  cases v with
  | ref r =>
    show Value.ref (x_ad xt L' r) = Value.ref (x_ad xt L r)
    unfold x_ad
    rcases hv r rfl with h1 | h1
    · by_cases h2 : r < 1000
      · rw [if_pos h2, if_pos h2, x_pre_get h h1]
      · rw [if_neg h2, if_neg h2]
    · have h3 : ¬ r < 1000 := Nat.not_lt.mpr h1
      rw [if_neg h3, if_neg h3]
  | _ => rfl
section CALLS
variable {X : cxT} {own : String} {cc : ByteArray} {d C S cells slots pc : Nat} {ls : List (Option Value)} {st : List Value} {M : mM}
/-- what goes on behind a call: 'hold' if no cell came, or if all that is held is old -/
theorem x_go {p : Program} {l : Launch} {e : Env} {R : Room} {s : State} {m : MethodId} {args : Array Value} {below : List Frame} {meth : Method} {c : Code} {Z : State → Prop} {A : Nat → Prop} {D : va_G} {ty : Nat → ClassId} {xt : Nat → Nat} {nL : Nat} {L0 : List Nat} (hX : Good ((p, l, e, R, s, m, args, below, meth, c), Z, A, D, ty, xt, nL, L0) own cc d C S) {L : List Nat} {H : Heap} {locs : List Loc} {lc : Array Slot} {Q : Option Value → mM → Prop} {mc ms : Nat} {a0 : Array Value} {st0 : List Value} (h0 : L0 <+: L) (hP : PR D ty xt A L M H) (hS : va_S A s.heap H locs) (hl : LR xt L nL lc ls)
    (hr : va_Run p l e R s m args below meth c H locs cells slots mc ms (F0 m pc lc st0) (st.map (cv xt L)) (QO D ty xt (va_A (x_ws ty xt L M) H.size) L Q a0) (va_A (x_ws ty xt L M) H.size))
    (hold : ∀ M' : mM, (∃ r, Q r M') → (m_n M' = m_n M ∨ ((∀ v ∈ st, x_old (m_n M) v) ∧ ∀ (i : Nat) (v : Value), ls[i]? = some (some v) → x_old (m_n M) v)))
    (kk : ∀ r M', Q r M' → WP ((p, l, e, R, s, m, args, below, meth, c), Z, A, D, ty, xt, nL, L0) (cells + mc) (slots + ms) (pc + 3) ls (r.toList ++ st) M') : W p l e R s m args below meth c H locs cells slots Z (F0 m pc lc st0) := by
  intro T hT X9
  obtain ⟨v, st₀, t, T', Lc, g0, X', hL, e1, e2, ⟨⟨r, M', L', hv, hq, hpre, hP', hK'⟩, hz, hk⟩, stp⟩ := hr T hT X9
  have hv : v = r.map (cv xt L') := by injection hv
  subst hv
  rw [g0] at hz hk
  have hA := hX.2.2.2.2.2.2.2.1
  have hS' : va_S A s.heap T'.heap (locs ++ Lc) := ⟨Nat.le_trans hS.1 (by rw [e1]; exact hz), fun q h1 h2 => by
      rw [e1, hk q (Nat.lt_of_lt_of_le h1 hS.1) (fun z => h2 (x_A_sub hP.2.2.2.2 hS hA q z))]
      exact hS.2.1 q h1 h2, fun q hq => by
      rcases List.mem_append.mp hq with h | h
      · exact hS.2.2 q h
      · exact x_A_sub hP.2.2.2.2 hS hA _ (hL q h)⟩
  have same : (∀ v ∈ st, cv xt L' v = cv xt L v) ∧ ∀ (i : Nat) (v : Value), ls[i]? = some (some v) → cv xt L' v = cv xt L v := by
    rcases hold M' ⟨r, hq⟩ with h | ⟨h1, h2⟩
    · have : L' = L := by
        obtain ⟨t9, ht9⟩ := hpre
        have hz : L'.length = L.length := by rw [hP'.1, hP.1]; exact h
        have : t9 = [] := List.length_eq_zero_iff.mp (by rw [← ht9, List.length_append] at hz; omega)
        rw [← ht9, this, List.append_nil]
      subst this
      exact ⟨fun _ _ => rfl, fun _ _ _ => rfl⟩
    · exact ⟨fun v hv => cv_old hpre (by rw [hP.1]; exact h1 v hv), fun i v hi => cv_old hpre (by rw [hP.1]; exact h2 i v hi)⟩
  have est : (r.toList ++ st).map (cv xt L') = (r.map (cv xt L')).toList ++ st.map (cv xt L) := by
    rw [List.map_append, List.map_congr_left same.1]
    congr 1
    cases r <;> rfl
  have key := kk r M' hq L' T'.heap (locs ++ Lc) lc (h0.trans hpre) (by rw [e1]; exact x_behind hP hS hA hP') hS' ⟨hl.1, hl.2.1, fun i v hi => by rw [same.2 i v hi]; exact hl.2.2 i v hi⟩
  rw [est] at key
  obtain ⟨t2, a1, b1⟩ := key T' rfl X'
  exact ⟨t2, stp t2 a1, b1⟩
theorem x_cats (xt : Nat → Nat) (L : List Nat) (st : List Value) : ((st.map (cv xt L)).map fun v => v.category).sum = (st.map fun v => v.category).sum := by
  rw [List.map_map]
  congr 1
  exact List.map_congr_left (fun v _ => cv_cat xt L v)
/-- a method of an object: any cells may come (mc, ms) -/
theorem wp_invV' {i : mI} {n idx b ci mc ms : Nat} {As : List Value} {C0 : String} {T : u_T} {N : Nat} {Q : Option Value → mM → Prop} (hX : Good X own cc (d + 1) C S) (hm : MF i n) (hl : ML own idx i) (hi : Cond.instanceMethod i.1 ∈ x_tbl) (hsel : Cond.selects i.1.cls i.1 i.1 ∈ x_tbl) (hci : vwCl[ci]? = some (C0, T, N)) (hC0 : C0 = i.1.cls) (hc12 : ci < 12) (hd : decode cc pc = .ok (.invokevirtual idx, 3)) (hb : b < m_n M) (hk : m_k M b = ci) (hn : As.length = n) (hst : (st.map fun v => v.category).sum ≤ 8) (hcells : cells + mc ≤ C) (hslots : slots + ms ≤ S) (hN : x_nl X = ls.length) (hct : CT d mc ms i (.ref b :: As) M Q)
    (hold : ∀ M' : mM, (∃ r, Q r M') → (m_n M' = m_n M ∨ ((∀ v ∈ st, x_old (m_n M) v) ∧ ∀ (i : Nat) (v : Value), ls[i]? = some (some v) → x_old (m_n M) v)))
    (kk : ∀ r M', Q r M' → WP X (cells + mc) (slots + ms) (pc + 3) ls (r.toList ++ st) M') : WP X cells slots pc ls (As.reverse ++ .ref b :: st) M := by
  obtain ⟨⟨p, l, e, R, s, m, args, below, meth, c⟩, Z, A, D, ty, xt, nL, L0⟩ := X
  intro L H locs lc h0 hP hS hlr
  subst hC0
  have hcell := x_ws_at (ty := ty) (xt := xt) (L := L) hb
  rw [x_cl_o hk hc12] at hcell
  have hrecv := va_recv hX.2.2.2.2.2.2.1 hP.2.2.2.1 hci hcell
  have hts := hX.2.2.2.2.1
  obtain ⟨hm1, hm2, hm3, hm4⟩ := hm
  have hR : (x_rm d mc ms).frames + 1 ≤ R.frames ∧ 8 + (i.2.2.1 + 11) + (x_rm d mc ms).locals ≤ R.locals := by
    have h1 := hX.2.2.2.2.2.2.2.2.2.2.1
    have h2 := hX.2.2.2.2.2.2.2.2.2.2.2.1
    exact ⟨h1, by show 8 + (i.2.2.1 + 11) + 64 * d ≤ R.locals; omega⟩
  have hf : cells + mc ≤ R.cells ∧ slots + ms ≤ R.slots := ⟨Nat.le_trans hcells hX.2.2.2.2.2.2.2.2.2.2.2.2.1, Nat.le_trans hslots hX.2.2.2.2.2.2.2.2.2.2.2.2.2⟩
  have hpre := x_pre (X := ((p, l, e, R, s, m, args, below, meth, c), Z, A, D, ty, xt, nL, L0)) hX hP hS (.ref b :: As)
  have est : (As.reverse ++ .ref b :: st).map (cv xt L) = (As.map (cv xt L)).reverse ++ Value.ref (x_ad xt L b) :: st.map (cv xt L) := by
    rw [List.map_append, List.map_reverse]
    rfl
  have hCF : CallFix p m c cc nL s args x_tbl own := ⟨hX.1, hX.2.1, hX.2.2.1, hX.2.2.2.1, hts⟩
  have hst' : 2 * (F0 m pc lc ((As.map (cv xt L)).reverse ++ Value.ref (x_ad xt L b) :: st.map (cv xt L))).monitorRoom + ((st.map (cv xt L)).map fun v => v.category).sum ≤ 8 := lv_room (by rw [x_cats]; exact hst)
  have run : va_Run p l e R s m args below meth c H locs cells slots mc ms (F0 m pc lc ((As.map (cv xt L)).reverse ++ Value.ref (x_ad xt L b) :: st.map (cv xt L))) (st.map (cv xt L)) (QO D ty xt (va_A (x_ws ty xt L M) H.size) L Q (Value.ref (x_ad xt L b) :: As.map (cv xt L)).toArray) (va_A (x_ws ty xt L M) H.size) := by
    rcases hl with hl | ⟨host, hl⟩
    · exact va_runV (C := i.1.cls) (As := As.map (cv xt L)) (rest := st.map (cv xt L)) hCF (hct l D ty xt L H.size) ⟨callB_of n hts (x_gd hm1) rfl rfl rfl (hts _ hm2) (hts _ hl) hm3 hR, hts _ hi, hts _ hsel⟩ ⟨hpre.1, hrecv, hpre.2⟩ rfl (by simpa using hn) hlr.1 rfl hst' hd hf
    · exact va_runVN (C := i.1.cls) (As := As.map (cv xt L)) (rest := st.map (cv xt L)) hCF (hct l D ty xt L H.size) ⟨va_cnB n hts (x_gd hm1) rfl rfl rfl (hX.2.2.2.2.2.2.2.2.2.1.2.2.1 _ hl) (hts _ hm2) hm3 hR, hts _ hi, hts _ hsel⟩ ⟨hpre.1, hrecv, hpre.2⟩ rfl (by simpa using hn) hlr.1 rfl hst' hd hf
  rw [est]
  exact x_go hX h0 hP hS hlr run hold kk
/-- a static method -/
theorem wp_invS' {i : mI} {n idx mc ms : Nat} {As : List Value} {Q : Option Value → mM → Prop} (hX : Good X own cc (d + 1) C S) (hm : MF i n) (hl : ML own idx i) (hi : Cond.static i.1 ∈ x_tbl) (hd : decode cc pc = .ok (.invokestatic idx, 3)) (hn : As.length = n) (hst : (st.map fun v => v.category).sum ≤ 8) (hcells : cells + mc ≤ C) (hslots : slots + ms ≤ S) (hct : CT d mc ms i As M Q)
    (hold : ∀ M' : mM, (∃ r, Q r M') → (m_n M' = m_n M ∨ ((∀ v ∈ st, x_old (m_n M) v) ∧ ∀ (i : Nat) (v : Value), ls[i]? = some (some v) → x_old (m_n M) v)))
    (kk : ∀ r M', Q r M' → WP X (cells + mc) (slots + ms) (pc + 3) ls (r.toList ++ st) M') : WP X cells slots pc ls (As.reverse ++ st) M := by
  obtain ⟨⟨p, l, e, R, s, m, args, below, meth, c⟩, Z, A, D, ty, xt, nL, L0⟩ := X
  intro L H locs lc h0 hP hS hlr
  have hts := hX.2.2.2.2.1
  obtain ⟨hm1, hm2, hm3, hm4⟩ := hm
  have hR : (x_rm d mc ms).frames + 1 ≤ R.frames ∧ 8 + (i.2.2.1 + 11) + (x_rm d mc ms).locals ≤ R.locals := by
    have h1 := hX.2.2.2.2.2.2.2.2.2.2.1
    have h2 := hX.2.2.2.2.2.2.2.2.2.2.2.1
    exact ⟨h1, by show 8 + (i.2.2.1 + 11) + 64 * d ≤ R.locals; omega⟩
  have hf : cells + mc ≤ R.cells ∧ slots + ms ≤ R.slots := ⟨Nat.le_trans hcells hX.2.2.2.2.2.2.2.2.2.2.2.2.1, Nat.le_trans hslots hX.2.2.2.2.2.2.2.2.2.2.2.2.2⟩
  have hpre := x_pre (X := ((p, l, e, R, s, m, args, below, meth, c), Z, A, D, ty, xt, nL, L0)) hX hP hS As
  have est : (As.reverse ++ st).map (cv xt L) = (As.map (cv xt L)).reverse ++ st.map (cv xt L) := by
    rw [List.map_append, List.map_reverse]
  have hCF : CallFix p m c cc nL s args x_tbl own := ⟨hX.1, hX.2.1, hX.2.2.1, hX.2.2.2.1, hts⟩
  have hst' : 2 * (F0 m pc lc ((As.map (cv xt L)).reverse ++ st.map (cv xt L))).monitorRoom + ((st.map (cv xt L)).map fun v => v.category).sum ≤ 8 := lv_room (by rw [x_cats]; exact hst)
  have run : va_Run p l e R s m args below meth c H locs cells slots mc ms (F0 m pc lc ((As.map (cv xt L)).reverse ++ st.map (cv xt L))) (st.map (cv xt L)) (QO D ty xt (va_A (x_ws ty xt L M) H.size) L Q (As.map (cv xt L)).toArray) (va_A (x_ws ty xt L M) H.size) := by
    rcases hl with hl | ⟨host, hl⟩
    · exact va_runS (As := As.map (cv xt L)) (rest := st.map (cv xt L)) hCF (hct l D ty xt L H.size) ⟨callB_of n hts (x_gd hm1) rfl rfl rfl (hts _ hm2) (hts _ hl) hm3 hR, hts _ hi⟩ hpre rfl (by simpa using hn) hlr.1 rfl hst' hd hf
    · exact va_runSN (As := As.map (cv xt L)) (rest := st.map (cv xt L)) hCF (hct l D ty xt L H.size) ⟨va_cnB n hts (x_gd hm1) rfl rfl rfl (hX.2.2.2.2.2.2.2.2.2.1.2.2.1 _ hl) (hts _ hm2) hm3 hR, hts _ hi, trivial⟩ hpre rfl (by simpa using hn) hlr.1 rfl hst' hd hf
  rw [est]
  exact x_go hX h0 hP hS hlr run hold kk
/-- a constructor -/
theorem wp_invI' {i : mI} {n idx b mc ms : Nat} {As : List Value} {Q : Option Value → mM → Prop} (hX : Good X own cc (d + 1) C S) (hm : MF i n) (hl : ML own idx i) (hr0 : i.2.2.2 = none) (hnm : i.1.name = "<init>") (hi : Cond.instanceMethod i.1 ∈ x_tbl) (hd : decode cc pc = .ok (.invokespecial idx, 3)) (hn : As.length = n) (hst : (st.map fun v => v.category).sum ≤ 8) (hcells : cells + mc ≤ C) (hslots : slots + ms ≤ S) (hct : CT d mc ms i (.ref b :: As) M Q)
    (hold : ∀ M' : mM, (∃ r, Q r M') → (m_n M' = m_n M ∨ ((∀ v ∈ st, x_old (m_n M) v) ∧ ∀ (i : Nat) (v : Value), ls[i]? = some (some v) → x_old (m_n M) v)))
    (kk : ∀ r M', Q r M' → WP X (cells + mc) (slots + ms) (pc + 3) ls (r.toList ++ st) M') : WP X cells slots pc ls (As.reverse ++ .ref b :: st) M := by
  obtain ⟨⟨p, l, e, R, s, m, args, below, meth, c⟩, Z, A, D, ty, xt, nL, L0⟩ := X
  intro L H locs lc h0 hP hS hlr
  obtain ⟨y, bytes, maxL, ret⟩ := i
  have hr0 : ret = none := hr0
  subst hr0
  have hts := hX.2.2.2.2.1
  obtain ⟨hm1, hm2, hm3, hm4⟩ := hm
  have hm4 : maxL ≤ 40 := hm4
  have hR : (x_rm d mc ms).frames + 1 ≤ R.frames ∧ 8 + (maxL + 11) + (x_rm d mc ms).locals ≤ R.locals := by
    have h1 := hX.2.2.2.2.2.2.2.2.2.2.1
    have h2 := hX.2.2.2.2.2.2.2.2.2.2.2.1
    exact ⟨h1, by show 8 + (maxL + 11) + 64 * d ≤ R.locals; omega⟩
  have hf : cells + mc ≤ R.cells ∧ slots + ms ≤ R.slots := ⟨Nat.le_trans hcells hX.2.2.2.2.2.2.2.2.2.2.2.2.1, Nat.le_trans hslots hX.2.2.2.2.2.2.2.2.2.2.2.2.2⟩
  have hpre := x_pre (X := ((p, l, e, R, s, m, args, below, meth, c), Z, A, D, ty, xt, nL, L0)) hX hP hS (.ref b :: As)
  have est : (As.reverse ++ .ref b :: st).map (cv xt L) = (As.map (cv xt L)).reverse ++ Value.ref (x_ad xt L b) :: st.map (cv xt L) := by
    rw [List.map_append, List.map_reverse]
    rfl
  have hCF : CallFix p m c cc nL s args x_tbl own := ⟨hX.1, hX.2.1, hX.2.2.1, hX.2.2.2.1, hts⟩
  have hst' : 2 * (F0 m pc lc ((As.map (cv xt L)).reverse ++ Value.ref (x_ad xt L b) :: st.map (cv xt L))).monitorRoom + ((st.map (cv xt L)).map fun v => v.category).sum ≤ 8 := lv_room (by rw [x_cats]; exact hst)
  have run : va_Run p l e R s m args below meth c H locs cells slots mc ms (F0 m pc lc ((As.map (cv xt L)).reverse ++ Value.ref (x_ad xt L b) :: st.map (cv xt L))) (st.map (cv xt L)) (QO D ty xt (va_A (x_ws ty xt L M) H.size) L Q (Value.ref (x_ad xt L b) :: As.map (cv xt L)).toArray) (va_A (x_ws ty xt L M) H.size) := by
    rcases hl with hl | ⟨host, hl⟩
    · exact va_runI (As := As.map (cv xt L)) (rest := st.map (cv xt L)) hCF (hct l D ty xt L H.size) ⟨callB_of n hts (x_gd hm1) rfl rfl rfl (hts _ hm2) (hts _ hl) hm3 hR, hnm, hts _ hi⟩ hpre rfl (by simpa using hn) hlr.1 rfl hst' hd hf
    · exact va_runIN (As := As.map (cv xt L)) (rest := st.map (cv xt L)) hCF (hct l D ty xt L H.size) ⟨va_cnB n hts (x_gd hm1) rfl rfl rfl (hX.2.2.2.2.2.2.2.2.2.1.2.2.1 _ hl) (hts _ hm2) hm3 hR, hnm, hts _ hi⟩ hpre rfl (by simpa using hn) hlr.1 rfl hst' hd hf
  rw [est]
  exact x_go hX h0 hP hS hlr run hold kk
end CALLS
end
section
/-! NEW CELLS, COPIES, TABLES, STRINGS, Math -/
section PRIMS
variable {X : cxT} {own : String} {cc : ByteArray} {d C S cells slots pc : Nat} {ls : List (Option Value)} {st : List Value} {M : mM}
theorem x_olds {xt : Nat → Nat} {L : List Nat} {q : Nat} {st : List Value} (h : ∀ v ∈ st, x_old L.length v) : st.map (cv xt (L ++ [q])) = st.map (cv xt L) := List.map_congr_left (fun v hv => cv_old (List.prefix_append L [q]) (h v hv))
theorem x_ad_new {xt : Nat → Nat} {L : List Nat} {q : Nat} (h : L.length < 1000) : x_ad xt (L ++ [q]) L.length = q := by
  unfold x_ad
  rw [if_pos h]
  simp [List.getD_eq_getElem?_getD]
theorem x_ad_old {xt : Nat → Nat} {L : List Nat} {q k : Nat} (h : k < L.length) (hL : L.length < 1000) : x_ad xt (L ++ [q]) k = x_ad xt L k := by
  unfold x_ad
  rw [if_pos (by omega), if_pos (by omega), x_pre_get (List.prefix_append L [q]) h]
/-- the cells' list when one comes -/
theorem x_ws_new {ty : Nat → ClassId} {xt : Nat → Nat} {L : List Nat} {M : mM} {q k n : Nat} {e : va_E} (hL : L.length = m_n M) (h1 : m_n M < 1000) (hw : ∀ a j r, a < m_n M → m_r M a j = some r → r < m_n M) (he : x_cl ty (x_ad xt (L ++ [q])) (m_new M k n) (m_n M) = e) : x_ws ty xt L M ++ [(q, e)] = x_ws ty xt (L ++ [q]) (m_new M k n) := by
  apply List.ext_getElem?
  intro j
  have hlen : (x_ws ty xt L M).length = M.1 := by simp [x_ws]
  have hL : L.length = M.1 := hL
  have h1 : M.1 < 1000 := h1
  by_cases hj : j < M.1
  · rw [List.getElem?_append_left (by rw [hlen]; exact hj), x_ws_at hj, x_ws_at (show j < m_n (m_new M k n) from Nat.lt_succ_of_lt hj), x_ad_old (by omega) (by omega)]
    congr 2
    unfold x_cl
    have e1 : m_k (m_new M k n) j = m_k M j := by show (if j = M.1 then k else M.2.1 j) = _; rw [if_neg (by omega)]
    have e2 : m_l (m_new M k n) j = m_l M j := by show (if j = M.1 then n else M.2.2.1 j) = _; rw [if_neg (by omega)]
    have e3 : m_i (m_new M k n) j = m_i M j := u1_ne _ _ (by omega)
    have e4 : m_j (m_new M k n) j = m_j M j := u1_ne _ _ (by omega)
    have e5 : m_r (m_new M k n) j = m_r M j := u1_ne _ _ (by omega)
    have e6 : ∀ i, (m_r M j i).map (x_ad xt L) = (m_r M j i).map (x_ad xt (L ++ [q])) := by
      intro i
      cases hr : m_r M j i with
      | none => rfl
      | some r => simp only [Option.map_some]; rw [x_ad_old (by rw [hL]; exact hw j i r hj hr) (by omega)]
    rw [e1, e2, e3, e4, e5]
    simp only [e6]
  · by_cases hj2 : j = M.1
    · subst hj2
      rw [List.getElem?_append_right (by omega), hlen, Nat.sub_self, x_ws_at (show M.1 < m_n (m_new M k n) from Nat.lt_succ_self _)]
      have he : x_cl ty (x_ad xt (L ++ [q])) (m_new M k n) M.1 = e := he
      have e7 := x_ad_new (xt := xt) (q := q) (show L.length < 1000 by omega)
      rw [hL] at e7
      rw [he, e7]
      rfl
    · rw [List.getElem?_eq_none (by simp [hlen]; omega), List.getElem?_eq_none (by simp only [x_ws, List.length_map, List.length_range]; show M.1 + 1 ≤ j; omega)]
theorem PR.new {D : va_G} {ty : Nat → ClassId} {xt : Nat → Nat} {A : Nat → Prop} {L : List Nat} {M : mM} {H H1 : Heap} {q k n : Nat} {e : va_E} (h : PR D ty xt A L M H) (h1 : m_n M < 1000) (he : x_cl ty (x_ad xt (L ++ [q])) (m_new M k n) (m_n M) = e) (h2 : va_P D vwCl (x_ws ty xt L M ++ [(q, e)]) H1) (h3 : va_D A (x_ws ty xt L M ++ [(q, e)])) : PR D ty xt A (L ++ [q]) (m_new M k n) H1 := by
  rw [x_ws_new h.1 h1 h.2.2.1 he] at h2 h3
  have h1 : M.1 < 1000 := h1
  refine ⟨by rw [List.length_append, h.1]; rfl, by show M.1 + 1 ≤ 1000; omega, ?_, h2, h3⟩
  intro a j r ha hr
  have hr : u1 (m_r M) M.1 (fun _ => none) a j = some r := hr
  show r < M.1 + 1
  unfold u1 at hr
  split at hr
  · cases hr
  · next hne =>
    have ha : a < M.1 + 1 := ha
    have := h.2.2.1 a j r (show a < M.1 by omega) hr
    show r < M.1 + 1
    have : r < M.1 := this
    omega
theorem x_lr_new {xt : Nat → Nat} {L : List Nat} {nL q : Nat} {lc : Array Slot} {ls : List (Option Value)} (hl : LR xt L nL lc ls) (h : ∀ (i : Nat) (v : Value), ls[i]? = some (some v) → x_old L.length v) : LR xt (L ++ [q]) nL lc ls :=
  ⟨hl.1, hl.2.1, fun i v hi => by rw [cv_old (List.prefix_append L [q]) (h i v hi)]; exact hl.2.2 i v hi⟩
/-- a new object of class ci -/
theorem wp_new {idx ci N : Nat} {C0 : String} {T : u_T} {ty0 : Nat → FieldType} (hX : Good X own cc d C S) (hc : CF ci C0 T N ty0) (hw : Cond.classLink own idx C0 ∈ x_tbl) (hw2 : Cond.instantiable C0 N ∈ x_tbl) (hw3 : Cond.initialized C0 ∈ x_tbl) (hd : decode cc pc = .ok (.new idx, 3)) (hM : m_n M < 1000) (hcells : cells + 1 ≤ C) (hslots : slots + N ≤ S) (ho1 : ∀ v ∈ st, x_old (m_n M) v) (ho2 : ∀ (i : Nat) (v : Value), ls[i]? = some (some v) → x_old (m_n M) v)
    (kk : WP X (cells + 1) (slots + N) (pc + 3) ls (.ref (m_n M) :: st) (m_new M ci 0)) : WP X cells slots pc ls st M := by
  obtain ⟨⟨p, l, e, R, s, m, args, below, meth, c⟩, Z, A, D, ty, xt, nL, L0⟩ := X
  intro L H locs lc h0 hP hS hl
  have hts := hX.2.2.2.2.1
  have hfs : ∀ j, j < N → defaultValue (ty0 j) = vp_V (x_fs (x_ft.getD ci []) (fun _ => 0) (fun _ => .null)) j := by
    intro j hj
    have hlt : j < (x_ft.getD ci []).length := by rw [hc.2.1]; exact hj
    have ht : (x_ft.getD ci [])[j]? = some ((x_ft.getD ci [])[j]) := List.getElem?_eq_getElem hlt
    have hk := hc.kt hj ht
    unfold vp_V
    rw [List.getD_eq_getElem?_getD, x_fs_at ht, ← hk]
    have hk9 : ∀ q ∈ x_ft, ∀ t ∈ q, t ≤ 2 := by decide
    have h2 : (x_ft.getD ci [])[j] ≤ 2 := by
      refine hk9 (x_ft.getD ci []) ?_ _ (List.getElem_mem hlt)
      rw [List.getD_eq_getElem?_getD, List.getElem?_eq_getElem (show ci < x_ft.length from hc.2.2.1)]
      exact List.getElem_mem _
    rw [← hk] at h2
    generalize ty0 j = t9 at h2 ⊢
    cases t9 <;> first | rfl | (simp [x_kt] at h2)
  refine va_new (c0 := c) (ci := ci) hX.1 hX.2.1 hts hc.2.2.2.1 ty0 hc.2.2.2.2.1 hX.2.2.2.1 (hts _ hw) (hts _ hw2) (hts _ hw3) hX.2.2.2.2.2.2.1 hP.2.2.2.1 hP.2.2.2.2 hS hX.2.2.2.2.2.2.2.1 hc.1 hfs (Nat.le_trans hcells hX.2.2.2.2.2.2.2.2.2.2.2.2.1) (Nat.le_trans hslots hX.2.2.2.2.2.2.2.2.2.2.2.2.2) hd (fun q H1 h1 h2 h3 => ?_)
  have hPn : PR D ty xt A (L ++ [q]) (m_new M ci 0) H1 := hP.new hM (by
    rw [x_cl_o (show m_k (m_new M ci 0) (m_n M) = ci from if_pos rfl) hc.2.2.1]
    show Sum.inr (ci, x_fs _ (u1 _ M.1 (fun _ => 0) M.1) (fun j => va_rf ((u1 (m_r M) M.1 (fun _ => none) M.1 j).map _))) = _
    rw [u1_row, u1_row]
    rfl) h1 h2
  have key := kk (L ++ [q]) H1 locs lc (h0.trans (List.prefix_append L [q])) hPn h3 (x_lr_new hl (fun i v hi => by rw [hP.1]; exact ho2 i v hi))
  have e1 : ((Value.ref (m_n M) :: st).map (cv xt (L ++ [q]))) = Value.ref q :: st.map (cv xt L) := by
    rw [List.map_cons, x_olds (fun v hv => by rw [hP.1]; exact ho1 v hv)]
    congr 1
    show Value.ref (x_ad xt (L ++ [q]) (m_n M)) = _
    rw [← hP.1, x_ad_new (by rw [hP.1]; exact hM)]
  rw [e1] at key
  exact key
theorem x_cA {D : va_G} {tys : List (ClassId × FieldType)} {s : State} {ty : Nat → ClassId} {cA : ClassId} {t : FieldType} {j : Nat} (hK : va_K D vwCl (x_ty ty) s) (hK2 : va_K D vwCl (x_ty ty ++ [(cA, t)]) s) (ht : t = .int ∨ t = .long ∨ t = .object "CutFromOthers$Form") (hj : (x_ty ty)[j]? = some (ty j, t)) : cA = ty j := by
  have h1 := (hK.2 j _ hj).2
  have h2 := (hK2.2 3 (cA, t) rfl).2
  rcases ht with rfl | rfl | rfl
  · have h1 : s.vm.findClass _ = some (ty j) := h1
    have h2 : s.vm.findClass _ = some cA := h2
    rw [h1] at h2
    exact (Option.some.inj h2).symm
  · have h1 : s.vm.findClass _ = some (ty j) := h1
    have h2 : s.vm.findClass _ = some cA := h2
    rw [h1] at h2
    exact (Option.some.inj h2).symm
  · obtain ⟨_, _, _, _, _, h1⟩ := h1
    obtain ⟨_, _, _, _, _, h2⟩ := h2
    rw [h1] at h2
    exact (Option.some.inj h2).symm
/-- a new array of ints -/
theorem wp_newi {n : Int32} {N : Nat} (hX : Good X own cc d C S) (hw : Cond.arrayClass .int ∈ x_tbl) (hd : decode cc pc = .ok (.newarray .int, 2)) (hn : ¬ n < 0) (hN : n.toNatClampNeg = N) (hb : N * 4 ≤ 536870912) (hM : m_n M < 1000) (hcells : cells + 1 ≤ C) (hslots : slots + N ≤ S) (ho1 : ∀ v ∈ st, x_old (m_n M) v) (ho2 : ∀ (i : Nat) (v : Value), ls[i]? = some (some v) → x_old (m_n M) v)
    (kk : WP X (cells + 1) (slots + N) (pc + 2) ls (.ref (m_n M) :: st) (m_new M 12 N)) : WP X cells slots pc ls (.int n :: st) M := by
  obtain ⟨⟨p, l, e, R, s, m, args, below, meth, c⟩, Z, A, D, ty, xt, nL, L0⟩ := X
  intro L H locs lc h0 hP hS hl
  have hts := hX.2.2.2.2.1
  refine va_newa (atype := .int) (ty := .int) hX.1 hX.2.1 (hts _ hw) rfl hX.2.2.2.2.2.2.1 hP.2.2.2.1 hP.2.2.2.2 hS hX.2.2.2.2.2.2.2.1 (a0 := (N, .inl (fun _ => 0))) (fun _ => rfl) hn hN hb (Nat.le_trans hcells hX.2.2.2.2.2.2.2.2.2.2.2.2.1) (Nat.le_trans hslots hX.2.2.2.2.2.2.2.2.2.2.2.2.2) hd (fun q cA H1 hK2 h1 h2 h3 => ?_)
  have hcA := x_cA (tys := []) (j := 0) hX.2.2.2.2.2.2.1 hK2 (Or.inl rfl) rfl
  subst hcA
  have hPn : PR D ty xt A (L ++ [q]) (m_new M 12 N) H1 := hP.new hM (by
    rw [x_cl_i (show m_k (m_new M 12 N) (m_n M) = 12 from if_pos rfl)]
    show Sum.inl (ty 0, (if M.1 = M.1 then N else M.2.2.1 M.1), Sum.inl (u1 _ M.1 (fun _ => 0) M.1)) = _
    rw [u1_row, if_pos rfl]) h1 h2
  have key := kk (L ++ [q]) H1 locs lc (h0.trans (List.prefix_append L [q])) hPn h3 (x_lr_new hl (fun i v hi => by rw [hP.1]; exact ho2 i v hi))
  have e1 : ((Value.ref (m_n M) :: st).map (cv xt (L ++ [q]))) = Value.ref q :: st.map (cv xt L) := by
    rw [List.map_cons, x_olds (fun v hv => by rw [hP.1]; exact ho1 v hv)]
    congr 1
    show Value.ref (x_ad xt (L ++ [q]) (m_n M)) = _
    rw [← hP.1, x_ad_new (by rw [hP.1]; exact hM)]
  rw [e1] at key
  exact key
/-- a new array of longs -/
theorem wp_newl {n : Int32} {N : Nat} (hX : Good X own cc d C S) (hw : Cond.arrayClass .long ∈ x_tbl) (hd : decode cc pc = .ok (.newarray .long, 2)) (hn : ¬ n < 0) (hN : n.toNatClampNeg = N) (hb : N * 8 ≤ 536870912) (hM : m_n M < 1000) (hcells : cells + 1 ≤ C) (hslots : slots + N ≤ S) (ho1 : ∀ v ∈ st, x_old (m_n M) v) (ho2 : ∀ (i : Nat) (v : Value), ls[i]? = some (some v) → x_old (m_n M) v)
    (kk : WP X (cells + 1) (slots + N) (pc + 2) ls (.ref (m_n M) :: st) (m_new M 13 N)) : WP X cells slots pc ls (.int n :: st) M := by
  obtain ⟨⟨p, l, e, R, s, m, args, below, meth, c⟩, Z, A, D, ty, xt, nL, L0⟩ := X
  intro L H locs lc h0 hP hS hl
  have hts := hX.2.2.2.2.1
  refine va_newa (atype := .long) (ty := .long) hX.1 hX.2.1 (hts _ hw) rfl hX.2.2.2.2.2.2.1 hP.2.2.2.1 hP.2.2.2.2 hS hX.2.2.2.2.2.2.2.1 (a0 := (N, .inr (.inl (fun _ => 0)))) (fun _ => rfl) hn hN hb (Nat.le_trans hcells hX.2.2.2.2.2.2.2.2.2.2.2.2.1) (Nat.le_trans hslots hX.2.2.2.2.2.2.2.2.2.2.2.2.2) hd (fun q cA H1 hK2 h1 h2 h3 => ?_)
  have hcA := x_cA (tys := []) (j := 1) hX.2.2.2.2.2.2.1 hK2 (Or.inr (Or.inl rfl)) rfl
  subst hcA
  have hPn : PR D ty xt A (L ++ [q]) (m_new M 13 N) H1 := hP.new hM (by
    rw [x_cl_j (show m_k (m_new M 13 N) (m_n M) = 13 from if_pos rfl)]
    show Sum.inl (ty 1, (if M.1 = M.1 then N else M.2.2.1 M.1), Sum.inr (Sum.inl (u1 _ M.1 (fun _ => 0) M.1))) = _
    rw [u1_row, if_pos rfl]) h1 h2
  have key := kk (L ++ [q]) H1 locs lc (h0.trans (List.prefix_append L [q])) hPn h3 (x_lr_new hl (fun i v hi => by rw [hP.1]; exact ho2 i v hi))
  have e1 : ((Value.ref (m_n M) :: st).map (cv xt (L ++ [q]))) = Value.ref q :: st.map (cv xt L) := by
    rw [List.map_cons, x_olds (fun v hv => by rw [hP.1]; exact ho1 v hv)]
    congr 1
    show Value.ref (x_ad xt (L ++ [q]) (m_n M)) = _
    rw [← hP.1, x_ad_new (by rw [hP.1]; exact hM)]
  rw [e1] at key
  exact key
/-- a new array of Forms -/
theorem wp_newf {n : Int32} {N idx : Nat} (hX : Good X own cc d C S) (hw : Cond.classLink own idx "CutFromOthers$Form" ∈ x_tbl) (hd : decode cc pc = .ok (.anewarray idx, 3)) (hn : ¬ n < 0) (hN : n.toNatClampNeg = N) (hb : N * 4 ≤ 536870912) (hM : m_n M < 1000) (hcells : cells + 1 ≤ C) (hslots : slots + N ≤ S) (ho1 : ∀ v ∈ st, x_old (m_n M) v) (ho2 : ∀ (i : Nat) (v : Value), ls[i]? = some (some v) → x_old (m_n M) v)
    (kk : WP X (cells + 1) (slots + N) (pc + 3) ls (.ref (m_n M) :: st) (m_new M 14 N)) : WP X cells slots pc ls (.int n :: st) M := by
  obtain ⟨⟨p, l, e, R, s, m, args, below, meth, c⟩, Z, A, D, ty, xt, nL, L0⟩ := X
  intro L H locs lc h0 hP hS hl
  have hts := hX.2.2.2.2.1
  refine va_newq hX.1 hX.2.1 hX.2.2.2.1 (hts _ hw) hX.2.2.2.2.2.2.2.2.2.1.2.2.2 hX.2.2.2.2.2.2.1 hP.2.2.2.1 hP.2.2.2.2 hS hX.2.2.2.2.2.2.2.1 hn hN hb (Nat.le_trans hcells hX.2.2.2.2.2.2.2.2.2.2.2.2.1) (Nat.le_trans hslots hX.2.2.2.2.2.2.2.2.2.2.2.2.2) hd (fun q cA H1 hK2 h1 h2 h3 => ?_)
  have hcA := x_cA (tys := []) (j := 2) hX.2.2.2.2.2.2.1 hK2 (Or.inr (Or.inr rfl)) rfl
  subst hcA
  have hPn : PR D ty xt A (L ++ [q]) (m_new M 14 N) H1 := hP.new hM (by
    rw [x_cl_r (show m_k (m_new M 14 N) (m_n M) = 14 from if_pos rfl)]
    show Sum.inl (ty 2, (if M.1 = M.1 then N else M.2.2.1 M.1), Sum.inr (Sum.inr (Sum.inr (Sum.inr (fun j => (u1 (m_r M) M.1 (fun _ => none) M.1 j).map _))))) = _
    rw [u1_row, if_pos rfl]
    rfl) h1 h2
  have key := kk (L ++ [q]) H1 locs lc (h0.trans (List.prefix_append L [q])) hPn h3 (x_lr_new hl (fun i v hi => by rw [hP.1]; exact ho2 i v hi))
  have e1 : ((Value.ref (m_n M) :: st).map (cv xt (L ++ [q]))) = Value.ref q :: st.map (cv xt L) := by
    rw [List.map_cons, x_olds (fun v hv => by rw [hP.1]; exact ho1 v hv)]
    congr 1
    show Value.ref (x_ad xt (L ++ [q]) (m_n M)) = _
    rw [← hP.1, x_ad_new (by rw [hP.1]; exact hM)]
  rw [e1] at key
  exact key
/-- Object() -/
theorem wp_obj {idx a : Nat} (hX : Good X own cc (d + 1) C S) (hw : Cond.methodLink own idx Lib.objectInit ∈ x_tbl) (hw2 : Cond.instanceMethod Lib.objectInit ∈ x_tbl) (hw3 : Cond.code Lib.objectInit ⟨#[0xb1]⟩ 1 none ∈ x_tbl) (hd : decode cc pc = .ok (.invokespecial idx, 3)) (hst : (st.map fun v => v.category).sum ≤ 8) (kk : WP X cells slots (pc + 3) ls st M) : WP X cells slots pc ls (.ref a :: st) M := by
  obtain ⟨⟨p, l, e, R, s, m, args, below, meth, c⟩, Z, A, D, ty, xt, nL, L0⟩ := X
  intro L H locs lc h0 hP hS hl
  have hts := hX.2.2.2.2.1
  have hf := hX.2.2.2.2.2.2.2.2.2.2.1
  have hlo := hX.2.2.2.2.2.2.2.2.2.2.2.1
  refine W.objInit hX.1 hX.2.1 hX.2.2.2.1 (hts _ hw) (hts _ hw2) (hts _ hw3) rfl (by rw [hX.2.2.1]; exact hl.1) rfl hd (by omega) ?_ (kk L H locs lc h0 hP hS hl)
  have h9 : 2 * (F0 m pc lc (Value.ref (x_ad xt L a) :: st.map (cv xt L))).monitorRoom + ((st.map (cv xt L)).map fun v => v.category).sum ≤ 8 := lv_room (by rw [x_cats]; exact hst)
  have h8 : 2 * (F0 m pc lc ((Value.ref a :: st).map (cv xt L))).monitorRoom + ((st.map (cv xt L)).map fun v => v.category).sum ≤ 8 := h9
  omega
/-- Math.max, min, abs -/
theorem wp_max {idx : Nat} {x y : Int32} (hX : Good X own cc (d + 1) C S) (hw : Cond.methodLink own idx Lib.Math.max.name ∈ x_tbl) (hw2 : Cond.static Lib.Math.max.name ∈ x_tbl) (hw3 : Cond.initialized "java/lang/Math" ∈ x_tbl) (hw4 : Cond.code Lib.Math.max.name Lib.Math.max.code 2 (some .int) ∈ x_tbl) (hd : decode cc pc = .ok (.invokestatic idx, 3)) (hst : (st.map fun v => v.category).sum ≤ 8) (hc : cells ≤ C) (hs : slots ≤ S) (kk : WP X cells slots (pc + 3) ls (.int (if x < y then y else x) :: st) M) : WP X cells slots pc ls (.int y :: .int x :: st) M := by
  obtain ⟨⟨p, l, e, R, s, m, args, below, meth, c⟩, Z, A, D, ty, xt, nL, L0⟩ := X
  intro L H locs lc h0 hP hS hl
  have hts := hX.2.2.2.2.1
  have hf := hX.2.2.2.2.2.2.2.2.2.2.1
  have hlo := hX.2.2.2.2.2.2.2.2.2.2.2.1
  exact va_mmax hX.1 hX.2.1 (by rw [hX.2.2.1]; exact hl.1.symm) hX.2.2.2.1 (hts _ hw) (hts _ hw2) (hts _ hw3) (hts _ hw4) (by omega) (by rw [x_cats]; omega) (Nat.le_trans hc hX.2.2.2.2.2.2.2.2.2.2.2.2.1) (Nat.le_trans hs hX.2.2.2.2.2.2.2.2.2.2.2.2.2) hd (kk L H locs lc h0 hP hS hl)
theorem wp_min {idx : Nat} {x y : Int32} (hX : Good X own cc (d + 1) C S) (hw : Cond.methodLink own idx Lib.Math.min.name ∈ x_tbl) (hw2 : Cond.static Lib.Math.min.name ∈ x_tbl) (hw3 : Cond.initialized "java/lang/Math" ∈ x_tbl) (hw4 : Cond.code Lib.Math.min.name Lib.Math.min.code 2 (some .int) ∈ x_tbl) (hd : decode cc pc = .ok (.invokestatic idx, 3)) (hst : (st.map fun v => v.category).sum ≤ 8) (hc : cells ≤ C) (hs : slots ≤ S) (kk : WP X cells slots (pc + 3) ls (.int (if y < x then y else x) :: st) M) : WP X cells slots pc ls (.int y :: .int x :: st) M := by
  obtain ⟨⟨p, l, e, R, s, m, args, below, meth, c⟩, Z, A, D, ty, xt, nL, L0⟩ := X
  intro L H locs lc h0 hP hS hl
  have hts := hX.2.2.2.2.1
  have hf := hX.2.2.2.2.2.2.2.2.2.2.1
  have hlo := hX.2.2.2.2.2.2.2.2.2.2.2.1
  exact va_mmin hX.1 hX.2.1 (by rw [hX.2.2.1]; exact hl.1.symm) hX.2.2.2.1 (hts _ hw) (hts _ hw2) (hts _ hw3) (hts _ hw4) (by omega) (by rw [x_cats]; omega) (Nat.le_trans hc hX.2.2.2.2.2.2.2.2.2.2.2.2.1) (Nat.le_trans hs hX.2.2.2.2.2.2.2.2.2.2.2.2.2) hd (kk L H locs lc h0 hP hS hl)
end PRIMS
end
section
/-! Math.abs, COPIES, TABLES, STRINGS -/
section PRIM2
variable {X : cxT} {own : String} {cc : ByteArray} {d C S cells slots pc : Nat} {ls : List (Option Value)} {st : List Value} {M : mM}
theorem wp_abs {idx : Nat} {x : Int32} (hX : Good X own cc (d + 1) C S) (hw : Cond.methodLink own idx Lib.Math.abs.name ∈ x_tbl) (hw2 : Cond.static Lib.Math.abs.name ∈ x_tbl) (hw3 : Cond.initialized "java/lang/Math" ∈ x_tbl) (hw4 : Cond.code Lib.Math.abs.name Lib.Math.abs.code 1 (some .int) ∈ x_tbl) (hd : decode cc pc = .ok (.invokestatic idx, 3)) (hst : (st.map fun v => v.category).sum ≤ 8) (hc : cells ≤ C) (hs : slots ≤ S) (kk : WP X cells slots (pc + 3) ls (.int (if 0 ≤ x then x else 0 - x) :: st) M) : WP X cells slots pc ls (.int x :: st) M := by
  obtain ⟨⟨p, l, e, R, s, m, args, below, meth, c⟩, Z, A, D, ty, xt, nL, L0⟩ := X
  intro L H locs lc h0 hP hS hl
  have hts := hX.2.2.2.2.1
  have hf := hX.2.2.2.2.2.2.2.2.2.2.1
  have hlo := hX.2.2.2.2.2.2.2.2.2.2.2.1
  exact va_mabs hX.1 hX.2.1 (by rw [hX.2.2.1]; exact hl.1.symm) hX.2.2.2.1 (hts _ hw) (hts _ hw2) (hts _ hw3) (hts _ hw4) (by omega) (by rw [x_cats]; omega) (Nat.le_trans hc hX.2.2.2.2.2.2.2.2.2.2.2.2.1) (Nat.le_trans hs hX.2.2.2.2.2.2.2.2.2.2.2.2.2) hd (kk L H locs lc h0 hP hS hl)
theorem x_native : nativeFrameWords "java/lang/System" "arraycopy" 5 + 11 ≤ 56 := by decide
theorem wp_copyi {idx a b : Nat} {sp dp n : Int32} (hX : Good X own cc (d + 1) C S) (hw : Cond.methodLink own idx arraycopyName ∈ x_tbl) (hw2 : Cond.native arraycopyName ∈ x_tbl) (hw3 : Cond.static arraycopyName ∈ x_tbl) (hw4 : Cond.initialized "java/lang/System" ∈ x_tbl) (hd : decode cc pc = .ok (.invokestatic idx, 3)) (hst : (st.map fun v => v.category).sum ≤ 8) (ha : a < m_n M) (hka : m_k M a = 12) (hb : b < m_n M) (hkb : m_k M b = 12) (h1 : ¬ sp < 0) (h2 : ¬ dp < 0) (h3 : ¬ n < 0) (h4 : sp.toNatClampNeg + n.toNatClampNeg ≤ m_l M a) (h5 : dp.toNatClampNeg + n.toNatClampNeg ≤ m_l M b)
    (kk : WP X cells slots (pc + 3) ls st (m_rowi M b (va_cpy (m_i M a) (m_i M b) sp.toNatClampNeg dp.toNatClampNeg n.toNatClampNeg))) : WP X cells slots pc ls (.int n :: .int dp :: .ref b :: .int sp :: .ref a :: st) M := by
  obtain ⟨⟨p, l, e, R, s, m, args, below, meth, c⟩, Z, A, D, ty, xt, nL, L0⟩ := X
  intro L H locs lc h0 hP hS hl
  have hts := hX.2.2.2.2.1
  have hf := hX.2.2.2.2.2.2.2.2.2.2.1
  have hlo := hX.2.2.2.2.2.2.2.2.2.2.2.1
  have hca := x_ws_at (ty := ty) (xt := xt) (L := L) ha
  have hcb := x_ws_at (ty := ty) (xt := xt) (L := L) hb
  rw [x_cl_i hka] at hca
  rw [x_cl_i hkb] at hcb
  refine va_copyi hX.1 hX.2.1 (by rw [hX.2.2.1]; exact hl.1.symm) hX.2.2.2.1 (hts _ hw) (hts _ hw2) (hts _ hw3) (hts _ hw4) hX.2.2.2.2.2.2.1 hP.2.2.2.1 hP.2.2.2.2 hS a b 0 0 hca hcb rfl rfl rfl h1 h2 h3 h4 h5 (fun _ _ => rfl) (by omega) (by rw [x_cats]; have := x_native; omega) hd (fun H1 locs1 g1 g2 g3 => ?_)
  refine kk L H1 locs1 lc h0 (hP.put (M' := m_rowi M b (va_cpy (m_i M a) (m_i M b) sp.toNatClampNeg dp.toNatClampNeg n.toNatClampNeg)) hb rfl ?_ (fun q hq => x_cl_eq rfl rfl (u1_ne _ _ hq) rfl rfl) hP.2.2.1 g1 g2) g3 hl
  rw [x_cl_i (show m_k (m_rowi M b (va_cpy (m_i M a) (m_i M b) sp.toNatClampNeg dp.toNatClampNeg n.toNatClampNeg)) b = 12 from hkb)]
  show Sum.inl (ty 0, m_l M b, Sum.inl (u1 (m_i M) b _ b)) = _
  rw [u1_row]
theorem wp_copyj {idx a b : Nat} {sp dp n : Int32} (hX : Good X own cc (d + 1) C S) (hw : Cond.methodLink own idx arraycopyName ∈ x_tbl) (hw2 : Cond.native arraycopyName ∈ x_tbl) (hw3 : Cond.static arraycopyName ∈ x_tbl) (hw4 : Cond.initialized "java/lang/System" ∈ x_tbl) (hd : decode cc pc = .ok (.invokestatic idx, 3)) (hst : (st.map fun v => v.category).sum ≤ 8) (ha : a < m_n M) (hka : m_k M a = 13) (hb : b < m_n M) (hkb : m_k M b = 13) (h1 : ¬ sp < 0) (h2 : ¬ dp < 0) (h3 : ¬ n < 0) (h4 : sp.toNatClampNeg + n.toNatClampNeg ≤ m_l M a) (h5 : dp.toNatClampNeg + n.toNatClampNeg ≤ m_l M b)
    (kk : WP X cells slots (pc + 3) ls st (m_rowj M b (va_cpy (m_j M a) (m_j M b) sp.toNatClampNeg dp.toNatClampNeg n.toNatClampNeg))) : WP X cells slots pc ls (.int n :: .int dp :: .ref b :: .int sp :: .ref a :: st) M := by
  obtain ⟨⟨p, l, e, R, s, m, args, below, meth, c⟩, Z, A, D, ty, xt, nL, L0⟩ := X
  intro L H locs lc h0 hP hS hl
  have hts := hX.2.2.2.2.1
  have hf := hX.2.2.2.2.2.2.2.2.2.2.1
  have hlo := hX.2.2.2.2.2.2.2.2.2.2.2.1
  have hca := x_ws_at (ty := ty) (xt := xt) (L := L) ha
  have hcb := x_ws_at (ty := ty) (xt := xt) (L := L) hb
  rw [x_cl_j hka] at hca
  rw [x_cl_j hkb] at hcb
  refine va_copyl hX.1 hX.2.1 (by rw [hX.2.2.1]; exact hl.1.symm) hX.2.2.2.1 (hts _ hw) (hts _ hw2) (hts _ hw3) (hts _ hw4) hX.2.2.2.2.2.2.1 hP.2.2.2.1 hP.2.2.2.2 hS a b 1 1 hca hcb rfl rfl rfl h1 h2 h3 h4 h5 (fun _ _ => rfl) (by omega) (by rw [x_cats]; have := x_native; omega) hd (fun H1 locs1 g1 g2 g3 => ?_)
  refine kk L H1 locs1 lc h0 (hP.put (M' := m_rowj M b (va_cpy (m_j M a) (m_j M b) sp.toNatClampNeg dp.toNatClampNeg n.toNatClampNeg)) hb rfl ?_ (fun q hq => x_cl_eq rfl rfl rfl (u1_ne _ _ hq) rfl) hP.2.2.1 g1 g2) g3 hl
  rw [x_cl_j (show m_k (m_rowj M b (va_cpy (m_j M a) (m_j M b) sp.toNatClampNeg dp.toNatClampNeg n.toNatClampNeg)) b = 13 from hkb)]
  show Sum.inl (ty 1, m_l M b, Sum.inr (Sum.inl (u1 (m_j M) b _ b))) = _
  rw [u1_row]
/-- the three tables: 1001 MOST_OF_TRAIT, 1002 ABOVE, 1003 BODIES -/
theorem wp_most {idx : Nat} (hX : Good X own cc d C S) (hw : Cond.fieldLink own idx "CutFromOthers" "MOST_OF_TRAIT" "[I" ∈ x_tbl) (hd : decode cc pc = .ok (.getstatic idx, 3)) (kk : WP X cells slots (pc + 3) ls (.ref 1001 :: st) M) : WP X cells slots pc ls st M := by
  obtain ⟨⟨p, l, e, R, s, m, args, below, meth, c⟩, Z, A, D, ty, xt, nL, L0⟩ := X
  intro L H locs lc h0 hP hS hl
  exact va_gets hX.1 hX.2.1 hX.2.2.2.2.2.2.2.2.1.1.1 hS hX.2.2.2.1 (hX.2.2.2.2.1 _ hw) (fun _ h => h) hd (kk L H locs lc h0 hP hS hl)
theorem wp_abov {idx : Nat} (hX : Good X own cc d C S) (hw : Cond.fieldLink own idx "CutFromOthers$Stones" "ABOVE" "[I" ∈ x_tbl) (hd : decode cc pc = .ok (.getstatic idx, 3)) (kk : WP X cells slots (pc + 3) ls (.ref 1002 :: st) M) : WP X cells slots pc ls st M := by
  obtain ⟨⟨p, l, e, R, s, m, args, below, meth, c⟩, Z, A, D, ty, xt, nL, L0⟩ := X
  intro L H locs lc h0 hP hS hl
  exact va_gets hX.1 hX.2.1 hX.2.2.2.2.2.2.2.2.1.2.1.1 hS hX.2.2.2.1 (hX.2.2.2.2.1 _ hw) (fun _ h => h) hd (kk L H locs lc h0 hP hS hl)
theorem wp_bods {idx : Nat} (hX : Good X own cc d C S) (hw : Cond.fieldLink own idx "CutFromOthers$Stones" "BODIES" "[I" ∈ x_tbl) (hd : decode cc pc = .ok (.getstatic idx, 3)) (kk : WP X cells slots (pc + 3) ls (.ref 1003 :: st) M) : WP X cells slots pc ls st M := by
  obtain ⟨⟨p, l, e, R, s, m, args, below, meth, c⟩, Z, A, D, ty, xt, nL, L0⟩ := X
  intro L H locs lc h0 hP hS hl
  exact va_gets hX.1 hX.2.1 hX.2.2.2.2.2.2.2.2.1.2.2.1.1 hS hX.2.2.2.1 (hX.2.2.2.2.1 _ hw) (fun _ h => h) hd (kk L H locs lc h0 hP hS hl)
theorem wp_t1 {i : Int32} (hX : Good X own cc d C S) (hd : decode cc pc = .ok (.iaload, 1)) (hi : vp_in i 3) (kk : WP X cells slots (pc + 1) ls (.int (x_most i.toNatClampNeg) :: st) M) : WP X cells slots pc ls (.int i :: .ref 1001 :: st) M := by
  obtain ⟨⟨p, l, e, R, s, m, args, below, meth, c⟩, Z, A, D, ty, xt, nL, L0⟩ := X
  intro L H locs lc h0 hP hS hl
  exact va_ti hX.1 hX.2.1 hX.2.2.2.2.2.2.2.2.1.1.2 hS hi rfl hd (kk L H locs lc h0 hP hS hl)
theorem wp_t2 {i : Int32} (hX : Good X own cc d C S) (hd : decode cc pc = .ok (.iaload, 1)) (hi : vp_in i 8) (kk : WP X cells slots (pc + 1) ls (.int (x_abov i.toNatClampNeg) :: st) M) : WP X cells slots pc ls (.int i :: .ref 1002 :: st) M := by
  obtain ⟨⟨p, l, e, R, s, m, args, below, meth, c⟩, Z, A, D, ty, xt, nL, L0⟩ := X
  intro L H locs lc h0 hP hS hl
  exact va_ti hX.1 hX.2.1 hX.2.2.2.2.2.2.2.2.1.2.1.2 hS hi rfl hd (kk L H locs lc h0 hP hS hl)
theorem wp_t3 {i : Int32} (hX : Good X own cc d C S) (hd : decode cc pc = .ok (.iaload, 1)) (hi : vp_in i 32) (kk : WP X cells slots (pc + 1) ls (.int (x_bods i.toNatClampNeg) :: st) M) : WP X cells slots pc ls (.int i :: .ref 1003 :: st) M := by
  obtain ⟨⟨p, l, e, R, s, m, args, below, meth, c⟩, Z, A, D, ty, xt, nL, L0⟩ := X
  intro L H locs lc h0 hP hS hl
  exact va_ti hX.1 hX.2.1 hX.2.2.2.2.2.2.2.2.1.2.2.1.2 hS hi rfl hd (kk L H locs lc h0 hP hS hl)
/-- a string constant of the tape -/
theorem wp_ldcS {idx i : Nat} {q : Nat × String} (hX : Good X "CutFromOthers$Tape" cc d C S) (hq : x_sr[i]? = some q) (hi : q.1 = idx) (hd : decode cc pc = .ok (.ldc idx, 2)) (kk : WP X cells slots (pc + 2) ls (.ref (1010 + i) :: st) M) : WP X cells slots pc ls st M := by
  obtain ⟨⟨p, l, e, R, s, m, args, below, meth, c⟩, Z, A, D, ty, xt, nL, L0⟩ := X
  intro L H locs lc h0 hP hS hl
  subst hi
  have key := kk L H locs lc h0 hP hS hl
  have e1 : cv xt L (.ref (1010 + i)) = .ref (xt (1010 + i)) := by
    show Value.ref (x_ad xt L (1010 + i)) = _
    unfold x_ad
    rw [if_neg (by omega)]
  rw [List.map_cons, e1] at key
  exact va_ldcS hX.1 hX.2.1 hX.2.2.2.1 (hX.2.2.2.2.2.2.2.2.2.1.1 i q hq) hd key
theorem x_ad_x {xt : Nat → Nat} {L : List Nat} {k : Nat} (h : 1000 ≤ k) : x_ad xt L k = xt k := by
  unfold x_ad
  rw [if_neg (by omega)]
/-- fields of a string constant -/
theorem wp_coder {idx i : Nat} (hX : Good X own cc d C S) (hi : i < 6) (hw : Cond.fieldLink own idx "java/lang/String" "coder" "B" ∈ x_tbl) (hd : decode cc pc = .ok (.getfield idx, 3)) (kk : WP X cells slots (pc + 3) ls (.int 0 :: st) M) : WP X cells slots pc ls (.ref (1010 + i) :: st) M := by
  obtain ⟨⟨p, l, e, R, s, m, args, below, meth, c⟩, Z, A, D, ty, xt, nL, L0⟩ := X
  intro L H locs lc h0 hP hS hl
  rw [List.map_cons, show cv xt L (.ref (1010 + i)) = .ref (xt (1010 + i)) from congrArg Value.ref (x_ad_x (by omega))]
  exact vk_getf hX.1 hX.2.1 (hX.2.2.2.2.2.2.2.2.1.2.2.2.1.1 i hi).2.1 hS hX.2.2.2.1 (hX.2.2.2.2.1 _ hw) (fun _ h => h) hd (kk L H locs lc h0 hP hS hl)
theorem wp_value {idx i : Nat} (hX : Good X own cc d C S) (hi : i < 6) (hw : Cond.fieldLink own idx "java/lang/String" "value" "[B" ∈ x_tbl) (hd : decode cc pc = .ok (.getfield idx, 3)) (kk : WP X cells slots (pc + 3) ls (.ref (1020 + i) :: st) M) : WP X cells slots pc ls (.ref (1010 + i) :: st) M := by
  obtain ⟨⟨p, l, e, R, s, m, args, below, meth, c⟩, Z, A, D, ty, xt, nL, L0⟩ := X
  intro L H locs lc h0 hP hS hl
  rw [List.map_cons, show cv xt L (.ref (1010 + i)) = .ref (xt (1010 + i)) from congrArg Value.ref (x_ad_x (by omega))]
  have key := kk L H locs lc h0 hP hS hl
  rw [List.map_cons, show cv xt L (.ref (1020 + i)) = .ref (xt (1020 + i)) from congrArg Value.ref (x_ad_x (by omega))] at key
  exact vk_getf hX.1 hX.2.1 (hX.2.2.2.2.2.2.2.2.1.2.2.2.1.1 i hi).2.2.1 hS hX.2.2.2.1 (hX.2.2.2.2.1 _ hw) (fun _ h => h) hd key
theorem wp_compact {idx : Nat} (hX : Good X own cc d C S) (hw : Cond.fieldLink own idx "java/lang/String" "COMPACT_STRINGS" "Z" ∈ x_tbl) (hd : decode cc pc = .ok (.getstatic idx, 3)) (kk : WP X cells slots (pc + 3) ls (.int 1 :: st) M) : WP X cells slots pc ls st M := by
  obtain ⟨⟨p, l, e, R, s, m, args, below, meth, c⟩, Z, A, D, ty, xt, nL, L0⟩ := X
  intro L H locs lc h0 hP hS hl
  exact va_gets hX.1 hX.2.1 hX.2.2.2.2.2.2.2.2.1.2.2.2.2 hS hX.2.2.2.1 (hX.2.2.2.2.1 _ hw) (fun _ h => h) hd (kk L H locs lc h0 hP hS hl)
theorem wp_sbyte {i : Nat} {j : Int32} (hX : Good X own cc d C S) (hi : i < 6) (hd : decode cc pc = .ok (.baload, 1)) (hj : vp_in j (x_sl.getD i 0)) (kk : WP X cells slots (pc + 1) ls (.int ((x_sb.getD i []).getD j.toNatClampNeg 0) :: st) M) : WP X cells slots pc ls (.int j :: .ref (1020 + i) :: st) M := by
  obtain ⟨⟨p, l, e, R, s, m, args, below, meth, c⟩, Z, A, D, ty, xt, nL, L0⟩ := X
  intro L H locs lc h0 hP hS hl
  rw [List.map_cons, List.map_cons, show cv xt L (.ref (1020 + i)) = .ref (xt (1020 + i)) from congrArg Value.ref (x_ad_x (by omega))]
  exact va_tb hX.1 hX.2.1 (hX.2.2.2.2.2.2.2.2.1.2.2.2.1.1 i hi).2.2.2 hS hj rfl hd (kk L H locs lc h0 hP hS hl)
theorem wp_slen {i : Nat} (hX : Good X own cc d C S) (hi : i < 6) (hd : decode cc pc = .ok (.arraylength, 1)) (kk : WP X cells slots (pc + 1) ls (.int (Int32.ofNat (x_sl.getD i 0)) :: st) M) : WP X cells slots pc ls (.ref (1020 + i) :: st) M := by
  obtain ⟨⟨p, l, e, R, s, m, args, below, meth, c⟩, Z, A, D, ty, xt, nL, L0⟩ := X
  intro L H locs lc h0 hP hS hl
  rw [List.map_cons, show cv xt L (.ref (1020 + i)) = .ref (xt (1020 + i)) from congrArg Value.ref (x_ad_x (by omega))]
  exact va_tlen hX.1 hX.2.1 (hX.2.2.2.2.2.2.2.2.1.2.2.2.1.1 i hi).2.2.2 hS rfl hd (kk L H locs lc h0 hP hS hl)
/-- a method of a string constant -/
theorem wp_invT' {i : mI} {n idx b : Nat} {As : List Value} {Q : Option Value → mM → Prop} (hX : Good X own cc (d + 1) C S) (hm : MF i n) (hl : Cond.methodLink own idx i.1 ∈ x_tbl) (hi : Cond.instanceMethod i.1 ∈ x_tbl) (hsel : Cond.selects i.1.cls i.1 i.1 ∈ x_tbl) (hC0 : i.1.cls = "java/lang/String") (hb : b < 6) (hd : decode cc pc = .ok (.invokevirtual idx, 3)) (hn : As.length = n) (hst : (st.map fun v => v.category).sum ≤ 8) (hcells : cells ≤ C) (hslots : slots ≤ S) (hct : CT d 0 0 i (.ref (1010 + b) :: As) M Q)
    (hold : ∀ M' : mM, (∃ r, Q r M') → m_n M' = m_n M)
    (kk : ∀ r M', Q r M' → WP X cells slots (pc + 3) ls (r.toList ++ st) M') : WP X cells slots pc ls (As.reverse ++ .ref (1010 + b) :: st) M := by
  obtain ⟨⟨p, l, e, R, s, m, args, below, meth, c⟩, Z, A, D, ty, xt, nL, L0⟩ := X
  intro L H locs lc h0 hP hS hlr
  have hrecv := vk_recv hX.2.2.2.2.2.2.2.2.1.2.2.2.1 hb hS
  have hts := hX.2.2.2.2.1
  obtain ⟨hm1, hm2, hm3, hm4⟩ := hm
  have hR : (x_rm d 0 0).frames + 1 ≤ R.frames ∧ 8 + (i.2.2.1 + 11) + (x_rm d 0 0).locals ≤ R.locals := by
    have h1 := hX.2.2.2.2.2.2.2.2.2.2.1
    have h2 := hX.2.2.2.2.2.2.2.2.2.2.2.1
    exact ⟨h1, by show 8 + (i.2.2.1 + 11) + 64 * d ≤ R.locals; omega⟩
  have hf : cells + 0 ≤ R.cells ∧ slots + 0 ≤ R.slots := ⟨Nat.le_trans hcells hX.2.2.2.2.2.2.2.2.2.2.2.2.1, Nat.le_trans hslots hX.2.2.2.2.2.2.2.2.2.2.2.2.2⟩
  have e0 : x_ad xt L (1010 + b) = xt (1010 + b) := x_ad_x (by omega)
  have hpre := x_pre (X := ((p, l, e, R, s, m, args, below, meth, c), Z, A, D, ty, xt, nL, L0)) hX hP hS (.ref (1010 + b) :: As)
  have est : (As.reverse ++ .ref (1010 + b) :: st).map (cv xt L) = (As.map (cv xt L)).reverse ++ Value.ref (x_ad xt L (1010 + b)) :: st.map (cv xt L) := by
    rw [List.map_append, List.map_reverse]
    rfl
  have hCF : CallFix p m c cc nL s args x_tbl own := ⟨hX.1, hX.2.1, hX.2.2.1, hX.2.2.2.1, hts⟩
  have hst' : 2 * (F0 m pc lc ((As.map (cv xt L)).reverse ++ Value.ref (x_ad xt L (1010 + b)) :: st.map (cv xt L))).monitorRoom + ((st.map (cv xt L)).map fun v => v.category).sum ≤ 8 := lv_room (by rw [x_cats]; exact hst)
  have run : va_Run p l e R s m args below meth c H locs cells slots 0 0 (F0 m pc lc ((As.map (cv xt L)).reverse ++ Value.ref (x_ad xt L (1010 + b)) :: st.map (cv xt L))) (st.map (cv xt L)) (QO D ty xt (va_A (x_ws ty xt L M) H.size) L Q (Value.ref (x_ad xt L (1010 + b)) :: As.map (cv xt L)).toArray) (va_A (x_ws ty xt L M) H.size) :=
    va_runV (C := i.1.cls) (As := As.map (cv xt L)) (rest := st.map (cv xt L)) hCF (hct l D ty xt L H.size) ⟨callB_of n hts (x_gd hm1) rfl rfl rfl (hts _ hm2) (hts _ hl) hm3 hR, hts _ hi, hts _ hsel⟩ ⟨hpre.1, by rw [hC0, e0]; exact hrecv, hpre.2⟩ rfl (by simpa using hn) hlr.1 rfl hst' hd hf
  rw [est]
  exact x_go hX h0 hP hS hlr run (fun M' h => Or.inl (hold M' h)) kk
/-- THE SCRIPT (1000), of L ints xs: the law's own -/
def x_scr : cxT → Nat → (Nat → Int32) → Prop
  | ((_, _, _, _, s, _, _, _, _, _), _, A, _, _, xt, _, _), L, xs => va_X (xt 1000) L xs s s.heap ∧ xt 1000 < s.heap.size ∧ ¬ A (xt 1000)
theorem wp_sld {i : Int32} {n : Nat} {xs : Nat → Int32} (hX : Good X own cc d C S) (hs : x_scr X n xs) (hd : decode cc pc = .ok (.iaload, 1)) (hi : vp_in i n) (kk : WP X cells slots (pc + 1) ls (.int (xs i.toNatClampNeg) :: st) M) : WP X cells slots pc ls (.int i :: .ref 1000 :: st) M := by
  obtain ⟨⟨p, l, e, R, s, m, args, below, meth, c⟩, Z, A, D, ty, xt, nL, L0⟩ := X
  intro L H locs lc h0 hP hS hl
  exact va_sld hX.1 hX.2.1 hs.1 hs.2.1 hs.2.2 hS hi hd (kk L H locs lc h0 hP hS hl)
theorem wp_sln {n : Nat} {xs : Nat → Int32} (hX : Good X own cc d C S) (hs : x_scr X n xs) (hd : decode cc pc = .ok (.arraylength, 1)) (kk : WP X cells slots (pc + 1) ls (.int (nI n) :: st) M) : WP X cells slots pc ls (.ref 1000 :: st) M := by
  obtain ⟨⟨p, l, e, R, s, m, args, below, meth, c⟩, Z, A, D, ty, xt, nL, L0⟩ := X
  intro L H locs lc h0 hP hS hl
  exact va_slen hX.1 hX.2.1 hs.1 hs.2.1 hs.2.2 hS hd (kk L H locs lc h0 hP hS hl)
end PRIM2
end
section
/-! METHODS AND LINKS OF THE TABLES -/
def IV (own : String) (idx : Nat) (i : mI) (n ci : Nat) : Prop := MF i n ∧ ML own idx i ∧ Cond.instanceMethod i.1 ∈ x_tbl ∧ Cond.selects i.1.cls i.1 i.1 ∈ x_tbl ∧ (∃ T N, vwCl[ci]? = some (i.1.cls, T, N)) ∧ ci < 12
def IS (own : String) (idx : Nat) (i : mI) (n : Nat) : Prop := MF i n ∧ ML own idx i ∧ Cond.static i.1 ∈ x_tbl
def II (own : String) (idx : Nat) (i : mI) (n : Nat) : Prop := MF i n ∧ ML own idx i ∧ Cond.instanceMethod i.1 ∈ x_tbl ∧ i.2.2.2 = none ∧ i.1.name = "<init>"
def IT (own : String) (idx : Nat) (i : mI) (n : Nat) : Prop := MF i n ∧ Cond.methodLink own idx i.1 ∈ x_tbl ∧ Cond.instanceMethod i.1 ∈ x_tbl ∧ Cond.selects i.1.cls i.1 i.1 ∈ x_tbl ∧ i.1.cls = "java/lang/String"
abbrev iX0_init : mI := (yX0_init, cX0_init, 1, none)
theorem mfX0_init : MF iX0_init 0 := ⟨x_tb 287 (by decide +kernel) rfl, x_tb 83 (by decide +kernel) rfl, by decide +kernel, by decide⟩
abbrev iX0_done : mI := (yX0_done, cX0_done, 1, (some .int))
theorem mfX0_done : MF iX0_done 0 := ⟨x_tb 1148 (by decide +kernel) rfl, x_tb 83 (by decide +kernel) rfl, by decide +kernel, by decide⟩
abbrev iX0_add : mI := (yX0_add, cX0_add, 6, none)
theorem mfX0_add : MF iX0_add 4 := ⟨x_tb 481 (by decide +kernel) rfl, x_tb 83 (by decide +kernel) rfl, by decide +kernel, by decide⟩
abbrev iX0_takeBack : mI := (yX0_takeBack, cX0_takeBack, 3, (some .int))
theorem mfX0_takeBack : MF iX0_takeBack 1 := ⟨x_tb 1016 (by decide +kernel) rfl, x_tb 83 (by decide +kernel) rfl, by decide +kernel, by decide⟩
abbrev iX0_doAgain : mI := (yX0_doAgain, cX0_doAgain, 3, (some .int))
theorem mfX0_doAgain : MF iX0_doAgain 1 := ⟨x_tb 1025 (by decide +kernel) rfl, x_tb 83 (by decide +kernel) rfl, by decide +kernel, by decide⟩
abbrev iX1_init : mI := (yX1_init, cX1_init, 1, none)
theorem mfX1_init : MF iX1_init 0 := ⟨x_tb 114 (by decide +kernel) rfl, x_tb 77 (by decide +kernel) rfl, by decide +kernel, by decide⟩
abbrev iX1_take : mI := (yX1_take, cX1_take, 4, none)
theorem mfX1_take : MF iX1_take 1 := ⟨x_tb 383 (by decide +kernel) rfl, x_tb 77 (by decide +kernel) rfl, by decide +kernel, by decide⟩
abbrev iX1_countWays : mI := (yX1_countWays, cX1_countWays, 4, (some .int))
theorem mfX1_countWays : MF iX1_countWays 1 := ⟨x_tb 727 (by decide +kernel) rfl, x_tb 77 (by decide +kernel) rfl, by decide +kernel, by decide⟩
abbrev iX1_firstPlace : mI := (yX1_firstPlace, cX1_firstPlace, 3, (some .int))
theorem mfX1_firstPlace : MF iX1_firstPlace 1 := ⟨x_tb 426 (by decide +kernel) rfl, x_tb 77 (by decide +kernel) rfl, by decide +kernel, by decide⟩
abbrev iX1_wayAt : mI := (yX1_wayAt, cX1_wayAt, 2, (some .int))
theorem mfX1_wayAt : MF iX1_wayAt 1 := ⟨x_tb 732 (by decide +kernel) rfl, x_tb 77 (by decide +kernel) rfl, by decide +kernel, by decide⟩
abbrev iX1_shapeAt : mI := (yX1_shapeAt, cX1_shapeAt, 2, (some .int))
theorem mfX1_shapeAt : MF iX1_shapeAt 1 := ⟨x_tb 974 (by decide +kernel) rfl, x_tb 77 (by decide +kernel) rfl, by decide +kernel, by decide⟩
abbrev iX1_canBeCutOf : mI := (yX1_canBeCutOf, cX1_canBeCutOf, 2, (some .boolean))
theorem mfX1_canBeCutOf : MF iX1_canBeCutOf 1 := ⟨x_tb 422 (by decide +kernel) rfl, x_tb 77 (by decide +kernel) rfl, by decide +kernel, by decide⟩
abbrev iX1_leastWith : mI := (yX1_leastWith, cX1_leastWith, 10, (some .int))
theorem mfX1_leastWith : MF iX1_leastWith 1 := ⟨x_tb 856 (by decide +kernel) rfl, x_tb 77 (by decide +kernel) rfl, by decide +kernel, by decide⟩
abbrev iX1_wide : mI := (yX1_wide, cX1_wide, 3, (some .int))
theorem mfX1_wide : MF iX1_wide 1 := ⟨x_tb 400 (by decide +kernel) rfl, x_tb 77 (by decide +kernel) rfl, by decide +kernel, by decide⟩
abbrev iX1_tall : mI := (yX1_tall, cX1_tall, 3, (some .int))
theorem mfX1_tall : MF iX1_tall 1 := ⟨x_tb 403 (by decide +kernel) rfl, x_tb 77 (by decide +kernel) rfl, by decide +kernel, by decide⟩
abbrev iX1_unlikePlaces : mI := (yX1_unlikePlaces, cX1_unlikePlaces, 1, (some .int))
theorem mfX1_unlikePlaces : MF iX1_unlikePlaces 0 := ⟨x_tb 861 (by decide +kernel) rfl, x_tb 77 (by decide +kernel) rfl, by decide +kernel, by decide⟩
abbrev iX1_addPlaces : mI := (yX1_addPlaces, cX1_addPlaces, 7, none)
theorem mfX1_addPlaces : MF iX1_addPlaces 1 := ⟨x_tb 397 (by decide +kernel) rfl, x_tb 77 (by decide +kernel) rfl, by decide +kernel, by decide⟩
abbrev iX1_cornered : mI := (yX1_cornered, cX1_cornered, 3, (some .int))
theorem mfX1_cornered : MF iX1_cornered 1 := ⟨x_tb 392 (by decide +kernel) rfl, x_tb 77 (by decide +kernel) rfl, by decide +kernel, by decide⟩
abbrev iX1_turnedOnce : mI := (yX1_turnedOnce, cX1_turnedOnce, 4, (some .int))
theorem mfX1_turnedOnce : MF iX1_turnedOnce 1 := ⟨x_tb 406 (by decide +kernel) rfl, x_tb 77 (by decide +kernel) rfl, by decide +kernel, by decide⟩
abbrev iX2_init : mI := (yX2_init, cX2_init, 3, none)
theorem mfX2_init : MF iX2_init 2 := ⟨x_tb 206 (by decide +kernel) rfl, x_tb 80 (by decide +kernel) rfl, by decide +kernel, by decide⟩
abbrev iX2_measure : mI := (yX2_measure, cX2_measure, 4, none)
theorem mfX2_measure : MF iX2_measure 1 := ⟨x_tb 779 (by decide +kernel) rfl, x_tb 80 (by decide +kernel) rfl, by decide +kernel, by decide⟩
abbrev iX2_longestOf : mI := (yX2_longestOf, cX2_longestOf, 4, (some .int))
theorem mfX2_longestOf : MF iX2_longestOf 1 := ⟨x_tb 793 (by decide +kernel) rfl, x_tb 80 (by decide +kernel) rfl, by decide +kernel, by decide⟩
abbrev iX2_inLongest : mI := (yX2_inLongest, cX2_inLongest, 6, (some .int))
theorem mfX2_inLongest : MF iX2_inLongest 2 := ⟨x_tb 799 (by decide +kernel) rfl, x_tb 80 (by decide +kernel) rfl, by decide +kernel, by decide⟩
abbrev iX2_longestWithout : mI := (yX2_longestWithout, cX2_longestWithout, 3, (some .int))
theorem mfX2_longestWithout : MF iX2_longestWithout 2 := ⟨x_tb 843 (by decide +kernel) rfl, x_tb 80 (by decide +kernel) rfl, by decide +kernel, by decide⟩
abbrev iX2_longestWith : mI := (yX2_longestWith, cX2_longestWith, 6, (some .int))
theorem mfX2_longestWith : MF iX2_longestWith 3 := ⟨x_tb 832 (by decide +kernel) rfl, x_tb 80 (by decide +kernel) rfl, by decide +kernel, by decide⟩
abbrev iX2_weigh : mI := (yX2_weigh, cX2_weigh, 6, none)
theorem mfX2_weigh : MF iX2_weigh 1 := ⟨x_tb 811 (by decide +kernel) rfl, x_tb 80 (by decide +kernel) rfl, by decide +kernel, by decide⟩
abbrev iX2_mostOf : mI := (yX2_mostOf, cX2_mostOf, 3, (some .int))
theorem mfX2_mostOf : MF iX2_mostOf 1 := ⟨x_tb 820 (by decide +kernel) rfl, x_tb 80 (by decide +kernel) rfl, by decide +kernel, by decide⟩
abbrev iX2_inRichest : mI := (yX2_inRichest, cX2_inRichest, 6, (some .int))
theorem mfX2_inRichest : MF iX2_inRichest 2 := ⟨x_tb 824 (by decide +kernel) rfl, x_tb 80 (by decide +kernel) rfl, by decide +kernel, by decide⟩
abbrev iX2_play : mI := (yX2_play, cX2_play, 3, none)
theorem mfX2_play : MF iX2_play 0 := ⟨x_tb 873 (by decide +kernel) rfl, x_tb 80 (by decide +kernel) rfl, by decide +kernel, by decide⟩
abbrev iX2_firstWinning : mI := (yX2_firstWinning, cX2_firstWinning, 3, (some .int))
theorem mfX2_firstWinning : MF iX2_firstWinning 1 := ⟨x_tb 882 (by decide +kernel) rfl, x_tb 80 (by decide +kernel) rfl, by decide +kernel, by decide⟩
abbrev iX2_cutsPlayed : mI := (yX2_cutsPlayed, cX2_cutsPlayed, 6, (some .int))
theorem mfX2_cutsPlayed : MF iX2_cutsPlayed 1 := ⟨x_tb 877 (by decide +kernel) rfl, x_tb 80 (by decide +kernel) rfl, by decide +kernel, by decide⟩
abbrev iX2_draw : mI := (yX2_draw, cX2_draw, 12, (some .int))
theorem mfX2_draw : MF iX2_draw 4 := ⟨x_tb 960 (by decide +kernel) rfl, x_tb 80 (by decide +kernel) rfl, by decide +kernel, by decide⟩
abbrev iX2_firstOfLength : mI := (yX2_firstOfLength, cX2_firstOfLength, 4, (some .int))
theorem mfX2_firstOfLength : MF iX2_firstOfLength 2 := ⟨x_tb 803 (by decide +kernel) rfl, x_tb 80 (by decide +kernel) rfl, by decide +kernel, by decide⟩
abbrev iX2_richestNext : mI := (yX2_richestNext, cX2_richestNext, 8, (some .int))
theorem mfX2_richestNext : MF iX2_richestNext 2 := ⟨x_tb 815 (by decide +kernel) rfl, x_tb 80 (by decide +kernel) rfl, by decide +kernel, by decide⟩
abbrev iX2_nth : mI := (yX2_nth, cX2_nth, 5, (some .int))
theorem mfX2_nth : MF iX2_nth 2 := ⟨x_tb 966 (by decide +kernel) rfl, x_tb 80 (by decide +kernel) rfl, by decide +kernel, by decide⟩
abbrev iX3_init : mI := (yX3_init, cX3_init, 1, none)
theorem mfX3_init : MF iX3_init 0 := ⟨x_tb 184 (by decide +kernel) rfl, x_tb 79 (by decide +kernel) rfl, by decide +kernel, by decide⟩
abbrev iX3_take : mI := (yX3_take, cX3_take, 2, none)
theorem mfX3_take : MF iX3_take 1 := ⟨x_tb 659 (by decide +kernel) rfl, x_tb 79 (by decide +kernel) rfl, by decide +kernel, by decide⟩
abbrev iX3_worthOf : mI := (yX3_worthOf, cX3_worthOf, 8, (some .int))
theorem mfX3_worthOf : MF iX3_worthOf 4 := ⟨x_tb 676 (by decide +kernel) rfl, x_tb 79 (by decide +kernel) rfl, by decide +kernel, by decide⟩
abbrev iX3_workOut : mI := (yX3_workOut, cX3_workOut, 4, (some .int))
theorem mfX3_workOut : MF iX3_workOut 0 := ⟨x_tb 686 (by decide +kernel) rfl, x_tb 79 (by decide +kernel) rfl, by decide +kernel, by decide⟩
abbrev iX3_step : mI := (yX3_step, cX3_step, 4, none)
theorem mfX3_step : MF iX3_step 1 := ⟨x_tb 694 (by decide +kernel) rfl, x_tb 79 (by decide +kernel) rfl, by decide +kernel, by decide⟩
abbrev iX3_join : mI := (yX3_join, cX3_join, 3, (some .int))
theorem mfX3_join : MF iX3_join 3 := ⟨x_tb 704 (by decide +kernel) rfl, x_tb 79 (by decide +kernel) rfl, by decide +kernel, by decide⟩
abbrev iX3_truth : mI := (yX3_truth, cX3_truth, 1, (some .int))
theorem mfX3_truth : MF iX3_truth 1 := ⟨x_tb 701 (by decide +kernel) rfl, x_tb 79 (by decide +kernel) rfl, by decide +kernel, by decide⟩
abbrev iX3_push : mI := (yX3_push, cX3_push, 2, none)
theorem mfX3_push : MF iX3_push 1 := ⟨x_tb 698 (by decide +kernel) rfl, x_tb 79 (by decide +kernel) rfl, by decide +kernel, by decide⟩
abbrev iX3_pop : mI := (yX3_pop, cX3_pop, 1, (some .int))
theorem mfX3_pop : MF iX3_pop 0 := ⟨x_tb 690 (by decide +kernel) rfl, x_tb 79 (by decide +kernel) rfl, by decide +kernel, by decide⟩
abbrev iX4_init : mI := (yX4_init, cX4_init, 1, none)
theorem mfX4_init : MF iX4_init 0 := ⟨x_tb 322 (by decide +kernel) rfl, x_tb 85 (by decide +kernel) rfl, by decide +kernel, by decide⟩
abbrev iX4_has : mI := (yX4_has, cX4_has, 2, (some .boolean))
theorem mfX4_has : MF iX4_has 1 := ⟨x_tb 438 (by decide +kernel) rfl, x_tb 85 (by decide +kernel) rfl, by decide +kernel, by decide⟩
abbrev iX4_sortOf : mI := (yX4_sortOf, cX4_sortOf, 2, (some .int))
theorem mfX4_sortOf : MF iX4_sortOf 1 := ⟨x_tb 442 (by decide +kernel) rfl, x_tb 85 (by decide +kernel) rfl, by decide +kernel, by decide⟩
abbrev iX4_isRow : mI := (yX4_isRow, cX4_isRow, 2, (some .boolean))
theorem mfX4_isRow : MF iX4_isRow 1 := ⟨x_tb 1099 (by decide +kernel) rfl, x_tb 85 (by decide +kernel) rfl, by decide +kernel, by decide⟩
abbrev iX4_sizeOf : mI := (yX4_sizeOf, cX4_sizeOf, 2, (some .int))
theorem mfX4_sizeOf : MF iX4_sizeOf 1 := ⟨x_tb 909 (by decide +kernel) rfl, x_tb 85 (by decide +kernel) rfl, by decide +kernel, by decide⟩
abbrev iX4_set : mI := (yX4_set, cX4_set, 4, none)
theorem mfX4_set : MF iX4_set 3 := ⟨x_tb 1079 (by decide +kernel) rfl, x_tb 85 (by decide +kernel) rfl, by decide +kernel, by decide⟩
abbrev iX4_empty : mI := (yX4_empty, cX4_empty, 3, none)
theorem mfX4_empty : MF iX4_empty 1 := ⟨x_tb 1087 (by decide +kernel) rfl, x_tb 85 (by decide +kernel) rfl, by decide +kernel, by decide⟩
abbrev iX4_hasStretch : mI := (yX4_hasStretch, cX4_hasStretch, 4, (some .boolean))
theorem mfX4_hasStretch : MF iX4_hasStretch 3 := ⟨x_tb 450 (by decide +kernel) rfl, x_tb 85 (by decide +kernel) rfl, by decide +kernel, by decide⟩
abbrev iX4_at : mI := (yX4_at, cX4_at, 3, (some .long))
theorem mfX4_at : MF iX4_at 2 := ⟨x_tb 454 (by decide +kernel) rfl, x_tb 85 (by decide +kernel) rfl, by decide +kernel, by decide⟩
abbrev iX4_write : mI := (yX4_write, cX4_write, 5, none)
theorem mfX4_write : MF iX4_write 3 := ⟨x_tb 1103 (by decide +kernel) rfl, x_tb 85 (by decide +kernel) rfl, by decide +kernel, by decide⟩
abbrev iX4_copy : mI := (yX4_copy, cX4_copy, 6, none)
theorem mfX4_copy : MF iX4_copy 5 := ⟨x_tb 1119 (by decide +kernel) rfl, x_tb 85 (by decide +kernel) rfl, by decide +kernel, by decide⟩
abbrev iX4_narrowed : mI := (yX4_narrowed, cX4_narrowed, 3, (some .long))
theorem mfX4_narrowed : MF iX4_narrowed 2 := ⟨x_tb 1106 (by decide +kernel) rfl, x_tb 85 (by decide +kernel) rfl, by decide +kernel, by decide⟩
abbrev iX5_init : mI := (yX5_init, cX5_init, 2, none)
theorem mfX5_init : MF iX5_init 0 := ⟨x_tb 107 (by decide +kernel) rfl, x_tb 76 (by decide +kernel) rfl, by decide +kernel, by decide⟩
abbrev iX5_came : mI := (yX5_came, cX5_came, 1, (some .int))
theorem mfX5_came : MF iX5_came 0 := ⟨x_tb 783 (by decide +kernel) rfl, x_tb 76 (by decide +kernel) rfl, by decide +kernel, by decide⟩
abbrev iX5_has : mI := (yX5_has, cX5_has, 2, (some .boolean))
theorem mfX5_has : MF iX5_has 1 := ⟨x_tb 472 (by decide +kernel) rfl, x_tb 76 (by decide +kernel) rfl, by decide +kernel, by decide⟩
abbrev iX5_all : mI := (yX5_all, cX5_all, 1, (some .int))
theorem mfX5_all : MF iX5_all 0 := ⟨x_tb 766 (by decide +kernel) rfl, x_tb 76 (by decide +kernel) rfl, by decide +kernel, by decide⟩
abbrev iX5_formOf : mI := (yX5_formOf, cX5_formOf, 2, (some (.object "CutFromOthers$Form")))
theorem mfX5_formOf : MF iX5_formOf 1 := ⟨x_tb 492 (by decide +kernel) rfl, x_tb 76 (by decide +kernel) rfl, by decide +kernel, by decide⟩
abbrev iX5_traitOf : mI := (yX5_traitOf, cX5_traitOf, 3, (some .int))
theorem mfX5_traitOf : MF iX5_traitOf 2 := ⟨x_tb 476 (by decide +kernel) rfl, x_tb 76 (by decide +kernel) rfl, by decide +kernel, by decide⟩
abbrev iX5_setTrait : mI := (yX5_setTrait, cX5_setTrait, 4, none)
theorem mfX5_setTrait : MF iX5_setTrait 3 := ⟨x_tb 410 (by decide +kernel) rfl, x_tb 76 (by decide +kernel) rfl, by decide +kernel, by decide⟩
abbrev iX5_outOf : mI := (yX5_outOf, cX5_outOf, 2, (some .int))
theorem mfX5_outOf : MF iX5_outOf 1 := ⟨x_tb 746 (by decide +kernel) rfl, x_tb 76 (by decide +kernel) rfl, by decide +kernel, by decide⟩
abbrev iX5_bySize : mI := (yX5_bySize, cX5_bySize, 2, (some .int))
theorem mfX5_bySize : MF iX5_bySize 1 := ⟨x_tb 787 (by decide +kernel) rfl, x_tb 76 (by decide +kernel) rfl, by decide +kernel, by decide⟩
abbrev iX5_add : mI := (yX5_add, cX5_add, 4, (some .int))
theorem mfX5_add : MF iX5_add 2 := ⟨x_tb 379 (by decide +kernel) rfl, x_tb 76 (by decide +kernel) rfl, by decide +kernel, by decide⟩
abbrev iX5_cuttableOf : mI := (yX5_cuttableOf, cX5_cuttableOf, 4, (some .int))
theorem mfX5_cuttableOf : MF iX5_cuttableOf 1 := ⟨x_tb 418 (by decide +kernel) rfl, x_tb 76 (by decide +kernel) rfl, by decide +kernel, by decide⟩
abbrev iX5_above : mI := (yX5_above, cX5_above, 4, (some .int))
theorem mfX5_above : MF iX5_above 1 := ⟨x_tb 757 (by decide +kernel) rfl, x_tb 76 (by decide +kernel) rfl, by decide +kernel, by decide⟩
abbrev iX5_outOfAny : mI := (yX5_outOfAny, cX5_outOfAny, 4, (some .int))
theorem mfX5_outOfAny : MF iX5_outOfAny 1 := ⟨x_tb 921 (by decide +kernel) rfl, x_tb 76 (by decide +kernel) rfl, by decide +kernel, by decide⟩
abbrev iX5_relate : mI := (yX5_relate, cX5_relate, 3, none)
theorem mfX5_relate : MF iX5_relate 1 := ⟨x_tb 414 (by decide +kernel) rfl, x_tb 76 (by decide +kernel) rfl, by decide +kernel, by decide⟩
abbrev iX5_sortIn : mI := (yX5_sortIn, cX5_sortIn, 3, none)
theorem mfX5_sortIn : MF iX5_sortIn 1 := ⟨x_tb 430 (by decide +kernel) rfl, x_tb 76 (by decide +kernel) rfl, by decide +kernel, by decide⟩
abbrev iX6_init : mI := (yX6_init, cX6_init, 1, none)
theorem mfX6_init : MF iX6_init 0 := ⟨x_tb 303 (by decide +kernel) rfl, x_tb 84 (by decide +kernel) rfl, by decide +kernel, by decide⟩
abbrev iX6_kept : mI := (yX6_kept, cX6_kept, 1, (some .int))
theorem mfX6_kept : MF iX6_kept 0 := ⟨x_tb 1152 (by decide +kernel) rfl, x_tb 84 (by decide +kernel) rfl, by decide +kernel, by decide⟩
abbrev iX6_ran : mI := (yX6_ran, cX6_ran, 1, (some .int))
theorem mfX6_ran : MF iX6_ran 0 := ⟨x_tb 1156 (by decide +kernel) rfl, x_tb 84 (by decide +kernel) rfl, by decide +kernel, by decide⟩
abbrev iX6_has : mI := (yX6_has, cX6_has, 2, (some .boolean))
theorem mfX6_has : MF iX6_has 1 := ⟨x_tb 1045 (by decide +kernel) rfl, x_tb 84 (by decide +kernel) rfl, by decide +kernel, by decide⟩
abbrev iX6_kindOf : mI := (yX6_kindOf, cX6_kindOf, 2, (some .int))
theorem mfX6_kindOf : MF iX6_kindOf 1 := ⟨x_tb 1129 (by decide +kernel) rfl, x_tb 84 (by decide +kernel) rfl, by decide +kernel, by decide⟩
abbrev iX6_add : mI := (yX6_add, cX6_add, 2, (some .int))
theorem mfX6_add : MF iX6_add 1 := ⟨x_tb 1033 (by decide +kernel) rfl, x_tb 84 (by decide +kernel) rfl, by decide +kernel, by decide⟩
abbrev iX6_traced : mI := (yX6_traced, cX6_traced, 2, (some .int))
theorem mfX6_traced : MF iX6_traced 1 := ⟨x_tb 1069 (by decide +kernel) rfl, x_tb 84 (by decide +kernel) rfl, by decide +kernel, by decide⟩
abbrev iX6_isUnder : mI := (yX6_isUnder, cX6_isUnder, 4, (some .boolean))
theorem mfX6_isUnder : MF iX6_isUnder 2 := ⟨x_tb 1132 (by decide +kernel) rfl, x_tb 84 (by decide +kernel) rfl, by decide +kernel, by decide⟩
abbrev iX6_start : mI := (yX6_start, cX6_start, 4, (some .int))
theorem mfX6_start : MF iX6_start 3 := ⟨x_tb 1041 (by decide +kernel) rfl, x_tb 84 (by decide +kernel) rfl, by decide +kernel, by decide⟩
abbrev iX6_own : mI := (yX6_own, cX6_own, 5, (some .int))
theorem mfX6_own : MF iX6_own 4 := ⟨x_tb 1049 (by decide +kernel) rfl, x_tb 84 (by decide +kernel) rfl, by decide +kernel, by decide⟩
abbrev iX6_answer : mI := (yX6_answer, cX6_answer, 10, (some .int))
theorem mfX6_answer : MF iX6_answer 5 := ⟨x_tb 1053 (by decide +kernel) rfl, x_tb 84 (by decide +kernel) rfl, by decide +kernel, by decide⟩
abbrev iX6_note : mI := (yX6_note, cX6_note, 2, none)
theorem mfX6_note : MF iX6_note 1 := ⟨x_tb 1061 (by decide +kernel) rfl, x_tb 84 (by decide +kernel) rfl, by decide +kernel, by decide⟩
abbrev iX7_init : mI := (yX7_init, cX7_init, 1, none)
theorem mfX7_init : MF iX7_init 0 := ⟨x_tb 162 (by decide +kernel) rfl, x_tb 78 (by decide +kernel) rfl, by decide +kernel, by decide⟩
abbrev iX7_length : mI := (yX7_length, cX7_length, 1, (some .int))
theorem mfX7_length : MF iX7_length 0 := ⟨x_tb 1144 (by decide +kernel) rfl, x_tb 78 (by decide +kernel) rfl, by decide +kernel, by decide⟩
abbrev iX7_add : mI := (yX7_add, cX7_add, 2, (some .int))
theorem mfX7_add : MF iX7_add 1 := ⟨x_tb 516 (by decide +kernel) rfl, x_tb 78 (by decide +kernel) rfl, by decide +kernel, by decide⟩
abbrev iX7_clear : mI := (yX7_clear, cX7_clear, 1, none)
theorem mfX7_clear : MF iX7_clear 0 := ⟨x_tb 655 (by decide +kernel) rfl, x_tb 78 (by decide +kernel) rfl, by decide +kernel, by decide⟩
abbrev iX7_read : mI := (yX7_read, cX7_read, 2, (some .int))
theorem mfX7_read : MF iX7_read 0 := ⟨x_tb 524 (by decide +kernel) rfl, x_tb 78 (by decide +kernel) rfl, by decide +kernel, by decide⟩
abbrev iX7_copyCode : mI := (yX7_copyCode, cX7_copyCode, 2, (some .int))
theorem mfX7_copyCode : MF iX7_copyCode 1 := ⟨x_tb 663 (by decide +kernel) rfl, x_tb 78 (by decide +kernel) rfl, by decide +kernel, by decide⟩
abbrev iX7_readLine : mI := (yX7_readLine, cX7_readLine, 2, (some .boolean))
theorem mfX7_readLine : MF iX7_readLine 0 := ⟨x_tb 528 (by decide +kernel) rfl, x_tb 78 (by decide +kernel) rfl, by decide +kernel, by decide⟩
abbrev iX7_readJoined : mI := (yX7_readJoined, cX7_readJoined, 6, (some .boolean))
theorem mfX7_readJoined : MF iX7_readJoined 2 := ⟨x_tb 532 (by decide +kernel) rfl, x_tb 78 (by decide +kernel) rfl, by decide +kernel, by decide⟩
abbrev iX7_readOperand : mI := (yX7_readOperand, cX7_readOperand, 3, (some .boolean))
theorem mfX7_readOperand : MF iX7_readOperand 1 := ⟨x_tb 536 (by decide +kernel) rfl, x_tb 78 (by decide +kernel) rfl, by decide +kernel, by decide⟩
abbrev iX7_readNumber : mI := (yX7_readNumber, cX7_readNumber, 3, none)
theorem mfX7_readNumber : MF iX7_readNumber 0 := ⟨x_tb 544 (by decide +kernel) rfl, x_tb 78 (by decide +kernel) rfl, by decide +kernel, by decide⟩
abbrev iX7_signsOf : mI := (yX7_signsOf, cX7_signsOf, 1, (some (.object "java/lang/String")))
theorem mfX7_signsOf : MF iX7_signsOf 1 := ⟨x_tb 646 (by decide +kernel) rfl, x_tb 78 (by decide +kernel) rfl, by decide +kernel, by decide⟩
abbrev iX7_isDigit : mI := (yX7_isDigit, cX7_isDigit, 1, (some .boolean))
theorem mfX7_isDigit : MF iX7_isDigit 0 := ⟨x_tb 540 (by decide +kernel) rfl, x_tb 78 (by decide +kernel) rfl, by decide +kernel, by decide⟩
abbrev iX7_isAhead : mI := (yX7_isAhead, cX7_isAhead, 2, (some .boolean))
theorem mfX7_isAhead : MF iX7_isAhead 1 := ⟨x_tb 553 (by decide +kernel) rfl, x_tb 78 (by decide +kernel) rfl, by decide +kernel, by decide⟩
abbrev iX7_accepts : mI := (yX7_accepts, cX7_accepts, 2, (some .boolean))
theorem mfX7_accepts : MF iX7_accepts 1 := ⟨x_tb 643 (by decide +kernel) rfl, x_tb 78 (by decide +kernel) rfl, by decide +kernel, by decide⟩
abbrev iX7_write : mI := (yX7_write, cX7_write, 2, none)
theorem mfX7_write : MF iX7_write 1 := ⟨x_tb 548 (by decide +kernel) rfl, x_tb 78 (by decide +kernel) rfl, by decide +kernel, by decide⟩
abbrev iX8_init : mI := (yX8_init, cX8_init, 2, none)
theorem mfX8_init : MF iX8_init 1 := ⟨x_tb 234 (by decide +kernel) rfl, x_tb 81 (by decide +kernel) rfl, by decide +kernel, by decide⟩
abbrev iX8_firstWrong : mI := (yX8_firstWrong, cX8_firstWrong, 8, (some .int))
theorem mfX8_firstWrong : MF iX8_firstWrong 5 := ⟨x_tb 905 (by decide +kernel) rfl, x_tb 81 (by decide +kernel) rfl, by decide +kernel, by decide⟩
abbrev iX8_lastOnes : mI := (yX8_lastOnes, cX8_lastOnes, 4, (some .int))
theorem mfX8_lastOnes : MF iX8_lastOnes 3 := ⟨x_tb 952 (by decide +kernel) rfl, x_tb 81 (by decide +kernel) rfl, by decide +kernel, by decide⟩
abbrev iX8_firstFilling : mI := (yX8_firstFilling, cX8_firstFilling, 6, (some .int))
theorem mfX8_firstFilling : MF iX8_firstFilling 3 := ⟨x_tb 940 (by decide +kernel) rfl, x_tb 81 (by decide +kernel) rfl, by decide +kernel, by decide⟩
abbrev iX8_countFillings : mI := (yX8_countFillings, cX8_countFillings, 7, (some .int))
theorem mfX8_countFillings : MF iX8_countFillings 3 := ⟨x_tb 929 (by decide +kernel) rfl, x_tb 81 (by decide +kernel) rfl, by decide +kernel, by decide⟩
abbrev iX8_goOn : mI := (yX8_goOn, cX8_goOn, 4, none)
theorem mfX8_goOn : MF iX8_goOn 1 := ⟨x_tb 934 (by decide +kernel) rfl, x_tb 81 (by decide +kernel) rfl, by decide +kernel, by decide⟩
abbrev iX8_meant : mI := (yX8_meant, cX8_meant, 3, (some .int))
theorem mfX8_meant : MF iX8_meant 1 := ⟨x_tb 914 (by decide +kernel) rfl, x_tb 81 (by decide +kernel) rfl, by decide +kernel, by decide⟩
abbrev iX8_firstUnknown : mI := (yX8_firstUnknown, cX8_firstUnknown, 3, (some .int))
theorem mfX8_firstUnknown : MF iX8_firstUnknown 2 := ⟨x_tb 943 (by decide +kernel) rfl, x_tb 81 (by decide +kernel) rfl, by decide +kernel, by decide⟩
abbrev iX9_init : mI := (yX9_init, cX9_init, 1, none)
theorem mfX9_init : MF iX9_init 0 := ⟨x_tb 253 (by decide +kernel) rfl, x_tb 82 (by decide +kernel) rfl, by decide +kernel, by decide⟩
abbrev iX9_blocks : mI := (yX9_blocks, cX9_blocks, 1, (some .int))
theorem mfX9_blocks : MF iX9_blocks 0 := ⟨x_tb 1140 (by decide +kernel) rfl, x_tb 82 (by decide +kernel) rfl, by decide +kernel, by decide⟩
abbrev iX9_has : mI := (yX9_has, cX9_has, 2, (some .boolean))
theorem mfX9_has : MF iX9_has 1 := ⟨x_tb 496 (by decide +kernel) rfl, x_tb 82 (by decide +kernel) rfl, by decide +kernel, by decide⟩
abbrev iX9_add : mI := (yX9_add, cX9_add, 2, (some .int))
theorem mfX9_add : MF iX9_add 1 := ⟨x_tb 464 (by decide +kernel) rfl, x_tb 82 (by decide +kernel) rfl, by decide +kernel, by decide⟩
abbrev iX9_leftOf : mI := (yX9_leftOf, cX9_leftOf, 2, (some .int))
theorem mfX9_leftOf : MF iX9_leftOf 1 := ⟨x_tb 500 (by decide +kernel) rfl, x_tb 82 (by decide +kernel) rfl, by decide +kernel, by decide⟩
abbrev iX9_cutsOf : mI := (yX9_cutsOf, cX9_cutsOf, 2, (some .int))
theorem mfX9_cutsOf : MF iX9_cutsOf 1 := ⟨x_tb 504 (by decide +kernel) rfl, x_tb 82 (by decide +kernel) rfl, by decide +kernel, by decide⟩
abbrev iX9_ledger : mI := (yX9_ledger, cX9_ledger, 2, (some .int))
theorem mfX9_ledger : MF iX9_ledger 1 := ⟨x_tb 508 (by decide +kernel) rfl, x_tb 82 (by decide +kernel) rfl, by decide +kernel, by decide⟩
abbrev iX9_take : mI := (yX9_take, cX9_take, 4, none)
theorem mfX9_take : MF iX9_take 3 := ⟨x_tb 978 (by decide +kernel) rfl, x_tb 82 (by decide +kernel) rfl, by decide +kernel, by decide⟩
abbrev iX9_letPass : mI := (yX9_letPass, cX9_letPass, 2, (some .int))
theorem mfX9_letPass : MF iX9_letPass 1 := ⟨x_tb 987 (by decide +kernel) rfl, x_tb 82 (by decide +kernel) rfl, by decide +kernel, by decide⟩
abbrev iX9_store : mI := (yX9_store, cX9_store, 1, none)
theorem mfX9_store : MF iX9_store 0 := ⟨x_tb 999 (by decide +kernel) rfl, x_tb 82 (by decide +kernel) rfl, by decide +kernel, by decide⟩
abbrev iX9_restore : mI := (yX9_restore, cX9_restore, 1, (some .boolean))
theorem mfX9_restore : MF iX9_restore 0 := ⟨x_tb 1008 (by decide +kernel) rfl, x_tb 82 (by decide +kernel) rfl, by decide +kernel, by decide⟩
abbrev iX10_init : mI := (yX10_init, cX10_init, 1, none)
theorem mfX10_init : MF iX10_init 0 := ⟨x_tb 99 (by decide +kernel) rfl, x_tb 75 (by decide +kernel) rfl, by decide +kernel, by decide⟩
abbrev iX10_figure : mI := (yX10_figure, cX10_figure, 2, (some .int))
theorem mfX10_figure : MF iX10_figure 1 := ⟨x_tb 371 (by decide +kernel) rfl, x_tb 75 (by decide +kernel) rfl, by decide +kernel, by decide⟩
abbrev iX10_figures : mI := (yX10_figures, cX10_figures, 4, (some .int))
theorem mfX10_figures : MF iX10_figures 3 := ⟨x_tb 434 (by decide +kernel) rfl, x_tb 75 (by decide +kernel) rfl, by decide +kernel, by decide⟩
abbrev iX10_block : mI := (yX10_block, cX10_block, 2, (some .int))
theorem mfX10_block : MF iX10_block 1 := ⟨x_tb 460 (by decide +kernel) rfl, x_tb 75 (by decide +kernel) rfl, by decide +kernel, by decide⟩
abbrev iX10_mend : mI := (yX10_mend, cX10_mend, 5, (some .int))
theorem mfX10_mend : MF iX10_mend 3 := ⟨x_tb 468 (by decide +kernel) rfl, x_tb 75 (by decide +kernel) rfl, by decide +kernel, by decide⟩
abbrev iX10_of : mI := (yX10_of, cX10_of, 3, (some .int))
theorem mfX10_of : MF iX10_of 2 := ⟨x_tb 488 (by decide +kernel) rfl, x_tb 75 (by decide +kernel) rfl, by decide +kernel, by decide⟩
abbrev iX10_feed : mI := (yX10_feed, cX10_feed, 2, (some .int))
theorem mfX10_feed : MF iX10_feed 1 := ⟨x_tb 512 (by decide +kernel) rfl, x_tb 75 (by decide +kernel) rfl, by decide +kernel, by decide⟩
abbrev iX10_law : mI := (yX10_law, cX10_law, 2, (some .int))
theorem mfX10_law : MF iX10_law 0 := ⟨x_tb 520 (by decide +kernel) rfl, x_tb 75 (by decide +kernel) rfl, by decide +kernel, by decide⟩
abbrev iX10_brings : mI := (yX10_brings, cX10_brings, 4, (some .int))
theorem mfX10_brings : MF iX10_brings 3 := ⟨x_tb 669 (by decide +kernel) rfl, x_tb 75 (by decide +kernel) rfl, by decide +kernel, by decide⟩
abbrev iX10_size : mI := (yX10_size, cX10_size, 4, (some .int))
theorem mfX10_size : MF iX10_size 2 := ⟨x_tb 709 (by decide +kernel) rfl, x_tb 75 (by decide +kernel) rfl, by decide +kernel, by decide⟩
abbrev iX10_turned : mI := (yX10_turned, cX10_turned, 3, (some .int))
theorem mfX10_turned : MF iX10_turned 2 := ⟨x_tb 715 (by decide +kernel) rfl, x_tb 75 (by decide +kernel) rfl, by decide +kernel, by decide⟩
abbrev iX10_ways : mI := (yX10_ways, cX10_ways, 6, (some .int))
theorem mfX10_ways : MF iX10_ways 2 := ⟨x_tb 719 (by decide +kernel) rfl, x_tb 75 (by decide +kernel) rfl, by decide +kernel, by decide⟩
abbrev iX10_inside : mI := (yX10_inside, cX10_inside, 2, (some .int))
theorem mfX10_inside : MF iX10_inside 1 := ⟨x_tb 738 (by decide +kernel) rfl, x_tb 75 (by decide +kernel) rfl, by decide +kernel, by decide⟩
abbrev iX10_around : mI := (yX10_around, cX10_around, 3, (some .int))
theorem mfX10_around : MF iX10_around 2 := ⟨x_tb 753 (by decide +kernel) rfl, x_tb 75 (by decide +kernel) rfl, by decide +kernel, by decide⟩
abbrev iX10_common : mI := (yX10_common, cX10_common, 4, (some .int))
theorem mfX10_common : MF iX10_common 1 := ⟨x_tb 762 (by decide +kernel) rfl, x_tb 75 (by decide +kernel) rfl, by decide +kernel, by decide⟩
abbrev iX10_longest : mI := (yX10_longest, cX10_longest, 4, (some .int))
theorem mfX10_longest : MF iX10_longest 2 := ⟨x_tb 770 (by decide +kernel) rfl, x_tb 75 (by decide +kernel) rfl, by decide +kernel, by decide⟩
abbrev iX10_richest : mI := (yX10_richest, cX10_richest, 5, (some .int))
theorem mfX10_richest : MF iX10_richest 3 := ⟨x_tb 807 (by decide +kernel) rfl, x_tb 75 (by decide +kernel) rfl, by decide +kernel, by decide⟩
abbrev iX10_with : mI := (yX10_with, cX10_with, 3, (some .int))
theorem mfX10_with : MF iX10_with 2 := ⟨x_tb 828 (by decide +kernel) rfl, x_tb 75 (by decide +kernel) rfl, by decide +kernel, by decide⟩
abbrev iX10_spare : mI := (yX10_spare, cX10_spare, 8, (some .int))
theorem mfX10_spare : MF iX10_spare 2 := ⟨x_tb 838 (by decide +kernel) rfl, x_tb 75 (by decide +kernel) rfl, by decide +kernel, by decide⟩
abbrev iX10_when : mI := (yX10_when, cX10_when, 7, (some .int))
theorem mfX10_when : MF iX10_when 2 := ⟨x_tb 848 (by decide +kernel) rfl, x_tb 75 (by decide +kernel) rfl, by decide +kernel, by decide⟩
abbrev iX10_smallest : mI := (yX10_smallest, cX10_smallest, 4, (some .int))
theorem mfX10_smallest : MF iX10_smallest 2 := ⟨x_tb 852 (by decide +kernel) rfl, x_tb 75 (by decide +kernel) rfl, by decide +kernel, by decide⟩
abbrev iX10_leave : mI := (yX10_leave, cX10_leave, 7, (some .int))
theorem mfX10_leave : MF iX10_leave 2 := ⟨x_tb 865 (by decide +kernel) rfl, x_tb 75 (by decide +kernel) rfl, by decide +kernel, by decide⟩
abbrev iX10_byTurns : mI := (yX10_byTurns, cX10_byTurns, 5, (some .int))
theorem mfX10_byTurns : MF iX10_byTurns 2 := ⟨x_tb 869 (by decide +kernel) rfl, x_tb 75 (by decide +kernel) rfl, by decide +kernel, by decide⟩
abbrev iX10_egg : mI := (yX10_egg, cX10_egg, 3, (some .int))
theorem mfX10_egg : MF iX10_egg 2 := ⟨x_tb 888 (by decide +kernel) rfl, x_tb 75 (by decide +kernel) rfl, by decide +kernel, by decide⟩
abbrev iX10_judge : mI := (yX10_judge, cX10_judge, 4, (some .int))
theorem mfX10_judge : MF iX10_judge 2 := ⟨x_tb 897 (by decide +kernel) rfl, x_tb 75 (by decide +kernel) rfl, by decide +kernel, by decide⟩
abbrev iX10_filled : mI := (yX10_filled, cX10_filled, 6, (some .int))
theorem mfX10_filled : MF iX10_filled 3 := ⟨x_tb 925 (by decide +kernel) rfl, x_tb 75 (by decide +kernel) rfl, by decide +kernel, by decide⟩
abbrev iX10_last : mI := (yX10_last, cX10_last, 4, (some .int))
theorem mfX10_last : MF iX10_last 2 := ⟨x_tb 948 (by decide +kernel) rfl, x_tb 75 (by decide +kernel) rfl, by decide +kernel, by decide⟩
abbrev iX10_drawn : mI := (yX10_drawn, cX10_drawn, 5, (some .int))
theorem mfX10_drawn : MF iX10_drawn 4 := ⟨x_tb 956 (by decide +kernel) rfl, x_tb 75 (by decide +kernel) rfl, by decide +kernel, by decide⟩
abbrev iX10_cut : mI := (yX10_cut, cX10_cut, 7, (some .int))
theorem mfX10_cut : MF iX10_cut 1 := ⟨x_tb 970 (by decide +kernel) rfl, x_tb 75 (by decide +kernel) rfl, by decide +kernel, by decide⟩
abbrev iX10_pass : mI := (yX10_pass, cX10_pass, 2, (some .int))
theorem mfX10_pass : MF iX10_pass 1 := ⟨x_tb 983 (by decide +kernel) rfl, x_tb 75 (by decide +kernel) rfl, by decide +kernel, by decide⟩
abbrev iX10_led : mI := (yX10_led, cX10_led, 2, (some .int))
theorem mfX10_led : MF iX10_led 1 := ⟨x_tb 991 (by decide +kernel) rfl, x_tb 75 (by decide +kernel) rfl, by decide +kernel, by decide⟩
abbrev iX10_image : mI := (yX10_image, cX10_image, 1, (some .int))
theorem mfX10_image : MF iX10_image 0 := ⟨x_tb 995 (by decide +kernel) rfl, x_tb 75 (by decide +kernel) rfl, by decide +kernel, by decide⟩
abbrev iX10_back : mI := (yX10_back, cX10_back, 1, (some .int))
theorem mfX10_back : MF iX10_back 0 := ⟨x_tb 1004 (by decide +kernel) rfl, x_tb 75 (by decide +kernel) rfl, by decide +kernel, by decide⟩
abbrev iX10_undo : mI := (yX10_undo, cX10_undo, 1, (some .int))
theorem mfX10_undo : MF iX10_undo 0 := ⟨x_tb 1012 (by decide +kernel) rfl, x_tb 75 (by decide +kernel) rfl, by decide +kernel, by decide⟩
abbrev iX10_redo : mI := (yX10_redo, cX10_redo, 1, (some .int))
theorem mfX10_redo : MF iX10_redo 0 := ⟨x_tb 1021 (by decide +kernel) rfl, x_tb 75 (by decide +kernel) rfl, by decide +kernel, by decide⟩
abbrev iX10_body : mI := (yX10_body, cX10_body, 2, (some .int))
theorem mfX10_body : MF iX10_body 1 := ⟨x_tb 1029 (by decide +kernel) rfl, x_tb 75 (by decide +kernel) rfl, by decide +kernel, by decide⟩
abbrev iX10_act : mI := (yX10_act, cX10_act, 4, (some .int))
theorem mfX10_act : MF iX10_act 3 := ⟨x_tb 1037 (by decide +kernel) rfl, x_tb 75 (by decide +kernel) rfl, by decide +kernel, by decide⟩
abbrev iX10_trace : mI := (yX10_trace, cX10_trace, 2, (some .int))
theorem mfX10_trace : MF iX10_trace 1 := ⟨x_tb 1065 (by decide +kernel) rfl, x_tb 75 (by decide +kernel) rfl, by decide +kernel, by decide⟩
abbrev iX10_keep : mI := (yX10_keep, cX10_keep, 3, (some .int))
theorem mfX10_keep : MF iX10_keep 2 := ⟨x_tb 1074 (by decide +kernel) rfl, x_tb 75 (by decide +kernel) rfl, by decide +kernel, by decide⟩
abbrev iX10_row : mI := (yX10_row, cX10_row, 4, (some .int))
theorem mfX10_row : MF iX10_row 3 := ⟨x_tb 1083 (by decide +kernel) rfl, x_tb 75 (by decide +kernel) rfl, by decide +kernel, by decide⟩
abbrev iX10_put : mI := (yX10_put, cX10_put, 6, (some .int))
theorem mfX10_put : MF iX10_put 3 := ⟨x_tb 1091 (by decide +kernel) rfl, x_tb 75 (by decide +kernel) rfl, by decide +kernel, by decide⟩
abbrev iX10_element : mI := (yX10_element, cX10_element, 3, (some .long))
theorem mfX10_element : MF iX10_element 2 := ⟨x_tb 1110 (by decide +kernel) rfl, x_tb 75 (by decide +kernel) rfl, by decide +kernel, by decide⟩
end
section
abbrev iX10_shift : mI := (yX10_shift, cX10_shift, 6, (some .int))
theorem mfX10_shift : MF iX10_shift 5 := ⟨x_tb 1115 (by decide +kernel) rfl, x_tb 75 (by decide +kernel) rfl, by decide +kernel, by decide⟩
abbrev iX10_taken : mI := (yX10_taken, cX10_taken, 4, (some .int))
theorem mfX10_taken : MF iX10_taken 2 := ⟨x_tb 1124 (by decide +kernel) rfl, x_tb 75 (by decide +kernel) rfl, by decide +kernel, by decide⟩
abbrev iX10_count : mI := (yX10_count, cX10_count, 2, (some .int))
theorem mfX10_count : MF iX10_count 1 := ⟨x_tb 1136 (by decide +kernel) rfl, x_tb 75 (by decide +kernel) rfl, by decide +kernel, by decide⟩
abbrev iX10_isShape : mI := (yX10_isShape, cX10_isShape, 1, (some .boolean))
theorem mfX10_isShape : MF iX10_isShape 1 := ⟨x_tb 374 (by decide +kernel) rfl, x_tb 75 (by decide +kernel) rfl, by decide +kernel, by decide⟩
abbrev iX10_isYear : mI := (yX10_isYear, cX10_isYear, 1, (some .boolean))
theorem mfX10_isYear : MF iX10_isYear 1 := ⟨x_tb 672 (by decide +kernel) rfl, x_tb 75 (by decide +kernel) rfl, by decide +kernel, by decide⟩
abbrev iX10_holds : mI := (yX10_holds, cX10_holds, 2, (some .boolean))
theorem mfX10_holds : MF iX10_holds 2 := ⟨x_tb 749 (by decide +kernel) rfl, x_tb 75 (by decide +kernel) rfl, by decide +kernel, by decide⟩
abbrev iX10_isBlockAndFigure : mI := (yX10_isBlockAndFigure, cX10_isBlockAndFigure, 2, (some .boolean))
theorem mfX10_isBlockAndFigure : MF iX10_isBlockAndFigure 1 := ⟨x_tb 723 (by decide +kernel) rfl, x_tb 75 (by decide +kernel) rfl, by decide +kernel, by decide⟩
abbrev iX10_isTwoFigures : mI := (yX10_isTwoFigures, cX10_isTwoFigures, 2, (some .boolean))
theorem mfX10_isTwoFigures : MF iX10_isTwoFigures 1 := ⟨x_tb 742 (by decide +kernel) rfl, x_tb 75 (by decide +kernel) rfl, by decide +kernel, by decide⟩
abbrev iX10_firstOutOf : mI := (yX10_firstOutOf, cX10_firstOutOf, 2, (some .int))
theorem mfX10_firstOutOf : MF iX10_firstOutOf 1 := ⟨x_tb 774 (by decide +kernel) rfl, x_tb 75 (by decide +kernel) rfl, by decide +kernel, by decide⟩
abbrev iX10_partOf : mI := (yX10_partOf, cX10_partOf, 4, (some .int))
theorem mfX10_partOf : MF iX10_partOf 1 := ⟨x_tb 892 (by decide +kernel) rfl, x_tb 75 (by decide +kernel) rfl, by decide +kernel, by decide⟩
abbrev iX10_figuresCome : mI := (yX10_figuresCome, cX10_figuresCome, 8, (some .int))
theorem mfX10_figuresCome : MF iX10_figuresCome 3 := ⟨x_tb 446 (by decide +kernel) rfl, x_tb 75 (by decide +kernel) rfl, by decide +kernel, by decide⟩
abbrev iX10_refusalOfTold : mI := (yX10_refusalOfTold, cX10_refusalOfTold, 3, (some .int))
theorem mfX10_refusalOfTold : MF iX10_refusalOfTold 2 := ⟨x_tb 901 (by decide +kernel) rfl, x_tb 75 (by decide +kernel) rfl, by decide +kernel, by decide⟩
abbrev iX10_refusalOfElement : mI := (yX10_refusalOfElement, cX10_refusalOfElement, 3, (some .int))
theorem mfX10_refusalOfElement : MF iX10_refusalOfElement 2 := ⟨x_tb 1095 (by decide +kernel) rfl, x_tb 75 (by decide +kernel) rfl, by decide +kernel, by decide⟩
abbrev iX11_init : mI := (yX11_init, cX11_init, 2, none)
theorem mfX11_init : MF iX11_init 0 := ⟨x_tb 1161 (by decide +kernel) rfl, x_tb 86 (by decide +kernel) rfl, by decide +kernel, by decide⟩
abbrev iX11_within : mI := (yX11_within, cX11_within, 3, (some .boolean))
theorem mfX11_within : MF iX11_within 3 := ⟨x_tb 1324 (by decide +kernel) rfl, x_tb 86 (by decide +kernel) rfl, by decide +kernel, by decide⟩
abbrev iX11_isFigure : mI := (yX11_isFigure, cX11_isFigure, 2, (some .boolean))
theorem mfX11_isFigure : MF iX11_isFigure 1 := ⟨x_tb 1348 (by decide +kernel) rfl, x_tb 86 (by decide +kernel) rfl, by decide +kernel, by decide⟩
abbrev iX11_isBlock : mI := (yX11_isBlock, cX11_isBlock, 2, (some .boolean))
theorem mfX11_isBlock : MF iX11_isBlock 1 := ⟨x_tb 1364 (by decide +kernel) rfl, x_tb 86 (by decide +kernel) rfl, by decide +kernel, by decide⟩
abbrev iX11_isIn : mI := (yX11_isIn, cX11_isIn, 2, (some .boolean))
theorem mfX11_isIn : MF iX11_isIn 1 := ⟨x_tb 1481 (by decide +kernel) rfl, x_tb 86 (by decide +kernel) rfl, by decide +kernel, by decide⟩
abbrev iX11_areTwo : mI := (yX11_areTwo, cX11_areTwo, 2, (some .boolean))
theorem mfX11_areTwo : MF iX11_areTwo 1 := ⟨x_tb 1498 (by decide +kernel) rfl, x_tb 86 (by decide +kernel) rfl, by decide +kernel, by decide⟩
abbrev iX11_isShape : mI := (yX11_isShape, cX11_isShape, 1, (some .boolean))
theorem mfX11_isShape : MF iX11_isShape 1 := ⟨x_tb 1320 (by decide +kernel) rfl, x_tb 86 (by decide +kernel) rfl, by decide +kernel, by decide⟩
abbrev iX11_isYear : mI := (yX11_isYear, cX11_isYear, 1, (some .boolean))
theorem mfX11_isYear : MF iX11_isYear 1 := ⟨x_tb 1434 (by decide +kernel) rfl, x_tb 86 (by decide +kernel) rfl, by decide +kernel, by decide⟩
abbrev iX11_isShelf : mI := (yX11_isShelf, cX11_isShelf, 1, (some .boolean))
theorem mfX11_isShelf : MF iX11_isShelf 1 := ⟨x_tb 1335 (by decide +kernel) rfl, x_tb 86 (by decide +kernel) rfl, by decide +kernel, by decide⟩
abbrev iX11_has : mI := (yX11_has, cX11_has, 2, (some .boolean))
theorem mfX11_has : MF iX11_has 2 := ⟨x_tb 1473 (by decide +kernel) rfl, x_tb 86 (by decide +kernel) rfl, by decide +kernel, by decide⟩
abbrev iX11_cells : mI := (yX11_cells, cX11_cells, 1, (some .int))
theorem mfX11_cells : MF iX11_cells 1 := ⟨x_tb 1442 (by decide +kernel) rfl, x_tb 86 (by decide +kernel) rfl, by decide +kernel, by decide⟩
abbrev iX11_pushed : mI := (yX11_pushed, cX11_pushed, 2, (some .int))
theorem mfX11_pushed : MF iX11_pushed 1 := ⟨x_tb 1459 (by decide +kernel) rfl, x_tb 86 (by decide +kernel) rfl, by decide +kernel, by decide⟩
abbrev iX11_turnedOnce : mI := (yX11_turnedOnce, cX11_turnedOnce, 4, (some .int))
theorem mfX11_turnedOnce : MF iX11_turnedOnce 1 := ⟨x_tb 1470 (by decide +kernel) rfl, x_tb 86 (by decide +kernel) rfl, by decide +kernel, by decide⟩
abbrev iX11_turnedBy : mI := (yX11_turnedBy, cX11_turnedBy, 4, (some .int))
theorem mfX11_turnedBy : MF iX11_turnedBy 2 := ⟨x_tb 1467 (by decide +kernel) rfl, x_tb 86 (by decide +kernel) rfl, by decide +kernel, by decide⟩
abbrev iX11_moved : mI := (yX11_moved, cX11_moved, 6, (some .int))
theorem mfX11_moved : MF iX11_moved 3 := ⟨x_tb 1487 (by decide +kernel) rfl, x_tb 86 (by decide +kernel) rfl, by decide +kernel, by decide⟩
abbrev iX11_placed : mI := (yX11_placed, cX11_placed, 2, (some .int))
theorem mfX11_placed : MF iX11_placed 2 := ⟨x_tb 1572 (by decide +kernel) rfl, x_tb 86 (by decide +kernel) rfl, by decide +kernel, by decide⟩
abbrev iX11_isWay : mI := (yX11_isWay, cX11_isWay, 1, (some .boolean))
theorem mfX11_isWay : MF iX11_isWay 1 := ⟨x_tb 1569 (by decide +kernel) rfl, x_tb 86 (by decide +kernel) rfl, by decide +kernel, by decide⟩
abbrev iX11_waysIn : mI := (yX11_waysIn, cX11_waysIn, 9, (some .int))
theorem mfX11_waysIn : MF iX11_waysIn 3 := ⟨x_tb 1484 (by decide +kernel) rfl, x_tb 86 (by decide +kernel) rfl, by decide +kernel, by decide⟩
abbrev iX11_isCutOf : mI := (yX11_isCutOf, cX11_isCutOf, 2, (some .boolean))
theorem mfX11_isCutOf : MF iX11_isCutOf 2 := ⟨x_tb 1490 (by decide +kernel) rfl, x_tb 86 (by decide +kernel) rfl, by decide +kernel, by decide⟩
abbrev iX11_cutOf : mI := (yX11_cutOf, cX11_cutOf, 4, (some .int))
theorem mfX11_cutOf : MF iX11_cutOf 1 := ⟨x_tb 1506 (by decide +kernel) rfl, x_tb 86 (by decide +kernel) rfl, by decide +kernel, by decide⟩
abbrev iX11_looks : mI := (yX11_looks, cX11_looks, 3, none)
theorem mfX11_looks : MF iX11_looks 1 := ⟨x_tb 1518 (by decide +kernel) rfl, x_tb 86 (by decide +kernel) rfl, by decide +kernel, by decide⟩
abbrev iX11_newFigure : mI := (yX11_newFigure, cX11_newFigure, 3, (some .int))
theorem mfX11_newFigure : MF iX11_newFigure 2 := ⟨x_tb 1328 (by decide +kernel) rfl, x_tb 86 (by decide +kernel) rfl, by decide +kernel, by decide⟩
abbrev iX11_figure : mI := (yX11_figure, cX11_figure, 2, (some .int))
theorem mfX11_figure : MF iX11_figure 1 := ⟨x_tb 1317 (by decide +kernel) rfl, x_tb 86 (by decide +kernel) rfl, by decide +kernel, by decide⟩
abbrev iX11_figures : mI := (yX11_figures, cX11_figures, 9, (some .int))
theorem mfX11_figures : MF iX11_figures 3 := ⟨x_tb 1332 (by decide +kernel) rfl, x_tb 86 (by decide +kernel) rfl, by decide +kernel, by decide⟩
abbrev iX11_block : mI := (yX11_block, cX11_block, 2, (some .int))
theorem mfX11_block : MF iX11_block 1 := ⟨x_tb 1340 (by decide +kernel) rfl, x_tb 86 (by decide +kernel) rfl, by decide +kernel, by decide⟩
abbrev iX11_get : mI := (yX11_get, cX11_get, 3, (some .int))
theorem mfX11_get : MF iX11_get 2 := ⟨x_tb 1352 (by decide +kernel) rfl, x_tb 86 (by decide +kernel) rfl, by decide +kernel, by decide⟩
abbrev iX11_becomes : mI := (yX11_becomes, cX11_becomes, 4, none)
theorem mfX11_becomes : MF iX11_becomes 3 := ⟨x_tb 1356 (by decide +kernel) rfl, x_tb 86 (by decide +kernel) rfl, by decide +kernel, by decide⟩
abbrev iX11_mend : mI := (yX11_mend, cX11_mend, 6, (some .int))
theorem mfX11_mend : MF iX11_mend 3 := ⟨x_tb 1344 (by decide +kernel) rfl, x_tb 86 (by decide +kernel) rfl, by decide +kernel, by decide⟩
abbrev iX11_of : mI := (yX11_of, cX11_of, 3, (some .int))
theorem mfX11_of : MF iX11_of 2 := ⟨x_tb 1360 (by decide +kernel) rfl, x_tb 86 (by decide +kernel) rfl, by decide +kernel, by decide⟩
abbrev iX11_undo : mI := (yX11_undo, cX11_undo, 1, (some .int))
theorem mfX11_undo : MF iX11_undo 0 := ⟨x_tb 1368 (by decide +kernel) rfl, x_tb 86 (by decide +kernel) rfl, by decide +kernel, by decide⟩
abbrev iX11_redo : mI := (yX11_redo, cX11_redo, 1, (some .int))
theorem mfX11_redo : MF iX11_redo 0 := ⟨x_tb 1372 (by decide +kernel) rfl, x_tb 86 (by decide +kernel) rfl, by decide +kernel, by decide⟩
abbrev iX11_feed : mI := (yX11_feed, cX11_feed, 2, (some .int))
theorem mfX11_feed : MF iX11_feed 1 := ⟨x_tb 1376 (by decide +kernel) rfl, x_tb 86 (by decide +kernel) rfl, by decide +kernel, by decide⟩
abbrev iX11_sign : mI := (yX11_sign, cX11_sign, 1, (some .int))
theorem mfX11_sign : MF iX11_sign 0 := ⟨x_tb 1416 (by decide +kernel) rfl, x_tb 86 (by decide +kernel) rfl, by decide +kernel, by decide⟩
abbrev iX11_is : mI := (yX11_is, cX11_is, 2, (some .boolean))
theorem mfX11_is : MF iX11_is 1 := ⟨x_tb 1427 (by decide +kernel) rfl, x_tb 86 (by decide +kernel) rfl, by decide +kernel, by decide⟩
abbrev iX11_codes : mI := (yX11_codes, cX11_codes, 2, (some .boolean))
theorem mfX11_codes : MF iX11_codes 1 := ⟨x_tb 1420 (by decide +kernel) rfl, x_tb 86 (by decide +kernel) rfl, by decide +kernel, by decide⟩
abbrev iX11_isDigit : mI := (yX11_isDigit, cX11_isDigit, 1, (some .boolean))
theorem mfX11_isDigit : MF iX11_isDigit 0 := ⟨x_tb 1412 (by decide +kernel) rfl, x_tb 86 (by decide +kernel) rfl, by decide +kernel, by decide⟩
abbrev iX11_nameOf : mI := (yX11_nameOf, cX11_nameOf, 1, (some .int))
theorem mfX11_nameOf : MF iX11_nameOf 1 := ⟨x_tb 1423 (by decide +kernel) rfl, x_tb 86 (by decide +kernel) rfl, by decide +kernel, by decide⟩
abbrev iX11_isO : mI := (yX11_isO, cX11_isO, 3, (some .boolean))
theorem mfX11_isO : MF iX11_isO 0 := ⟨x_tb 1408 (by decide +kernel) rfl, x_tb 86 (by decide +kernel) rfl, by decide +kernel, by decide⟩
abbrev iX11_isP : mI := (yX11_isP, cX11_isP, 2, (some .boolean))
theorem mfX11_isP : MF iX11_isP 0 := ⟨x_tb 1404 (by decide +kernel) rfl, x_tb 86 (by decide +kernel) rfl, by decide +kernel, by decide⟩
abbrev iX11_isS : mI := (yX11_isS, cX11_isS, 2, (some .boolean))
theorem mfX11_isS : MF iX11_isS 0 := ⟨x_tb 1400 (by decide +kernel) rfl, x_tb 86 (by decide +kernel) rfl, by decide +kernel, by decide⟩
abbrev iX11_isB : mI := (yX11_isB, cX11_isB, 2, (some .boolean))
theorem mfX11_isB : MF iX11_isB 0 := ⟨x_tb 1396 (by decide +kernel) rfl, x_tb 86 (by decide +kernel) rfl, by decide +kernel, by decide⟩
abbrev iX11_isA : mI := (yX11_isA, cX11_isA, 1, (some .boolean))
theorem mfX11_isA : MF iX11_isA 0 := ⟨x_tb 1392 (by decide +kernel) rfl, x_tb 86 (by decide +kernel) rfl, by decide +kernel, by decide⟩
abbrev iX11_isE : mI := (yX11_isE, cX11_isE, 1, (some .boolean))
theorem mfX11_isE : MF iX11_isE 0 := ⟨x_tb 1388 (by decide +kernel) rfl, x_tb 86 (by decide +kernel) rfl, by decide +kernel, by decide⟩
abbrev iX11_isLine : mI := (yX11_isLine, cX11_isLine, 1, (some .boolean))
theorem mfX11_isLine : MF iX11_isLine 0 := ⟨x_tb 1384 (by decide +kernel) rfl, x_tb 86 (by decide +kernel) rfl, by decide +kernel, by decide⟩
abbrev iX11_law : mI := (yX11_law, cX11_law, 4, (some .int))
theorem mfX11_law : MF iX11_law 0 := ⟨x_tb 1380 (by decide +kernel) rfl, x_tb 86 (by decide +kernel) rfl, by decide +kernel, by decide⟩
abbrev iX11_both : mI := (yX11_both, cX11_both, 3, (some .int))
theorem mfX11_both : MF iX11_both 3 := ⟨x_tb 1451 (by decide +kernel) rfl, x_tb 86 (by decide +kernel) rfl, by decide +kernel, by decide⟩
abbrev iX11_worked : mI := (yX11_worked, cX11_worked, 6, (some .int))
theorem mfX11_worked : MF iX11_worked 2 := ⟨x_tb 1448 (by decide +kernel) rfl, x_tb 86 (by decide +kernel) rfl, by decide +kernel, by decide⟩
abbrev iX11_bringsIn : mI := (yX11_bringsIn, cX11_bringsIn, 5, (some .int))
theorem mfX11_bringsIn : MF iX11_bringsIn 3 := ⟨x_tb 1438 (by decide +kernel) rfl, x_tb 86 (by decide +kernel) rfl, by decide +kernel, by decide⟩
abbrev iX11_brings : mI := (yX11_brings, cX11_brings, 4, (some .int))
theorem mfX11_brings : MF iX11_brings 3 := ⟨x_tb 1431 (by decide +kernel) rfl, x_tb 86 (by decide +kernel) rfl, by decide +kernel, by decide⟩
abbrev iX11_size : mI := (yX11_size, cX11_size, 6, (some .int))
theorem mfX11_size : MF iX11_size 2 := ⟨x_tb 1456 (by decide +kernel) rfl, x_tb 86 (by decide +kernel) rfl, by decide +kernel, by decide⟩
abbrev iX11_turned : mI := (yX11_turned, cX11_turned, 3, (some .int))
theorem mfX11_turned : MF iX11_turned 2 := ⟨x_tb 1464 (by decide +kernel) rfl, x_tb 86 (by decide +kernel) rfl, by decide +kernel, by decide⟩
abbrev iX11_ways : mI := (yX11_ways, cX11_ways, 5, (some .int))
theorem mfX11_ways : MF iX11_ways 2 := ⟨x_tb 1477 (by decide +kernel) rfl, x_tb 86 (by decide +kernel) rfl, by decide +kernel, by decide⟩
abbrev iX11_inside : mI := (yX11_inside, cX11_inside, 2, (some .int))
theorem mfX11_inside : MF iX11_inside 1 := ⟨x_tb 1494 (by decide +kernel) rfl, x_tb 86 (by decide +kernel) rfl, by decide +kernel, by decide⟩
abbrev iX11_around : mI := (yX11_around, cX11_around, 5, (some .int))
theorem mfX11_around : MF iX11_around 2 := ⟨x_tb 1502 (by decide +kernel) rfl, x_tb 86 (by decide +kernel) rfl, by decide +kernel, by decide⟩
abbrev iX11_common : mI := (yX11_common, cX11_common, 4, (some .int))
theorem mfX11_common : MF iX11_common 1 := ⟨x_tb 1510 (by decide +kernel) rfl, x_tb 86 (by decide +kernel) rfl, by decide +kernel, by decide⟩
abbrev iX11_longestOf : mI := (yX11_longestOf, cX11_longestOf, 4, (some .int))
theorem mfX11_longestOf : MF iX11_longestOf 1 := ⟨x_tb 1522 (by decide +kernel) rfl, x_tb 86 (by decide +kernel) rfl, by decide +kernel, by decide⟩
abbrev iX11_mostOf : mI := (yX11_mostOf, cX11_mostOf, 5, (some .int))
theorem mfX11_mostOf : MF iX11_mostOf 2 := ⟨x_tb 1526 (by decide +kernel) rfl, x_tb 86 (by decide +kernel) rfl, by decide +kernel, by decide⟩
abbrev iX11_longest : mI := (yX11_longest, cX11_longest, 6, (some .int))
theorem mfX11_longest : MF iX11_longest 2 := ⟨x_tb 1514 (by decide +kernel) rfl, x_tb 86 (by decide +kernel) rfl, by decide +kernel, by decide⟩
abbrev iX11_firstOf : mI := (yX11_firstOf, cX11_firstOf, 4, (some .int))
theorem mfX11_firstOf : MF iX11_firstOf 2 := ⟨x_tb 1530 (by decide +kernel) rfl, x_tb 86 (by decide +kernel) rfl, by decide +kernel, by decide⟩
abbrev iX11_rich : mI := (yX11_rich, cX11_rich, 9, none)
theorem mfX11_rich : MF iX11_rich 3 := ⟨x_tb 1538 (by decide +kernel) rfl, x_tb 86 (by decide +kernel) rfl, by decide +kernel, by decide⟩
abbrev iX11_richest : mI := (yX11_richest, cX11_richest, 8, (some .int))
theorem mfX11_richest : MF iX11_richest 3 := ⟨x_tb 1534 (by decide +kernel) rfl, x_tb 86 (by decide +kernel) rfl, by decide +kernel, by decide⟩
abbrev iX11_nextRich : mI := (yX11_nextRich, cX11_nextRich, 6, (some .int))
theorem mfX11_nextRich : MF iX11_nextRich 3 := ⟨x_tb 1542 (by decide +kernel) rfl, x_tb 86 (by decide +kernel) rfl, by decide +kernel, by decide⟩
abbrev iX11_between : mI := (yX11_between, cX11_between, 5, (some .int))
theorem mfX11_between : MF iX11_between 2 := ⟨x_tb 1554 (by decide +kernel) rfl, x_tb 86 (by decide +kernel) rfl, by decide +kernel, by decide⟩
abbrev iX11_through : mI := (yX11_through, cX11_through, 5, (some .int))
theorem mfX11_through : MF iX11_through 2 := ⟨x_tb 1550 (by decide +kernel) rfl, x_tb 86 (by decide +kernel) rfl, by decide +kernel, by decide⟩
abbrev iX11_with : mI := (yX11_with, cX11_with, 3, (some .int))
theorem mfX11_with : MF iX11_with 2 := ⟨x_tb 1546 (by decide +kernel) rfl, x_tb 86 (by decide +kernel) rfl, by decide +kernel, by decide⟩
abbrev iX11_spare : mI := (yX11_spare, cX11_spare, 7, (some .int))
theorem mfX11_spare : MF iX11_spare 2 := ⟨x_tb 1558 (by decide +kernel) rfl, x_tb 86 (by decide +kernel) rfl, by decide +kernel, by decide⟩
abbrev iX11_when : mI := (yX11_when, cX11_when, 5, (some .int))
theorem mfX11_when : MF iX11_when 2 := ⟨x_tb 1562 (by decide +kernel) rfl, x_tb 86 (by decide +kernel) rfl, by decide +kernel, by decide⟩
abbrev iX11_smallest : mI := (yX11_smallest, cX11_smallest, 8, (some .int))
theorem mfX11_smallest : MF iX11_smallest 2 := ⟨x_tb 1566 (by decide +kernel) rfl, x_tb 86 (by decide +kernel) rfl, by decide +kernel, by decide⟩
abbrev iX11_leave : mI := (yX11_leave, cX11_leave, 5, (some .int))
theorem mfX11_leave : MF iX11_leave 2 := ⟨x_tb 1576 (by decide +kernel) rfl, x_tb 86 (by decide +kernel) rfl, by decide +kernel, by decide⟩
abbrev iX11_plays : mI := (yX11_plays, cX11_plays, 4, none)
theorem mfX11_plays : MF iX11_plays 1 := ⟨x_tb 1584 (by decide +kernel) rfl, x_tb 86 (by decide +kernel) rfl, by decide +kernel, by decide⟩
abbrev iX11_byTurns : mI := (yX11_byTurns, cX11_byTurns, 5, (some .int))
theorem mfX11_byTurns : MF iX11_byTurns 2 := ⟨x_tb 1580 (by decide +kernel) rfl, x_tb 86 (by decide +kernel) rfl, by decide +kernel, by decide⟩
abbrev iX11_egg : mI := (yX11_egg, cX11_egg, 5, (some .int))
theorem mfX11_egg : MF iX11_egg 2 := ⟨x_tb 1588 (by decide +kernel) rfl, x_tb 86 (by decide +kernel) rfl, by decide +kernel, by decide⟩
abbrev iX11_noRow : mI := (yX11_noRow, cX11_noRow, 2, (some .int))
theorem mfX11_noRow : MF iX11_noRow 1 := ⟨x_tb 1596 (by decide +kernel) rfl, x_tb 86 (by decide +kernel) rfl, by decide +kernel, by decide⟩
abbrev iX11_toldAt : mI := (yX11_toldAt, cX11_toldAt, 3, (some .int))
theorem mfX11_toldAt : MF iX11_toldAt 2 := ⟨x_tb 1608 (by decide +kernel) rfl, x_tb 86 (by decide +kernel) rfl, by decide +kernel, by decide⟩
abbrev iX11_asTold : mI := (yX11_asTold, cX11_asTold, 5, (some .int))
theorem mfX11_asTold : MF iX11_asTold 3 := ⟨x_tb 1604 (by decide +kernel) rfl, x_tb 86 (by decide +kernel) rfl, by decide +kernel, by decide⟩
abbrev iX11_nextOf : mI := (yX11_nextOf, cX11_nextOf, 4, (some .int))
theorem mfX11_nextOf : MF iX11_nextOf 1 := ⟨x_tb 1612 (by decide +kernel) rfl, x_tb 86 (by decide +kernel) rfl, by decide +kernel, by decide⟩
abbrev iX11_canBe : mI := (yX11_canBe, cX11_canBe, 5, (some .int))
theorem mfX11_canBe : MF iX11_canBe 2 := ⟨x_tb 1600 (by decide +kernel) rfl, x_tb 86 (by decide +kernel) rfl, by decide +kernel, by decide⟩
abbrev iX11_judge : mI := (yX11_judge, cX11_judge, 5, (some .int))
theorem mfX11_judge : MF iX11_judge 2 := ⟨x_tb 1592 (by decide +kernel) rfl, x_tb 86 (by decide +kernel) rfl, by decide +kernel, by decide⟩
abbrev iX11_waysOn : mI := (yX11_waysOn, cX11_waysOn, 7, (some .int))
theorem mfX11_waysOn : MF iX11_waysOn 3 := ⟨x_tb 1620 (by decide +kernel) rfl, x_tb 86 (by decide +kernel) rfl, by decide +kernel, by decide⟩
abbrev iX11_firstUnknown : mI := (yX11_firstUnknown, cX11_firstUnknown, 6, (some .int))
theorem mfX11_firstUnknown : MF iX11_firstUnknown 1 := ⟨x_tb 1624 (by decide +kernel) rfl, x_tb 86 (by decide +kernel) rfl, by decide +kernel, by decide⟩
abbrev iX11_filled : mI := (yX11_filled, cX11_filled, 6, (some .int))
theorem mfX11_filled : MF iX11_filled 3 := ⟨x_tb 1616 (by decide +kernel) rfl, x_tb 86 (by decide +kernel) rfl, by decide +kernel, by decide⟩
abbrev iX11_last : mI := (yX11_last, cX11_last, 4, (some .int))
theorem mfX11_last : MF iX11_last 2 := ⟨x_tb 1628 (by decide +kernel) rfl, x_tb 86 (by decide +kernel) rfl, by decide +kernel, by decide⟩
abbrev iX11_drawn : mI := (yX11_drawn, cX11_drawn, 10, (some .int))
theorem mfX11_drawn : MF iX11_drawn 4 := ⟨x_tb 1632 (by decide +kernel) rfl, x_tb 86 (by decide +kernel) rfl, by decide +kernel, by decide⟩
abbrev iX11_pick : mI := (yX11_pick, cX11_pick, 4, (some .int))
theorem mfX11_pick : MF iX11_pick 2 := ⟨x_tb 1636 (by decide +kernel) rfl, x_tb 86 (by decide +kernel) rfl, by decide +kernel, by decide⟩
abbrev iX11_cut : mI := (yX11_cut, cX11_cut, 5, (some .int))
theorem mfX11_cut : MF iX11_cut 1 := ⟨x_tb 1640 (by decide +kernel) rfl, x_tb 86 (by decide +kernel) rfl, by decide +kernel, by decide⟩
abbrev iX11_pass : mI := (yX11_pass, cX11_pass, 2, (some .int))
theorem mfX11_pass : MF iX11_pass 1 := ⟨x_tb 1644 (by decide +kernel) rfl, x_tb 86 (by decide +kernel) rfl, by decide +kernel, by decide⟩
abbrev iX11_led : mI := (yX11_led, cX11_led, 2, (some .int))
theorem mfX11_led : MF iX11_led 1 := ⟨x_tb 1648 (by decide +kernel) rfl, x_tb 86 (by decide +kernel) rfl, by decide +kernel, by decide⟩
abbrev iX11_image : mI := (yX11_image, cX11_image, 2, (some .int))
theorem mfX11_image : MF iX11_image 0 := ⟨x_tb 1652 (by decide +kernel) rfl, x_tb 86 (by decide +kernel) rfl, by decide +kernel, by decide⟩
abbrev iX11_back : mI := (yX11_back, cX11_back, 2, (some .int))
theorem mfX11_back : MF iX11_back 0 := ⟨x_tb 1656 (by decide +kernel) rfl, x_tb 86 (by decide +kernel) rfl, by decide +kernel, by decide⟩
abbrev iX11_above : mI := (yX11_above, cX11_above, 1, (some .int))
theorem mfX11_above : MF iX11_above 1 := ⟨x_tb 1675 (by decide +kernel) rfl, x_tb 86 (by decide +kernel) rfl, by decide +kernel, by decide⟩
abbrev iX11_ran : mI := (yX11_ran, cX11_ran, 2, none)
theorem mfX11_ran : MF iX11_ran 1 := ⟨x_tb 1672 (by decide +kernel) rfl, x_tb 86 (by decide +kernel) rfl, by decide +kernel, by decide⟩
abbrev iX11_cutsBy : mI := (yX11_cutsBy, cX11_cutsBy, 4, (some .int))
theorem mfX11_cutsBy : MF iX11_cutsBy 3 := ⟨x_tb 1668 (by decide +kernel) rfl, x_tb 86 (by decide +kernel) rfl, by decide +kernel, by decide⟩
abbrev iX11_holdsBy : mI := (yX11_holdsBy, cX11_holdsBy, 5, (some .int))
theorem mfX11_holdsBy : MF iX11_holdsBy 3 := ⟨x_tb 1679 (by decide +kernel) rfl, x_tb 86 (by decide +kernel) rfl, by decide +kernel, by decide⟩
abbrev iX11_leavesBy : mI := (yX11_leavesBy, cX11_leavesBy, 5, (some .int))
theorem mfX11_leavesBy : MF iX11_leavesBy 3 := ⟨x_tb 1683 (by decide +kernel) rfl, x_tb 86 (by decide +kernel) rfl, by decide +kernel, by decide⟩
abbrev iX11_tells : mI := (yX11_tells, cX11_tells, 5, (some .int))
theorem mfX11_tells : MF iX11_tells 3 := ⟨x_tb 1687 (by decide +kernel) rfl, x_tb 86 (by decide +kernel) rfl, by decide +kernel, by decide⟩
abbrev iX11_body : mI := (yX11_body, cX11_body, 2, (some .int))
theorem mfX11_body : MF iX11_body 1 := ⟨x_tb 1660 (by decide +kernel) rfl, x_tb 86 (by decide +kernel) rfl, by decide +kernel, by decide⟩
abbrev iX11_act : mI := (yX11_act, cX11_act, 5, (some .int))
theorem mfX11_act : MF iX11_act 3 := ⟨x_tb 1664 (by decide +kernel) rfl, x_tb 86 (by decide +kernel) rfl, by decide +kernel, by decide⟩
abbrev iX11_trace : mI := (yX11_trace, cX11_trace, 2, (some .int))
theorem mfX11_trace : MF iX11_trace 1 := ⟨x_tb 1691 (by decide +kernel) rfl, x_tb 86 (by decide +kernel) rfl, by decide +kernel, by decide⟩
abbrev iX11_keep : mI := (yX11_keep, cX11_keep, 3, (some .int))
theorem mfX11_keep : MF iX11_keep 2 := ⟨x_tb 1695 (by decide +kernel) rfl, x_tb 86 (by decide +kernel) rfl, by decide +kernel, by decide⟩
abbrev iX11_row : mI := (yX11_row, cX11_row, 5, (some .int))
theorem mfX11_row : MF iX11_row 3 := ⟨x_tb 1699 (by decide +kernel) rfl, x_tb 86 (by decide +kernel) rfl, by decide +kernel, by decide⟩
abbrev iX11_isRow : mI := (yX11_isRow, cX11_isRow, 2, (some .boolean))
theorem mfX11_isRow : MF iX11_isRow 1 := ⟨x_tb 1707 (by decide +kernel) rfl, x_tb 86 (by decide +kernel) rfl, by decide +kernel, by decide⟩
abbrev iX11_kept : mI := (yX11_kept, cX11_kept, 3, (some .long))
theorem mfX11_kept : MF iX11_kept 2 := ⟨x_tb 1710 (by decide +kernel) rfl, x_tb 86 (by decide +kernel) rfl, by decide +kernel, by decide⟩
abbrev iX11_put : mI := (yX11_put, cX11_put, 5, (some .int))
theorem mfX11_put : MF iX11_put 3 := ⟨x_tb 1703 (by decide +kernel) rfl, x_tb 86 (by decide +kernel) rfl, by decide +kernel, by decide⟩
abbrev iX11_element : mI := (yX11_element, cX11_element, 3, (some .long))
theorem mfX11_element : MF iX11_element 2 := ⟨x_tb 1714 (by decide +kernel) rfl, x_tb 86 (by decide +kernel) rfl, by decide +kernel, by decide⟩
abbrev iX11_shift : mI := (yX11_shift, cX11_shift, 7, (some .int))
theorem mfX11_shift : MF iX11_shift 5 := ⟨x_tb 1719 (by decide +kernel) rfl, x_tb 86 (by decide +kernel) rfl, by decide +kernel, by decide⟩
abbrev iX11_taken : mI := (yX11_taken, cX11_taken, 5, (some .int))
theorem mfX11_taken : MF iX11_taken 2 := ⟨x_tb 1723 (by decide +kernel) rfl, x_tb 86 (by decide +kernel) rfl, by decide +kernel, by decide⟩
abbrev iX11_count : mI := (yX11_count, cX11_count, 2, (some .int))
theorem mfX11_count : MF iX11_count 1 := ⟨x_tb 1727 (by decide +kernel) rfl, x_tb 86 (by decide +kernel) rfl, by decide +kernel, by decide⟩
abbrev iJ11_isValidCodePoint_9a6ad : mI := (yJ11_isValidCodePoint_9a6ad, cJ11_isValidCodePoint_9a6ad, 2, (some .boolean))
theorem mfJ11_isValidCodePoint_9a6ad : MF iJ11_isValidCodePoint_9a6ad 1 := ⟨x_tb 631 (by decide +kernel) rfl, x_tb 94 (by decide +kernel) rfl, by decide +kernel, by decide⟩
abbrev iJ11_highSurrogate_5068e : mI := (yJ11_highSurrogate_5068e, cJ11_highSurrogate_5068e, 1, (some .char))
theorem mfJ11_highSurrogate_5068e : MF iJ11_highSurrogate_5068e 1 := ⟨x_tb 634 (by decide +kernel) rfl, x_tb 94 (by decide +kernel) rfl, by decide +kernel, by decide⟩
abbrev iJ11_lowSurrogate_5068e : mI := (yJ11_lowSurrogate_5068e, cJ11_lowSurrogate_5068e, 1, (some .char))
theorem mfJ11_lowSurrogate_5068e : MF iJ11_lowSurrogate_5068e 1 := ⟨x_tb 638 (by decide +kernel) rfl, x_tb 94 (by decide +kernel) rfl, by decide +kernel, by decide⟩
abbrev iJ6_bitCount_0f7a4 : mI := (yJ6_bitCount_0f7a4, cJ6_bitCount_0f7a4, 1, (some .int))
theorem mfJ6_bitCount_0f7a4 : MF iJ6_bitCount_0f7a4 1 := ⟨x_tb 386 (by decide +kernel) rfl, x_tb 87 (by decide +kernel) rfl, by decide +kernel, by decide⟩
abbrev iJ9_abs_0f7a4 : mI := (yJ9_abs_0f7a4, cJ9_abs_0f7a4, 1, (some .int))
theorem mfJ9_abs_0f7a4 : MF iJ9_abs_0f7a4 1 := ⟨x_tb 680 (by decide +kernel) rfl, x_tb 91 (by decide +kernel) rfl, by decide +kernel, by decide⟩
abbrev iJ9_max_7cf53 : mI := (yJ9_max_7cf53, cJ9_max_7cf53, 2, (some .int))
theorem mfJ9_max_7cf53 : MF iJ9_max_7cf53 2 := ⟨x_tb 584 (by decide +kernel) rfl, x_tb 91 (by decide +kernel) rfl, by decide +kernel, by decide⟩
abbrev iJ9_min_7cf53 : mI := (yJ9_min_7cf53, cJ9_min_7cf53, 2, (some .int))
theorem mfJ9_min_7cf53 : MF iJ9_min_7cf53 2 := ⟨x_tb 587 (by decide +kernel) rfl, x_tb 91 (by decide +kernel) rfl, by decide +kernel, by decide⟩
abbrev iJ0_length_8abf5 : mI := (yJ0_length_8abf5, cJ0_length_8abf5, 1, (some .int))
theorem mfJ0_length_8abf5 : MF iJ0_length_8abf5 0 := ⟨x_tb 571 (by decide +kernel) rfl, x_tb 89 (by decide +kernel) rfl, by decide +kernel, by decide⟩
abbrev iJ0_indexOf_0f7a4 : mI := (yJ0_indexOf_0f7a4, cJ0_indexOf_0f7a4, 2, (some .int))
theorem mfJ0_indexOf_0f7a4 : MF iJ0_indexOf_0f7a4 1 := ⟨x_tb 557 (by decide +kernel) rfl, x_tb 89 (by decide +kernel) rfl, by decide +kernel, by decide⟩
abbrev iJ0_indexOf_7cf53 : mI := (yJ0_indexOf_7cf53, cJ0_indexOf_7cf53, 3, (some .int))
theorem mfJ0_indexOf_7cf53 : MF iJ0_indexOf_7cf53 2 := ⟨x_tb 561 (by decide +kernel) rfl, x_tb 89 (by decide +kernel) rfl, by decide +kernel, by decide⟩
abbrev iJ0_coder_7d493 : mI := (yJ0_coder_7d493, cJ0_coder_7d493, 1, (some .byte))
theorem mfJ0_coder_7d493 : MF iJ0_coder_7d493 0 := ⟨x_tb 575 (by decide +kernel) rfl, x_tb 89 (by decide +kernel) rfl, by decide +kernel, by decide⟩
abbrev iJ0_isLatin1_aae02 : mI := (yJ0_isLatin1_aae02, cJ0_isLatin1_aae02, 1, (some .boolean))
theorem mfJ0_isLatin1_aae02 : MF iJ0_isLatin1_aae02 0 := ⟨x_tb 565 (by decide +kernel) rfl, x_tb 89 (by decide +kernel) rfl, by decide +kernel, by decide⟩
abbrev iJ0_checkBoundsBeginEnd_23922 : mI := (yJ0_checkBoundsBeginEnd_23922, cJ0_checkBoundsBeginEnd_23922, 3, none)
theorem mfJ0_checkBoundsBeginEnd_23922 : MF iJ0_checkBoundsBeginEnd_23922 3 := ⟨x_tb 608 (by decide +kernel) rfl, x_tb 89 (by decide +kernel) rfl, by decide +kernel, by decide⟩
abbrev iJ1_canEncode_9a6ad : mI := (yJ1_canEncode_9a6ad, cJ1_canEncode_9a6ad, 1, (some .boolean))
theorem mfJ1_canEncode_9a6ad : MF iJ1_canEncode_9a6ad 1 := ⟨x_tb 581 (by decide +kernel) rfl, x_tb 90 (by decide +kernel) rfl, by decide +kernel, by decide⟩
abbrev iJ1_indexOf_4cfef : mI := (yJ1_indexOf_4cfef, cJ1_indexOf_4cfef, 4, (some .int))
theorem mfJ1_indexOf_4cfef : MF iJ1_indexOf_4cfef 4 := ⟨x_tb 578 (by decide +kernel) rfl, x_tb 90 (by decide +kernel) rfl, by decide +kernel, by decide⟩
abbrev iJ1_indexOfChar_4cfef : mI := (yJ1_indexOfChar_4cfef, cJ1_indexOfChar_4cfef, 6, (some .int))
theorem mfJ1_indexOfChar_4cfef : MF iJ1_indexOfChar_4cfef 4 := ⟨x_tb 590 (by decide +kernel) rfl, x_tb 90 (by decide +kernel) rfl, by decide +kernel, by decide⟩
abbrev iJ2_getChar_3b067 : mI := (yJ2_getChar_3b067, cJ2_getChar_3b067, 2, (some .char))
theorem mfJ2_getChar_3b067 : MF iJ2_getChar_3b067 2 := ⟨x_tb 619 (by decide +kernel) rfl, x_tb 92 (by decide +kernel) rfl, by decide +kernel, by decide⟩
abbrev iJ2_length_9d52b : mI := (yJ2_length_9d52b, cJ2_length_9d52b, 1, (some .int))
theorem mfJ2_length_9d52b : MF iJ2_length_9d52b 1 := ⟨x_tb 605 (by decide +kernel) rfl, x_tb 92 (by decide +kernel) rfl, by decide +kernel, by decide⟩
abbrev iJ2_indexOf_4cfef : mI := (yJ2_indexOf_4cfef, cJ2_indexOf_4cfef, 4, (some .int))
theorem mfJ2_indexOf_4cfef : MF iJ2_indexOf_4cfef 4 := ⟨x_tb 593 (by decide +kernel) rfl, x_tb 92 (by decide +kernel) rfl, by decide +kernel, by decide⟩
abbrev iJ2_indexOfChar_4cfef : mI := (yJ2_indexOfChar_4cfef, cJ2_indexOfChar_4cfef, 4, (some .int))
theorem mfJ2_indexOfChar_4cfef : MF iJ2_indexOfChar_4cfef 4 := ⟨x_tb 599 (by decide +kernel) rfl, x_tb 92 (by decide +kernel) rfl, by decide +kernel, by decide⟩
abbrev iJ2_indexOfCharUnsafe_4cfef : mI := (yJ2_indexOfCharUnsafe_4cfef, cJ2_indexOfCharUnsafe_4cfef, 5, (some .int))
theorem mfJ2_indexOfCharUnsafe_4cfef : MF iJ2_indexOfCharUnsafe_4cfef 4 := ⟨x_tb 616 (by decide +kernel) rfl, x_tb 92 (by decide +kernel) rfl, by decide +kernel, by decide⟩
abbrev iJ2_indexOfSupplementary_4cfef : mI := (yJ2_indexOfSupplementary_4cfef, cJ2_indexOfSupplementary_4cfef, 7, (some .int))
theorem mfJ2_indexOfSupplementary_4cfef : MF iJ2_indexOfSupplementary_4cfef 4 := ⟨x_tb 628 (by decide +kernel) rfl, x_tb 92 (by decide +kernel) rfl, by decide +kernel, by decide⟩
abbrev iJ2_checkBoundsBeginEnd_d044e : mI := (yJ2_checkBoundsBeginEnd_d044e, cJ2_checkBoundsBeginEnd_d044e, 3, none)
theorem mfJ2_checkBoundsBeginEnd_d044e : MF iJ2_checkBoundsBeginEnd_d044e 3 := ⟨x_tb 602 (by decide +kernel) rfl, x_tb 92 (by decide +kernel) rfl, by decide +kernel, by decide⟩
abbrev iJ3_checkFromToIndex_8c36e : mI := (yJ3_checkFromToIndex_8c36e, cJ3_checkFromToIndex_8c36e, 4, (some .int))
theorem mfJ3_checkFromToIndex_8c36e : MF iJ3_checkFromToIndex_8c36e 4 := ⟨x_tb 613 (by decide +kernel) rfl, x_tb 93 (by decide +kernel) rfl, by decide +kernel, by decide⟩
theorem lkL_9 : II RL 9 iX10_init 0 := ⟨mfX10_init, Or.inl (x_tb 97 (by decide +kernel) rfl), x_tb 98 (by decide +kernel) rfl, rfl, rfl⟩
theorem lkX10_9 : II RX10 9 iX5_init 0 := ⟨mfX5_init, Or.inl (x_tb 105 (by decide +kernel) rfl), x_tb 106 (by decide +kernel) rfl, rfl, rfl⟩
theorem lkX5_27 : II RX5 27 iX1_init 0 := ⟨mfX1_init, Or.inr ⟨"CutFromOthers", by decide⟩, x_tb 113 (by decide +kernel) rfl, rfl, rfl⟩
theorem lkX10_18 : II RX10 18 iX7_init 0 := ⟨mfX7_init, Or.inr ⟨"CutFromOthers", by decide⟩, x_tb 161 (by decide +kernel) rfl, rfl, rfl⟩
theorem lkX10_25 : II RX10 25 iX3_init 0 := ⟨mfX3_init, Or.inr ⟨"CutFromOthers", by decide⟩, x_tb 183 (by decide +kernel) rfl, rfl, rfl⟩
theorem lkX10_32 : II RX10 32 iX2_init 2 := ⟨mfX2_init, Or.inl (x_tb 204 (by decide +kernel) rfl), x_tb 205 (by decide +kernel) rfl, rfl, rfl⟩
theorem lkX10_41 : II RX10 41 iX8_init 1 := ⟨mfX8_init, Or.inl (x_tb 232 (by decide +kernel) rfl), x_tb 233 (by decide +kernel) rfl, rfl, rfl⟩
theorem lkX10_50 : II RX10 50 iX9_init 0 := ⟨mfX9_init, Or.inr ⟨"CutFromOthers", by decide⟩, x_tb 252 (by decide +kernel) rfl, rfl, rfl⟩
theorem lkX10_57 : II RX10 57 iX0_init 0 := ⟨mfX0_init, Or.inr ⟨"CutFromOthers", by decide⟩, x_tb 286 (by decide +kernel) rfl, rfl, rfl⟩
theorem lkX10_64 : II RX10 64 iX6_init 0 := ⟨mfX6_init, Or.inr ⟨"CutFromOthers", by decide⟩, x_tb 302 (by decide +kernel) rfl, rfl, rfl⟩
theorem lkX10_71 : II RX10 71 iX4_init 0 := ⟨mfX4_init, Or.inr ⟨"CutFromOthers", by decide⟩, x_tb 321 (by decide +kernel) rfl, rfl, rfl⟩
theorem lkX10_78 : II RX10 78 iX1_init 0 := ⟨mfX1_init, Or.inr ⟨"CutFromOthers", by decide⟩, x_tb 113 (by decide +kernel) rfl, rfl, rfl⟩
theorem lkL_13 : IV RL 13 iX10_figure 1 10 := ⟨mfX10_figure, Or.inl (x_tb 368 (by decide +kernel) rfl), x_tb 369 (by decide +kernel) rfl, x_tb 370 (by decide +kernel) rfl, ⟨_, _, rfl⟩, by decide⟩
theorem lkX10_83 : IS RX10 83 iX10_isShape 1 := ⟨mfX10_isShape, Or.inl (x_tb 372 (by decide +kernel) rfl), x_tb 373 (by decide +kernel) rfl⟩
theorem lkX10_87 : IV RX10 87 iX5_add 2 5 := ⟨mfX5_add, Or.inl (x_tb 376 (by decide +kernel) rfl), x_tb 377 (by decide +kernel) rfl, x_tb 378 (by decide +kernel) rfl, ⟨_, _, rfl⟩, by decide⟩
theorem lkX5_32 : IV RX5 32 iX1_take 1 1 := ⟨mfX1_take, Or.inl (x_tb 380 (by decide +kernel) rfl), x_tb 381 (by decide +kernel) rfl, x_tb 382 (by decide +kernel) rfl, ⟨_, _, rfl⟩, by decide⟩
theorem lkX1_25 : IS RX1 25 iJ6_bitCount_0f7a4 1 := ⟨mfJ6_bitCount_0f7a4, Or.inl (x_tb 384 (by decide +kernel) rfl), x_tb 385 (by decide +kernel) rfl⟩
theorem lkX1_37 : IS RX1 37 iX1_cornered 1 := ⟨mfX1_cornered, Or.inl (x_tb 390 (by decide +kernel) rfl), x_tb 391 (by decide +kernel) rfl⟩
theorem lkX1_40 : IV RX1 40 iX1_addPlaces 1 1 := ⟨mfX1_addPlaces, Or.inl (x_tb 394 (by decide +kernel) rfl), x_tb 396 (by decide +kernel) rfl, x_tb 0 (by decide +kernel) rfl, ⟨_, _, rfl⟩, by decide⟩
theorem lkX1_56 : IS RX1 56 iX1_wide 1 := ⟨mfX1_wide, Or.inl (x_tb 398 (by decide +kernel) rfl), x_tb 399 (by decide +kernel) rfl⟩
theorem lkX1_59 : IS RX1 59 iX1_tall 1 := ⟨mfX1_tall, Or.inl (x_tb 401 (by decide +kernel) rfl), x_tb 402 (by decide +kernel) rfl⟩
theorem lkX1_44 : IS RX1 44 iX1_turnedOnce 1 := ⟨mfX1_turnedOnce, Or.inl (x_tb 404 (by decide +kernel) rfl), x_tb 405 (by decide +kernel) rfl⟩
theorem lkX5_36 : IV RX5 36 iX5_setTrait 3 5 := ⟨mfX5_setTrait, Or.inl (x_tb 407 (by decide +kernel) rfl), x_tb 408 (by decide +kernel) rfl, x_tb 409 (by decide +kernel) rfl, ⟨_, _, rfl⟩, by decide⟩
theorem lkX5_40 : IV RX5 40 iX5_relate 1 5 := ⟨mfX5_relate, Or.inl (x_tb 411 (by decide +kernel) rfl), x_tb 413 (by decide +kernel) rfl, x_tb 1 (by decide +kernel) rfl, ⟨_, _, rfl⟩, by decide⟩
theorem lkX5_57 : IV RX5 57 iX5_cuttableOf 1 5 := ⟨mfX5_cuttableOf, Or.inl (x_tb 415 (by decide +kernel) rfl), x_tb 416 (by decide +kernel) rfl, x_tb 417 (by decide +kernel) rfl, ⟨_, _, rfl⟩, by decide⟩
theorem lkX5_46 : IV RX5 46 iX1_canBeCutOf 1 1 := ⟨mfX1_canBeCutOf, Or.inl (x_tb 419 (by decide +kernel) rfl), x_tb 420 (by decide +kernel) rfl, x_tb 421 (by decide +kernel) rfl, ⟨_, _, rfl⟩, by decide⟩
theorem lkX1_47 : IV RX1 47 iX1_firstPlace 1 1 := ⟨mfX1_firstPlace, Or.inl (x_tb 423 (by decide +kernel) rfl), x_tb 424 (by decide +kernel) rfl, x_tb 425 (by decide +kernel) rfl, ⟨_, _, rfl⟩, by decide⟩
theorem lkX5_43 : IV RX5 43 iX5_sortIn 1 5 := ⟨mfX5_sortIn, Or.inl (x_tb 427 (by decide +kernel) rfl), x_tb 429 (by decide +kernel) rfl, x_tb 2 (by decide +kernel) rfl, ⟨_, _, rfl⟩, by decide⟩
theorem lkL_18 : IV RL 18 iX10_figures 3 10 := ⟨mfX10_figures, Or.inl (x_tb 431 (by decide +kernel) rfl), x_tb 432 (by decide +kernel) rfl, x_tb 433 (by decide +kernel) rfl, ⟨_, _, rfl⟩, by decide⟩
theorem lkX10_91 : IV RX10 91 iX4_has 1 4 := ⟨mfX4_has, Or.inl (x_tb 435 (by decide +kernel) rfl), x_tb 436 (by decide +kernel) rfl, x_tb 437 (by decide +kernel) rfl, ⟨_, _, rfl⟩, by decide⟩
end
section
theorem lkX10_94 : IV RX10 94 iX4_sortOf 1 4 := ⟨mfX4_sortOf, Or.inl (x_tb 439 (by decide +kernel) rfl), x_tb 440 (by decide +kernel) rfl, x_tb 441 (by decide +kernel) rfl, ⟨_, _, rfl⟩, by decide⟩
theorem lkX10_98 : IV RX10 98 iX10_figuresCome 3 10 := ⟨mfX10_figuresCome, Or.inl (x_tb 443 (by decide +kernel) rfl), x_tb 445 (by decide +kernel) rfl, x_tb 3 (by decide +kernel) rfl, ⟨_, _, rfl⟩, by decide⟩
theorem lkX10_329 : IV RX10 329 iX4_hasStretch 3 4 := ⟨mfX4_hasStretch, Or.inl (x_tb 447 (by decide +kernel) rfl), x_tb 448 (by decide +kernel) rfl, x_tb 449 (by decide +kernel) rfl, ⟨_, _, rfl⟩, by decide⟩
theorem lkX10_318 : IV RX10 318 iX4_at 2 4 := ⟨mfX4_at, Or.inl (x_tb 451 (by decide +kernel) rfl), x_tb 452 (by decide +kernel) rfl, x_tb 453 (by decide +kernel) rfl, ⟨_, _, rfl⟩, by decide⟩
theorem lkL_23 : IV RL 23 iX10_block 1 10 := ⟨mfX10_block, Or.inl (x_tb 457 (by decide +kernel) rfl), x_tb 458 (by decide +kernel) rfl, x_tb 459 (by decide +kernel) rfl, ⟨_, _, rfl⟩, by decide⟩
theorem lkX10_102 : IV RX10 102 iX9_add 1 9 := ⟨mfX9_add, Or.inl (x_tb 461 (by decide +kernel) rfl), x_tb 462 (by decide +kernel) rfl, x_tb 463 (by decide +kernel) rfl, ⟨_, _, rfl⟩, by decide⟩
theorem lkL_27 : IV RL 27 iX10_mend 3 10 := ⟨mfX10_mend, Or.inl (x_tb 465 (by decide +kernel) rfl), x_tb 466 (by decide +kernel) rfl, x_tb 467 (by decide +kernel) rfl, ⟨_, _, rfl⟩, by decide⟩
theorem lkX10_104 : IV RX10 104 iX5_has 1 5 := ⟨mfX5_has, Or.inl (x_tb 469 (by decide +kernel) rfl), x_tb 470 (by decide +kernel) rfl, x_tb 471 (by decide +kernel) rfl, ⟨_, _, rfl⟩, by decide⟩
theorem lkX10_109 : IV RX10 109 iX5_traitOf 2 5 := ⟨mfX5_traitOf, Or.inl (x_tb 473 (by decide +kernel) rfl), x_tb 474 (by decide +kernel) rfl, x_tb 475 (by decide +kernel) rfl, ⟨_, _, rfl⟩, by decide⟩
theorem lkX10_112 : IV RX10 112 iX5_setTrait 3 5 := ⟨mfX5_setTrait, Or.inl (x_tb 477 (by decide +kernel) rfl), x_tb 408 (by decide +kernel) rfl, x_tb 409 (by decide +kernel) rfl, ⟨_, _, rfl⟩, by decide⟩
theorem lkX10_116 : IV RX10 116 iX0_add 4 0 := ⟨mfX0_add, Or.inl (x_tb 478 (by decide +kernel) rfl), x_tb 479 (by decide +kernel) rfl, x_tb 480 (by decide +kernel) rfl, ⟨_, _, rfl⟩, by decide⟩
theorem lkL_31 : IV RL 31 iX10_of 2 10 := ⟨mfX10_of, Or.inl (x_tb 485 (by decide +kernel) rfl), x_tb 486 (by decide +kernel) rfl, x_tb 487 (by decide +kernel) rfl, ⟨_, _, rfl⟩, by decide⟩
theorem lkX10_119 : IV RX10 119 iX5_formOf 1 5 := ⟨mfX5_formOf, Or.inl (x_tb 489 (by decide +kernel) rfl), x_tb 490 (by decide +kernel) rfl, x_tb 491 (by decide +kernel) rfl, ⟨_, _, rfl⟩, by decide⟩
theorem lkX10_127 : IV RX10 127 iX9_has 1 9 := ⟨mfX9_has, Or.inl (x_tb 493 (by decide +kernel) rfl), x_tb 494 (by decide +kernel) rfl, x_tb 495 (by decide +kernel) rfl, ⟨_, _, rfl⟩, by decide⟩
theorem lkX10_128 : IV RX10 128 iX9_leftOf 1 9 := ⟨mfX9_leftOf, Or.inl (x_tb 497 (by decide +kernel) rfl), x_tb 498 (by decide +kernel) rfl, x_tb 499 (by decide +kernel) rfl, ⟨_, _, rfl⟩, by decide⟩
theorem lkX10_131 : IV RX10 131 iX9_cutsOf 1 9 := ⟨mfX9_cutsOf, Or.inl (x_tb 501 (by decide +kernel) rfl), x_tb 502 (by decide +kernel) rfl, x_tb 503 (by decide +kernel) rfl, ⟨_, _, rfl⟩, by decide⟩
theorem lkX10_134 : IV RX10 134 iX9_ledger 1 9 := ⟨mfX9_ledger, Or.inl (x_tb 505 (by decide +kernel) rfl), x_tb 506 (by decide +kernel) rfl, x_tb 507 (by decide +kernel) rfl, ⟨_, _, rfl⟩, by decide⟩
theorem lkL_36 : IV RL 36 iX10_feed 1 10 := ⟨mfX10_feed, Or.inl (x_tb 509 (by decide +kernel) rfl), x_tb 510 (by decide +kernel) rfl, x_tb 511 (by decide +kernel) rfl, ⟨_, _, rfl⟩, by decide⟩
theorem lkX10_137 : IV RX10 137 iX7_add 1 7 := ⟨mfX7_add, Or.inl (x_tb 513 (by decide +kernel) rfl), x_tb 514 (by decide +kernel) rfl, x_tb 515 (by decide +kernel) rfl, ⟨_, _, rfl⟩, by decide⟩
theorem lkL_40 : IV RL 40 iX10_law 0 10 := ⟨mfX10_law, Or.inl (x_tb 517 (by decide +kernel) rfl), x_tb 518 (by decide +kernel) rfl, x_tb 519 (by decide +kernel) rfl, ⟨_, _, rfl⟩, by decide⟩
theorem lkX10_138 : IV RX10 138 iX7_read 0 7 := ⟨mfX7_read, Or.inl (x_tb 521 (by decide +kernel) rfl), x_tb 522 (by decide +kernel) rfl, x_tb 523 (by decide +kernel) rfl, ⟨_, _, rfl⟩, by decide⟩
theorem lkX7_28 : IV RX7 28 iX7_readLine 0 7 := ⟨mfX7_readLine, Or.inl (x_tb 525 (by decide +kernel) rfl), x_tb 527 (by decide +kernel) rfl, x_tb 4 (by decide +kernel) rfl, ⟨_, _, rfl⟩, by decide⟩
theorem lkX7_42 : IV RX7 42 iX7_readJoined 2 7 := ⟨mfX7_readJoined, Or.inl (x_tb 529 (by decide +kernel) rfl), x_tb 531 (by decide +kernel) rfl, x_tb 5 (by decide +kernel) rfl, ⟨_, _, rfl⟩, by decide⟩
theorem lkX7_50 : IV RX7 50 iX7_readOperand 1 7 := ⟨mfX7_readOperand, Or.inl (x_tb 533 (by decide +kernel) rfl), x_tb 535 (by decide +kernel) rfl, x_tb 6 (by decide +kernel) rfl, ⟨_, _, rfl⟩, by decide⟩
theorem lkX7_62 : IV RX7 62 iX7_isDigit 0 7 := ⟨mfX7_isDigit, Or.inl (x_tb 537 (by decide +kernel) rfl), x_tb 539 (by decide +kernel) rfl, x_tb 7 (by decide +kernel) rfl, ⟨_, _, rfl⟩, by decide⟩
theorem lkX7_65 : IV RX7 65 iX7_readNumber 0 7 := ⟨mfX7_readNumber, Or.inl (x_tb 541 (by decide +kernel) rfl), x_tb 543 (by decide +kernel) rfl, x_tb 8 (by decide +kernel) rfl, ⟨_, _, rfl⟩, by decide⟩
theorem lkX7_46 : IV RX7 46 iX7_write 1 7 := ⟨mfX7_write, Or.inl (x_tb 545 (by decide +kernel) rfl), x_tb 547 (by decide +kernel) rfl, x_tb 9 (by decide +kernel) rfl, ⟨_, _, rfl⟩, by decide⟩
theorem lkX7_58 : IV RX7 58 iX7_isAhead 1 7 := ⟨mfX7_isAhead, Or.inl (x_tb 550 (by decide +kernel) rfl), x_tb 552 (by decide +kernel) rfl, x_tb 10 (by decide +kernel) rfl, ⟨_, _, rfl⟩, by decide⟩
theorem lkX7_70 : IT RX7 70 iJ0_indexOf_0f7a4 1 := ⟨mfJ0_indexOf_0f7a4, x_tb 554 (by decide +kernel) rfl, x_tb 555 (by decide +kernel) rfl, x_tb 556 (by decide +kernel) rfl, rfl⟩
theorem lkJ0_633 : IT RJ0 633 iJ0_indexOf_7cf53 2 := ⟨mfJ0_indexOf_7cf53, x_tb 558 (by decide +kernel) rfl, x_tb 559 (by decide +kernel) rfl, x_tb 560 (by decide +kernel) rfl, rfl⟩
theorem lkJ0_492 : IT RJ0 492 iJ0_isLatin1_aae02 0 := ⟨mfJ0_isLatin1_aae02, x_tb 562 (by decide +kernel) rfl, x_tb 563 (by decide +kernel) rfl, x_tb 564 (by decide +kernel) rfl, rfl⟩
theorem lkJ0_505 : IT RJ0 505 iJ0_length_8abf5 0 := ⟨mfJ0_length_8abf5, x_tb 568 (by decide +kernel) rfl, x_tb 569 (by decide +kernel) rfl, x_tb 570 (by decide +kernel) rfl, rfl⟩
theorem lkJ0_335 : IT RJ0 335 iJ0_coder_7d493 0 := ⟨mfJ0_coder_7d493, x_tb 572 (by decide +kernel) rfl, x_tb 573 (by decide +kernel) rfl, x_tb 574 (by decide +kernel) rfl, rfl⟩
theorem lkJ0_637 : IS RJ0 637 iJ1_indexOf_4cfef 4 := ⟨mfJ1_indexOf_4cfef, Or.inl (x_tb 576 (by decide +kernel) rfl), x_tb 577 (by decide +kernel) rfl⟩
theorem lkJ1_88 : IS RJ1 88 iJ1_canEncode_9a6ad 1 := ⟨mfJ1_canEncode_9a6ad, Or.inl (x_tb 579 (by decide +kernel) rfl), x_tb 580 (by decide +kernel) rfl⟩
theorem lkJ1_95 : IS RJ1 95 iJ1_indexOfChar_4cfef 4 := ⟨mfJ1_indexOfChar_4cfef, Or.inl (x_tb 588 (by decide +kernel) rfl), x_tb 589 (by decide +kernel) rfl⟩
theorem lkJ0_640 : IS RJ0 640 iJ2_indexOf_4cfef 4 := ⟨mfJ2_indexOf_4cfef, Or.inl (x_tb 591 (by decide +kernel) rfl), x_tb 592 (by decide +kernel) rfl⟩
theorem lkJ2_228 : IS RJ2 228 iJ2_indexOfChar_4cfef 4 := ⟨mfJ2_indexOfChar_4cfef, Or.inl (x_tb 597 (by decide +kernel) rfl), x_tb 598 (by decide +kernel) rfl⟩
theorem lkJ2_96 : IS RJ2 96 iJ2_checkBoundsBeginEnd_d044e 3 := ⟨mfJ2_checkBoundsBeginEnd_d044e, Or.inl (x_tb 600 (by decide +kernel) rfl), x_tb 601 (by decide +kernel) rfl⟩
theorem lkJ2_48 : IS RJ2 48 iJ2_length_9d52b 1 := ⟨mfJ2_length_9d52b, Or.inl (x_tb 603 (by decide +kernel) rfl), x_tb 604 (by decide +kernel) rfl⟩
theorem lkJ2_241 : IS RJ2 241 iJ0_checkBoundsBeginEnd_23922 3 := ⟨mfJ0_checkBoundsBeginEnd_23922, Or.inl (x_tb 606 (by decide +kernel) rfl), x_tb 607 (by decide +kernel) rfl⟩
theorem lkJ0_1062 : IS RJ0 1062 iJ3_checkFromToIndex_8c36e 4 := ⟨mfJ3_checkFromToIndex_8c36e, Or.inl (x_tb 611 (by decide +kernel) rfl), x_tb 612 (by decide +kernel) rfl⟩
theorem lkJ2_244 : IS RJ2 244 iJ2_indexOfCharUnsafe_4cfef 4 := ⟨mfJ2_indexOfCharUnsafe_4cfef, Or.inl (x_tb 614 (by decide +kernel) rfl), x_tb 615 (by decide +kernel) rfl⟩
theorem lkJ2_71 : IS RJ2 71 iJ2_getChar_3b067 2 := ⟨mfJ2_getChar_3b067, Or.inl (x_tb 617 (by decide +kernel) rfl), x_tb 618 (by decide +kernel) rfl⟩
theorem lkJ2_232 : IS RJ2 232 iJ2_indexOfSupplementary_4cfef 4 := ⟨mfJ2_indexOfSupplementary_4cfef, Or.inl (x_tb 626 (by decide +kernel) rfl), x_tb 627 (by decide +kernel) rfl⟩
theorem lkJ2_164 : IS RJ2 164 iJ11_isValidCodePoint_9a6ad 1 := ⟨mfJ11_isValidCodePoint_9a6ad, Or.inl (x_tb 629 (by decide +kernel) rfl), x_tb 630 (by decide +kernel) rfl⟩
theorem lkJ2_157 : IS RJ2 157 iJ11_highSurrogate_5068e 1 := ⟨mfJ11_highSurrogate_5068e, Or.inl (x_tb 632 (by decide +kernel) rfl), x_tb 633 (by decide +kernel) rfl⟩
theorem lkJ2_161 : IS RJ2 161 iJ11_lowSurrogate_5068e 1 := ⟨mfJ11_lowSurrogate_5068e, Or.inl (x_tb 636 (by decide +kernel) rfl), x_tb 637 (by decide +kernel) rfl⟩
theorem lkX7_32 : IV RX7 32 iX7_accepts 1 7 := ⟨mfX7_accepts, Or.inl (x_tb 640 (by decide +kernel) rfl), x_tb 642 (by decide +kernel) rfl, x_tb 11 (by decide +kernel) rfl, ⟨_, _, rfl⟩, by decide⟩
theorem lkX7_54 : IS RX7 54 iX7_signsOf 1 := ⟨mfX7_signsOf, Or.inl (x_tb 644 (by decide +kernel) rfl), x_tb 645 (by decide +kernel) rfl⟩
theorem lkX10_142 : IV RX10 142 iX7_clear 0 7 := ⟨mfX7_clear, Or.inl (x_tb 652 (by decide +kernel) rfl), x_tb 653 (by decide +kernel) rfl, x_tb 654 (by decide +kernel) rfl, ⟨_, _, rfl⟩, by decide⟩
theorem lkX10_145 : IV RX10 145 iX3_take 1 3 := ⟨mfX3_take, Or.inl (x_tb 656 (by decide +kernel) rfl), x_tb 657 (by decide +kernel) rfl, x_tb 658 (by decide +kernel) rfl, ⟨_, _, rfl⟩, by decide⟩
theorem lkX3_21 : IV RX3 21 iX7_copyCode 1 7 := ⟨mfX7_copyCode, Or.inl (x_tb 660 (by decide +kernel) rfl), x_tb 661 (by decide +kernel) rfl, x_tb 662 (by decide +kernel) rfl, ⟨_, _, rfl⟩, by decide⟩
theorem lkL_45 : IV RL 45 iX10_brings 3 10 := ⟨mfX10_brings, Or.inl (x_tb 666 (by decide +kernel) rfl), x_tb 667 (by decide +kernel) rfl, x_tb 668 (by decide +kernel) rfl, ⟨_, _, rfl⟩, by decide⟩
theorem lkX10_149 : IS RX10 149 iX10_isYear 1 := ⟨mfX10_isYear, Or.inl (x_tb 670 (by decide +kernel) rfl), x_tb 671 (by decide +kernel) rfl⟩
theorem lkX10_152 : IV RX10 152 iX3_worthOf 4 3 := ⟨mfX3_worthOf, Or.inl (x_tb 673 (by decide +kernel) rfl), x_tb 674 (by decide +kernel) rfl, x_tb 675 (by decide +kernel) rfl, ⟨_, _, rfl⟩, by decide⟩
theorem lkX3_29 : IV RX3 29 iX5_traitOf 2 5 := ⟨mfX5_traitOf, Or.inl (x_tb 677 (by decide +kernel) rfl), x_tb 474 (by decide +kernel) rfl, x_tb 475 (by decide +kernel) rfl, ⟨_, _, rfl⟩, by decide⟩
theorem lkX3_44 : IV RX3 44 iX5_formOf 1 5 := ⟨mfX5_formOf, Or.inl (x_tb 682 (by decide +kernel) rfl), x_tb 490 (by decide +kernel) rfl, x_tb 491 (by decide +kernel) rfl, ⟨_, _, rfl⟩, by decide⟩
theorem lkX3_53 : IV RX3 53 iX3_workOut 0 3 := ⟨mfX3_workOut, Or.inl (x_tb 683 (by decide +kernel) rfl), x_tb 685 (by decide +kernel) rfl, x_tb 12 (by decide +kernel) rfl, ⟨_, _, rfl⟩, by decide⟩
theorem lkX3_63 : IV RX3 63 iX3_pop 0 3 := ⟨mfX3_pop, Or.inl (x_tb 687 (by decide +kernel) rfl), x_tb 689 (by decide +kernel) rfl, x_tb 13 (by decide +kernel) rfl, ⟨_, _, rfl⟩, by decide⟩
theorem lkX3_66 : IV RX3 66 iX3_step 1 3 := ⟨mfX3_step, Or.inl (x_tb 691 (by decide +kernel) rfl), x_tb 693 (by decide +kernel) rfl, x_tb 14 (by decide +kernel) rfl, ⟨_, _, rfl⟩, by decide⟩
theorem lkX3_70 : IV RX3 70 iX3_push 1 3 := ⟨mfX3_push, Or.inl (x_tb 695 (by decide +kernel) rfl), x_tb 697 (by decide +kernel) rfl, x_tb 15 (by decide +kernel) rfl, ⟨_, _, rfl⟩, by decide⟩
theorem lkX3_73 : IS RX3 73 iX3_truth 1 := ⟨mfX3_truth, Or.inl (x_tb 699 (by decide +kernel) rfl), x_tb 700 (by decide +kernel) rfl⟩
theorem lkX3_77 : IS RX3 77 iX3_join 3 := ⟨mfX3_join, Or.inl (x_tb 702 (by decide +kernel) rfl), x_tb 703 (by decide +kernel) rfl⟩
theorem lkL_49 : IV RL 49 iX10_size 2 10 := ⟨mfX10_size, Or.inl (x_tb 706 (by decide +kernel) rfl), x_tb 707 (by decide +kernel) rfl, x_tb 708 (by decide +kernel) rfl, ⟨_, _, rfl⟩, by decide⟩
theorem lkX10_162 : IS RX10 162 iX1_wide 1 := ⟨mfX1_wide, Or.inl (x_tb 710 (by decide +kernel) rfl), x_tb 399 (by decide +kernel) rfl⟩
theorem lkX10_165 : IS RX10 165 iX1_tall 1 := ⟨mfX1_tall, Or.inl (x_tb 711 (by decide +kernel) rfl), x_tb 402 (by decide +kernel) rfl⟩
theorem lkL_53 : IV RL 53 iX10_turned 2 10 := ⟨mfX10_turned, Or.inl (x_tb 712 (by decide +kernel) rfl), x_tb 713 (by decide +kernel) rfl, x_tb 714 (by decide +kernel) rfl, ⟨_, _, rfl⟩, by decide⟩
theorem lkL_57 : IV RL 57 iX10_ways 2 10 := ⟨mfX10_ways, Or.inl (x_tb 716 (by decide +kernel) rfl), x_tb 717 (by decide +kernel) rfl, x_tb 718 (by decide +kernel) rfl, ⟨_, _, rfl⟩, by decide⟩
theorem lkX10_168 : IV RX10 168 iX10_isBlockAndFigure 1 10 := ⟨mfX10_isBlockAndFigure, Or.inl (x_tb 720 (by decide +kernel) rfl), x_tb 722 (by decide +kernel) rfl, x_tb 16 (by decide +kernel) rfl, ⟨_, _, rfl⟩, by decide⟩
theorem lkX10_171 : IV RX10 171 iX1_countWays 1 1 := ⟨mfX1_countWays, Or.inl (x_tb 724 (by decide +kernel) rfl), x_tb 725 (by decide +kernel) rfl, x_tb 726 (by decide +kernel) rfl, ⟨_, _, rfl⟩, by decide⟩
theorem lkX10_174 : IV RX10 174 iX1_firstPlace 1 1 := ⟨mfX1_firstPlace, Or.inl (x_tb 728 (by decide +kernel) rfl), x_tb 424 (by decide +kernel) rfl, x_tb 425 (by decide +kernel) rfl, ⟨_, _, rfl⟩, by decide⟩
theorem lkX10_177 : IV RX10 177 iX1_wayAt 1 1 := ⟨mfX1_wayAt, Or.inl (x_tb 729 (by decide +kernel) rfl), x_tb 730 (by decide +kernel) rfl, x_tb 731 (by decide +kernel) rfl, ⟨_, _, rfl⟩, by decide⟩
theorem lkX10_180 : IV RX10 180 iX1_canBeCutOf 1 1 := ⟨mfX1_canBeCutOf, Or.inl (x_tb 733 (by decide +kernel) rfl), x_tb 420 (by decide +kernel) rfl, x_tb 421 (by decide +kernel) rfl, ⟨_, _, rfl⟩, by decide⟩
theorem lkX10_183 : IS RX10 183 iJ6_bitCount_0f7a4 1 := ⟨mfJ6_bitCount_0f7a4, Or.inl (x_tb 734 (by decide +kernel) rfl), x_tb 385 (by decide +kernel) rfl⟩
theorem lkL_61 : IV RL 61 iX10_inside 1 10 := ⟨mfX10_inside, Or.inl (x_tb 735 (by decide +kernel) rfl), x_tb 736 (by decide +kernel) rfl, x_tb 737 (by decide +kernel) rfl, ⟨_, _, rfl⟩, by decide⟩
theorem lkX10_188 : IV RX10 188 iX10_isTwoFigures 1 10 := ⟨mfX10_isTwoFigures, Or.inl (x_tb 739 (by decide +kernel) rfl), x_tb 741 (by decide +kernel) rfl, x_tb 17 (by decide +kernel) rfl, ⟨_, _, rfl⟩, by decide⟩
theorem lkX10_191 : IV RX10 191 iX5_outOf 1 5 := ⟨mfX5_outOf, Or.inl (x_tb 743 (by decide +kernel) rfl), x_tb 744 (by decide +kernel) rfl, x_tb 745 (by decide +kernel) rfl, ⟨_, _, rfl⟩, by decide⟩
theorem lkX10_194 : IS RX10 194 iX10_holds 2 := ⟨mfX10_holds, Or.inl (x_tb 747 (by decide +kernel) rfl), x_tb 748 (by decide +kernel) rfl⟩
theorem lkL_65 : IV RL 65 iX10_around 2 10 := ⟨mfX10_around, Or.inl (x_tb 750 (by decide +kernel) rfl), x_tb 751 (by decide +kernel) rfl, x_tb 752 (by decide +kernel) rfl, ⟨_, _, rfl⟩, by decide⟩
theorem lkX10_198 : IV RX10 198 iX5_above 1 5 := ⟨mfX5_above, Or.inl (x_tb 754 (by decide +kernel) rfl), x_tb 755 (by decide +kernel) rfl, x_tb 756 (by decide +kernel) rfl, ⟨_, _, rfl⟩, by decide⟩
theorem lkX5_50 : IS RX5 50 iX10_holds 2 := ⟨mfX10_holds, Or.inr ⟨"CutFromOthers", by decide⟩, x_tb 748 (by decide +kernel) rfl⟩
theorem lkL_69 : IV RL 69 iX10_common 1 10 := ⟨mfX10_common, Or.inl (x_tb 759 (by decide +kernel) rfl), x_tb 760 (by decide +kernel) rfl, x_tb 761 (by decide +kernel) rfl, ⟨_, _, rfl⟩, by decide⟩
theorem lkX10_201 : IV RX10 201 iX5_all 0 5 := ⟨mfX5_all, Or.inl (x_tb 763 (by decide +kernel) rfl), x_tb 764 (by decide +kernel) rfl, x_tb 765 (by decide +kernel) rfl, ⟨_, _, rfl⟩, by decide⟩
theorem lkL_73 : IV RL 73 iX10_longest 2 10 := ⟨mfX10_longest, Or.inl (x_tb 767 (by decide +kernel) rfl), x_tb 768 (by decide +kernel) rfl, x_tb 769 (by decide +kernel) rfl, ⟨_, _, rfl⟩, by decide⟩
theorem lkX10_204 : IV RX10 204 iX10_firstOutOf 1 10 := ⟨mfX10_firstOutOf, Or.inl (x_tb 771 (by decide +kernel) rfl), x_tb 773 (by decide +kernel) rfl, x_tb 18 (by decide +kernel) rfl, ⟨_, _, rfl⟩, by decide⟩
theorem lkX10_248 : IV RX10 248 iX5_cuttableOf 1 5 := ⟨mfX5_cuttableOf, Or.inl (x_tb 775 (by decide +kernel) rfl), x_tb 416 (by decide +kernel) rfl, x_tb 417 (by decide +kernel) rfl, ⟨_, _, rfl⟩, by decide⟩
theorem lkX10_207 : IV RX10 207 iX2_measure 1 2 := ⟨mfX2_measure, Or.inl (x_tb 776 (by decide +kernel) rfl), x_tb 777 (by decide +kernel) rfl, x_tb 778 (by decide +kernel) rfl, ⟨_, _, rfl⟩, by decide⟩
theorem lkX2_32 : IV RX2 32 iX5_came 0 5 := ⟨mfX5_came, Or.inl (x_tb 780 (by decide +kernel) rfl), x_tb 781 (by decide +kernel) rfl, x_tb 782 (by decide +kernel) rfl, ⟨_, _, rfl⟩, by decide⟩
theorem lkX2_38 : IV RX2 38 iX5_bySize 1 5 := ⟨mfX5_bySize, Or.inl (x_tb 784 (by decide +kernel) rfl), x_tb 785 (by decide +kernel) rfl, x_tb 786 (by decide +kernel) rfl, ⟨_, _, rfl⟩, by decide⟩
theorem lkX2_42 : IS RX2 42 iX10_holds 2 := ⟨mfX10_holds, Or.inr ⟨"CutFromOthers", by decide⟩, x_tb 748 (by decide +kernel) rfl⟩
theorem lkX2_46 : IV RX2 46 iX5_outOf 1 5 := ⟨mfX5_outOf, Or.inl (x_tb 789 (by decide +kernel) rfl), x_tb 744 (by decide +kernel) rfl, x_tb 745 (by decide +kernel) rfl, ⟨_, _, rfl⟩, by decide⟩
theorem lkX2_49 : IV RX2 49 iX2_longestOf 1 2 := ⟨mfX2_longestOf, Or.inl (x_tb 790 (by decide +kernel) rfl), x_tb 791 (by decide +kernel) rfl, x_tb 792 (by decide +kernel) rfl, ⟨_, _, rfl⟩, by decide⟩
theorem lkX10_211 : IV RX10 211 iX2_longestOf 1 2 := ⟨mfX2_longestOf, Or.inl (x_tb 795 (by decide +kernel) rfl), x_tb 791 (by decide +kernel) rfl, x_tb 792 (by decide +kernel) rfl, ⟨_, _, rfl⟩, by decide⟩
theorem lkX10_214 : IV RX10 214 iX2_inLongest 2 2 := ⟨mfX2_inLongest, Or.inl (x_tb 796 (by decide +kernel) rfl), x_tb 797 (by decide +kernel) rfl, x_tb 798 (by decide +kernel) rfl, ⟨_, _, rfl⟩, by decide⟩
theorem lkX2_58 : IV RX2 58 iX2_firstOfLength 2 2 := ⟨mfX2_firstOfLength, Or.inl (x_tb 800 (by decide +kernel) rfl), x_tb 802 (by decide +kernel) rfl, x_tb 19 (by decide +kernel) rfl, ⟨_, _, rfl⟩, by decide⟩
theorem lkL_77 : IV RL 77 iX10_richest 3 10 := ⟨mfX10_richest, Or.inl (x_tb 804 (by decide +kernel) rfl), x_tb 805 (by decide +kernel) rfl, x_tb 806 (by decide +kernel) rfl, ⟨_, _, rfl⟩, by decide⟩
theorem lkX10_217 : IV RX10 217 iX2_weigh 1 2 := ⟨mfX2_weigh, Or.inl (x_tb 808 (by decide +kernel) rfl), x_tb 809 (by decide +kernel) rfl, x_tb 810 (by decide +kernel) rfl, ⟨_, _, rfl⟩, by decide⟩
theorem lkX2_71 : IV RX2 71 iX2_richestNext 2 2 := ⟨mfX2_richestNext, Or.inl (x_tb 812 (by decide +kernel) rfl), x_tb 814 (by decide +kernel) rfl, x_tb 20 (by decide +kernel) rfl, ⟨_, _, rfl⟩, by decide⟩
theorem lkX2_74 : IV RX2 74 iX3_worthOf 4 3 := ⟨mfX3_worthOf, Or.inl (x_tb 816 (by decide +kernel) rfl), x_tb 674 (by decide +kernel) rfl, x_tb 675 (by decide +kernel) rfl, ⟨_, _, rfl⟩, by decide⟩
theorem lkX10_220 : IV RX10 220 iX2_mostOf 1 2 := ⟨mfX2_mostOf, Or.inl (x_tb 817 (by decide +kernel) rfl), x_tb 818 (by decide +kernel) rfl, x_tb 819 (by decide +kernel) rfl, ⟨_, _, rfl⟩, by decide⟩
theorem lkX10_223 : IV RX10 223 iX2_inRichest 2 2 := ⟨mfX2_inRichest, Or.inl (x_tb 821 (by decide +kernel) rfl), x_tb 822 (by decide +kernel) rfl, x_tb 823 (by decide +kernel) rfl, ⟨_, _, rfl⟩, by decide⟩
theorem lkL_81 : IV RL 81 iX10_with 2 10 := ⟨mfX10_with, Or.inl (x_tb 825 (by decide +kernel) rfl), x_tb 826 (by decide +kernel) rfl, x_tb 827 (by decide +kernel) rfl, ⟨_, _, rfl⟩, by decide⟩
theorem lkX10_226 : IV RX10 226 iX2_longestWith 3 2 := ⟨mfX2_longestWith, Or.inl (x_tb 829 (by decide +kernel) rfl), x_tb 830 (by decide +kernel) rfl, x_tb 831 (by decide +kernel) rfl, ⟨_, _, rfl⟩, by decide⟩
theorem lkX2_68 : IV RX2 68 iX5_above 1 5 := ⟨mfX5_above, Or.inl (x_tb 833 (by decide +kernel) rfl), x_tb 755 (by decide +kernel) rfl, x_tb 756 (by decide +kernel) rfl, ⟨_, _, rfl⟩, by decide⟩
theorem lkX2_64 : IV RX2 64 iX2_measure 1 2 := ⟨mfX2_measure, Or.inl (x_tb 834 (by decide +kernel) rfl), x_tb 777 (by decide +kernel) rfl, x_tb 778 (by decide +kernel) rfl, ⟨_, _, rfl⟩, by decide⟩
theorem lkL_85 : IV RL 85 iX10_spare 2 10 := ⟨mfX10_spare, Or.inl (x_tb 835 (by decide +kernel) rfl), x_tb 836 (by decide +kernel) rfl, x_tb 837 (by decide +kernel) rfl, ⟨_, _, rfl⟩, by decide⟩
theorem lkX10_229 : IV RX10 229 iX5_came 0 5 := ⟨mfX5_came, Or.inl (x_tb 839 (by decide +kernel) rfl), x_tb 781 (by decide +kernel) rfl, x_tb 782 (by decide +kernel) rfl, ⟨_, _, rfl⟩, by decide⟩
theorem lkX10_232 : IV RX10 232 iX2_longestWithout 2 2 := ⟨mfX2_longestWithout, Or.inl (x_tb 840 (by decide +kernel) rfl), x_tb 841 (by decide +kernel) rfl, x_tb 842 (by decide +kernel) rfl, ⟨_, _, rfl⟩, by decide⟩
theorem lkX2_61 : IV RX2 61 iX5_all 0 5 := ⟨mfX5_all, Or.inl (x_tb 844 (by decide +kernel) rfl), x_tb 764 (by decide +kernel) rfl, x_tb 765 (by decide +kernel) rfl, ⟨_, _, rfl⟩, by decide⟩
theorem lkL_89 : IV RL 89 iX10_when 2 10 := ⟨mfX10_when, Or.inl (x_tb 845 (by decide +kernel) rfl), x_tb 846 (by decide +kernel) rfl, x_tb 847 (by decide +kernel) rfl, ⟨_, _, rfl⟩, by decide⟩
theorem lkL_93 : IV RL 93 iX10_smallest 2 10 := ⟨mfX10_smallest, Or.inl (x_tb 849 (by decide +kernel) rfl), x_tb 850 (by decide +kernel) rfl, x_tb 851 (by decide +kernel) rfl, ⟨_, _, rfl⟩, by decide⟩
theorem lkX10_235 : IV RX10 235 iX1_leastWith 1 1 := ⟨mfX1_leastWith, Or.inl (x_tb 853 (by decide +kernel) rfl), x_tb 854 (by decide +kernel) rfl, x_tb 855 (by decide +kernel) rfl, ⟨_, _, rfl⟩, by decide⟩
theorem lkX1_51 : IV RX1 51 iX1_unlikePlaces 0 1 := ⟨mfX1_unlikePlaces, Or.inl (x_tb 858 (by decide +kernel) rfl), x_tb 860 (by decide +kernel) rfl, x_tb 21 (by decide +kernel) rfl, ⟨_, _, rfl⟩, by decide⟩
theorem lkL_97 : IV RL 97 iX10_leave 2 10 := ⟨mfX10_leave, Or.inl (x_tb 862 (by decide +kernel) rfl), x_tb 863 (by decide +kernel) rfl, x_tb 864 (by decide +kernel) rfl, ⟨_, _, rfl⟩, by decide⟩
theorem lkL_101 : IV RL 101 iX10_byTurns 2 10 := ⟨mfX10_byTurns, Or.inl (x_tb 866 (by decide +kernel) rfl), x_tb 867 (by decide +kernel) rfl, x_tb 868 (by decide +kernel) rfl, ⟨_, _, rfl⟩, by decide⟩
theorem lkX10_239 : IV RX10 239 iX2_play 0 2 := ⟨mfX2_play, Or.inl (x_tb 870 (by decide +kernel) rfl), x_tb 871 (by decide +kernel) rfl, x_tb 872 (by decide +kernel) rfl, ⟨_, _, rfl⟩, by decide⟩
theorem lkX2_84 : IV RX2 84 iX2_cutsPlayed 1 2 := ⟨mfX2_cutsPlayed, Or.inl (x_tb 874 (by decide +kernel) rfl), x_tb 875 (by decide +kernel) rfl, x_tb 876 (by decide +kernel) rfl, ⟨_, _, rfl⟩, by decide⟩
theorem lkX2_87 : IV RX2 87 iX2_firstWinning 1 2 := ⟨mfX2_firstWinning, Or.inl (x_tb 879 (by decide +kernel) rfl), x_tb 880 (by decide +kernel) rfl, x_tb 881 (by decide +kernel) rfl, ⟨_, _, rfl⟩, by decide⟩
theorem lkX10_242 : IV RX10 242 iX2_firstWinning 1 2 := ⟨mfX2_firstWinning, Or.inl (x_tb 883 (by decide +kernel) rfl), x_tb 880 (by decide +kernel) rfl, x_tb 881 (by decide +kernel) rfl, ⟨_, _, rfl⟩, by decide⟩
theorem lkX10_245 : IV RX10 245 iX2_cutsPlayed 1 2 := ⟨mfX2_cutsPlayed, Or.inl (x_tb 884 (by decide +kernel) rfl), x_tb 875 (by decide +kernel) rfl, x_tb 876 (by decide +kernel) rfl, ⟨_, _, rfl⟩, by decide⟩
theorem lkL_105 : IV RL 105 iX10_egg 2 10 := ⟨mfX10_egg, Or.inl (x_tb 885 (by decide +kernel) rfl), x_tb 886 (by decide +kernel) rfl, x_tb 887 (by decide +kernel) rfl, ⟨_, _, rfl⟩, by decide⟩
theorem lkX10_251 : IV RX10 251 iX10_partOf 1 10 := ⟨mfX10_partOf, Or.inl (x_tb 889 (by decide +kernel) rfl), x_tb 891 (by decide +kernel) rfl, x_tb 22 (by decide +kernel) rfl, ⟨_, _, rfl⟩, by decide⟩
theorem lkX10_362 : IV RX10 362 iX1_take 1 1 := ⟨mfX1_take, Or.inl (x_tb 893 (by decide +kernel) rfl), x_tb 381 (by decide +kernel) rfl, x_tb 382 (by decide +kernel) rfl, ⟨_, _, rfl⟩, by decide⟩
theorem lkL_109 : IV RL 109 iX10_judge 2 10 := ⟨mfX10_judge, Or.inl (x_tb 894 (by decide +kernel) rfl), x_tb 895 (by decide +kernel) rfl, x_tb 896 (by decide +kernel) rfl, ⟨_, _, rfl⟩, by decide⟩
theorem lkX10_254 : IV RX10 254 iX10_refusalOfTold 2 10 := ⟨mfX10_refusalOfTold, Or.inl (x_tb 898 (by decide +kernel) rfl), x_tb 900 (by decide +kernel) rfl, x_tb 23 (by decide +kernel) rfl, ⟨_, _, rfl⟩, by decide⟩
theorem lkX10_257 : IV RX10 257 iX8_firstWrong 5 8 := ⟨mfX8_firstWrong, Or.inl (x_tb 902 (by decide +kernel) rfl), x_tb 903 (by decide +kernel) rfl, x_tb 904 (by decide +kernel) rfl, ⟨_, _, rfl⟩, by decide⟩
theorem lkX8_26 : IV RX8 26 iX4_sizeOf 1 4 := ⟨mfX4_sizeOf, Or.inl (x_tb 906 (by decide +kernel) rfl), x_tb 907 (by decide +kernel) rfl, x_tb 908 (by decide +kernel) rfl, ⟨_, _, rfl⟩, by decide⟩
theorem lkX8_32 : IV RX8 32 iX4_at 2 4 := ⟨mfX4_at, Or.inl (x_tb 910 (by decide +kernel) rfl), x_tb 452 (by decide +kernel) rfl, x_tb 453 (by decide +kernel) rfl, ⟨_, _, rfl⟩, by decide⟩
theorem lkX8_36 : IV RX8 36 iX8_meant 1 8 := ⟨mfX8_meant, Or.inl (x_tb 911 (by decide +kernel) rfl), x_tb 913 (by decide +kernel) rfl, x_tb 24 (by decide +kernel) rfl, ⟨_, _, rfl⟩, by decide⟩
theorem lkX8_76 : IV RX8 76 iX5_all 0 5 := ⟨mfX5_all, Or.inl (x_tb 916 (by decide +kernel) rfl), x_tb 764 (by decide +kernel) rfl, x_tb 765 (by decide +kernel) rfl, ⟨_, _, rfl⟩, by decide⟩
theorem lkX8_53 : IV RX8 53 iX5_came 0 5 := ⟨mfX5_came, Or.inl (x_tb 917 (by decide +kernel) rfl), x_tb 781 (by decide +kernel) rfl, x_tb 782 (by decide +kernel) rfl, ⟨_, _, rfl⟩, by decide⟩
theorem lkX8_40 : IV RX8 40 iX5_outOfAny 1 5 := ⟨mfX5_outOfAny, Or.inl (x_tb 918 (by decide +kernel) rfl), x_tb 919 (by decide +kernel) rfl, x_tb 920 (by decide +kernel) rfl, ⟨_, _, rfl⟩, by decide⟩
theorem lkL_113 : IV RL 113 iX10_filled 3 10 := ⟨mfX10_filled, Or.inl (x_tb 922 (by decide +kernel) rfl), x_tb 923 (by decide +kernel) rfl, x_tb 924 (by decide +kernel) rfl, ⟨_, _, rfl⟩, by decide⟩
theorem lkX10_261 : IV RX10 261 iX8_countFillings 3 8 := ⟨mfX8_countFillings, Or.inl (x_tb 926 (by decide +kernel) rfl), x_tb 927 (by decide +kernel) rfl, x_tb 928 (by decide +kernel) rfl, ⟨_, _, rfl⟩, by decide⟩
theorem lkX8_57 : IS RX8 57 iX10_holds 2 := ⟨mfX10_holds, Or.inr ⟨"CutFromOthers", by decide⟩, x_tb 748 (by decide +kernel) rfl⟩
theorem lkX8_61 : IV RX8 61 iX8_goOn 1 8 := ⟨mfX8_goOn, Or.inl (x_tb 931 (by decide +kernel) rfl), x_tb 933 (by decide +kernel) rfl, x_tb 25 (by decide +kernel) rfl, ⟨_, _, rfl⟩, by decide⟩
theorem lkX8_71 : IV RX8 71 iX5_outOf 1 5 := ⟨mfX5_outOf, Or.inl (x_tb 935 (by decide +kernel) rfl), x_tb 744 (by decide +kernel) rfl, x_tb 745 (by decide +kernel) rfl, ⟨_, _, rfl⟩, by decide⟩
theorem lkX10_265 : IV RX10 265 iX8_firstFilling 3 8 := ⟨mfX8_firstFilling, Or.inl (x_tb 937 (by decide +kernel) rfl), x_tb 938 (by decide +kernel) rfl, x_tb 939 (by decide +kernel) rfl, ⟨_, _, rfl⟩, by decide⟩
theorem lkX8_49 : IS RX8 49 iX8_firstUnknown 2 := ⟨mfX8_firstUnknown, Or.inl (x_tb 941 (by decide +kernel) rfl), x_tb 942 (by decide +kernel) rfl⟩
theorem lkX8_45 : IV RX8 45 iX8_firstWrong 5 8 := ⟨mfX8_firstWrong, Or.inl (x_tb 944 (by decide +kernel) rfl), x_tb 903 (by decide +kernel) rfl, x_tb 904 (by decide +kernel) rfl, ⟨_, _, rfl⟩, by decide⟩
theorem lkL_117 : IV RL 117 iX10_last 2 10 := ⟨mfX10_last, Or.inl (x_tb 945 (by decide +kernel) rfl), x_tb 946 (by decide +kernel) rfl, x_tb 947 (by decide +kernel) rfl, ⟨_, _, rfl⟩, by decide⟩
theorem lkX10_268 : IV RX10 268 iX8_lastOnes 3 8 := ⟨mfX8_lastOnes, Or.inl (x_tb 949 (by decide +kernel) rfl), x_tb 950 (by decide +kernel) rfl, x_tb 951 (by decide +kernel) rfl, ⟨_, _, rfl⟩, by decide⟩
theorem lkL_121 : IV RL 121 iX10_drawn 4 10 := ⟨mfX10_drawn, Or.inl (x_tb 953 (by decide +kernel) rfl), x_tb 954 (by decide +kernel) rfl, x_tb 955 (by decide +kernel) rfl, ⟨_, _, rfl⟩, by decide⟩
theorem lkX10_271 : IV RX10 271 iX2_draw 4 2 := ⟨mfX2_draw, Or.inl (x_tb 957 (by decide +kernel) rfl), x_tb 958 (by decide +kernel) rfl, x_tb 959 (by decide +kernel) rfl, ⟨_, _, rfl⟩, by decide⟩
theorem lkX2_94 : IS RX2 94 iJ6_bitCount_0f7a4 1 := ⟨mfJ6_bitCount_0f7a4, Or.inl (x_tb 962 (by decide +kernel) rfl), x_tb 385 (by decide +kernel) rfl⟩
theorem lkX2_99 : IV RX2 99 iX2_nth 2 2 := ⟨mfX2_nth, Or.inl (x_tb 963 (by decide +kernel) rfl), x_tb 965 (by decide +kernel) rfl, x_tb 26 (by decide +kernel) rfl, ⟨_, _, rfl⟩, by decide⟩
theorem lkL_126 : IV RL 126 iX10_cut 1 10 := ⟨mfX10_cut, Or.inl (x_tb 967 (by decide +kernel) rfl), x_tb 968 (by decide +kernel) rfl, x_tb 969 (by decide +kernel) rfl, ⟨_, _, rfl⟩, by decide⟩
theorem lkX10_275 : IV RX10 275 iX1_shapeAt 1 1 := ⟨mfX1_shapeAt, Or.inl (x_tb 971 (by decide +kernel) rfl), x_tb 972 (by decide +kernel) rfl, x_tb 973 (by decide +kernel) rfl, ⟨_, _, rfl⟩, by decide⟩
theorem lkX10_278 : IV RX10 278 iX9_take 3 9 := ⟨mfX9_take, Or.inl (x_tb 975 (by decide +kernel) rfl), x_tb 976 (by decide +kernel) rfl, x_tb 977 (by decide +kernel) rfl, ⟨_, _, rfl⟩, by decide⟩
theorem lkX9_34 : IS RX9 34 iJ6_bitCount_0f7a4 1 := ⟨mfJ6_bitCount_0f7a4, Or.inl (x_tb 979 (by decide +kernel) rfl), x_tb 385 (by decide +kernel) rfl⟩
theorem lkL_130 : IV RL 130 iX10_pass 1 10 := ⟨mfX10_pass, Or.inl (x_tb 980 (by decide +kernel) rfl), x_tb 981 (by decide +kernel) rfl, x_tb 982 (by decide +kernel) rfl, ⟨_, _, rfl⟩, by decide⟩
theorem lkX10_280 : IV RX10 280 iX9_letPass 1 9 := ⟨mfX9_letPass, Or.inl (x_tb 984 (by decide +kernel) rfl), x_tb 985 (by decide +kernel) rfl, x_tb 986 (by decide +kernel) rfl, ⟨_, _, rfl⟩, by decide⟩
theorem lkL_134 : IV RL 134 iX10_led 1 10 := ⟨mfX10_led, Or.inl (x_tb 988 (by decide +kernel) rfl), x_tb 989 (by decide +kernel) rfl, x_tb 990 (by decide +kernel) rfl, ⟨_, _, rfl⟩, by decide⟩
theorem lkL_138 : IV RL 138 iX10_image 0 10 := ⟨mfX10_image, Or.inl (x_tb 992 (by decide +kernel) rfl), x_tb 993 (by decide +kernel) rfl, x_tb 994 (by decide +kernel) rfl, ⟨_, _, rfl⟩, by decide⟩
theorem lkX10_283 : IV RX10 283 iX9_store 0 9 := ⟨mfX9_store, Or.inl (x_tb 996 (by decide +kernel) rfl), x_tb 997 (by decide +kernel) rfl, x_tb 998 (by decide +kernel) rfl, ⟨_, _, rfl⟩, by decide⟩
theorem lkL_142 : IV RL 142 iX10_back 0 10 := ⟨mfX10_back, Or.inl (x_tb 1001 (by decide +kernel) rfl), x_tb 1002 (by decide +kernel) rfl, x_tb 1003 (by decide +kernel) rfl, ⟨_, _, rfl⟩, by decide⟩
theorem lkX10_286 : IV RX10 286 iX9_restore 0 9 := ⟨mfX9_restore, Or.inl (x_tb 1005 (by decide +kernel) rfl), x_tb 1006 (by decide +kernel) rfl, x_tb 1007 (by decide +kernel) rfl, ⟨_, _, rfl⟩, by decide⟩
theorem lkL_146 : IV RL 146 iX10_undo 0 10 := ⟨mfX10_undo, Or.inl (x_tb 1009 (by decide +kernel) rfl), x_tb 1010 (by decide +kernel) rfl, x_tb 1011 (by decide +kernel) rfl, ⟨_, _, rfl⟩, by decide⟩
theorem lkX10_290 : IV RX10 290 iX0_takeBack 1 0 := ⟨mfX0_takeBack, Or.inl (x_tb 1013 (by decide +kernel) rfl), x_tb 1014 (by decide +kernel) rfl, x_tb 1015 (by decide +kernel) rfl, ⟨_, _, rfl⟩, by decide⟩
theorem lkX0_28 : IV RX0 28 iX5_setTrait 3 5 := ⟨mfX5_setTrait, Or.inl (x_tb 1017 (by decide +kernel) rfl), x_tb 408 (by decide +kernel) rfl, x_tb 409 (by decide +kernel) rfl, ⟨_, _, rfl⟩, by decide⟩
theorem lkL_150 : IV RL 150 iX10_redo 0 10 := ⟨mfX10_redo, Or.inl (x_tb 1018 (by decide +kernel) rfl), x_tb 1019 (by decide +kernel) rfl, x_tb 1020 (by decide +kernel) rfl, ⟨_, _, rfl⟩, by decide⟩
theorem lkX10_294 : IV RX10 294 iX0_doAgain 1 0 := ⟨mfX0_doAgain, Or.inl (x_tb 1022 (by decide +kernel) rfl), x_tb 1023 (by decide +kernel) rfl, x_tb 1024 (by decide +kernel) rfl, ⟨_, _, rfl⟩, by decide⟩
theorem lkL_154 : IV RL 154 iX10_body 1 10 := ⟨mfX10_body, Or.inl (x_tb 1026 (by decide +kernel) rfl), x_tb 1027 (by decide +kernel) rfl, x_tb 1028 (by decide +kernel) rfl, ⟨_, _, rfl⟩, by decide⟩
theorem lkX10_297 : IV RX10 297 iX6_add 1 6 := ⟨mfX6_add, Or.inl (x_tb 1030 (by decide +kernel) rfl), x_tb 1031 (by decide +kernel) rfl, x_tb 1032 (by decide +kernel) rfl, ⟨_, _, rfl⟩, by decide⟩
theorem lkL_158 : IV RL 158 iX10_act 3 10 := ⟨mfX10_act, Or.inl (x_tb 1034 (by decide +kernel) rfl), x_tb 1035 (by decide +kernel) rfl, x_tb 1036 (by decide +kernel) rfl, ⟨_, _, rfl⟩, by decide⟩
theorem lkX10_298 : IV RX10 298 iX6_start 3 6 := ⟨mfX6_start, Or.inl (x_tb 1038 (by decide +kernel) rfl), x_tb 1039 (by decide +kernel) rfl, x_tb 1040 (by decide +kernel) rfl, ⟨_, _, rfl⟩, by decide⟩
theorem lkX6_34 : IV RX6 34 iX6_has 1 6 := ⟨mfX6_has, Or.inl (x_tb 1042 (by decide +kernel) rfl), x_tb 1043 (by decide +kernel) rfl, x_tb 1044 (by decide +kernel) rfl, ⟨_, _, rfl⟩, by decide⟩
theorem lkX6_38 : IV RX6 38 iX6_own 4 6 := ⟨mfX6_own, Or.inl (x_tb 1046 (by decide +kernel) rfl), x_tb 1048 (by decide +kernel) rfl, x_tb 27 (by decide +kernel) rfl, ⟨_, _, rfl⟩, by decide⟩
theorem lkX6_42 : IV RX6 42 iX6_answer 5 6 := ⟨mfX6_answer, Or.inl (x_tb 1050 (by decide +kernel) rfl), x_tb 1052 (by decide +kernel) rfl, x_tb 28 (by decide +kernel) rfl, ⟨_, _, rfl⟩, by decide⟩
theorem lkX6_49 : IV RX6 49 iX6_note 1 6 := ⟨mfX6_note, Or.inl (x_tb 1058 (by decide +kernel) rfl), x_tb 1060 (by decide +kernel) rfl, x_tb 29 (by decide +kernel) rfl, ⟨_, _, rfl⟩, by decide⟩
theorem lkL_162 : IV RL 162 iX10_trace 1 10 := ⟨mfX10_trace, Or.inl (x_tb 1062 (by decide +kernel) rfl), x_tb 1063 (by decide +kernel) rfl, x_tb 1064 (by decide +kernel) rfl, ⟨_, _, rfl⟩, by decide⟩
theorem lkX10_301 : IV RX10 301 iX6_traced 1 6 := ⟨mfX6_traced, Or.inl (x_tb 1066 (by decide +kernel) rfl), x_tb 1067 (by decide +kernel) rfl, x_tb 1068 (by decide +kernel) rfl, ⟨_, _, rfl⟩, by decide⟩
theorem lkL_166 : IV RL 166 iX10_keep 2 10 := ⟨mfX10_keep, Or.inl (x_tb 1071 (by decide +kernel) rfl), x_tb 1072 (by decide +kernel) rfl, x_tb 1073 (by decide +kernel) rfl, ⟨_, _, rfl⟩, by decide⟩
theorem lkX10_304 : IV RX10 304 iX6_has 1 6 := ⟨mfX6_has, Or.inl (x_tb 1075 (by decide +kernel) rfl), x_tb 1043 (by decide +kernel) rfl, x_tb 1044 (by decide +kernel) rfl, ⟨_, _, rfl⟩, by decide⟩
theorem lkX10_305 : IV RX10 305 iX4_set 3 4 := ⟨mfX4_set, Or.inl (x_tb 1076 (by decide +kernel) rfl), x_tb 1077 (by decide +kernel) rfl, x_tb 1078 (by decide +kernel) rfl, ⟨_, _, rfl⟩, by decide⟩
theorem lkL_170 : IV RL 170 iX10_row 3 10 := ⟨mfX10_row, Or.inl (x_tb 1080 (by decide +kernel) rfl), x_tb 1081 (by decide +kernel) rfl, x_tb 1082 (by decide +kernel) rfl, ⟨_, _, rfl⟩, by decide⟩
theorem lkX10_308 : IV RX10 308 iX4_empty 1 4 := ⟨mfX4_empty, Or.inl (x_tb 1084 (by decide +kernel) rfl), x_tb 1085 (by decide +kernel) rfl, x_tb 1086 (by decide +kernel) rfl, ⟨_, _, rfl⟩, by decide⟩
theorem lkL_176 : IV RL 176 iX10_put 3 10 := ⟨mfX10_put, Or.inl (x_tb 1088 (by decide +kernel) rfl), x_tb 1089 (by decide +kernel) rfl, x_tb 1090 (by decide +kernel) rfl, ⟨_, _, rfl⟩, by decide⟩
theorem lkX10_311 : IV RX10 311 iX10_refusalOfElement 2 10 := ⟨mfX10_refusalOfElement, Or.inl (x_tb 1092 (by decide +kernel) rfl), x_tb 1094 (by decide +kernel) rfl, x_tb 30 (by decide +kernel) rfl, ⟨_, _, rfl⟩, by decide⟩
theorem lkX10_326 : IV RX10 326 iX4_isRow 1 4 := ⟨mfX4_isRow, Or.inl (x_tb 1096 (by decide +kernel) rfl), x_tb 1097 (by decide +kernel) rfl, x_tb 1098 (by decide +kernel) rfl, ⟨_, _, rfl⟩, by decide⟩
theorem lkX10_314 : IV RX10 314 iX4_write 3 4 := ⟨mfX4_write, Or.inl (x_tb 1100 (by decide +kernel) rfl), x_tb 1101 (by decide +kernel) rfl, x_tb 1102 (by decide +kernel) rfl, ⟨_, _, rfl⟩, by decide⟩
theorem lkX4_20 : IS RX4 20 iX4_narrowed 2 := ⟨mfX4_narrowed, Or.inl (x_tb 1104 (by decide +kernel) rfl), x_tb 1105 (by decide +kernel) rfl⟩
theorem lkL_181 : IV RL 181 iX10_element 2 10 := ⟨mfX10_element, Or.inl (x_tb 1107 (by decide +kernel) rfl), x_tb 1108 (by decide +kernel) rfl, x_tb 1109 (by decide +kernel) rfl, ⟨_, _, rfl⟩, by decide⟩
theorem lkL_186 : IV RL 186 iX10_shift 5 10 := ⟨mfX10_shift, Or.inl (x_tb 1112 (by decide +kernel) rfl), x_tb 1113 (by decide +kernel) rfl, x_tb 1114 (by decide +kernel) rfl, ⟨_, _, rfl⟩, by decide⟩
theorem lkX10_333 : IV RX10 333 iX4_copy 5 4 := ⟨mfX4_copy, Or.inl (x_tb 1116 (by decide +kernel) rfl), x_tb 1117 (by decide +kernel) rfl, x_tb 1118 (by decide +kernel) rfl, ⟨_, _, rfl⟩, by decide⟩
theorem lkL_191 : IV RL 191 iX10_taken 2 10 := ⟨mfX10_taken, Or.inl (x_tb 1121 (by decide +kernel) rfl), x_tb 1122 (by decide +kernel) rfl, x_tb 1123 (by decide +kernel) rfl, ⟨_, _, rfl⟩, by decide⟩
theorem lkX10_337 : IV RX10 337 iX4_sizeOf 1 4 := ⟨mfX4_sizeOf, Or.inl (x_tb 1125 (by decide +kernel) rfl), x_tb 907 (by decide +kernel) rfl, x_tb 908 (by decide +kernel) rfl, ⟨_, _, rfl⟩, by decide⟩
theorem lkX10_340 : IV RX10 340 iX6_kindOf 1 6 := ⟨mfX6_kindOf, Or.inl (x_tb 1126 (by decide +kernel) rfl), x_tb 1127 (by decide +kernel) rfl, x_tb 1128 (by decide +kernel) rfl, ⟨_, _, rfl⟩, by decide⟩
theorem lkX10_343 : IS RX10 343 iX6_isUnder 2 := ⟨mfX6_isUnder, Or.inl (x_tb 1130 (by decide +kernel) rfl), x_tb 1131 (by decide +kernel) rfl⟩
theorem lkL_195 : IV RL 195 iX10_count 1 10 := ⟨mfX10_count, Or.inl (x_tb 1133 (by decide +kernel) rfl), x_tb 1134 (by decide +kernel) rfl, x_tb 1135 (by decide +kernel) rfl, ⟨_, _, rfl⟩, by decide⟩
theorem lkX10_346 : IV RX10 346 iX9_blocks 0 9 := ⟨mfX9_blocks, Or.inl (x_tb 1137 (by decide +kernel) rfl), x_tb 1138 (by decide +kernel) rfl, x_tb 1139 (by decide +kernel) rfl, ⟨_, _, rfl⟩, by decide⟩
theorem lkX10_349 : IV RX10 349 iX7_length 0 7 := ⟨mfX7_length, Or.inl (x_tb 1141 (by decide +kernel) rfl), x_tb 1142 (by decide +kernel) rfl, x_tb 1143 (by decide +kernel) rfl, ⟨_, _, rfl⟩, by decide⟩
theorem lkX10_352 : IV RX10 352 iX0_done 0 0 := ⟨mfX0_done, Or.inl (x_tb 1145 (by decide +kernel) rfl), x_tb 1146 (by decide +kernel) rfl, x_tb 1147 (by decide +kernel) rfl, ⟨_, _, rfl⟩, by decide⟩
theorem lkX10_355 : IV RX10 355 iX6_kept 0 6 := ⟨mfX6_kept, Or.inl (x_tb 1149 (by decide +kernel) rfl), x_tb 1150 (by decide +kernel) rfl, x_tb 1151 (by decide +kernel) rfl, ⟨_, _, rfl⟩, by decide⟩
theorem lkX10_358 : IV RX10 358 iX6_ran 0 6 := ⟨mfX6_ran, Or.inl (x_tb 1153 (by decide +kernel) rfl), x_tb 1154 (by decide +kernel) rfl, x_tb 1155 (by decide +kernel) rfl, ⟨_, _, rfl⟩, by decide⟩
theorem lkL_12 : II RL 12 iX11_init 0 := ⟨mfX11_init, Or.inl (x_tb 1159 (by decide +kernel) rfl), x_tb 1160 (by decide +kernel) rfl, rfl, rfl⟩
theorem lkL_17 : IV RL 17 iX11_figure 1 11 := ⟨mfX11_figure, Or.inl (x_tb 1314 (by decide +kernel) rfl), x_tb 1315 (by decide +kernel) rfl, x_tb 1316 (by decide +kernel) rfl, ⟨_, _, rfl⟩, by decide⟩
theorem lkX11_168 : IS RX11 168 iX11_isShape 1 := ⟨mfX11_isShape, Or.inl (x_tb 1318 (by decide +kernel) rfl), x_tb 1319 (by decide +kernel) rfl⟩
theorem lkX11_116 : IS RX11 116 iX11_within 3 := ⟨mfX11_within, Or.inl (x_tb 1322 (by decide +kernel) rfl), x_tb 1323 (by decide +kernel) rfl⟩
theorem lkX11_171 : IV RX11 171 iX11_newFigure 2 11 := ⟨mfX11_newFigure, Or.inl (x_tb 1325 (by decide +kernel) rfl), x_tb 1327 (by decide +kernel) rfl, x_tb 31 (by decide +kernel) rfl, ⟨_, _, rfl⟩, by decide⟩
theorem lkL_22 : IV RL 22 iX11_figures 3 11 := ⟨mfX11_figures, Or.inl (x_tb 1329 (by decide +kernel) rfl), x_tb 1330 (by decide +kernel) rfl, x_tb 1331 (by decide +kernel) rfl, ⟨_, _, rfl⟩, by decide⟩
theorem lkX11_174 : IS RX11 174 iX11_isShelf 1 := ⟨mfX11_isShelf, Or.inl (x_tb 1333 (by decide +kernel) rfl), x_tb 1334 (by decide +kernel) rfl⟩
theorem lkL_26 : IV RL 26 iX11_block 1 11 := ⟨mfX11_block, Or.inl (x_tb 1337 (by decide +kernel) rfl), x_tb 1338 (by decide +kernel) rfl, x_tb 1339 (by decide +kernel) rfl, ⟨_, _, rfl⟩, by decide⟩
theorem lkL_30 : IV RL 30 iX11_mend 3 11 := ⟨mfX11_mend, Or.inl (x_tb 1341 (by decide +kernel) rfl), x_tb 1342 (by decide +kernel) rfl, x_tb 1343 (by decide +kernel) rfl, ⟨_, _, rfl⟩, by decide⟩
theorem lkX11_127 : IV RX11 127 iX11_isFigure 1 11 := ⟨mfX11_isFigure, Or.inl (x_tb 1345 (by decide +kernel) rfl), x_tb 1347 (by decide +kernel) rfl, x_tb 32 (by decide +kernel) rfl, ⟨_, _, rfl⟩, by decide⟩
theorem lkX11_179 : IV RX11 179 iX11_get 2 11 := ⟨mfX11_get, Or.inl (x_tb 1349 (by decide +kernel) rfl), x_tb 1351 (by decide +kernel) rfl, x_tb 33 (by decide +kernel) rfl, ⟨_, _, rfl⟩, by decide⟩
theorem lkX11_182 : IV RX11 182 iX11_becomes 3 11 := ⟨mfX11_becomes, Or.inl (x_tb 1353 (by decide +kernel) rfl), x_tb 1355 (by decide +kernel) rfl, x_tb 34 (by decide +kernel) rfl, ⟨_, _, rfl⟩, by decide⟩
theorem lkL_35 : IV RL 35 iX11_of 2 11 := ⟨mfX11_of, Or.inl (x_tb 1357 (by decide +kernel) rfl), x_tb 1358 (by decide +kernel) rfl, x_tb 1359 (by decide +kernel) rfl, ⟨_, _, rfl⟩, by decide⟩
theorem lkX11_123 : IV RX11 123 iX11_isBlock 1 11 := ⟨mfX11_isBlock, Or.inl (x_tb 1361 (by decide +kernel) rfl), x_tb 1363 (by decide +kernel) rfl, x_tb 35 (by decide +kernel) rfl, ⟨_, _, rfl⟩, by decide⟩
theorem lkL_149 : IV RL 149 iX11_undo 0 11 := ⟨mfX11_undo, Or.inl (x_tb 1365 (by decide +kernel) rfl), x_tb 1366 (by decide +kernel) rfl, x_tb 1367 (by decide +kernel) rfl, ⟨_, _, rfl⟩, by decide⟩
theorem lkL_153 : IV RL 153 iX11_redo 0 11 := ⟨mfX11_redo, Or.inl (x_tb 1369 (by decide +kernel) rfl), x_tb 1370 (by decide +kernel) rfl, x_tb 1371 (by decide +kernel) rfl, ⟨_, _, rfl⟩, by decide⟩
theorem lkL_39 : IV RL 39 iX11_feed 1 11 := ⟨mfX11_feed, Or.inl (x_tb 1373 (by decide +kernel) rfl), x_tb 1374 (by decide +kernel) rfl, x_tb 1375 (by decide +kernel) rfl, ⟨_, _, rfl⟩, by decide⟩
theorem lkL_44 : IV RL 44 iX11_law 0 11 := ⟨mfX11_law, Or.inl (x_tb 1377 (by decide +kernel) rfl), x_tb 1378 (by decide +kernel) rfl, x_tb 1379 (by decide +kernel) rfl, ⟨_, _, rfl⟩, by decide⟩
theorem lkX11_245 : IV RX11 245 iX11_isLine 0 11 := ⟨mfX11_isLine, Or.inl (x_tb 1381 (by decide +kernel) rfl), x_tb 1383 (by decide +kernel) rfl, x_tb 36 (by decide +kernel) rfl, ⟨_, _, rfl⟩, by decide⟩
theorem lkX11_227 : IV RX11 227 iX11_isE 0 11 := ⟨mfX11_isE, Or.inl (x_tb 1385 (by decide +kernel) rfl), x_tb 1387 (by decide +kernel) rfl, x_tb 37 (by decide +kernel) rfl, ⟨_, _, rfl⟩, by decide⟩
theorem lkX11_239 : IV RX11 239 iX11_isA 0 11 := ⟨mfX11_isA, Or.inl (x_tb 1389 (by decide +kernel) rfl), x_tb 1391 (by decide +kernel) rfl, x_tb 38 (by decide +kernel) rfl, ⟨_, _, rfl⟩, by decide⟩
theorem lkX11_236 : IV RX11 236 iX11_isB 0 11 := ⟨mfX11_isB, Or.inl (x_tb 1393 (by decide +kernel) rfl), x_tb 1395 (by decide +kernel) rfl, x_tb 39 (by decide +kernel) rfl, ⟨_, _, rfl⟩, by decide⟩
theorem lkX11_233 : IV RX11 233 iX11_isS 0 11 := ⟨mfX11_isS, Or.inl (x_tb 1397 (by decide +kernel) rfl), x_tb 1399 (by decide +kernel) rfl, x_tb 40 (by decide +kernel) rfl, ⟨_, _, rfl⟩, by decide⟩
theorem lkX11_230 : IV RX11 230 iX11_isP 0 11 := ⟨mfX11_isP, Or.inl (x_tb 1401 (by decide +kernel) rfl), x_tb 1403 (by decide +kernel) rfl, x_tb 41 (by decide +kernel) rfl, ⟨_, _, rfl⟩, by decide⟩
theorem lkX11_224 : IV RX11 224 iX11_isO 0 11 := ⟨mfX11_isO, Or.inl (x_tb 1405 (by decide +kernel) rfl), x_tb 1407 (by decide +kernel) rfl, x_tb 42 (by decide +kernel) rfl, ⟨_, _, rfl⟩, by decide⟩
theorem lkX11_208 : IV RX11 208 iX11_isDigit 0 11 := ⟨mfX11_isDigit, Or.inl (x_tb 1409 (by decide +kernel) rfl), x_tb 1411 (by decide +kernel) rfl, x_tb 43 (by decide +kernel) rfl, ⟨_, _, rfl⟩, by decide⟩
theorem lkX11_201 : IV RX11 201 iX11_sign 0 11 := ⟨mfX11_sign, Or.inl (x_tb 1413 (by decide +kernel) rfl), x_tb 1415 (by decide +kernel) rfl, x_tb 44 (by decide +kernel) rfl, ⟨_, _, rfl⟩, by decide⟩
theorem lkX11_212 : IV RX11 212 iX11_codes 1 11 := ⟨mfX11_codes, Or.inl (x_tb 1417 (by decide +kernel) rfl), x_tb 1419 (by decide +kernel) rfl, x_tb 45 (by decide +kernel) rfl, ⟨_, _, rfl⟩, by decide⟩
theorem lkX11_215 : IS RX11 215 iX11_nameOf 1 := ⟨mfX11_nameOf, Or.inl (x_tb 1421 (by decide +kernel) rfl), x_tb 1422 (by decide +kernel) rfl⟩
theorem lkX11_221 : IV RX11 221 iX11_is 1 11 := ⟨mfX11_is, Or.inl (x_tb 1424 (by decide +kernel) rfl), x_tb 1426 (by decide +kernel) rfl, x_tb 46 (by decide +kernel) rfl, ⟨_, _, rfl⟩, by decide⟩
theorem lkL_48 : IV RL 48 iX11_brings 3 11 := ⟨mfX11_brings, Or.inl (x_tb 1428 (by decide +kernel) rfl), x_tb 1429 (by decide +kernel) rfl, x_tb 1430 (by decide +kernel) rfl, ⟨_, _, rfl⟩, by decide⟩
theorem lkX11_272 : IS RX11 272 iX11_isYear 1 := ⟨mfX11_isYear, Or.inl (x_tb 1432 (by decide +kernel) rfl), x_tb 1433 (by decide +kernel) rfl⟩
theorem lkX11_275 : IV RX11 275 iX11_bringsIn 3 11 := ⟨mfX11_bringsIn, Or.inl (x_tb 1435 (by decide +kernel) rfl), x_tb 1437 (by decide +kernel) rfl, x_tb 47 (by decide +kernel) rfl, ⟨_, _, rfl⟩, by decide⟩
theorem lkX11_156 : IS RX11 156 iX11_cells 1 := ⟨mfX11_cells, Or.inl (x_tb 1440 (by decide +kernel) rfl), x_tb 1441 (by decide +kernel) rfl⟩
theorem lkX11_131 : IS RX11 131 iJ6_bitCount_0f7a4 1 := ⟨mfJ6_bitCount_0f7a4, Or.inl (x_tb 1443 (by decide +kernel) rfl), x_tb 385 (by decide +kernel) rfl⟩
theorem lkX11_266 : IV RX11 266 iX11_worked 2 11 := ⟨mfX11_worked, Or.inl (x_tb 1445 (by decide +kernel) rfl), x_tb 1447 (by decide +kernel) rfl, x_tb 48 (by decide +kernel) rfl, ⟨_, _, rfl⟩, by decide⟩
theorem lkX11_255 : IS RX11 255 iX11_both 3 := ⟨mfX11_both, Or.inl (x_tb 1449 (by decide +kernel) rfl), x_tb 1450 (by decide +kernel) rfl⟩
theorem lkL_52 : IV RL 52 iX11_size 2 11 := ⟨mfX11_size, Or.inl (x_tb 1453 (by decide +kernel) rfl), x_tb 1454 (by decide +kernel) rfl, x_tb 1455 (by decide +kernel) rfl, ⟨_, _, rfl⟩, by decide⟩
theorem lkX11_145 : IS RX11 145 iX11_pushed 1 := ⟨mfX11_pushed, Or.inl (x_tb 1457 (by decide +kernel) rfl), x_tb 1458 (by decide +kernel) rfl⟩
theorem lkL_56 : IV RL 56 iX11_turned 2 11 := ⟨mfX11_turned, Or.inl (x_tb 1461 (by decide +kernel) rfl), x_tb 1462 (by decide +kernel) rfl, x_tb 1463 (by decide +kernel) rfl, ⟨_, _, rfl⟩, by decide⟩
theorem lkX11_148 : IS RX11 148 iX11_turnedBy 2 := ⟨mfX11_turnedBy, Or.inl (x_tb 1465 (by decide +kernel) rfl), x_tb 1466 (by decide +kernel) rfl⟩
theorem lkX11_142 : IS RX11 142 iX11_turnedOnce 1 := ⟨mfX11_turnedOnce, Or.inl (x_tb 1468 (by decide +kernel) rfl), x_tb 1469 (by decide +kernel) rfl⟩
theorem lkX11_138 : IS RX11 138 iX11_has 2 := ⟨mfX11_has, Or.inl (x_tb 1471 (by decide +kernel) rfl), x_tb 1472 (by decide +kernel) rfl⟩
theorem lkL_60 : IV RL 60 iX11_ways 2 11 := ⟨mfX11_ways, Or.inl (x_tb 1474 (by decide +kernel) rfl), x_tb 1475 (by decide +kernel) rfl, x_tb 1476 (by decide +kernel) rfl, ⟨_, _, rfl⟩, by decide⟩
theorem lkX11_278 : IV RX11 278 iX11_isIn 1 11 := ⟨mfX11_isIn, Or.inl (x_tb 1478 (by decide +kernel) rfl), x_tb 1480 (by decide +kernel) rfl, x_tb 49 (by decide +kernel) rfl, ⟨_, _, rfl⟩, by decide⟩
theorem lkX11_159 : IS RX11 159 iX11_waysIn 3 := ⟨mfX11_waysIn, Or.inl (x_tb 1482 (by decide +kernel) rfl), x_tb 1483 (by decide +kernel) rfl⟩
theorem lkX11_152 : IS RX11 152 iX11_moved 3 := ⟨mfX11_moved, Or.inl (x_tb 1485 (by decide +kernel) rfl), x_tb 1486 (by decide +kernel) rfl⟩
theorem lkX11_162 : IS RX11 162 iX11_isCutOf 2 := ⟨mfX11_isCutOf, Or.inl (x_tb 1488 (by decide +kernel) rfl), x_tb 1489 (by decide +kernel) rfl⟩
theorem lkL_64 : IV RL 64 iX11_inside 1 11 := ⟨mfX11_inside, Or.inl (x_tb 1491 (by decide +kernel) rfl), x_tb 1492 (by decide +kernel) rfl, x_tb 1493 (by decide +kernel) rfl, ⟨_, _, rfl⟩, by decide⟩
theorem lkX11_281 : IV RX11 281 iX11_areTwo 1 11 := ⟨mfX11_areTwo, Or.inl (x_tb 1495 (by decide +kernel) rfl), x_tb 1497 (by decide +kernel) rfl, x_tb 50 (by decide +kernel) rfl, ⟨_, _, rfl⟩, by decide⟩
theorem lkL_68 : IV RL 68 iX11_around 2 11 := ⟨mfX11_around, Or.inl (x_tb 1499 (by decide +kernel) rfl), x_tb 1500 (by decide +kernel) rfl, x_tb 1501 (by decide +kernel) rfl, ⟨_, _, rfl⟩, by decide⟩
theorem lkX11_165 : IV RX11 165 iX11_cutOf 1 11 := ⟨mfX11_cutOf, Or.inl (x_tb 1503 (by decide +kernel) rfl), x_tb 1505 (by decide +kernel) rfl, x_tb 51 (by decide +kernel) rfl, ⟨_, _, rfl⟩, by decide⟩
theorem lkL_72 : IV RL 72 iX11_common 1 11 := ⟨mfX11_common, Or.inl (x_tb 1507 (by decide +kernel) rfl), x_tb 1508 (by decide +kernel) rfl, x_tb 1509 (by decide +kernel) rfl, ⟨_, _, rfl⟩, by decide⟩
theorem lkL_76 : IV RL 76 iX11_longest 2 11 := ⟨mfX11_longest, Or.inl (x_tb 1511 (by decide +kernel) rfl), x_tb 1512 (by decide +kernel) rfl, x_tb 1513 (by decide +kernel) rfl, ⟨_, _, rfl⟩, by decide⟩
theorem lkX11_287 : IV RX11 287 iX11_looks 1 11 := ⟨mfX11_looks, Or.inl (x_tb 1515 (by decide +kernel) rfl), x_tb 1517 (by decide +kernel) rfl, x_tb 52 (by decide +kernel) rfl, ⟨_, _, rfl⟩, by decide⟩
theorem lkX11_291 : IV RX11 291 iX11_longestOf 1 11 := ⟨mfX11_longestOf, Or.inl (x_tb 1519 (by decide +kernel) rfl), x_tb 1521 (by decide +kernel) rfl, x_tb 53 (by decide +kernel) rfl, ⟨_, _, rfl⟩, by decide⟩
theorem lkX11_284 : IV RX11 284 iX11_mostOf 2 11 := ⟨mfX11_mostOf, Or.inl (x_tb 1523 (by decide +kernel) rfl), x_tb 1525 (by decide +kernel) rfl, x_tb 54 (by decide +kernel) rfl, ⟨_, _, rfl⟩, by decide⟩
theorem lkX11_294 : IV RX11 294 iX11_firstOf 2 11 := ⟨mfX11_firstOf, Or.inl (x_tb 1527 (by decide +kernel) rfl), x_tb 1529 (by decide +kernel) rfl, x_tb 55 (by decide +kernel) rfl, ⟨_, _, rfl⟩, by decide⟩
theorem lkL_80 : IV RL 80 iX11_richest 3 11 := ⟨mfX11_richest, Or.inl (x_tb 1531 (by decide +kernel) rfl), x_tb 1532 (by decide +kernel) rfl, x_tb 1533 (by decide +kernel) rfl, ⟨_, _, rfl⟩, by decide⟩
theorem lkX11_297 : IV RX11 297 iX11_rich 3 11 := ⟨mfX11_rich, Or.inl (x_tb 1535 (by decide +kernel) rfl), x_tb 1537 (by decide +kernel) rfl, x_tb 56 (by decide +kernel) rfl, ⟨_, _, rfl⟩, by decide⟩
theorem lkX11_300 : IV RX11 300 iX11_nextRich 3 11 := ⟨mfX11_nextRich, Or.inl (x_tb 1539 (by decide +kernel) rfl), x_tb 1541 (by decide +kernel) rfl, x_tb 57 (by decide +kernel) rfl, ⟨_, _, rfl⟩, by decide⟩
theorem lkL_84 : IV RL 84 iX11_with 2 11 := ⟨mfX11_with, Or.inl (x_tb 1543 (by decide +kernel) rfl), x_tb 1544 (by decide +kernel) rfl, x_tb 1545 (by decide +kernel) rfl, ⟨_, _, rfl⟩, by decide⟩
theorem lkX11_306 : IV RX11 306 iX11_through 2 11 := ⟨mfX11_through, Or.inl (x_tb 1547 (by decide +kernel) rfl), x_tb 1549 (by decide +kernel) rfl, x_tb 58 (by decide +kernel) rfl, ⟨_, _, rfl⟩, by decide⟩
theorem lkX11_303 : IV RX11 303 iX11_between 2 11 := ⟨mfX11_between, Or.inl (x_tb 1551 (by decide +kernel) rfl), x_tb 1553 (by decide +kernel) rfl, x_tb 59 (by decide +kernel) rfl, ⟨_, _, rfl⟩, by decide⟩
theorem lkL_88 : IV RL 88 iX11_spare 2 11 := ⟨mfX11_spare, Or.inl (x_tb 1555 (by decide +kernel) rfl), x_tb 1556 (by decide +kernel) rfl, x_tb 1557 (by decide +kernel) rfl, ⟨_, _, rfl⟩, by decide⟩
theorem lkL_92 : IV RL 92 iX11_when 2 11 := ⟨mfX11_when, Or.inl (x_tb 1559 (by decide +kernel) rfl), x_tb 1560 (by decide +kernel) rfl, x_tb 1561 (by decide +kernel) rfl, ⟨_, _, rfl⟩, by decide⟩
theorem lkL_96 : IV RL 96 iX11_smallest 2 11 := ⟨mfX11_smallest, Or.inl (x_tb 1563 (by decide +kernel) rfl), x_tb 1564 (by decide +kernel) rfl, x_tb 1565 (by decide +kernel) rfl, ⟨_, _, rfl⟩, by decide⟩
theorem lkX11_309 : IS RX11 309 iX11_isWay 1 := ⟨mfX11_isWay, Or.inl (x_tb 1567 (by decide +kernel) rfl), x_tb 1568 (by decide +kernel) rfl⟩
theorem lkX11_312 : IS RX11 312 iX11_placed 2 := ⟨mfX11_placed, Or.inl (x_tb 1570 (by decide +kernel) rfl), x_tb 1571 (by decide +kernel) rfl⟩
theorem lkL_100 : IV RL 100 iX11_leave 2 11 := ⟨mfX11_leave, Or.inl (x_tb 1573 (by decide +kernel) rfl), x_tb 1574 (by decide +kernel) rfl, x_tb 1575 (by decide +kernel) rfl, ⟨_, _, rfl⟩, by decide⟩
theorem lkL_104 : IV RL 104 iX11_byTurns 2 11 := ⟨mfX11_byTurns, Or.inl (x_tb 1577 (by decide +kernel) rfl), x_tb 1578 (by decide +kernel) rfl, x_tb 1579 (by decide +kernel) rfl, ⟨_, _, rfl⟩, by decide⟩
theorem lkX11_315 : IV RX11 315 iX11_plays 1 11 := ⟨mfX11_plays, Or.inl (x_tb 1581 (by decide +kernel) rfl), x_tb 1583 (by decide +kernel) rfl, x_tb 60 (by decide +kernel) rfl, ⟨_, _, rfl⟩, by decide⟩
theorem lkL_108 : IV RL 108 iX11_egg 2 11 := ⟨mfX11_egg, Or.inl (x_tb 1585 (by decide +kernel) rfl), x_tb 1586 (by decide +kernel) rfl, x_tb 1587 (by decide +kernel) rfl, ⟨_, _, rfl⟩, by decide⟩
theorem lkL_112 : IV RL 112 iX11_judge 2 11 := ⟨mfX11_judge, Or.inl (x_tb 1589 (by decide +kernel) rfl), x_tb 1590 (by decide +kernel) rfl, x_tb 1591 (by decide +kernel) rfl, ⟨_, _, rfl⟩, by decide⟩
theorem lkX11_327 : IV RX11 327 iX11_noRow 1 11 := ⟨mfX11_noRow, Or.inl (x_tb 1593 (by decide +kernel) rfl), x_tb 1595 (by decide +kernel) rfl, x_tb 61 (by decide +kernel) rfl, ⟨_, _, rfl⟩, by decide⟩
theorem lkX11_330 : IV RX11 330 iX11_canBe 2 11 := ⟨mfX11_canBe, Or.inl (x_tb 1597 (by decide +kernel) rfl), x_tb 1599 (by decide +kernel) rfl, x_tb 62 (by decide +kernel) rfl, ⟨_, _, rfl⟩, by decide⟩
theorem lkX11_321 : IV RX11 321 iX11_asTold 3 11 := ⟨mfX11_asTold, Or.inl (x_tb 1601 (by decide +kernel) rfl), x_tb 1603 (by decide +kernel) rfl, x_tb 63 (by decide +kernel) rfl, ⟨_, _, rfl⟩, by decide⟩
theorem lkX11_318 : IV RX11 318 iX11_toldAt 2 11 := ⟨mfX11_toldAt, Or.inl (x_tb 1605 (by decide +kernel) rfl), x_tb 1607 (by decide +kernel) rfl, x_tb 64 (by decide +kernel) rfl, ⟨_, _, rfl⟩, by decide⟩
theorem lkX11_324 : IV RX11 324 iX11_nextOf 1 11 := ⟨mfX11_nextOf, Or.inl (x_tb 1609 (by decide +kernel) rfl), x_tb 1611 (by decide +kernel) rfl, x_tb 65 (by decide +kernel) rfl, ⟨_, _, rfl⟩, by decide⟩
theorem lkL_116 : IV RL 116 iX11_filled 3 11 := ⟨mfX11_filled, Or.inl (x_tb 1613 (by decide +kernel) rfl), x_tb 1614 (by decide +kernel) rfl, x_tb 1615 (by decide +kernel) rfl, ⟨_, _, rfl⟩, by decide⟩
theorem lkX11_333 : IV RX11 333 iX11_waysOn 3 11 := ⟨mfX11_waysOn, Or.inl (x_tb 1617 (by decide +kernel) rfl), x_tb 1619 (by decide +kernel) rfl, x_tb 66 (by decide +kernel) rfl, ⟨_, _, rfl⟩, by decide⟩
theorem lkX11_336 : IV RX11 336 iX11_firstUnknown 1 11 := ⟨mfX11_firstUnknown, Or.inl (x_tb 1621 (by decide +kernel) rfl), x_tb 1623 (by decide +kernel) rfl, x_tb 67 (by decide +kernel) rfl, ⟨_, _, rfl⟩, by decide⟩
theorem lkL_120 : IV RL 120 iX11_last 2 11 := ⟨mfX11_last, Or.inl (x_tb 1625 (by decide +kernel) rfl), x_tb 1626 (by decide +kernel) rfl, x_tb 1627 (by decide +kernel) rfl, ⟨_, _, rfl⟩, by decide⟩
theorem lkL_125 : IV RL 125 iX11_drawn 4 11 := ⟨mfX11_drawn, Or.inl (x_tb 1629 (by decide +kernel) rfl), x_tb 1630 (by decide +kernel) rfl, x_tb 1631 (by decide +kernel) rfl, ⟨_, _, rfl⟩, by decide⟩
theorem lkX11_340 : IS RX11 340 iX11_pick 2 := ⟨mfX11_pick, Or.inl (x_tb 1634 (by decide +kernel) rfl), x_tb 1635 (by decide +kernel) rfl⟩
theorem lkL_129 : IV RL 129 iX11_cut 1 11 := ⟨mfX11_cut, Or.inl (x_tb 1637 (by decide +kernel) rfl), x_tb 1638 (by decide +kernel) rfl, x_tb 1639 (by decide +kernel) rfl, ⟨_, _, rfl⟩, by decide⟩
theorem lkL_133 : IV RL 133 iX11_pass 1 11 := ⟨mfX11_pass, Or.inl (x_tb 1641 (by decide +kernel) rfl), x_tb 1642 (by decide +kernel) rfl, x_tb 1643 (by decide +kernel) rfl, ⟨_, _, rfl⟩, by decide⟩
theorem lkL_137 : IV RL 137 iX11_led 1 11 := ⟨mfX11_led, Or.inl (x_tb 1645 (by decide +kernel) rfl), x_tb 1646 (by decide +kernel) rfl, x_tb 1647 (by decide +kernel) rfl, ⟨_, _, rfl⟩, by decide⟩
theorem lkL_141 : IV RL 141 iX11_image 0 11 := ⟨mfX11_image, Or.inl (x_tb 1649 (by decide +kernel) rfl), x_tb 1650 (by decide +kernel) rfl, x_tb 1651 (by decide +kernel) rfl, ⟨_, _, rfl⟩, by decide⟩
theorem lkL_145 : IV RL 145 iX11_back 0 11 := ⟨mfX11_back, Or.inl (x_tb 1653 (by decide +kernel) rfl), x_tb 1654 (by decide +kernel) rfl, x_tb 1655 (by decide +kernel) rfl, ⟨_, _, rfl⟩, by decide⟩
theorem lkL_157 : IV RL 157 iX11_body 1 11 := ⟨mfX11_body, Or.inl (x_tb 1657 (by decide +kernel) rfl), x_tb 1658 (by decide +kernel) rfl, x_tb 1659 (by decide +kernel) rfl, ⟨_, _, rfl⟩, by decide⟩
theorem lkL_161 : IV RL 161 iX11_act 3 11 := ⟨mfX11_act, Or.inl (x_tb 1661 (by decide +kernel) rfl), x_tb 1662 (by decide +kernel) rfl, x_tb 1663 (by decide +kernel) rfl, ⟨_, _, rfl⟩, by decide⟩
theorem lkX11_358 : IV RX11 358 iX11_cutsBy 3 11 := ⟨mfX11_cutsBy, Or.inl (x_tb 1665 (by decide +kernel) rfl), x_tb 1667 (by decide +kernel) rfl, x_tb 68 (by decide +kernel) rfl, ⟨_, _, rfl⟩, by decide⟩
theorem lkX11_355 : IV RX11 355 iX11_ran 1 11 := ⟨mfX11_ran, Or.inl (x_tb 1669 (by decide +kernel) rfl), x_tb 1671 (by decide +kernel) rfl, x_tb 69 (by decide +kernel) rfl, ⟨_, _, rfl⟩, by decide⟩
theorem lkX11_361 : IS RX11 361 iX11_above 1 := ⟨mfX11_above, Or.inl (x_tb 1673 (by decide +kernel) rfl), x_tb 1674 (by decide +kernel) rfl⟩
theorem lkX11_364 : IV RX11 364 iX11_holdsBy 3 11 := ⟨mfX11_holdsBy, Or.inl (x_tb 1676 (by decide +kernel) rfl), x_tb 1678 (by decide +kernel) rfl, x_tb 70 (by decide +kernel) rfl, ⟨_, _, rfl⟩, by decide⟩
theorem lkX11_367 : IV RX11 367 iX11_leavesBy 3 11 := ⟨mfX11_leavesBy, Or.inl (x_tb 1680 (by decide +kernel) rfl), x_tb 1682 (by decide +kernel) rfl, x_tb 71 (by decide +kernel) rfl, ⟨_, _, rfl⟩, by decide⟩
theorem lkX11_370 : IV RX11 370 iX11_tells 3 11 := ⟨mfX11_tells, Or.inl (x_tb 1684 (by decide +kernel) rfl), x_tb 1686 (by decide +kernel) rfl, x_tb 72 (by decide +kernel) rfl, ⟨_, _, rfl⟩, by decide⟩
theorem lkL_165 : IV RL 165 iX11_trace 1 11 := ⟨mfX11_trace, Or.inl (x_tb 1688 (by decide +kernel) rfl), x_tb 1689 (by decide +kernel) rfl, x_tb 1690 (by decide +kernel) rfl, ⟨_, _, rfl⟩, by decide⟩
theorem lkL_169 : IV RL 169 iX11_keep 2 11 := ⟨mfX11_keep, Or.inl (x_tb 1692 (by decide +kernel) rfl), x_tb 1693 (by decide +kernel) rfl, x_tb 1694 (by decide +kernel) rfl, ⟨_, _, rfl⟩, by decide⟩
theorem lkL_173 : IV RL 173 iX11_row 3 11 := ⟨mfX11_row, Or.inl (x_tb 1696 (by decide +kernel) rfl), x_tb 1697 (by decide +kernel) rfl, x_tb 1698 (by decide +kernel) rfl, ⟨_, _, rfl⟩, by decide⟩
theorem lkL_180 : IV RL 180 iX11_put 3 11 := ⟨mfX11_put, Or.inl (x_tb 1700 (by decide +kernel) rfl), x_tb 1701 (by decide +kernel) rfl, x_tb 1702 (by decide +kernel) rfl, ⟨_, _, rfl⟩, by decide⟩
theorem lkX11_376 : IV RX11 376 iX11_isRow 1 11 := ⟨mfX11_isRow, Or.inl (x_tb 1704 (by decide +kernel) rfl), x_tb 1706 (by decide +kernel) rfl, x_tb 73 (by decide +kernel) rfl, ⟨_, _, rfl⟩, by decide⟩
theorem lkX11_379 : IS RX11 379 iX11_kept 2 := ⟨mfX11_kept, Or.inl (x_tb 1708 (by decide +kernel) rfl), x_tb 1709 (by decide +kernel) rfl⟩
theorem lkL_185 : IV RL 185 iX11_element 2 11 := ⟨mfX11_element, Or.inl (x_tb 1711 (by decide +kernel) rfl), x_tb 1712 (by decide +kernel) rfl, x_tb 1713 (by decide +kernel) rfl, ⟨_, _, rfl⟩, by decide⟩
theorem lkL_190 : IV RL 190 iX11_shift 5 11 := ⟨mfX11_shift, Or.inl (x_tb 1716 (by decide +kernel) rfl), x_tb 1717 (by decide +kernel) rfl, x_tb 1718 (by decide +kernel) rfl, ⟨_, _, rfl⟩, by decide⟩
theorem lkL_194 : IV RL 194 iX11_taken 2 11 := ⟨mfX11_taken, Or.inl (x_tb 1720 (by decide +kernel) rfl), x_tb 1721 (by decide +kernel) rfl, x_tb 1722 (by decide +kernel) rfl, ⟨_, _, rfl⟩, by decide⟩
theorem lkL_198 : IV RL 198 iX11_count 1 11 := ⟨mfX11_count, Or.inl (x_tb 1724 (by decide +kernel) rfl), x_tb 1725 (by decide +kernel) rfl, x_tb 1726 (by decide +kernel) rfl, ⟨_, _, rfl⟩, by decide⟩
theorem lkX10_1 : Cond.methodLink RX10 1 Lib.objectInit ∈ x_tbl := x_tb 100 (by decide +kernel) rfl
theorem lkX5_3 : Cond.methodLink RX5 3 Lib.objectInit ∈ x_tbl := x_tb 108 (by decide +kernel) rfl
theorem lkX1_3 : Cond.methodLink RX1 3 Lib.objectInit ∈ x_tbl := x_tb 115 (by decide +kernel) rfl
theorem lkX7_3 : Cond.methodLink RX7 3 Lib.objectInit ∈ x_tbl := x_tb 163 (by decide +kernel) rfl
theorem lkX3_1 : Cond.methodLink RX3 1 Lib.objectInit ∈ x_tbl := x_tb 185 (by decide +kernel) rfl
theorem lkX2_3 : Cond.methodLink RX2 3 Lib.objectInit ∈ x_tbl := x_tb 207 (by decide +kernel) rfl
theorem lkX8_3 : Cond.methodLink RX8 3 Lib.objectInit ∈ x_tbl := x_tb 235 (by decide +kernel) rfl
theorem lkX9_3 : Cond.methodLink RX9 3 Lib.objectInit ∈ x_tbl := x_tb 254 (by decide +kernel) rfl
theorem lkX0_3 : Cond.methodLink RX0 3 Lib.objectInit ∈ x_tbl := x_tb 288 (by decide +kernel) rfl
theorem lkX6_3 : Cond.methodLink RX6 3 Lib.objectInit ∈ x_tbl := x_tb 304 (by decide +kernel) rfl
theorem lkX4_1 : Cond.methodLink RX4 1 Lib.objectInit ∈ x_tbl := x_tb 323 (by decide +kernel) rfl
theorem lkX0_19 : Cond.methodLink RX0 19 arraycopyName ∈ x_tbl := x_tb 482 (by decide +kernel) rfl
theorem lkJ1_92 : Cond.methodLink RJ1 92 Lib.Math.max.name ∈ x_tbl := x_tb 582 (by decide +kernel) rfl
theorem lkJ1_38 : Cond.methodLink RJ1 38 Lib.Math.min.name ∈ x_tbl := x_tb 585 (by decide +kernel) rfl
end
section
theorem lkJ2_224 : Cond.methodLink RJ2 224 Lib.Math.max.name ∈ x_tbl := x_tb 594 (by decide +kernel) rfl
theorem lkJ2_183 : Cond.methodLink RJ2 183 Lib.Math.min.name ∈ x_tbl := x_tb 595 (by decide +kernel) rfl
theorem lkX7_36 : Cond.methodLink RX7 36 arraycopyName ∈ x_tbl := x_tb 664 (by decide +kernel) rfl
theorem lkX3_35 : Cond.methodLink RX3 35 Lib.Math.abs.name ∈ x_tbl := x_tb 678 (by decide +kernel) rfl
theorem lkX3_41 : Cond.methodLink RX3 41 Lib.Math.max.name ∈ x_tbl := x_tb 681 (by decide +kernel) rfl
theorem lkX3_57 : Cond.methodLink RX3 57 Lib.Math.min.name ∈ x_tbl := x_tb 705 (by decide +kernel) rfl
theorem lkX2_52 : Cond.methodLink RX2 52 Lib.Math.max.name ∈ x_tbl := x_tb 794 (by decide +kernel) rfl
theorem lkX2_90 : Cond.methodLink RX2 90 Lib.Math.min.name ∈ x_tbl := x_tb 878 (by decide +kernel) rfl
theorem lkX8_65 : Cond.methodLink RX8 65 Lib.Math.min.name ∈ x_tbl := x_tb 936 (by decide +kernel) rfl
theorem lkX9_40 : Cond.methodLink RX9 40 arraycopyName ∈ x_tbl := x_tb 1000 (by decide +kernel) rfl
theorem lkX6_25 : Cond.methodLink RX6 25 Lib.Math.min.name ∈ x_tbl := x_tb 1070 (by decide +kernel) rfl
theorem lkX4_24 : Cond.methodLink RX4 24 arraycopyName ∈ x_tbl := x_tb 1120 (by decide +kernel) rfl
theorem lkX11_3 : Cond.methodLink RX11 3 Lib.objectInit ∈ x_tbl := x_tb 1162 (by decide +kernel) rfl
theorem lkX11_258 : Cond.methodLink RX11 258 Lib.Math.abs.name ∈ x_tbl := x_tb 1439 (by decide +kernel) rfl
theorem lkX11_263 : Cond.methodLink RX11 263 Lib.Math.max.name ∈ x_tbl := x_tb 1444 (by decide +kernel) rfl
theorem lkX11_269 : Cond.methodLink RX11 269 Lib.Math.min.name ∈ x_tbl := x_tb 1452 (by decide +kernel) rfl
theorem kst_max : Cond.static Lib.Math.max.name ∈ x_tbl := x_tb 583 (by decide +kernel) rfl
theorem kcd_max : Cond.code Lib.Math.max.name Lib.Math.max.code 2 (some .int) ∈ x_tbl := x_tb 584 (by decide +kernel) rfl
theorem kst_min : Cond.static Lib.Math.min.name ∈ x_tbl := x_tb 586 (by decide +kernel) rfl
theorem kcd_min : Cond.code Lib.Math.min.name Lib.Math.min.code 2 (some .int) ∈ x_tbl := x_tb 587 (by decide +kernel) rfl
theorem kst_abs : Cond.static Lib.Math.abs.name ∈ x_tbl := x_tb 679 (by decide +kernel) rfl
theorem kcd_abs : Cond.code Lib.Math.abs.name Lib.Math.abs.code 1 (some .int) ∈ x_tbl := x_tb 680 (by decide +kernel) rfl
theorem kin_Math : Cond.initialized "java/lang/Math" ∈ x_tbl := x_tb 91 (by decide +kernel) rfl
theorem kin_System : Cond.initialized "java/lang/System" ∈ x_tbl := x_tb 88 (by decide +kernel) rfl
theorem kna_copy : Cond.native arraycopyName ∈ x_tbl := x_tb 484 (by decide +kernel) rfl
theorem kst_copy : Cond.static arraycopyName ∈ x_tbl := x_tb 483 (by decide +kernel) rfl
theorem kin_obj : Cond.instanceMethod Lib.objectInit ∈ x_tbl := x_tb 101 (by decide +kernel) rfl
theorem kcd_obj : Cond.code Lib.objectInit ⟨#[0xb1]⟩ 1 none ∈ x_tbl := x_tb 102 (by decide +kernel) rfl
theorem cfX0 : CF 0 RX0 TX0 3 tyX0 := ⟨rfl, rfl, by decide, inX0, tyX0_ok, nmX0, by decide⟩
theorem ciX0 : Cond.instantiable RX0 3 ∈ x_tbl ∧ Cond.initialized RX0 ∈ x_tbl := ⟨x_tb 284 (by decide +kernel) rfl, x_tb 83 (by decide +kernel) rfl⟩
theorem cfX1 : CF 1 RX1 TX1 6 tyX1 := ⟨rfl, rfl, by decide, inX1, tyX1_ok, nmX1, by decide⟩
theorem ciX1 : Cond.instantiable RX1 6 ∈ x_tbl ∧ Cond.initialized RX1 ∈ x_tbl := ⟨x_tb 111 (by decide +kernel) rfl, x_tb 77 (by decide +kernel) rfl⟩
theorem cfX2 : CF 2 RX2 TX2 7 tyX2 := ⟨rfl, rfl, by decide, inX2, tyX2_ok, nmX2, by decide⟩
theorem ciX2 : Cond.instantiable RX2 7 ∈ x_tbl ∧ Cond.initialized RX2 ∈ x_tbl := ⟨x_tb 203 (by decide +kernel) rfl, x_tb 80 (by decide +kernel) rfl⟩
theorem cfX3 : CF 3 RX3 TX3 5 tyX3 := ⟨rfl, rfl, by decide, inX3, tyX3_ok, nmX3, by decide⟩
theorem ciX3 : Cond.instantiable RX3 5 ∈ x_tbl ∧ Cond.initialized RX3 ∈ x_tbl := ⟨x_tb 181 (by decide +kernel) rfl, x_tb 79 (by decide +kernel) rfl⟩
theorem cfX4 : CF 4 RX4 TX4 3 tyX4 := ⟨rfl, rfl, by decide, inX4, tyX4_ok, nmX4, by decide⟩
theorem ciX4 : Cond.instantiable RX4 3 ∈ x_tbl ∧ Cond.initialized RX4 ∈ x_tbl := ⟨x_tb 319 (by decide +kernel) rfl, x_tb 85 (by decide +kernel) rfl⟩
theorem cfX5 : CF 5 RX5 TX5 5 tyX5 := ⟨rfl, rfl, by decide, inX5, tyX5_ok, nmX5, by decide⟩
theorem ciX5 : Cond.instantiable RX5 5 ∈ x_tbl ∧ Cond.initialized RX5 ∈ x_tbl := ⟨x_tb 104 (by decide +kernel) rfl, x_tb 76 (by decide +kernel) rfl⟩
theorem cfX6 : CF 6 RX6 TX6 4 tyX6 := ⟨rfl, rfl, by decide, inX6, tyX6_ok, nmX6, by decide⟩
theorem ciX6 : Cond.instantiable RX6 4 ∈ x_tbl ∧ Cond.initialized RX6 ∈ x_tbl := ⟨x_tb 300 (by decide +kernel) rfl, x_tb 84 (by decide +kernel) rfl⟩
theorem cfX7 : CF 7 RX7 TX7 5 tyX7 := ⟨rfl, rfl, by decide, inX7, tyX7_ok, nmX7, by decide⟩
theorem ciX7 : Cond.instantiable RX7 5 ∈ x_tbl ∧ Cond.initialized RX7 ∈ x_tbl := ⟨x_tb 159 (by decide +kernel) rfl, x_tb 78 (by decide +kernel) rfl⟩
theorem cfX8 : CF 8 RX8 TX8 4 tyX8 := ⟨rfl, rfl, by decide, inX8, tyX8_ok, nmX8, by decide⟩
theorem ciX8 : Cond.instantiable RX8 4 ∈ x_tbl ∧ Cond.initialized RX8 ∈ x_tbl := ⟨x_tb 231 (by decide +kernel) rfl, x_tb 81 (by decide +kernel) rfl⟩
theorem cfX9 : CF 9 RX9 TX9 9 tyX9 := ⟨rfl, rfl, by decide, inX9, tyX9_ok, nmX9, by decide⟩
theorem ciX9 : Cond.instantiable RX9 9 ∈ x_tbl ∧ Cond.initialized RX9 ∈ x_tbl := ⟨x_tb 250 (by decide +kernel) rfl, x_tb 82 (by decide +kernel) rfl⟩
theorem cfX10 : CF 10 RX10 TX10 10 tyX10 := ⟨rfl, rfl, by decide, inX10, tyX10_ok, nmX10, by decide⟩
theorem ciX10 : Cond.instantiable RX10 10 ∈ x_tbl ∧ Cond.initialized RX10 ∈ x_tbl := ⟨x_tb 96 (by decide +kernel) rfl, x_tb 75 (by decide +kernel) rfl⟩
theorem cfX11 : CF 11 RX11 TX11 50 tyX11 := ⟨rfl, rfl, by decide, inX11, tyX11_ok, nmX11, by decide⟩
theorem ciX11 : Cond.instantiable RX11 50 ∈ x_tbl ∧ Cond.initialized RX11 ∈ x_tbl := ⟨x_tb 1158 (by decide +kernel) rfl, x_tb 86 (by decide +kernel) rfl⟩
theorem flX1_11 : FL RX1 11 1 0 0 := ⟨_, _, _, _, cfX1, by decide, rfl, Or.inl (x_tb 116 (by decide +kernel) rfl)⟩
theorem ffX1_11 : FF RX1 11 1 0 0 := ⟨_, _, _, _, cfX1, by decide, rfl, x_tb 116 (by decide +kernel) rfl, rfl, rfl⟩
theorem flX10_159 : FL RX10 159 1 0 0 := ⟨_, _, _, _, cfX1, by decide, rfl, Or.inr ⟨"CutFromOthers", by decide⟩⟩
theorem flX1_15 : FL RX1 15 1 1 0 := ⟨_, _, _, _, cfX1, by decide, rfl, Or.inl (x_tb 118 (by decide +kernel) rfl)⟩
theorem ffX1_15 : FF RX1 15 1 1 0 := ⟨_, _, _, _, cfX1, by decide, rfl, x_tb 118 (by decide +kernel) rfl, rfl, rfl⟩
theorem flX1_18 : FL RX1 18 1 2 0 := ⟨_, _, _, _, cfX1, by decide, rfl, Or.inl (x_tb 119 (by decide +kernel) rfl)⟩
theorem ffX1_18 : FF RX1 18 1 2 0 := ⟨_, _, _, _, cfX1, by decide, rfl, x_tb 119 (by decide +kernel) rfl, rfl, rfl⟩
theorem flX1_21 : FL RX1 21 1 3 1 := ⟨_, _, _, _, cfX1, by decide, rfl, Or.inl (x_tb 120 (by decide +kernel) rfl)⟩
theorem fpX1_21 : FP RX1 21 1 3 1 := ⟨_, _, _, _, cfX1, by decide, rfl, x_tb 120 (by decide +kernel) rfl, rfl⟩
theorem flX10_123 : FL RX10 123 1 3 1 := ⟨_, _, _, _, cfX1, by decide, rfl, Or.inr ⟨"CutFromOthers", by decide⟩⟩
theorem flX5_54 : FL RX5 54 1 3 1 := ⟨_, _, _, _, cfX1, by decide, rfl, Or.inr ⟨"CutFromOthers", by decide⟩⟩
theorem flX1_31 : FL RX1 31 1 4 1 := ⟨_, _, _, _, cfX1, by decide, rfl, Or.inl (x_tb 123 (by decide +kernel) rfl)⟩
theorem fpX1_31 : FP RX1 31 1 4 1 := ⟨_, _, _, _, cfX1, by decide, rfl, x_tb 123 (by decide +kernel) rfl, rfl⟩
theorem flX3_48 : FL RX3 48 1 4 1 := ⟨_, _, _, _, cfX1, by decide, rfl, Or.inr ⟨"CutFromOthers", by decide⟩⟩
theorem flX10_156 : FL RX10 156 1 4 1 := ⟨_, _, _, _, cfX1, by decide, rfl, Or.inr ⟨"CutFromOthers", by decide⟩⟩
theorem flX5_61 : FL RX5 61 1 4 1 := ⟨_, _, _, _, cfX1, by decide, rfl, Or.inr ⟨"CutFromOthers", by decide⟩⟩
theorem flX1_34 : FL RX1 34 1 5 1 := ⟨_, _, _, _, cfX1, by decide, rfl, Or.inl (x_tb 127 (by decide +kernel) rfl)⟩
theorem fpX1_34 : FP RX1 34 1 5 1 := ⟨_, _, _, _, cfX1, by decide, rfl, x_tb 127 (by decide +kernel) rfl, rfl⟩
theorem flX5_11 : FL RX5 11 5 0 0 := ⟨_, _, _, _, cfX5, by decide, rfl, Or.inl (x_tb 142 (by decide +kernel) rfl)⟩
theorem ffX5_11 : FF RX5 11 5 0 0 := ⟨_, _, _, _, cfX5, by decide, rfl, x_tb 142 (by decide +kernel) rfl, rfl, rfl⟩
theorem flX5_17 : FL RX5 17 5 1 0 := ⟨_, _, _, _, cfX5, by decide, rfl, Or.inl (x_tb 143 (by decide +kernel) rfl)⟩
theorem ffX5_17 : FF RX5 17 5 1 0 := ⟨_, _, _, _, cfX5, by decide, rfl, x_tb 143 (by decide +kernel) rfl, rfl, rfl⟩
theorem flX5_21 : FL RX5 21 5 2 0 := ⟨_, _, _, _, cfX5, by decide, rfl, Or.inl (x_tb 144 (by decide +kernel) rfl)⟩
theorem ffX5_21 : FF RX5 21 5 2 0 := ⟨_, _, _, _, cfX5, by decide, rfl, x_tb 144 (by decide +kernel) rfl, rfl, rfl⟩
theorem flX5_24 : FL RX5 24 5 3 0 := ⟨_, _, _, _, cfX5, by decide, rfl, Or.inl (x_tb 145 (by decide +kernel) rfl)⟩
theorem ffX5_24 : FF RX5 24 5 3 0 := ⟨_, _, _, _, cfX5, by decide, rfl, x_tb 145 (by decide +kernel) rfl, rfl, rfl⟩
theorem flX5_28 : FL RX5 28 5 4 1 := ⟨_, _, _, _, cfX5, by decide, rfl, Or.inl (x_tb 146 (by decide +kernel) rfl)⟩
theorem fpX5_28 : FP RX5 28 5 4 1 := ⟨_, _, _, _, cfX5, by decide, rfl, x_tb 146 (by decide +kernel) rfl, rfl⟩
theorem flX7_11 : FL RX7 11 7 0 0 := ⟨_, _, _, _, cfX7, by decide, rfl, Or.inl (x_tb 164 (by decide +kernel) rfl)⟩
theorem ffX7_11 : FF RX7 11 7 0 0 := ⟨_, _, _, _, cfX7, by decide, rfl, x_tb 164 (by decide +kernel) rfl, rfl, rfl⟩
theorem flX7_15 : FL RX7 15 7 1 0 := ⟨_, _, _, _, cfX7, by decide, rfl, Or.inl (x_tb 165 (by decide +kernel) rfl)⟩
theorem ffX7_15 : FF RX7 15 7 1 0 := ⟨_, _, _, _, cfX7, by decide, rfl, x_tb 165 (by decide +kernel) rfl, rfl, rfl⟩
theorem flX7_18 : FL RX7 18 7 2 1 := ⟨_, _, _, _, cfX7, by decide, rfl, Or.inl (x_tb 166 (by decide +kernel) rfl)⟩
theorem fpX7_18 : FP RX7 18 7 2 1 := ⟨_, _, _, _, cfX7, by decide, rfl, x_tb 166 (by decide +kernel) rfl, rfl⟩
theorem flX7_22 : FL RX7 22 7 3 1 := ⟨_, _, _, _, cfX7, by decide, rfl, Or.inl (x_tb 167 (by decide +kernel) rfl)⟩
theorem fpX7_22 : FP RX7 22 7 3 1 := ⟨_, _, _, _, cfX7, by decide, rfl, x_tb 167 (by decide +kernel) rfl, rfl⟩
theorem flX7_25 : FL RX7 25 7 4 1 := ⟨_, _, _, _, cfX7, by decide, rfl, Or.inl (x_tb 168 (by decide +kernel) rfl)⟩
theorem fpX7_25 : FP RX7 25 7 4 1 := ⟨_, _, _, _, cfX7, by decide, rfl, x_tb 168 (by decide +kernel) rfl, rfl⟩
theorem flX3_9 : FL RX3 9 3 0 0 := ⟨_, _, _, _, cfX3, by decide, rfl, Or.inl (x_tb 186 (by decide +kernel) rfl)⟩
theorem ffX3_9 : FF RX3 9 3 0 0 := ⟨_, _, _, _, cfX3, by decide, rfl, x_tb 186 (by decide +kernel) rfl, rfl, rfl⟩
theorem flX3_15 : FL RX3 15 3 1 0 := ⟨_, _, _, _, cfX3, by decide, rfl, Or.inl (x_tb 187 (by decide +kernel) rfl)⟩
theorem ffX3_15 : FF RX3 15 3 1 0 := ⟨_, _, _, _, cfX3, by decide, rfl, x_tb 187 (by decide +kernel) rfl, rfl, rfl⟩
theorem flX3_18 : FL RX3 18 3 2 0 := ⟨_, _, _, _, cfX3, by decide, rfl, Or.inl (x_tb 188 (by decide +kernel) rfl)⟩
theorem ffX3_18 : FF RX3 18 3 2 0 := ⟨_, _, _, _, cfX3, by decide, rfl, x_tb 188 (by decide +kernel) rfl, rfl, rfl⟩
theorem flX3_25 : FL RX3 25 3 3 1 := ⟨_, _, _, _, cfX3, by decide, rfl, Or.inl (x_tb 189 (by decide +kernel) rfl)⟩
theorem fpX3_25 : FP RX3 25 3 3 1 := ⟨_, _, _, _, cfX3, by decide, rfl, x_tb 189 (by decide +kernel) rfl, rfl⟩
theorem flX3_60 : FL RX3 60 3 4 1 := ⟨_, _, _, _, cfX3, by decide, rfl, Or.inl (x_tb 190 (by decide +kernel) rfl)⟩
theorem fpX3_60 : FP RX3 60 3 4 1 := ⟨_, _, _, _, cfX3, by decide, rfl, x_tb 190 (by decide +kernel) rfl, rfl⟩
theorem flX2_24 : FL RX2 24 2 0 0 := ⟨_, _, _, _, cfX2, by decide, rfl, Or.inl (x_tb 208 (by decide +kernel) rfl)⟩
theorem ffX2_24 : FF RX2 24 2 0 0 := ⟨_, _, _, _, cfX2, by decide, rfl, x_tb 208 (by decide +kernel) rfl, rfl, rfl⟩
theorem flX2_28 : FL RX2 28 2 1 0 := ⟨_, _, _, _, cfX2, by decide, rfl, Or.inl (x_tb 209 (by decide +kernel) rfl)⟩
theorem ffX2_28 : FF RX2 28 2 1 0 := ⟨_, _, _, _, cfX2, by decide, rfl, x_tb 209 (by decide +kernel) rfl, rfl, rfl⟩
theorem flX2_9 : FL RX2 9 2 2 0 := ⟨_, _, _, _, cfX2, by decide, rfl, Or.inl (x_tb 210 (by decide +kernel) rfl)⟩
theorem ffX2_9 : FF RX2 9 2 2 0 := ⟨_, _, _, _, cfX2, by decide, rfl, x_tb 210 (by decide +kernel) rfl, rfl, rfl⟩
theorem flX2_15 : FL RX2 15 2 3 0 := ⟨_, _, _, _, cfX2, by decide, rfl, Or.inl (x_tb 211 (by decide +kernel) rfl)⟩
theorem ffX2_15 : FF RX2 15 2 3 0 := ⟨_, _, _, _, cfX2, by decide, rfl, x_tb 211 (by decide +kernel) rfl, rfl, rfl⟩
theorem flX2_18 : FL RX2 18 2 4 0 := ⟨_, _, _, _, cfX2, by decide, rfl, Or.inl (x_tb 212 (by decide +kernel) rfl)⟩
theorem ffX2_18 : FF RX2 18 2 4 0 := ⟨_, _, _, _, cfX2, by decide, rfl, x_tb 212 (by decide +kernel) rfl, rfl, rfl⟩
theorem flX2_21 : FL RX2 21 2 5 0 := ⟨_, _, _, _, cfX2, by decide, rfl, Or.inl (x_tb 213 (by decide +kernel) rfl)⟩
theorem ffX2_21 : FF RX2 21 2 5 0 := ⟨_, _, _, _, cfX2, by decide, rfl, x_tb 213 (by decide +kernel) rfl, rfl, rfl⟩
theorem flX2_80 : FL RX2 80 2 6 1 := ⟨_, _, _, _, cfX2, by decide, rfl, Or.inl (x_tb 214 (by decide +kernel) rfl)⟩
theorem fpX2_80 : FP RX2 80 2 6 1 := ⟨_, _, _, _, cfX2, by decide, rfl, x_tb 214 (by decide +kernel) rfl, rfl⟩
theorem flX8_18 : FL RX8 18 8 0 0 := ⟨_, _, _, _, cfX8, by decide, rfl, Or.inl (x_tb 236 (by decide +kernel) rfl)⟩
theorem ffX8_18 : FF RX8 18 8 0 0 := ⟨_, _, _, _, cfX8, by decide, rfl, x_tb 236 (by decide +kernel) rfl, rfl, rfl⟩
theorem flX8_9 : FL RX8 9 8 1 0 := ⟨_, _, _, _, cfX8, by decide, rfl, Or.inl (x_tb 237 (by decide +kernel) rfl)⟩
theorem fpX8_9 : FP RX8 9 8 1 0 := ⟨_, _, _, _, cfX8, by decide, rfl, x_tb 237 (by decide +kernel) rfl, rfl⟩
theorem flX8_15 : FL RX8 15 8 2 0 := ⟨_, _, _, _, cfX8, by decide, rfl, Or.inl (x_tb 238 (by decide +kernel) rfl)⟩
theorem fpX8_15 : FP RX8 15 8 2 0 := ⟨_, _, _, _, cfX8, by decide, rfl, x_tb 238 (by decide +kernel) rfl, rfl⟩
theorem flX8_22 : FL RX8 22 8 3 1 := ⟨_, _, _, _, cfX8, by decide, rfl, Or.inl (x_tb 239 (by decide +kernel) rfl)⟩
theorem fpX8_22 : FP RX8 22 8 3 1 := ⟨_, _, _, _, cfX8, by decide, rfl, x_tb 239 (by decide +kernel) rfl, rfl⟩
theorem flX9_11 : FL RX9 11 9 0 0 := ⟨_, _, _, _, cfX9, by decide, rfl, Or.inl (x_tb 255 (by decide +kernel) rfl)⟩
theorem ffX9_11 : FF RX9 11 9 0 0 := ⟨_, _, _, _, cfX9, by decide, rfl, x_tb 255 (by decide +kernel) rfl, rfl, rfl⟩
theorem flX9_15 : FL RX9 15 9 1 0 := ⟨_, _, _, _, cfX9, by decide, rfl, Or.inl (x_tb 256 (by decide +kernel) rfl)⟩
theorem ffX9_15 : FF RX9 15 9 1 0 := ⟨_, _, _, _, cfX9, by decide, rfl, x_tb 256 (by decide +kernel) rfl, rfl, rfl⟩
theorem flX9_18 : FL RX9 18 9 2 0 := ⟨_, _, _, _, cfX9, by decide, rfl, Or.inl (x_tb 257 (by decide +kernel) rfl)⟩
theorem ffX9_18 : FF RX9 18 9 2 0 := ⟨_, _, _, _, cfX9, by decide, rfl, x_tb 257 (by decide +kernel) rfl, rfl, rfl⟩
theorem flX9_21 : FL RX9 21 9 3 0 := ⟨_, _, _, _, cfX9, by decide, rfl, Or.inl (x_tb 258 (by decide +kernel) rfl)⟩
theorem ffX9_21 : FF RX9 21 9 3 0 := ⟨_, _, _, _, cfX9, by decide, rfl, x_tb 258 (by decide +kernel) rfl, rfl, rfl⟩
theorem flX9_24 : FL RX9 24 9 4 0 := ⟨_, _, _, _, cfX9, by decide, rfl, Or.inl (x_tb 259 (by decide +kernel) rfl)⟩
theorem ffX9_24 : FF RX9 24 9 4 0 := ⟨_, _, _, _, cfX9, by decide, rfl, x_tb 259 (by decide +kernel) rfl, rfl, rfl⟩
theorem flX9_27 : FL RX9 27 9 5 0 := ⟨_, _, _, _, cfX9, by decide, rfl, Or.inl (x_tb 260 (by decide +kernel) rfl)⟩
theorem ffX9_27 : FF RX9 27 9 5 0 := ⟨_, _, _, _, cfX9, by decide, rfl, x_tb 260 (by decide +kernel) rfl, rfl, rfl⟩
theorem flX9_30 : FL RX9 30 9 6 1 := ⟨_, _, _, _, cfX9, by decide, rfl, Or.inl (x_tb 261 (by decide +kernel) rfl)⟩
theorem fpX9_30 : FP RX9 30 9 6 1 := ⟨_, _, _, _, cfX9, by decide, rfl, x_tb 261 (by decide +kernel) rfl, rfl⟩
theorem flX9_46 : FL RX9 46 9 7 1 := ⟨_, _, _, _, cfX9, by decide, rfl, Or.inl (x_tb 262 (by decide +kernel) rfl)⟩
theorem fpX9_46 : FP RX9 46 9 7 1 := ⟨_, _, _, _, cfX9, by decide, rfl, x_tb 262 (by decide +kernel) rfl, rfl⟩
theorem flX9_49 : FL RX9 49 9 8 2 := ⟨_, _, _, _, cfX9, by decide, rfl, Or.inl (x_tb 263 (by decide +kernel) rfl)⟩
theorem fpX9_49 : FP RX9 49 9 8 2 := ⟨_, _, _, _, cfX9, by decide, rfl, x_tb 263 (by decide +kernel) rfl, rfl⟩
theorem flX0_11 : FL RX0 11 0 0 0 := ⟨_, _, _, _, cfX0, by decide, rfl, Or.inl (x_tb 289 (by decide +kernel) rfl)⟩
theorem ffX0_11 : FF RX0 11 0 0 0 := ⟨_, _, _, _, cfX0, by decide, rfl, x_tb 289 (by decide +kernel) rfl, rfl, rfl⟩
theorem flX0_15 : FL RX0 15 0 1 1 := ⟨_, _, _, _, cfX0, by decide, rfl, Or.inl (x_tb 290 (by decide +kernel) rfl)⟩
theorem fpX0_15 : FP RX0 15 0 1 1 := ⟨_, _, _, _, cfX0, by decide, rfl, x_tb 290 (by decide +kernel) rfl, rfl⟩
theorem flX0_25 : FL RX0 25 0 2 1 := ⟨_, _, _, _, cfX0, by decide, rfl, Or.inl (x_tb 291 (by decide +kernel) rfl)⟩
theorem fpX0_25 : FP RX0 25 0 2 1 := ⟨_, _, _, _, cfX0, by decide, rfl, x_tb 291 (by decide +kernel) rfl, rfl⟩
theorem flX6_11 : FL RX6 11 6 0 0 := ⟨_, _, _, _, cfX6, by decide, rfl, Or.inl (x_tb 305 (by decide +kernel) rfl)⟩
theorem ffX6_11 : FF RX6 11 6 0 0 := ⟨_, _, _, _, cfX6, by decide, rfl, x_tb 305 (by decide +kernel) rfl, rfl, rfl⟩
theorem flX6_15 : FL RX6 15 6 1 0 := ⟨_, _, _, _, cfX6, by decide, rfl, Or.inl (x_tb 306 (by decide +kernel) rfl)⟩
theorem ffX6_15 : FF RX6 15 6 1 0 := ⟨_, _, _, _, cfX6, by decide, rfl, x_tb 306 (by decide +kernel) rfl, rfl, rfl⟩
theorem flX6_18 : FL RX6 18 6 2 1 := ⟨_, _, _, _, cfX6, by decide, rfl, Or.inl (x_tb 307 (by decide +kernel) rfl)⟩
theorem fpX6_18 : FP RX6 18 6 2 1 := ⟨_, _, _, _, cfX6, by decide, rfl, x_tb 307 (by decide +kernel) rfl, rfl⟩
theorem flX6_22 : FL RX6 22 6 3 1 := ⟨_, _, _, _, cfX6, by decide, rfl, Or.inl (x_tb 308 (by decide +kernel) rfl)⟩
theorem fpX6_22 : FP RX6 22 6 3 1 := ⟨_, _, _, _, cfX6, by decide, rfl, x_tb 308 (by decide +kernel) rfl, rfl⟩
theorem flX4_9 : FL RX4 9 4 0 0 := ⟨_, _, _, _, cfX4, by decide, rfl, Or.inl (x_tb 324 (by decide +kernel) rfl)⟩
theorem ffX4_9 : FF RX4 9 4 0 0 := ⟨_, _, _, _, cfX4, by decide, rfl, x_tb 324 (by decide +kernel) rfl, rfl, rfl⟩
theorem flX4_13 : FL RX4 13 4 1 0 := ⟨_, _, _, _, cfX4, by decide, rfl, Or.inl (x_tb 325 (by decide +kernel) rfl)⟩
theorem ffX4_13 : FF RX4 13 4 1 0 := ⟨_, _, _, _, cfX4, by decide, rfl, x_tb 325 (by decide +kernel) rfl, rfl, rfl⟩
theorem flX4_16 : FL RX4 16 4 2 0 := ⟨_, _, _, _, cfX4, by decide, rfl, Or.inl (x_tb 326 (by decide +kernel) rfl)⟩
theorem ffX4_16 : FF RX4 16 4 2 0 := ⟨_, _, _, _, cfX4, by decide, rfl, x_tb 326 (by decide +kernel) rfl, rfl, rfl⟩
theorem flX10_10 : FL RX10 10 10 0 0 := ⟨_, _, _, _, cfX10, by decide, rfl, Or.inl (x_tb 337 (by decide +kernel) rfl)⟩
theorem ffX10_10 : FF RX10 10 10 0 0 := ⟨_, _, _, _, cfX10, by decide, rfl, x_tb 337 (by decide +kernel) rfl, rfl, rfl⟩
theorem flX10_19 : FL RX10 19 10 1 0 := ⟨_, _, _, _, cfX10, by decide, rfl, Or.inl (x_tb 338 (by decide +kernel) rfl)⟩
theorem ffX10_19 : FF RX10 19 10 1 0 := ⟨_, _, _, _, cfX10, by decide, rfl, x_tb 338 (by decide +kernel) rfl, rfl, rfl⟩
theorem flX10_26 : FL RX10 26 10 2 0 := ⟨_, _, _, _, cfX10, by decide, rfl, Or.inl (x_tb 339 (by decide +kernel) rfl)⟩
theorem ffX10_26 : FF RX10 26 10 2 0 := ⟨_, _, _, _, cfX10, by decide, rfl, x_tb 339 (by decide +kernel) rfl, rfl, rfl⟩
theorem flX10_35 : FL RX10 35 10 3 0 := ⟨_, _, _, _, cfX10, by decide, rfl, Or.inl (x_tb 340 (by decide +kernel) rfl)⟩
theorem ffX10_35 : FF RX10 35 10 3 0 := ⟨_, _, _, _, cfX10, by decide, rfl, x_tb 340 (by decide +kernel) rfl, rfl, rfl⟩
theorem flX10_44 : FL RX10 44 10 4 0 := ⟨_, _, _, _, cfX10, by decide, rfl, Or.inl (x_tb 341 (by decide +kernel) rfl)⟩
theorem ffX10_44 : FF RX10 44 10 4 0 := ⟨_, _, _, _, cfX10, by decide, rfl, x_tb 341 (by decide +kernel) rfl, rfl, rfl⟩
theorem flX10_51 : FL RX10 51 10 5 0 := ⟨_, _, _, _, cfX10, by decide, rfl, Or.inl (x_tb 342 (by decide +kernel) rfl)⟩
theorem ffX10_51 : FF RX10 51 10 5 0 := ⟨_, _, _, _, cfX10, by decide, rfl, x_tb 342 (by decide +kernel) rfl, rfl, rfl⟩
theorem flX10_58 : FL RX10 58 10 6 0 := ⟨_, _, _, _, cfX10, by decide, rfl, Or.inl (x_tb 343 (by decide +kernel) rfl)⟩
theorem ffX10_58 : FF RX10 58 10 6 0 := ⟨_, _, _, _, cfX10, by decide, rfl, x_tb 343 (by decide +kernel) rfl, rfl, rfl⟩
theorem flX10_65 : FL RX10 65 10 7 0 := ⟨_, _, _, _, cfX10, by decide, rfl, Or.inl (x_tb 344 (by decide +kernel) rfl)⟩
theorem ffX10_65 : FF RX10 65 10 7 0 := ⟨_, _, _, _, cfX10, by decide, rfl, x_tb 344 (by decide +kernel) rfl, rfl, rfl⟩
theorem flX10_72 : FL RX10 72 10 8 0 := ⟨_, _, _, _, cfX10, by decide, rfl, Or.inl (x_tb 345 (by decide +kernel) rfl)⟩
theorem ffX10_72 : FF RX10 72 10 8 0 := ⟨_, _, _, _, cfX10, by decide, rfl, x_tb 345 (by decide +kernel) rfl, rfl, rfl⟩
theorem flX10_79 : FL RX10 79 10 9 0 := ⟨_, _, _, _, cfX10, by decide, rfl, Or.inl (x_tb 346 (by decide +kernel) rfl)⟩
theorem ffX10_79 : FF RX10 79 10 9 0 := ⟨_, _, _, _, cfX10, by decide, rfl, x_tb 346 (by decide +kernel) rfl, rfl, rfl⟩
theorem fsX10_105 : Cond.fieldLink "CutFromOthers" 105 "CutFromOthers" "MOST_OF_TRAIT" "[I" ∈ x_tbl := x_tb 455 (by decide +kernel) rfl
theorem fsX6_46 : Cond.fieldLink "CutFromOthers$Stones" 46 "CutFromOthers$Stones" "BODIES" "[I" ∈ x_tbl := x_tb 1054 (by decide +kernel) rfl
theorem fsX6_31 : Cond.fieldLink "CutFromOthers$Stones" 31 "CutFromOthers$Stones" "ABOVE" "[I" ∈ x_tbl := x_tb 1056 (by decide +kernel) rfl
theorem flX11_112 : FL RX11 112 11 0 1 := ⟨_, _, _, _, cfX11, by decide, rfl, Or.inl (x_tb 1163 (by decide +kernel) rfl)⟩
theorem fpX11_112 : FP RX11 112 11 0 1 := ⟨_, _, _, _, cfX11, by decide, rfl, x_tb 1163 (by decide +kernel) rfl, rfl⟩
theorem flX11_9 : FL RX11 9 11 1 0 := ⟨_, _, _, _, cfX11, by decide, rfl, Or.inl (x_tb 1164 (by decide +kernel) rfl)⟩
theorem ffX11_9 : FF RX11 9 11 1 0 := ⟨_, _, _, _, cfX11, by decide, rfl, x_tb 1164 (by decide +kernel) rfl, rfl, rfl⟩
theorem flX11_15 : FL RX11 15 11 2 0 := ⟨_, _, _, _, cfX11, by decide, rfl, Or.inl (x_tb 1165 (by decide +kernel) rfl)⟩
theorem ffX11_15 : FF RX11 15 11 2 0 := ⟨_, _, _, _, cfX11, by decide, rfl, x_tb 1165 (by decide +kernel) rfl, rfl, rfl⟩
theorem flX11_18 : FL RX11 18 11 3 0 := ⟨_, _, _, _, cfX11, by decide, rfl, Or.inl (x_tb 1166 (by decide +kernel) rfl)⟩
theorem ffX11_18 : FF RX11 18 11 3 0 := ⟨_, _, _, _, cfX11, by decide, rfl, x_tb 1166 (by decide +kernel) rfl, rfl, rfl⟩
theorem flX11_21 : FL RX11 21 11 4 0 := ⟨_, _, _, _, cfX11, by decide, rfl, Or.inl (x_tb 1167 (by decide +kernel) rfl)⟩
theorem ffX11_21 : FF RX11 21 11 4 0 := ⟨_, _, _, _, cfX11, by decide, rfl, x_tb 1167 (by decide +kernel) rfl, rfl, rfl⟩
theorem flX11_120 : FL RX11 120 11 5 1 := ⟨_, _, _, _, cfX11, by decide, rfl, Or.inl (x_tb 1168 (by decide +kernel) rfl)⟩
theorem fpX11_120 : FP RX11 120 11 5 1 := ⟨_, _, _, _, cfX11, by decide, rfl, x_tb 1168 (by decide +kernel) rfl, rfl⟩
theorem flX11_24 : FL RX11 24 11 6 0 := ⟨_, _, _, _, cfX11, by decide, rfl, Or.inl (x_tb 1169 (by decide +kernel) rfl)⟩
theorem ffX11_24 : FF RX11 24 11 6 0 := ⟨_, _, _, _, cfX11, by decide, rfl, x_tb 1169 (by decide +kernel) rfl, rfl, rfl⟩
theorem flX11_27 : FL RX11 27 11 7 0 := ⟨_, _, _, _, cfX11, by decide, rfl, Or.inl (x_tb 1170 (by decide +kernel) rfl)⟩
theorem ffX11_27 : FF RX11 27 11 7 0 := ⟨_, _, _, _, cfX11, by decide, rfl, x_tb 1170 (by decide +kernel) rfl, rfl, rfl⟩
theorem flX11_192 : FL RX11 192 11 8 1 := ⟨_, _, _, _, cfX11, by decide, rfl, Or.inl (x_tb 1171 (by decide +kernel) rfl)⟩
theorem fpX11_192 : FP RX11 192 11 8 1 := ⟨_, _, _, _, cfX11, by decide, rfl, x_tb 1171 (by decide +kernel) rfl, rfl⟩
theorem flX11_195 : FL RX11 195 11 9 1 := ⟨_, _, _, _, cfX11, by decide, rfl, Or.inl (x_tb 1172 (by decide +kernel) rfl)⟩
theorem fpX11_195 : FP RX11 195 11 9 1 := ⟨_, _, _, _, cfX11, by decide, rfl, x_tb 1172 (by decide +kernel) rfl, rfl⟩
theorem flX11_30 : FL RX11 30 11 10 0 := ⟨_, _, _, _, cfX11, by decide, rfl, Or.inl (x_tb 1173 (by decide +kernel) rfl)⟩
theorem ffX11_30 : FF RX11 30 11 10 0 := ⟨_, _, _, _, cfX11, by decide, rfl, x_tb 1173 (by decide +kernel) rfl, rfl, rfl⟩
theorem flX11_248 : FL RX11 248 11 11 2 := ⟨_, _, _, _, cfX11, by decide, rfl, Or.inl (x_tb 1174 (by decide +kernel) rfl)⟩
theorem fpX11_248 : FP RX11 248 11 11 2 := ⟨_, _, _, _, cfX11, by decide, rfl, x_tb 1174 (by decide +kernel) rfl, rfl⟩
theorem flX11_252 : FL RX11 252 11 12 1 := ⟨_, _, _, _, cfX11, by decide, rfl, Or.inl (x_tb 1175 (by decide +kernel) rfl)⟩
theorem fpX11_252 : FP RX11 252 11 12 1 := ⟨_, _, _, _, cfX11, by decide, rfl, x_tb 1175 (by decide +kernel) rfl, rfl⟩
theorem flX11_33 : FL RX11 33 11 13 0 := ⟨_, _, _, _, cfX11, by decide, rfl, Or.inl (x_tb 1176 (by decide +kernel) rfl)⟩
theorem ffX11_33 : FF RX11 33 11 13 0 := ⟨_, _, _, _, cfX11, by decide, rfl, x_tb 1176 (by decide +kernel) rfl, rfl, rfl⟩
theorem flX11_36 : FL RX11 36 11 14 0 := ⟨_, _, _, _, cfX11, by decide, rfl, Or.inl (x_tb 1177 (by decide +kernel) rfl)⟩
theorem ffX11_36 : FF RX11 36 11 14 0 := ⟨_, _, _, _, cfX11, by decide, rfl, x_tb 1177 (by decide +kernel) rfl, rfl, rfl⟩
theorem flX11_39 : FL RX11 39 11 15 0 := ⟨_, _, _, _, cfX11, by decide, rfl, Or.inl (x_tb 1178 (by decide +kernel) rfl)⟩
theorem ffX11_39 : FF RX11 39 11 15 0 := ⟨_, _, _, _, cfX11, by decide, rfl, x_tb 1178 (by decide +kernel) rfl, rfl, rfl⟩
theorem flX11_42 : FL RX11 42 11 16 0 := ⟨_, _, _, _, cfX11, by decide, rfl, Or.inl (x_tb 1179 (by decide +kernel) rfl)⟩
theorem ffX11_42 : FF RX11 42 11 16 0 := ⟨_, _, _, _, cfX11, by decide, rfl, x_tb 1179 (by decide +kernel) rfl, rfl, rfl⟩
theorem flX11_198 : FL RX11 198 11 17 1 := ⟨_, _, _, _, cfX11, by decide, rfl, Or.inl (x_tb 1180 (by decide +kernel) rfl)⟩
theorem fpX11_198 : FP RX11 198 11 17 1 := ⟨_, _, _, _, cfX11, by decide, rfl, x_tb 1180 (by decide +kernel) rfl, rfl⟩
theorem flX11_218 : FL RX11 218 11 18 1 := ⟨_, _, _, _, cfX11, by decide, rfl, Or.inl (x_tb 1181 (by decide +kernel) rfl)⟩
theorem fpX11_218 : FP RX11 218 11 18 1 := ⟨_, _, _, _, cfX11, by decide, rfl, x_tb 1181 (by decide +kernel) rfl, rfl⟩
theorem flX11_205 : FL RX11 205 11 19 1 := ⟨_, _, _, _, cfX11, by decide, rfl, Or.inl (x_tb 1182 (by decide +kernel) rfl)⟩
theorem fpX11_205 : FP RX11 205 11 19 1 := ⟨_, _, _, _, cfX11, by decide, rfl, x_tb 1182 (by decide +kernel) rfl, rfl⟩
theorem flX11_242 : FL RX11 242 11 20 1 := ⟨_, _, _, _, cfX11, by decide, rfl, Or.inl (x_tb 1183 (by decide +kernel) rfl)⟩
theorem fpX11_242 : FP RX11 242 11 20 1 := ⟨_, _, _, _, cfX11, by decide, rfl, x_tb 1183 (by decide +kernel) rfl, rfl⟩
theorem flX11_45 : FL RX11 45 11 21 0 := ⟨_, _, _, _, cfX11, by decide, rfl, Or.inl (x_tb 1184 (by decide +kernel) rfl)⟩
theorem ffX11_45 : FF RX11 45 11 21 0 := ⟨_, _, _, _, cfX11, by decide, rfl, x_tb 1184 (by decide +kernel) rfl, rfl, rfl⟩
theorem flX11_48 : FL RX11 48 11 22 0 := ⟨_, _, _, _, cfX11, by decide, rfl, Or.inl (x_tb 1185 (by decide +kernel) rfl)⟩
theorem ffX11_48 : FF RX11 48 11 22 0 := ⟨_, _, _, _, cfX11, by decide, rfl, x_tb 1185 (by decide +kernel) rfl, rfl, rfl⟩
theorem flX11_51 : FL RX11 51 11 23 0 := ⟨_, _, _, _, cfX11, by decide, rfl, Or.inl (x_tb 1186 (by decide +kernel) rfl)⟩
theorem ffX11_51 : FF RX11 51 11 23 0 := ⟨_, _, _, _, cfX11, by decide, rfl, x_tb 1186 (by decide +kernel) rfl, rfl, rfl⟩
theorem flX11_54 : FL RX11 54 11 24 0 := ⟨_, _, _, _, cfX11, by decide, rfl, Or.inl (x_tb 1187 (by decide +kernel) rfl)⟩
theorem ffX11_54 : FF RX11 54 11 24 0 := ⟨_, _, _, _, cfX11, by decide, rfl, x_tb 1187 (by decide +kernel) rfl, rfl, rfl⟩
theorem flX11_57 : FL RX11 57 11 25 0 := ⟨_, _, _, _, cfX11, by decide, rfl, Or.inl (x_tb 1188 (by decide +kernel) rfl)⟩
theorem ffX11_57 : FF RX11 57 11 25 0 := ⟨_, _, _, _, cfX11, by decide, rfl, x_tb 1188 (by decide +kernel) rfl, rfl, rfl⟩
theorem flX11_60 : FL RX11 60 11 26 0 := ⟨_, _, _, _, cfX11, by decide, rfl, Or.inl (x_tb 1189 (by decide +kernel) rfl)⟩
theorem ffX11_60 : FF RX11 60 11 26 0 := ⟨_, _, _, _, cfX11, by decide, rfl, x_tb 1189 (by decide +kernel) rfl, rfl, rfl⟩
theorem flX11_63 : FL RX11 63 11 27 0 := ⟨_, _, _, _, cfX11, by decide, rfl, Or.inl (x_tb 1190 (by decide +kernel) rfl)⟩
theorem ffX11_63 : FF RX11 63 11 27 0 := ⟨_, _, _, _, cfX11, by decide, rfl, x_tb 1190 (by decide +kernel) rfl, rfl, rfl⟩
theorem flX11_343 : FL RX11 343 11 28 2 := ⟨_, _, _, _, cfX11, by decide, rfl, Or.inl (x_tb 1191 (by decide +kernel) rfl)⟩
theorem fpX11_343 : FP RX11 343 11 28 2 := ⟨_, _, _, _, cfX11, by decide, rfl, x_tb 1191 (by decide +kernel) rfl, rfl⟩
theorem flX11_346 : FL RX11 346 11 29 1 := ⟨_, _, _, _, cfX11, by decide, rfl, Or.inl (x_tb 1192 (by decide +kernel) rfl)⟩
theorem fpX11_346 : FP RX11 346 11 29 1 := ⟨_, _, _, _, cfX11, by decide, rfl, x_tb 1192 (by decide +kernel) rfl, rfl⟩
theorem flX11_349 : FL RX11 349 11 30 1 := ⟨_, _, _, _, cfX11, by decide, rfl, Or.inl (x_tb 1193 (by decide +kernel) rfl)⟩
theorem fpX11_349 : FP RX11 349 11 30 1 := ⟨_, _, _, _, cfX11, by decide, rfl, x_tb 1193 (by decide +kernel) rfl, rfl⟩
theorem flX11_66 : FL RX11 66 11 31 0 := ⟨_, _, _, _, cfX11, by decide, rfl, Or.inl (x_tb 1194 (by decide +kernel) rfl)⟩
theorem ffX11_66 : FF RX11 66 11 31 0 := ⟨_, _, _, _, cfX11, by decide, rfl, x_tb 1194 (by decide +kernel) rfl, rfl, rfl⟩
theorem flX11_69 : FL RX11 69 11 32 0 := ⟨_, _, _, _, cfX11, by decide, rfl, Or.inl (x_tb 1195 (by decide +kernel) rfl)⟩
theorem ffX11_69 : FF RX11 69 11 32 0 := ⟨_, _, _, _, cfX11, by decide, rfl, x_tb 1195 (by decide +kernel) rfl, rfl, rfl⟩
theorem flX11_72 : FL RX11 72 11 33 0 := ⟨_, _, _, _, cfX11, by decide, rfl, Or.inl (x_tb 1196 (by decide +kernel) rfl)⟩
theorem ffX11_72 : FF RX11 72 11 33 0 := ⟨_, _, _, _, cfX11, by decide, rfl, x_tb 1196 (by decide +kernel) rfl, rfl, rfl⟩
theorem flX11_189 : FL RX11 189 11 34 1 := ⟨_, _, _, _, cfX11, by decide, rfl, Or.inl (x_tb 1197 (by decide +kernel) rfl)⟩
theorem fpX11_189 : FP RX11 189 11 34 1 := ⟨_, _, _, _, cfX11, by decide, rfl, x_tb 1197 (by decide +kernel) rfl, rfl⟩
theorem flX11_186 : FL RX11 186 11 35 1 := ⟨_, _, _, _, cfX11, by decide, rfl, Or.inl (x_tb 1198 (by decide +kernel) rfl)⟩
theorem fpX11_186 : FP RX11 186 11 35 1 := ⟨_, _, _, _, cfX11, by decide, rfl, x_tb 1198 (by decide +kernel) rfl, rfl⟩
theorem flX11_75 : FL RX11 75 11 36 0 := ⟨_, _, _, _, cfX11, by decide, rfl, Or.inl (x_tb 1199 (by decide +kernel) rfl)⟩
theorem ffX11_75 : FF RX11 75 11 36 0 := ⟨_, _, _, _, cfX11, by decide, rfl, x_tb 1199 (by decide +kernel) rfl, rfl, rfl⟩
theorem flX11_373 : FL RX11 373 11 37 1 := ⟨_, _, _, _, cfX11, by decide, rfl, Or.inl (x_tb 1200 (by decide +kernel) rfl)⟩
theorem fpX11_373 : FP RX11 373 11 37 1 := ⟨_, _, _, _, cfX11, by decide, rfl, x_tb 1200 (by decide +kernel) rfl, rfl⟩
theorem flX11_78 : FL RX11 78 11 38 0 := ⟨_, _, _, _, cfX11, by decide, rfl, Or.inl (x_tb 1201 (by decide +kernel) rfl)⟩
theorem ffX11_78 : FF RX11 78 11 38 0 := ⟨_, _, _, _, cfX11, by decide, rfl, x_tb 1201 (by decide +kernel) rfl, rfl, rfl⟩
theorem flX11_352 : FL RX11 352 11 39 1 := ⟨_, _, _, _, cfX11, by decide, rfl, Or.inl (x_tb 1202 (by decide +kernel) rfl)⟩
theorem fpX11_352 : FP RX11 352 11 39 1 := ⟨_, _, _, _, cfX11, by decide, rfl, x_tb 1202 (by decide +kernel) rfl, rfl⟩
theorem flX11_81 : FL RX11 81 11 40 0 := ⟨_, _, _, _, cfX11, by decide, rfl, Or.inl (x_tb 1203 (by decide +kernel) rfl)⟩
theorem ffX11_81 : FF RX11 81 11 40 0 := ⟨_, _, _, _, cfX11, by decide, rfl, x_tb 1203 (by decide +kernel) rfl, rfl, rfl⟩
theorem flX11_84 : FL RX11 84 11 41 0 := ⟨_, _, _, _, cfX11, by decide, rfl, Or.inl (x_tb 1204 (by decide +kernel) rfl)⟩
theorem ffX11_84 : FF RX11 84 11 41 0 := ⟨_, _, _, _, cfX11, by decide, rfl, x_tb 1204 (by decide +kernel) rfl, rfl, rfl⟩
theorem flX11_87 : FL RX11 87 11 42 0 := ⟨_, _, _, _, cfX11, by decide, rfl, Or.inl (x_tb 1205 (by decide +kernel) rfl)⟩
theorem ffX11_87 : FF RX11 87 11 42 0 := ⟨_, _, _, _, cfX11, by decide, rfl, x_tb 1205 (by decide +kernel) rfl, rfl, rfl⟩
theorem flX11_90 : FL RX11 90 11 43 0 := ⟨_, _, _, _, cfX11, by decide, rfl, Or.inl (x_tb 1206 (by decide +kernel) rfl)⟩
theorem ffX11_90 : FF RX11 90 11 43 0 := ⟨_, _, _, _, cfX11, by decide, rfl, x_tb 1206 (by decide +kernel) rfl, rfl, rfl⟩
theorem flX11_94 : FL RX11 94 11 44 0 := ⟨_, _, _, _, cfX11, by decide, rfl, Or.inl (x_tb 1207 (by decide +kernel) rfl)⟩
theorem ffX11_94 : FF RX11 94 11 44 0 := ⟨_, _, _, _, cfX11, by decide, rfl, x_tb 1207 (by decide +kernel) rfl, rfl, rfl⟩
theorem flX11_97 : FL RX11 97 11 45 0 := ⟨_, _, _, _, cfX11, by decide, rfl, Or.inl (x_tb 1208 (by decide +kernel) rfl)⟩
theorem ffX11_97 : FF RX11 97 11 45 0 := ⟨_, _, _, _, cfX11, by decide, rfl, x_tb 1208 (by decide +kernel) rfl, rfl, rfl⟩
theorem flX11_100 : FL RX11 100 11 46 0 := ⟨_, _, _, _, cfX11, by decide, rfl, Or.inl (x_tb 1209 (by decide +kernel) rfl)⟩
theorem ffX11_100 : FF RX11 100 11 46 0 := ⟨_, _, _, _, cfX11, by decide, rfl, x_tb 1209 (by decide +kernel) rfl, rfl, rfl⟩
theorem flX11_103 : FL RX11 103 11 47 0 := ⟨_, _, _, _, cfX11, by decide, rfl, Or.inl (x_tb 1210 (by decide +kernel) rfl)⟩
theorem ffX11_103 : FF RX11 103 11 47 0 := ⟨_, _, _, _, cfX11, by decide, rfl, x_tb 1210 (by decide +kernel) rfl, rfl, rfl⟩
theorem flX11_106 : FL RX11 106 11 48 0 := ⟨_, _, _, _, cfX11, by decide, rfl, Or.inl (x_tb 1211 (by decide +kernel) rfl)⟩
theorem ffX11_106 : FF RX11 106 11 48 0 := ⟨_, _, _, _, cfX11, by decide, rfl, x_tb 1211 (by decide +kernel) rfl, rfl, rfl⟩
theorem flX11_109 : FL RX11 109 11 49 0 := ⟨_, _, _, _, cfX11, by decide, rfl, Or.inl (x_tb 1212 (by decide +kernel) rfl)⟩
theorem ffX11_109 : FF RX11 109 11 49 0 := ⟨_, _, _, _, cfX11, by decide, rfl, x_tb 1212 (by decide +kernel) rfl, rfl, rfl⟩
theorem klL_7 : Cond.classLink RL 7 "CutFromOthers" ∈ x_tbl := x_tb 95 (by decide +kernel) rfl
theorem klX10_7 : Cond.classLink RX10 7 "CutFromOthers$Stock" ∈ x_tbl := x_tb 103 (by decide +kernel) rfl
theorem klX5_9 : Cond.classLink RX5 9 "CutFromOthers$Form" ∈ x_tbl := x_tb 109 (by decide +kernel) rfl
theorem klX10_16 : Cond.classLink RX10 16 "CutFromOthers$Tape" ∈ x_tbl := x_tb 158 (by decide +kernel) rfl
theorem klX10_23 : Cond.classLink RX10 23 "CutFromOthers$Rule" ∈ x_tbl := x_tb 180 (by decide +kernel) rfl
theorem klX10_30 : Cond.classLink RX10 30 "CutFromOthers$Rows" ∈ x_tbl := x_tb 202 (by decide +kernel) rfl
theorem klX10_39 : Cond.classLink RX10 39 "CutFromOthers$Told" ∈ x_tbl := x_tb 230 (by decide +kernel) rfl
theorem klX10_48 : Cond.classLink RX10 48 "CutFromOthers$Yard" ∈ x_tbl := x_tb 249 (by decide +kernel) rfl
theorem klX10_55 : Cond.classLink RX10 55 "CutFromOthers$Changes" ∈ x_tbl := x_tb 283 (by decide +kernel) rfl
theorem klX10_62 : Cond.classLink RX10 62 "CutFromOthers$Stones" ∈ x_tbl := x_tb 299 (by decide +kernel) rfl
theorem klX10_69 : Cond.classLink RX10 69 "CutFromOthers$Shelves" ∈ x_tbl := x_tb 318 (by decide +kernel) rfl
theorem klX10_76 : Cond.classLink RX10 76 "CutFromOthers$Form" ∈ x_tbl := x_tb 335 (by decide +kernel) rfl
theorem kcX10_361 : Cond.constant RX10 361 (33554431) ∈ x_tbl := x_tb 375 (by decide +kernel) rfl
theorem kcJ6_265 : Cond.constant RJ6 265 (1431655765) ∈ x_tbl := x_tb 387 (by decide +kernel) rfl
theorem kcJ6_266 : Cond.constant RJ6 266 (858993459) ∈ x_tbl := x_tb 388 (by decide +kernel) rfl
theorem kcJ6_267 : Cond.constant RJ6 267 (252645135) ∈ x_tbl := x_tb 389 (by decide +kernel) rfl
theorem kcX1_55 : Cond.constant RX1 55 (1082401) ∈ x_tbl := x_tb 393 (by decide +kernel) rfl
theorem fsJ0_38 : Cond.fieldLink RJ0 38 "java/lang/String" "COMPACT_STRINGS" "Z" ∈ x_tbl := x_tb 566 (by decide +kernel) rfl
theorem kcJ2_227 : Cond.constant RJ2 227 (65536) ∈ x_tbl := x_tb 596 (by decide +kernel) rfl
theorem kcJ11_110 : Cond.constant RJ11 110 (55232) ∈ x_tbl := x_tb 635 (by decide +kernel) rfl
theorem kcJ11_76 : Cond.constant RJ11 76 (56320) ∈ x_tbl := x_tb 639 (by decide +kernel) rfl
theorem kcX1_50 : Cond.constant RX1 50 (33554431) ∈ x_tbl := x_tb 857 (by decide +kernel) rfl
theorem kcX8_74 : Cond.constantLong RX8 74 (-1) ∈ x_tbl := x_tb 915 (by decide +kernel) rfl
theorem kcX2_93 : Cond.constant RX2 93 (1103515245) ∈ x_tbl := x_tb 961 (by decide +kernel) rfl
theorem kcX10_324 : Cond.constantLong RX10 324 (-9223372036854775808) ∈ x_tbl := x_tb 1111 (by decide +kernel) rfl
theorem klL_10 : Cond.classLink RL 10 "CutFromOthersModel" ∈ x_tbl := x_tb 1157 (by decide +kernel) rfl
theorem kcX11_130 : Cond.constant RX11 130 (33554431) ∈ x_tbl := x_tb 1321 (by decide +kernel) rfl
theorem kcX11_177 : Cond.constantLong RX11 177 (2) ∈ x_tbl := x_tb 1336 (by decide +kernel) rfl
theorem kcX11_137 : Cond.constant RX11 137 (1082401) ∈ x_tbl := x_tb 1460 (by decide +kernel) rfl
theorem kcX11_339 : Cond.constant RX11 339 (1103515245) ∈ x_tbl := x_tb 1633 (by decide +kernel) rfl
theorem kcX11_383 : Cond.constantLong RX11 383 (-9223372036854775808) ∈ x_tbl := x_tb 1715 (by decide +kernel) rfl
theorem kcL_174 : Cond.constantLong RL 174 (4294967295) ∈ x_tbl := x_tb 1728 (by decide +kernel) rfl
theorem fsJ0_15 : Cond.fieldLink RJ0 15 "java/lang/String" "coder" "B" ∈ x_tbl := x_tb 1729 (by decide +kernel) rfl
theorem fsJ0_9 : Cond.fieldLink RJ0 9 "java/lang/String" "value" "[B" ∈ x_tbl := x_tb 1730 (by decide +kernel) rfl
theorem ka_int : Cond.arrayClass .int ∈ x_tbl := x_tb 141 (by decide +kernel) rfl
theorem ka_long : Cond.arrayClass .long ∈ x_tbl := x_tb 334 (by decide +kernel) rfl
end
section
/-! DECODED: each method's instructions, checked at once -/
def x_dk (c : ByteArray) (l : List (Nat × Instr × Nat)) : Bool := l.all (fun q => match decode c q.1 with
  | .ok (i, n) => decide (i = q.2.1) && decide (n = q.2.2)
  | .error _ => false)
theorem dk {c : ByteArray} {l : List (Nat × Instr × Nat)} (h : x_dk c l = true) (j : Nat) {pc n : Nat} {i : Instr} (hq : l[j]? = some (pc, i, n)) : decode c pc = .ok (i, n) := by
  have h1 := List.all_eq_true.mp h _ (List.mem_of_getElem? hq)
  dsimp only at h1
  split at h1
  · next i' n' he =>
    simp only [Bool.and_eq_true, decide_eq_true_eq] at h1
    rw [he, h1.1, h1.2]
  · cases h1
def IX0_init : List (Nat × Instr × Nat) := [(0, .aload_n 0, 1), (1, .invokespecial 3, 3), (4, .aload_n 0, 1), (5, .sipush 160, 3), (8, .newarray .int, 2), (10, .putfield 11, 3), (13, .return_, 1)]
theorem DX0_init : x_dk cX0_init IX0_init = true := by decide +kernel
def IX0_done : List (Nat × Instr × Nat) := [(0, .aload_n 0, 1), (1, .getfield 15, 3), (4, .ireturn, 1)]
theorem DX0_done : x_dk cX0_done IX0_done = true := by decide +kernel
def IX0_add : List (Nat × Instr × Nat) := [(0, .aload_n 0, 1), (1, .getfield 15, 3), (4, .bipush 40, 2), (6, .if_icmp .lt 25, 3), (9, .aload_n 0, 1), (10, .getfield 11, 3), (13, .iconst 4, 1), (14, .aload_n 0, 1), (15, .getfield 11, 3), (18, .iconst 0, 1), (19, .sipush 156, 3), (22, .invokestatic 19, 3), (25, .aload_n 0, 1), (26, .bipush 39, 2), (28, .putfield 15, 3), (31, .aload_n 0, 1), (32, .getfield 15, 3), (35, .iconst 4, 1), (36, .imul, 1), (37, .istore 5, 2), (39, .aload_n 0, 1), (40, .getfield 11, 3), (43, .iload 5, 2), (45, .iload_n 1, 1), (46, .iastore, 1), (47, .aload_n 0, 1), (48, .getfield 11, 3), (51, .iload 5, 2), (53, .iconst 1, 1), (54, .iadd, 1), (55, .iload_n 2, 1), (56, .iastore, 1), (57, .aload_n 0, 1), (58, .getfield 11, 3), (61, .iload 5, 2), (63, .iconst 2, 1), (64, .iadd, 1), (65, .iload_n 3, 1), (66, .iastore, 1), (67, .aload_n 0, 1), (68, .getfield 11, 3), (71, .iload 5, 2), (73, .iconst 3, 1), (74, .iadd, 1), (75, .iload 4, 2), (77, .iastore, 1), (78, .aload_n 0, 1), (79, .dup, 1), (80, .getfield 15, 3), (83, .iconst 1, 1), (84, .iadd, 1), (85, .putfield 15, 3), (88, .aload_n 0, 1), (89, .iconst 0, 1), (90, .putfield 25, 3), (93, .return_, 1)]
theorem DX0_add : x_dk cX0_add IX0_add = true := by decide +kernel
def IX0_takeBack : List (Nat × Instr × Nat) := [(0, .aload_n 0, 1), (1, .getfield 15, 3), (4, .ifCond .ne 6, 3), (7, .bipush (-5), 2), (9, .ireturn, 1), (10, .aload_n 0, 1), (11, .dup, 1), (12, .getfield 15, 3), (15, .iconst 1, 1), (16, .isub, 1), (17, .putfield 15, 3), (20, .aload_n 0, 1), (21, .dup, 1), (22, .getfield 25, 3), (25, .iconst 1, 1), (26, .iadd, 1), (27, .putfield 25, 3), (30, .aload_n 0, 1), (31, .getfield 15, 3), (34, .iconst 4, 1), (35, .imul, 1), (36, .istore_n 2, 1), (37, .aload_n 1, 1), (38, .aload_n 0, 1), (39, .getfield 11, 3), (42, .iload_n 2, 1), (43, .iaload, 1), (44, .aload_n 0, 1), (45, .getfield 11, 3), (48, .iload_n 2, 1), (49, .iconst 1, 1), (50, .iadd, 1), (51, .iaload, 1), (52, .aload_n 0, 1), (53, .getfield 11, 3), (56, .iload_n 2, 1), (57, .iconst 2, 1), (58, .iadd, 1), (59, .iaload, 1), (60, .invokevirtual 28, 3), (63, .aload_n 0, 1), (64, .getfield 15, 3), (67, .ireturn, 1)]
theorem DX0_takeBack : x_dk cX0_takeBack IX0_takeBack = true := by decide +kernel
def IX0_doAgain : List (Nat × Instr × Nat) := [(0, .aload_n 0, 1), (1, .getfield 25, 3), (4, .ifCond .ne 6, 3), (7, .bipush (-5), 2), (9, .ireturn, 1), (10, .aload_n 0, 1), (11, .getfield 15, 3), (14, .iconst 4, 1), (15, .imul, 1), (16, .istore_n 2, 1), (17, .aload_n 1, 1), (18, .aload_n 0, 1), (19, .getfield 11, 3), (22, .iload_n 2, 1), (23, .iaload, 1), (24, .aload_n 0, 1), (25, .getfield 11, 3), (28, .iload_n 2, 1), (29, .iconst 1, 1), (30, .iadd, 1), (31, .iaload, 1), (32, .aload_n 0, 1), (33, .getfield 11, 3), (36, .iload_n 2, 1), (37, .iconst 3, 1), (38, .iadd, 1), (39, .iaload, 1), (40, .invokevirtual 28, 3), (43, .aload_n 0, 1), (44, .dup, 1), (45, .getfield 15, 3), (48, .iconst 1, 1), (49, .iadd, 1), (50, .putfield 15, 3), (53, .aload_n 0, 1), (54, .dup, 1), (55, .getfield 25, 3), (58, .iconst 1, 1), (59, .isub, 1), (60, .putfield 25, 3), (63, .aload_n 0, 1), (64, .getfield 25, 3), (67, .ireturn, 1)]
theorem DX0_doAgain : x_dk cX0_doAgain IX0_doAgain = true := by decide +kernel
def IX1_init : List (Nat × Instr × Nat) := [(0, .aload_n 0, 1), (1, .invokespecial 3, 3), (4, .aload_n 0, 1), (5, .iconst 4, 1), (6, .newarray .int, 2), (8, .putfield 11, 3), (11, .aload_n 0, 1), (12, .bipush 100, 2), (14, .newarray .int, 2), (16, .putfield 15, 3), (19, .aload_n 0, 1), (20, .bipush 100, 2), (22, .newarray .int, 2), (24, .putfield 18, 3), (27, .return_, 1)]
theorem DX1_init : x_dk cX1_init IX1_init = true := by decide +kernel
def IX1_take : List (Nat × Instr × Nat) := [(0, .aload_n 0, 1), (1, .iload_n 1, 1), (2, .putfield 21, 3), (5, .aload_n 0, 1), (6, .iload_n 1, 1), (7, .invokestatic 25, 3), (10, .putfield 31, 3), (13, .aload_n 0, 1), (14, .iconst 0, 1), (15, .putfield 34, 3), (18, .iload_n 1, 1), (19, .istore_n 2, 1), (20, .iconst 0, 1), (21, .istore_n 3, 1), (22, .iload_n 3, 1), (23, .iconst 4, 1), (24, .if_icmp .ge 29, 3), (27, .aload_n 0, 1), (28, .getfield 11, 3), (31, .iload_n 3, 1), (32, .iload_n 2, 1), (33, .invokestatic 37, 3), (36, .iastore, 1), (37, .aload_n 0, 1), (38, .iload_n 3, 1), (39, .invokevirtual 40, 3), (42, .iload_n 2, 1), (43, .invokestatic 44, 3), (46, .istore_n 2, 1), (47, .iinc 3 1, 3), (50, .goto (-28), 3), (53, .return_, 1)]
theorem DX1_take : x_dk cX1_take IX1_take = true := by decide +kernel
def IX1_countWays : List (Nat × Instr × Nat) := [(0, .iconst 0, 1), (1, .istore_n 2, 1), (2, .iconst 0, 1), (3, .istore_n 3, 1), (4, .iload_n 3, 1), (5, .aload_n 0, 1), (6, .getfield 34, 3), (9, .if_icmp .ge 25, 3), (12, .aload_n 0, 1), (13, .getfield 15, 3), (16, .iload_n 3, 1), (17, .iaload, 1), (18, .iload_n 1, 1), (19, .iconst (-1), 1), (20, .ixor, 1), (21, .iand, 1), (22, .ifCond .ne 6, 3), (25, .iinc 2 1, 3), (28, .iinc 3 1, 3), (31, .goto (-27), 3), (34, .iload_n 2, 1), (35, .ireturn, 1)]
theorem DX1_countWays : x_dk cX1_countWays IX1_countWays = true := by decide +kernel
def IX1_firstPlace : List (Nat × Instr × Nat) := [(0, .iconst 0, 1), (1, .istore_n 2, 1), (2, .iload_n 2, 1), (3, .aload_n 0, 1), (4, .getfield 34, 3), (7, .if_icmp .ge 24, 3), (10, .aload_n 0, 1), (11, .getfield 15, 3), (14, .iload_n 2, 1), (15, .iaload, 1), (16, .iload_n 1, 1), (17, .iconst (-1), 1), (18, .ixor, 1), (19, .iand, 1), (20, .ifCond .ne 5, 3), (23, .iload_n 2, 1), (24, .ireturn, 1), (25, .iinc 2 1, 3), (28, .goto (-26), 3), (31, .bipush (-2), 2), (33, .ireturn, 1)]
theorem DX1_firstPlace : x_dk cX1_firstPlace IX1_firstPlace = true := by decide +kernel
def IX1_wayAt : List (Nat × Instr × Nat) := [(0, .iload_n 1, 1), (1, .ifCond .lt 20, 3), (4, .iload_n 1, 1), (5, .aload_n 0, 1), (6, .getfield 34, 3), (9, .if_icmp .ge 12, 3), (12, .aload_n 0, 1), (13, .getfield 18, 3), (16, .iload_n 1, 1), (17, .iaload, 1), (18, .goto 5, 3), (21, .bipush (-2), 2), (23, .ireturn, 1)]
theorem DX1_wayAt : x_dk cX1_wayAt IX1_wayAt = true := by decide +kernel
def IX1_shapeAt : List (Nat × Instr × Nat) := [(0, .iload_n 1, 1), (1, .ifCond .lt 20, 3), (4, .iload_n 1, 1), (5, .aload_n 0, 1), (6, .getfield 34, 3), (9, .if_icmp .ge 12, 3), (12, .aload_n 0, 1), (13, .getfield 15, 3), (16, .iload_n 1, 1), (17, .iaload, 1), (18, .goto 7, 3), (21, .aload_n 0, 1), (22, .getfield 21, 3), (25, .ireturn, 1)]
theorem DX1_shapeAt : x_dk cX1_shapeAt IX1_shapeAt = true := by decide +kernel
def IX1_canBeCutOf : List (Nat × Instr × Nat) := [(0, .aload_n 0, 1), (1, .getfield 31, 3), (4, .iload_n 1, 1), (5, .invokestatic 25, 3), (8, .if_icmp .ge 17, 3), (11, .aload_n 0, 1), (12, .iload_n 1, 1), (13, .invokevirtual 47, 3), (16, .bipush (-2), 2), (18, .if_icmp .eq 7, 3), (21, .iconst 1, 1), (22, .goto 4, 3), (25, .iconst 0, 1), (26, .ireturn, 1)]
theorem DX1_canBeCutOf : x_dk cX1_canBeCutOf IX1_canBeCutOf = true := by decide +kernel
def IX1_leastWith : List (Nat × Instr × Nat) := [(0, .ldc 50, 2), (2, .istore_n 2, 1), (3, .bipush 25, 2), (5, .istore_n 3, 1), (6, .aload_n 0, 1), (7, .invokevirtual 51, 3), (10, .istore 4, 2), (12, .aload_n 1, 1), (13, .invokevirtual 51, 3), (16, .istore 5, 2), (18, .iconst 0, 1), (19, .istore 6, 2), (21, .iload 6, 2), (23, .iload 4, 2), (25, .if_icmp .ge 73, 3), (28, .iconst 0, 1), (29, .istore 7, 2), (31, .iload 7, 2), (33, .iload 5, 2), (35, .if_icmp .ge 57, 3), (38, .aload_n 0, 1), (39, .getfield 15, 3), (42, .iload 6, 2), (44, .iaload, 1), (45, .aload_n 1, 1), (46, .getfield 15, 3), (49, .iload 7, 2), (51, .iaload, 1), (52, .ior, 1), (53, .istore 8, 2), (55, .iload 8, 2), (57, .invokestatic 25, 3), (60, .istore 9, 2), (62, .iload 9, 2), (64, .iload_n 3, 1), (65, .if_icmp .lt 15, 3), (68, .iload 9, 2), (70, .iload_n 3, 1), (71, .if_icmp .ne 15, 3), (74, .iload 8, 2), (76, .iload_n 2, 1), (77, .if_icmp .ge 9, 3), (80, .iload 9, 2), (82, .istore_n 3, 1), (83, .iload 8, 2), (85, .istore_n 2, 1), (86, .iinc 7 1, 3), (89, .goto (-58), 3), (92, .iinc 6 1, 3), (95, .goto (-74), 3), (98, .iload_n 2, 1), (99, .ireturn, 1)]
theorem DX1_leastWith : x_dk cX1_leastWith IX1_leastWith = true := by decide +kernel
def IX1_wide : List (Nat × Instr × Nat) := [(0, .iconst 1, 1), (1, .istore_n 1, 1), (2, .iconst 1, 1), (3, .istore_n 2, 1), (4, .iload_n 2, 1), (5, .iconst 5, 1), (6, .if_icmp .ge 22, 3), (9, .iload_n 0, 1), (10, .ldc 55, 2), (12, .iload_n 2, 1), (13, .ishl, 1), (14, .iand, 1), (15, .ifCond .eq 7, 3), (18, .iload_n 2, 1), (19, .iconst 1, 1), (20, .iadd, 1), (21, .istore_n 1, 1), (22, .iinc 2 1, 3), (25, .goto (-21), 3), (28, .iload_n 1, 1), (29, .ireturn, 1)]
theorem DX1_wide : x_dk cX1_wide IX1_wide = true := by decide +kernel
def IX1_tall : List (Nat × Instr × Nat) := [(0, .iconst 1, 1), (1, .istore_n 1, 1), (2, .iconst 1, 1), (3, .istore_n 2, 1), (4, .iload_n 2, 1), (5, .iconst 5, 1), (6, .if_icmp .ge 24, 3), (9, .iload_n 0, 1), (10, .bipush 31, 2), (12, .iconst 5, 1), (13, .iload_n 2, 1), (14, .imul, 1), (15, .ishl, 1), (16, .iand, 1), (17, .ifCond .eq 7, 3), (20, .iload_n 2, 1), (21, .iconst 1, 1), (22, .iadd, 1), (23, .istore_n 1, 1), (24, .iinc 2 1, 3), (27, .goto (-23), 3), (30, .iload_n 1, 1), (31, .ireturn, 1)]
theorem DX1_tall : x_dk cX1_tall IX1_tall = true := by decide +kernel
def IX1_unlikePlaces : List (Nat × Instr × Nat) := [(0, .aload_n 0, 1), (1, .getfield 11, 3), (4, .iconst 1, 1), (5, .iaload, 1), (6, .aload_n 0, 1), (7, .getfield 11, 3), (10, .iconst 0, 1), (11, .iaload, 1), (12, .if_icmp .ne 10, 3), (15, .aload_n 0, 1), (16, .getfield 34, 3), (19, .iconst 4, 1), (20, .idiv, 1), (21, .ireturn, 1), (22, .aload_n 0, 1), (23, .getfield 11, 3), (26, .iconst 2, 1), (27, .iaload, 1), (28, .aload_n 0, 1), (29, .getfield 11, 3), (32, .iconst 0, 1), (33, .iaload, 1), (34, .if_icmp .ne 12, 3), (37, .aload_n 0, 1), (38, .getfield 34, 3), (41, .iconst 2, 1), (42, .idiv, 1), (43, .goto 7, 3), (46, .aload_n 0, 1), (47, .getfield 34, 3), (50, .ireturn, 1)]
theorem DX1_unlikePlaces : x_dk cX1_unlikePlaces IX1_unlikePlaces = true := by decide +kernel
def IX1_addPlaces : List (Nat × Instr × Nat) := [(0, .aload_n 0, 1), (1, .getfield 11, 3), (4, .iload_n 1, 1), (5, .iaload, 1), (6, .istore_n 2, 1), (7, .iconst 5, 1), (8, .iload_n 2, 1), (9, .invokestatic 56, 3), (12, .isub, 1), (13, .istore_n 3, 1), (14, .iconst 5, 1), (15, .iload_n 2, 1), (16, .invokestatic 59, 3), (19, .isub, 1), (20, .istore 4, 2), (22, .iconst 0, 1), (23, .istore 5, 2), (25, .iload 5, 2), (27, .iload 4, 2), (29, .if_icmp .gt 83, 3), (32, .iconst 0, 1), (33, .istore 6, 2), (35, .iload 6, 2), (37, .iload_n 3, 1), (38, .if_icmp .gt 68, 3), (41, .aload_n 0, 1), (42, .getfield 34, 3), (45, .bipush 100, 2), (47, .if_icmp .ge 59, 3), (50, .aload_n 0, 1), (51, .getfield 15, 3), (54, .aload_n 0, 1), (55, .getfield 34, 3), (58, .iload_n 2, 1), (59, .iconst 5, 1), (60, .iload 5, 2), (62, .imul, 1), (63, .iload 6, 2), (65, .iadd, 1), (66, .ishl, 1), (67, .iastore, 1), (68, .aload_n 0, 1), (69, .getfield 18, 3), (72, .aload_n 0, 1), (73, .getfield 34, 3), (76, .bipush 100, 2), (78, .iload_n 1, 1), (79, .imul, 1), (80, .bipush 10, 2), (82, .iload 5, 2), (84, .imul, 1), (85, .iadd, 1), (86, .iload 6, 2), (88, .iadd, 1), (89, .iastore, 1), (90, .aload_n 0, 1), (91, .dup, 1), (92, .getfield 34, 3), (95, .iconst 1, 1), (96, .iadd, 1)]
theorem DX1_addPlaces : x_dk cX1_addPlaces IX1_addPlaces = true := by decide +kernel
def IX1_addPlaces_1 : List (Nat × Instr × Nat) := [(97, .putfield 34, 3), (100, .iinc 6 1, 3), (103, .goto (-68), 3), (106, .iinc 5 1, 3), (109, .goto (-84), 3), (112, .return_, 1)]
theorem DX1_addPlaces_1 : x_dk cX1_addPlaces IX1_addPlaces_1 = true := by decide +kernel
def IX1_cornered : List (Nat × Instr × Nat) := [(0, .iload_n 0, 1), (1, .istore_n 1, 1), (2, .iconst 1, 1), (3, .istore_n 2, 1), (4, .iload_n 2, 1), (5, .iconst 5, 1), (6, .if_icmp .ge 20, 3), (9, .iload_n 1, 1), (10, .bipush 31, 2), (12, .iand, 1), (13, .ifCond .ne 13, 3), (16, .iload_n 1, 1), (17, .iconst 5, 1), (18, .ishr, 1), (19, .istore_n 1, 1), (20, .iinc 2 1, 3), (23, .goto (-19), 3), (26, .iconst 1, 1), (27, .istore_n 2, 1), (28, .iload_n 2, 1), (29, .iconst 5, 1), (30, .if_icmp .ge 20, 3), (33, .iload_n 1, 1), (34, .ldc 55, 2), (36, .iand, 1), (37, .ifCond .ne 13, 3), (40, .iload_n 1, 1), (41, .iconst 1, 1), (42, .ishr, 1), (43, .istore_n 1, 1), (44, .iinc 2 1, 3), (47, .goto (-19), 3), (50, .iload_n 1, 1), (51, .ireturn, 1)]
theorem DX1_cornered : x_dk cX1_cornered IX1_cornered = true := by decide +kernel
def IX1_turnedOnce : List (Nat × Instr × Nat) := [(0, .iconst 0, 1), (1, .istore_n 1, 1), (2, .iconst 0, 1), (3, .istore_n 2, 1), (4, .iload_n 2, 1), (5, .iconst 5, 1), (6, .if_icmp .ge 49, 3), (9, .iconst 0, 1), (10, .istore_n 3, 1), (11, .iload_n 3, 1), (12, .iconst 5, 1), (13, .if_icmp .ge 36, 3), (16, .iload_n 0, 1), (17, .iconst 5, 1), (18, .iload_n 2, 1), (19, .imul, 1), (20, .iload_n 3, 1), (21, .iadd, 1), (22, .ishr, 1), (23, .iconst 1, 1), (24, .iand, 1), (25, .iconst 1, 1), (26, .if_icmp .ne 17, 3), (29, .iload_n 1, 1), (30, .iconst 1, 1), (31, .iconst 5, 1), (32, .iload_n 3, 1), (33, .imul, 1), (34, .iconst 5, 1), (35, .iadd, 1), (36, .iconst 1, 1), (37, .isub, 1), (38, .iload_n 2, 1), (39, .isub, 1), (40, .ishl, 1), (41, .ior, 1), (42, .istore_n 1, 1), (43, .iinc 3 1, 3), (46, .goto (-35), 3), (49, .iinc 2 1, 3), (52, .goto (-48), 3), (55, .iload_n 1, 1), (56, .ireturn, 1)]
theorem DX1_turnedOnce : x_dk cX1_turnedOnce IX1_turnedOnce = true := by decide +kernel
def IX2_init : List (Nat × Instr × Nat) := [(0, .aload_n 0, 1), (1, .invokespecial 3, 3), (4, .aload_n 0, 1), (5, .bipush 10, 2), (7, .newarray .int, 2), (9, .putfield 9, 3), (12, .aload_n 0, 1), (13, .bipush 100, 2), (15, .newarray .int, 2), (17, .putfield 15, 3), (20, .aload_n 0, 1), (21, .bipush 100, 2), (23, .newarray .int, 2), (25, .putfield 18, 3), (28, .aload_n 0, 1), (29, .bipush 10, 2), (31, .newarray .int, 2), (33, .putfield 21, 3), (36, .aload_n 0, 1), (37, .aload_n 1, 1), (38, .putfield 24, 3), (41, .aload_n 0, 1), (42, .aload_n 2, 1), (43, .putfield 28, 3), (46, .return_, 1)]
theorem DX2_init : x_dk cX2_init IX2_init = true := by decide +kernel
def IX2_measure : List (Nat × Instr × Nat) := [(0, .iconst 0, 1), (1, .istore_n 2, 1), (2, .iload_n 2, 1), (3, .aload_n 0, 1), (4, .getfield 24, 3), (7, .invokevirtual 32, 3), (10, .if_icmp .ge 50, 3), (13, .aload_n 0, 1), (14, .getfield 24, 3), (17, .iload_n 2, 1), (18, .invokevirtual 38, 3), (21, .istore_n 3, 1), (22, .aload_n 0, 1), (23, .getfield 9, 3), (26, .iload_n 3, 1), (27, .iload_n 1, 1), (28, .iload_n 3, 1), (29, .invokestatic 42, 3), (32, .ifCond .eq 20, 3), (35, .iconst 1, 1), (36, .aload_n 0, 1), (37, .aload_n 0, 1), (38, .getfield 24, 3), (41, .iload_n 3, 1), (42, .invokevirtual 46, 3), (45, .invokevirtual 49, 3), (48, .iadd, 1), (49, .goto 4, 3), (52, .iconst 0, 1), (53, .iastore, 1), (54, .iinc 2 1, 3), (57, .goto (-55), 3), (60, .return_, 1)]
theorem DX2_measure : x_dk cX2_measure IX2_measure = true := by decide +kernel
def IX2_longestOf : List (Nat × Instr × Nat) := [(0, .iconst 0, 1), (1, .istore_n 2, 1), (2, .iconst 0, 1), (3, .istore_n 3, 1), (4, .iload_n 3, 1), (5, .aload_n 0, 1), (6, .getfield 24, 3), (9, .invokevirtual 32, 3), (12, .if_icmp .ge 28, 3), (15, .iload_n 1, 1), (16, .iload_n 3, 1), (17, .invokestatic 42, 3), (20, .ifCond .eq 14, 3), (23, .iload_n 2, 1), (24, .aload_n 0, 1), (25, .getfield 9, 3), (28, .iload_n 3, 1), (29, .iaload, 1), (30, .invokestatic 52, 3), (33, .istore_n 2, 1), (34, .iinc 3 1, 3), (37, .goto (-33), 3), (40, .iload_n 2, 1), (41, .ireturn, 1)]
theorem DX2_longestOf : x_dk cX2_longestOf IX2_longestOf = true := by decide +kernel
def IX2_inLongest : List (Nat × Instr × Nat) := [(0, .iload_n 1, 1), (1, .istore_n 3, 1), (2, .iconst 0, 1), (3, .istore 4, 2), (5, .iload 4, 2), (7, .bipush 10, 2), (9, .if_icmp .ge 47, 3), (12, .aload_n 0, 1), (13, .iload_n 3, 1), (14, .aload_n 0, 1), (15, .iload_n 3, 1), (16, .invokevirtual 49, 3), (19, .invokevirtual 58, 3), (22, .istore 5, 2), (24, .iload 5, 2), (26, .bipush (-2), 2), (28, .if_icmp .eq 9, 3), (31, .iload 4, 2), (33, .iload_n 2, 1), (34, .if_icmp .ne 6, 3), (37, .iload 5, 2), (39, .ireturn, 1), (40, .aload_n 0, 1), (41, .getfield 24, 3), (44, .iload 5, 2), (46, .invokevirtual 46, 3), (49, .istore_n 3, 1), (50, .iinc 4 1, 3), (53, .goto (-48), 3), (56, .bipush (-2), 2), (58, .ireturn, 1)]
theorem DX2_inLongest : x_dk cX2_inLongest IX2_inLongest = true := by decide +kernel
def IX2_longestWithout : List (Nat × Instr × Nat) := [(0, .aload_n 0, 1), (1, .aload_n 0, 1), (2, .getfield 24, 3), (5, .invokevirtual 61, 3), (8, .iconst 1, 1), (9, .iload_n 2, 1), (10, .ishl, 1), (11, .iconst (-1), 1), (12, .ixor, 1), (13, .iand, 1), (14, .invokevirtual 64, 3), (17, .aload_n 0, 1), (18, .iload_n 1, 1), (19, .invokevirtual 49, 3), (22, .ireturn, 1)]
theorem DX2_longestWithout : x_dk cX2_longestWithout IX2_longestWithout = true := by decide +kernel
def IX2_longestWith : List (Nat × Instr × Nat) := [(0, .aload_n 0, 1), (1, .getfield 24, 3), (4, .iload_n 2, 1), (5, .invokevirtual 68, 3), (8, .aload_n 0, 1), (9, .getfield 24, 3), (12, .iload_n 2, 1), (13, .invokevirtual 46, 3), (16, .ior, 1), (17, .istore 4, 2), (19, .iload_n 1, 1), (20, .iload_n 2, 1), (21, .invokestatic 42, 3), (24, .ifCond .eq 20, 3), (27, .iload_n 1, 1), (28, .iload_n 3, 1), (29, .invokestatic 42, 3), (32, .ifCond .eq 12, 3), (35, .iload 4, 2), (37, .iload_n 3, 1), (38, .invokestatic 42, 3), (41, .ifCond .ne 6, 3), (44, .bipush (-2), 2), (46, .ireturn, 1), (47, .iconst 1, 1), (48, .iload_n 2, 1), (49, .ishl, 1), (50, .iconst 1, 1), (51, .iload_n 3, 1), (52, .ishl, 1), (53, .ior, 1), (54, .istore 5, 2), (56, .aload_n 0, 1), (57, .iload 4, 2), (59, .aload_n 0, 1), (60, .getfield 24, 3), (63, .iload_n 3, 1), (64, .invokevirtual 68, 3), (67, .aload_n 0, 1), (68, .getfield 24, 3), (71, .iload_n 3, 1), (72, .invokevirtual 46, 3), (75, .ior, 1), (76, .iand, 1), (77, .iload 5, 2), (79, .ior, 1), (80, .invokevirtual 64, 3), (83, .aload_n 0, 1), (84, .iload_n 1, 1), (85, .invokevirtual 49, 3), (88, .ireturn, 1)]
theorem DX2_longestWith : x_dk cX2_longestWith IX2_longestWith = true := by decide +kernel
def IX2_weigh : List (Nat × Instr × Nat) := [(0, .bipush 9, 2), (2, .istore_n 2, 1), (3, .iload_n 2, 1), (4, .ifCond .lt 141, 3), (7, .iconst 0, 1), (8, .istore_n 3, 1), (9, .iload_n 3, 1), (10, .aload_n 0, 1), (11, .getfield 24, 3), (14, .invokevirtual 32, 3), (17, .if_icmp .ge 122, 3), (20, .aload_n 0, 1), (21, .aload_n 0, 1), (22, .getfield 24, 3), (25, .iload_n 3, 1), (26, .invokevirtual 46, 3), (29, .iload_n 2, 1), (30, .iconst 1, 1), (31, .iadd, 1), (32, .invokevirtual 71, 3), (35, .istore 4, 2), (37, .iload_n 2, 1), (38, .bipush 10, 2), (40, .imul, 1), (41, .iload_n 3, 1), (42, .iadd, 1), (43, .istore 5, 2), (45, .aload_n 0, 1), (46, .getfield 15, 3), (49, .iload 5, 2), (51, .aload_n 0, 1), (52, .getfield 28, 3), (55, .aload_n 0, 1), (56, .getfield 24, 3), (59, .iload_n 3, 1), (60, .iload_n 1, 1), (61, .iload_n 2, 1), (62, .iadd, 1), (63, .iload_n 2, 1), (64, .invokevirtual 74, 3), (67, .iastore, 1), (68, .aload_n 0, 1), (69, .getfield 18, 3), (72, .iload 5, 2), (74, .iconst 1, 1), (75, .iastore, 1), (76, .iload 4, 2), (78, .bipush (-2), 2), (80, .if_icmp .eq 53, 3), (83, .aload_n 0, 1), (84, .getfield 15, 3), (87, .iload 5, 2), (89, .dup2, 1), (90, .iaload, 1), (91, .aload_n 0, 1), (92, .getfield 15, 3), (95, .iload 5, 2), (97, .iload_n 3, 1), (98, .isub, 1), (99, .bipush 10, 2)]
theorem DX2_weigh : x_dk cX2_weigh IX2_weigh = true := by decide +kernel
def IX2_weigh_1 : List (Nat × Instr × Nat) := [(101, .iadd, 1), (102, .iload 4, 2), (104, .iadd, 1), (105, .iaload, 1), (106, .iadd, 1), (107, .iastore, 1), (108, .aload_n 0, 1), (109, .getfield 18, 3), (112, .iload 5, 2), (114, .dup2, 1), (115, .iaload, 1), (116, .aload_n 0, 1), (117, .getfield 18, 3), (120, .iload 5, 2), (122, .iload_n 3, 1), (123, .isub, 1), (124, .bipush 10, 2), (126, .iadd, 1), (127, .iload 4, 2), (129, .iadd, 1), (130, .iaload, 1), (131, .iadd, 1), (132, .iastore, 1), (133, .iinc 3 1, 3), (136, .goto (-127), 3), (139, .iinc 2 (-1), 3), (142, .goto (-139), 3), (145, .return_, 1)]
theorem DX2_weigh_1 : x_dk cX2_weigh IX2_weigh_1 = true := by decide +kernel
def IX2_mostOf : List (Nat × Instr × Nat) := [(0, .aload_n 0, 1), (1, .iload_n 1, 1), (2, .iconst 0, 1), (3, .invokevirtual 71, 3), (6, .istore_n 2, 1), (7, .iload_n 2, 1), (8, .bipush (-2), 2), (10, .if_icmp .ne 7, 3), (13, .iconst 0, 1), (14, .goto 9, 3), (17, .aload_n 0, 1), (18, .getfield 15, 3), (21, .iload_n 2, 1), (22, .iaload, 1), (23, .ireturn, 1)]
theorem DX2_mostOf : x_dk cX2_mostOf IX2_mostOf = true := by decide +kernel
def IX2_inRichest : List (Nat × Instr × Nat) := [(0, .iload_n 1, 1), (1, .istore_n 3, 1), (2, .iconst 0, 1), (3, .istore 4, 2), (5, .iload 4, 2), (7, .bipush 10, 2), (9, .if_icmp .ge 44, 3), (12, .aload_n 0, 1), (13, .iload_n 3, 1), (14, .iload 4, 2), (16, .invokevirtual 71, 3), (19, .istore 5, 2), (21, .iload 5, 2), (23, .bipush (-2), 2), (25, .if_icmp .eq 9, 3), (28, .iload 4, 2), (30, .iload_n 2, 1), (31, .if_icmp .ne 6, 3), (34, .iload 5, 2), (36, .ireturn, 1), (37, .aload_n 0, 1), (38, .getfield 24, 3), (41, .iload 5, 2), (43, .invokevirtual 46, 3), (46, .istore_n 3, 1), (47, .iinc 4 1, 3), (50, .goto (-45), 3), (53, .bipush (-2), 2), (55, .ireturn, 1)]
theorem DX2_inRichest : x_dk cX2_inRichest IX2_inRichest = true := by decide +kernel
def IX2_play : List (Nat × Instr × Nat) := [(0, .aload_n 0, 1), (1, .iconst 0, 1), (2, .putfield 80, 3), (5, .iconst 0, 1), (6, .istore_n 1, 1), (7, .iload_n 1, 1), (8, .aload_n 0, 1), (9, .getfield 24, 3), (12, .invokevirtual 32, 3), (15, .if_icmp .ge 65, 3), (18, .aload_n 0, 1), (19, .getfield 24, 3), (22, .iload_n 1, 1), (23, .invokevirtual 38, 3), (26, .istore_n 2, 1), (27, .aload_n 0, 1), (28, .getfield 21, 3), (31, .iload_n 2, 1), (32, .aload_n 0, 1), (33, .aload_n 0, 1), (34, .getfield 24, 3), (37, .iload_n 2, 1), (38, .invokevirtual 46, 3), (41, .invokevirtual 84, 3), (44, .iastore, 1), (45, .aload_n 0, 1), (46, .aload_n 0, 1), (47, .getfield 24, 3), (50, .iload_n 2, 1), (51, .invokevirtual 46, 3), (54, .invokevirtual 87, 3), (57, .bipush (-2), 2), (59, .if_icmp .ne 15, 3), (62, .aload_n 0, 1), (63, .dup, 1), (64, .getfield 80, 3), (67, .iconst 1, 1), (68, .iload_n 2, 1), (69, .ishl, 1), (70, .ior, 1), (71, .putfield 80, 3), (74, .iinc 1 1, 3), (77, .goto (-70), 3), (80, .return_, 1)]
theorem DX2_play : x_dk cX2_play IX2_play = true := by decide +kernel
def IX2_firstWinning : List (Nat × Instr × Nat) := [(0, .iconst 0, 1), (1, .istore_n 2, 1), (2, .iload_n 2, 1), (3, .aload_n 0, 1), (4, .getfield 24, 3), (7, .invokevirtual 32, 3), (10, .if_icmp .ge 24, 3), (13, .iload_n 1, 1), (14, .aload_n 0, 1), (15, .getfield 80, 3), (18, .iand, 1), (19, .iload_n 2, 1), (20, .invokestatic 42, 3), (23, .ifCond .eq 5, 3), (26, .iload_n 2, 1), (27, .ireturn, 1), (28, .iinc 2 1, 3), (31, .goto (-29), 3), (34, .bipush (-2), 2), (36, .ireturn, 1)]
theorem DX2_firstWinning : x_dk cX2_firstWinning IX2_firstWinning = true := by decide +kernel
def IX2_cutsPlayed : List (Nat × Instr × Nat) := [(0, .iload_n 1, 1), (1, .aload_n 0, 1), (2, .getfield 80, 3), (5, .iand, 1), (6, .ifCond .eq 7, 3), (9, .iconst 1, 1), (10, .goto 4, 3), (13, .iconst 0, 1), (14, .istore_n 2, 1), (15, .iconst 0, 1), (16, .istore_n 3, 1), (17, .bipush 10, 2), (19, .istore 4, 2), (21, .iconst 0, 1), (22, .istore 5, 2), (24, .iload 5, 2), (26, .aload_n 0, 1), (27, .getfield 24, 3), (30, .invokevirtual 32, 3), (33, .if_icmp .ge 62, 3), (36, .iload_n 1, 1), (37, .iload 5, 2), (39, .invokestatic 42, 3), (42, .ifCond .eq 17, 3), (45, .iload_n 3, 1), (46, .iconst 1, 1), (47, .aload_n 0, 1), (48, .getfield 21, 3), (51, .iload 5, 2), (53, .iaload, 1), (54, .iadd, 1), (55, .invokestatic 52, 3), (58, .istore_n 3, 1), (59, .iload_n 1, 1), (60, .aload_n 0, 1), (61, .getfield 80, 3), (64, .iand, 1), (65, .iload 5, 2), (67, .invokestatic 42, 3), (70, .ifCond .eq 19, 3), (73, .iload 4, 2), (75, .iconst 1, 1), (76, .aload_n 0, 1), (77, .getfield 21, 3), (80, .iload 5, 2), (82, .iaload, 1), (83, .iadd, 1), (84, .invokestatic 90, 3), (87, .istore 4, 2), (89, .iinc 5 1, 3), (92, .goto (-68), 3), (95, .iload_n 2, 1), (96, .ifCond .eq 8, 3), (99, .iload 4, 2), (101, .goto 4, 3), (104, .iload_n 3, 1), (105, .ireturn, 1)]
theorem DX2_cutsPlayed : x_dk cX2_cutsPlayed IX2_cutsPlayed = true := by decide +kernel
def IX2_draw : List (Nat × Instr × Nat) := [(0, .iload_n 2, 1), (1, .istore 5, 2), (3, .iconst 0, 1), (4, .istore 6, 2), (6, .iconst 0, 1), (7, .istore 7, 2), (9, .iconst 0, 1), (10, .istore 8, 2), (12, .iload 8, 2), (14, .iload_n 3, 1), (15, .if_icmp .ge 94, 3), (18, .iconst (-1), 1), (19, .istore 9, 2), (21, .iload_n 1, 1), (22, .istore 10, 2), (24, .iconst 0, 1), (25, .istore 11, 2), (27, .iload 11, 2), (29, .bipush 10, 2), (31, .if_icmp .ge 62, 3), (34, .iload 10, 2), (36, .ifCond .eq 57, 3), (39, .iload 5, 2), (41, .ldc 93, 2), (43, .imul, 1), (44, .sipush 12345, 3), (47, .iadd, 1), (48, .istore 5, 2), (50, .aload_n 0, 1), (51, .iload 10, 2), (53, .iload 5, 2), (55, .bipush 8, 2), (57, .iushr, 1), (58, .iconst 1, 1), (59, .iload 10, 2), (61, .invokestatic 94, 3), (64, .invokestatic 52, 3), (67, .irem, 1), (68, .invokevirtual 99, 3), (71, .istore 9, 2), (73, .aload_n 0, 1), (74, .getfield 24, 3), (77, .iload 9, 2), (79, .invokevirtual 46, 3), (82, .istore 10, 2), (84, .iinc 6 1, 3), (87, .iinc 11 1, 3), (90, .goto (-63), 3), (93, .iload 9, 2), (95, .iload 4, 2), (97, .if_icmp .ne 6, 3), (100, .iinc 7 1, 3), (103, .iinc 8 1, 3), (106, .goto (-94), 3), (109, .iload 4, 2), (111, .iconst (-1), 1), (112, .if_icmp .ne 8, 3), (115, .iload 6, 2), (117, .goto 5, 3), (120, .iload 7, 2)]
theorem DX2_draw : x_dk cX2_draw IX2_draw = true := by decide +kernel
def IX2_draw_1 : List (Nat × Instr × Nat) := [(122, .ireturn, 1)]
theorem DX2_draw_1 : x_dk cX2_draw IX2_draw_1 = true := by decide +kernel
def IX2_firstOfLength : List (Nat × Instr × Nat) := [(0, .iconst 0, 1), (1, .istore_n 3, 1), (2, .iload_n 3, 1), (3, .aload_n 0, 1), (4, .getfield 24, 3), (7, .invokevirtual 32, 3), (10, .if_icmp .ge 33, 3), (13, .iload_n 2, 1), (14, .ifCond .le 23, 3), (17, .iload_n 1, 1), (18, .iload_n 3, 1), (19, .invokestatic 42, 3), (22, .ifCond .eq 15, 3), (25, .aload_n 0, 1), (26, .getfield 9, 3), (29, .iload_n 3, 1), (30, .iaload, 1), (31, .iload_n 2, 1), (32, .if_icmp .ne 5, 3), (35, .iload_n 3, 1), (36, .ireturn, 1), (37, .iinc 3 1, 3), (40, .goto (-38), 3), (43, .bipush (-2), 2), (45, .ireturn, 1)]
theorem DX2_firstOfLength : x_dk cX2_firstOfLength IX2_firstOfLength = true := by decide +kernel
def IX2_richestNext : List (Nat × Instr × Nat) := [(0, .bipush (-2), 2), (2, .istore_n 3, 1), (3, .iconst 0, 1), (4, .istore 4, 2), (6, .iconst 0, 1), (7, .istore 5, 2), (9, .iconst 0, 1), (10, .istore 6, 2), (12, .iload 6, 2), (14, .aload_n 0, 1), (15, .getfield 24, 3), (18, .invokevirtual 32, 3), (21, .if_icmp .ge 90, 3), (24, .iload_n 2, 1), (25, .bipush 10, 2), (27, .if_icmp .ge 84, 3), (30, .iload_n 2, 1), (31, .bipush 10, 2), (33, .imul, 1), (34, .iload 6, 2), (36, .iadd, 1), (37, .istore 7, 2), (39, .iload_n 1, 1), (40, .iload 6, 2), (42, .invokestatic 42, 3), (45, .ifCond .eq 60, 3), (48, .aload_n 0, 1), (49, .getfield 15, 3), (52, .iload 7, 2), (54, .iaload, 1), (55, .iload 4, 2), (57, .if_icmp .gt 27, 3), (60, .aload_n 0, 1), (61, .getfield 15, 3), (64, .iload 7, 2), (66, .iaload, 1), (67, .iload 4, 2), (69, .if_icmp .ne 36, 3), (72, .aload_n 0, 1), (73, .getfield 18, 3), (76, .iload 7, 2), (78, .iaload, 1), (79, .iload 5, 2), (81, .if_icmp .ge 24, 3), (84, .iload 6, 2), (86, .istore_n 3, 1), (87, .aload_n 0, 1), (88, .getfield 15, 3), (91, .iload 7, 2), (93, .iaload, 1), (94, .istore 4, 2), (96, .aload_n 0, 1), (97, .getfield 18, 3), (100, .iload 7, 2), (102, .iaload, 1), (103, .istore 5, 2), (105, .iinc 6 1, 3), (108, .goto (-96), 3), (111, .iload_n 3, 1), (112, .ireturn, 1)]
theorem DX2_richestNext : x_dk cX2_richestNext IX2_richestNext = true := by decide +kernel
def IX2_nth : List (Nat × Instr × Nat) := [(0, .iconst 0, 1), (1, .istore_n 3, 1), (2, .iconst 0, 1), (3, .istore 4, 2), (5, .iload 4, 2), (7, .aload_n 0, 1), (8, .getfield 24, 3), (11, .invokevirtual 32, 3), (14, .if_icmp .ge 29, 3), (17, .iload_n 1, 1), (18, .iload 4, 2), (20, .invokestatic 42, 3), (23, .ifCond .eq 14, 3), (26, .iload_n 3, 1), (27, .iload_n 2, 1), (28, .if_icmp .ne 6, 3), (31, .iload 4, 2), (33, .ireturn, 1), (34, .iinc 3 1, 3), (37, .iinc 4 1, 3), (40, .goto (-35), 3), (43, .iconst 0, 1), (44, .ireturn, 1)]
theorem DX2_nth : x_dk cX2_nth IX2_nth = true := by decide +kernel
def IX3_init : List (Nat × Instr × Nat) := [(0, .aload_n 0, 1), (1, .invokespecial 1, 3), (4, .aload_n 0, 1), (5, .sipush 256, 3), (8, .newarray .int, 2), (10, .putfield 9, 3), (13, .aload_n 0, 1), (14, .bipush 6, 2), (16, .newarray .int, 2), (18, .putfield 15, 3), (21, .aload_n 0, 1), (22, .bipush 64, 2), (24, .newarray .int, 2), (26, .putfield 18, 3), (29, .return_, 1)]
theorem DX3_init : x_dk cX3_init IX3_init = true := by decide +kernel
def IX3_take : List (Nat × Instr × Nat) := [(0, .aload_n 0, 1), (1, .aload_n 1, 1), (2, .aload_n 0, 1), (3, .getfield 9, 3), (6, .invokevirtual 21, 3), (9, .putfield 25, 3), (12, .return_, 1)]
theorem DX3_take : x_dk cX3_take IX3_take = true := by decide +kernel
def IX3_worthOf : List (Nat × Instr × Nat) := [(0, .aload_n 1, 1), (1, .iload_n 2, 1), (2, .iconst 0, 1), (3, .invokevirtual 29, 3), (6, .istore 5, 2), (8, .aload_n 1, 1), (9, .iload_n 2, 1), (10, .iconst 1, 1), (11, .invokevirtual 29, 3), (14, .istore 6, 2), (16, .iload_n 3, 1), (17, .aload_n 1, 1), (18, .iload_n 2, 1), (19, .iconst 2, 1), (20, .invokevirtual 29, 3), (23, .isub, 1), (24, .invokestatic 35, 3), (27, .istore 7, 2), (29, .aload_n 0, 1), (30, .getfield 25, 3), (33, .ifCond .ne 16, 3), (36, .iconst 0, 1), (37, .iload 5, 2), (39, .iload 6, 2), (41, .iload 7, 2), (43, .imul, 1), (44, .isub, 1), (45, .invokestatic 41, 3), (48, .ireturn, 1), (49, .aload_n 0, 1), (50, .getfield 15, 3), (53, .iconst 0, 1), (54, .iload 5, 2), (56, .iastore, 1), (57, .aload_n 0, 1), (58, .getfield 15, 3), (61, .iconst 1, 1), (62, .iload 6, 2), (64, .iastore, 1), (65, .aload_n 0, 1), (66, .getfield 15, 3), (69, .iconst 2, 1), (70, .iload 7, 2), (72, .iastore, 1), (73, .aload_n 0, 1), (74, .getfield 15, 3), (77, .iconst 3, 1), (78, .aload_n 1, 1), (79, .iload_n 2, 1), (80, .invokevirtual 44, 3), (83, .getfield 48, 3), (86, .iastore, 1), (87, .aload_n 0, 1), (88, .getfield 15, 3), (91, .iconst 4, 1), (92, .iload 4, 2), (94, .iastore, 1), (95, .aload_n 0, 1), (96, .getfield 15, 3), (99, .iconst 5, 1)]
theorem DX3_worthOf : x_dk cX3_worthOf IX3_worthOf = true := by decide +kernel
def IX3_worthOf_1 : List (Nat × Instr × Nat) := [(100, .iload_n 2, 1), (101, .iastore, 1), (102, .iconst 0, 1), (103, .sipush 9999, 3), (106, .aload_n 0, 1), (107, .invokevirtual 53, 3), (110, .invokestatic 57, 3), (113, .invokestatic 41, 3), (116, .ireturn, 1)]
theorem DX3_worthOf_1 : x_dk cX3_worthOf IX3_worthOf_1 = true := by decide +kernel
def IX3_workOut : List (Nat × Instr × Nat) := [(0, .aload_n 0, 1), (1, .iconst 0, 1), (2, .putfield 60, 3), (5, .iconst 0, 1), (6, .istore_n 1, 1), (7, .iconst 0, 1), (8, .istore_n 2, 1), (9, .iload_n 2, 1), (10, .aload_n 0, 1), (11, .getfield 25, 3), (14, .if_icmp .ge 83, 3), (17, .iload_n 1, 1), (18, .aload_n 0, 1), (19, .getfield 25, 3), (22, .if_icmp .ge 75, 3), (25, .aload_n 0, 1), (26, .getfield 9, 3), (29, .iload_n 1, 1), (30, .iaload, 1), (31, .istore_n 3, 1), (32, .iinc 1 1, 3), (35, .iload_n 3, 1), (36, .iconst (-1), 1), (37, .if_icmp .ne 8, 3), (40, .aload_n 0, 1), (41, .invokevirtual 63, 3), (44, .ireturn, 1), (45, .iload_n 3, 1), (46, .bipush (-2), 2), (48, .if_icmp .ne 38, 3), (51, .aload_n 0, 1), (52, .invokevirtual 63, 3), (55, .ifCond .ne 24, 3), (58, .iload_n 1, 1), (59, .aload_n 0, 1), (60, .getfield 25, 3), (63, .if_icmp .ge 16, 3), (66, .iload_n 1, 1), (67, .aload_n 0, 1), (68, .getfield 9, 3), (71, .iload_n 1, 1), (72, .iaload, 1), (73, .invokestatic 41, 3), (76, .goto 6, 3), (79, .iload_n 1, 1), (80, .iconst 1, 1), (81, .iadd, 1), (82, .istore_n 1, 1), (83, .goto 8, 3), (86, .aload_n 0, 1), (87, .iload_n 3, 1), (88, .invokevirtual 66, 3), (91, .iinc 2 1, 3), (94, .goto (-85), 3), (97, .iconst 0, 1), (98, .ireturn, 1)]
theorem DX3_workOut : x_dk cX3_workOut IX3_workOut = true := by decide +kernel
def IX3_step : List (Nat × Instr × Nat) := [(0, .iload_n 1, 1), (1, .ifCond .lt 11, 3), (4, .aload_n 0, 1), (5, .iload_n 1, 1), (6, .invokevirtual 70, 3), (9, .goto 106, 3), (12, .iload_n 1, 1), (13, .sipush (-1000), 3), (16, .if_icmp .gt 32, 3), (19, .sipush (-1000), 3), (22, .iload_n 1, 1), (23, .isub, 1), (24, .istore_n 2, 1), (25, .aload_n 0, 1), (26, .iload_n 2, 1), (27, .bipush 6, 2), (29, .if_icmp .ge 12, 3), (32, .aload_n 0, 1), (33, .getfield 15, 3), (36, .iload_n 2, 1), (37, .iaload, 1), (38, .goto 4, 3), (41, .iconst 0, 1), (42, .invokevirtual 70, 3), (45, .goto 70, 3), (48, .iload_n 1, 1), (49, .bipush (-3), 2), (51, .if_icmp .ne 15, 3), (54, .aload_n 0, 1), (55, .aload_n 0, 1), (56, .invokevirtual 63, 3), (59, .ineg, 1), (60, .invokevirtual 70, 3), (63, .goto 52, 3), (66, .iload_n 1, 1), (67, .bipush (-4), 2), (69, .if_icmp .ne 25, 3), (72, .aload_n 0, 1), (73, .aload_n 0, 1), (74, .invokevirtual 63, 3), (77, .ifCond .ne 7, 3), (80, .iconst 1, 1), (81, .goto 4, 3), (84, .iconst 0, 1), (85, .invokestatic 73, 3), (88, .invokevirtual 70, 3), (91, .goto 24, 3), (94, .aload_n 0, 1), (95, .invokevirtual 63, 3), (98, .istore_n 2, 1), (99, .aload_n 0, 1), (100, .invokevirtual 63, 3), (103, .istore_n 3, 1), (104, .aload_n 0, 1), (105, .iload_n 1, 1), (106, .ineg, 1), (107, .iload_n 3, 1), (108, .iload_n 2, 1), (109, .invokestatic 77, 3), (112, .invokevirtual 70, 3)]
theorem DX3_step : x_dk cX3_step IX3_step = true := by decide +kernel
def IX3_step_1 : List (Nat × Instr × Nat) := [(115, .return_, 1)]
theorem DX3_step_1 : x_dk cX3_step IX3_step_1 = true := by decide +kernel
def IX3_join : List (Nat × Instr × Nat) := [(0, .iload_n 0, 1), (1, .lookupswitch 203 #[(37, 191), (38, 108), (42, 175), (43, 167), (45, 171), (47, 179), (60, 125), (61, 139), (62, 153), (124, 91)], 91), (92, .iload_n 1, 1), (93, .ifCond .ne 7, 3), (96, .iload_n 2, 1), (97, .ifCond .eq 7, 3), (100, .iconst 1, 1), (101, .goto 4, 3), (104, .iconst 0, 1), (105, .invokestatic 73, 3), (108, .ireturn, 1), (109, .iload_n 1, 1), (110, .ifCond .eq 11, 3), (113, .iload_n 2, 1), (114, .ifCond .eq 7, 3), (117, .iconst 1, 1), (118, .goto 4, 3), (121, .iconst 0, 1), (122, .invokestatic 73, 3), (125, .ireturn, 1), (126, .iload_n 1, 1), (127, .iload_n 2, 1), (128, .if_icmp .ge 7, 3), (131, .iconst 1, 1), (132, .goto 4, 3), (135, .iconst 0, 1), (136, .invokestatic 73, 3), (139, .ireturn, 1), (140, .iload_n 1, 1), (141, .iload_n 2, 1), (142, .if_icmp .ne 7, 3), (145, .iconst 1, 1), (146, .goto 4, 3), (149, .iconst 0, 1), (150, .invokestatic 73, 3), (153, .ireturn, 1), (154, .iload_n 1, 1), (155, .iload_n 2, 1), (156, .if_icmp .le 7, 3), (159, .iconst 1, 1), (160, .goto 4, 3), (163, .iconst 0, 1), (164, .invokestatic 73, 3), (167, .ireturn, 1), (168, .iload_n 1, 1), (169, .iload_n 2, 1), (170, .iadd, 1), (171, .ireturn, 1), (172, .iload_n 1, 1), (173, .iload_n 2, 1), (174, .isub, 1), (175, .ireturn, 1), (176, .iload_n 1, 1), (177, .iload_n 2, 1), (178, .imul, 1), (179, .ireturn, 1), (180, .iload_n 2, 1), (181, .ifCond .ne 7, 3), (184, .iconst 0, 1), (185, .goto 6, 3)]
theorem DX3_join : x_dk cX3_join IX3_join = true := by decide +kernel
def IX3_join_1 : List (Nat × Instr × Nat) := [(188, .iload_n 1, 1), (189, .iload_n 2, 1), (190, .idiv, 1), (191, .ireturn, 1), (192, .iload_n 2, 1), (193, .ifCond .ne 7, 3), (196, .iconst 0, 1), (197, .goto 6, 3), (200, .iload_n 1, 1), (201, .iload_n 2, 1), (202, .irem, 1), (203, .ireturn, 1), (204, .iconst 0, 1), (205, .ireturn, 1)]
theorem DX3_join_1 : x_dk cX3_join IX3_join_1 = true := by decide +kernel
def IX3_truth : List (Nat × Instr × Nat) := [(0, .iload_n 0, 1), (1, .ifCond .eq 7, 3), (4, .iconst 1, 1), (5, .goto 4, 3), (8, .iconst 0, 1), (9, .ireturn, 1)]
theorem DX3_truth : x_dk cX3_truth IX3_truth = true := by decide +kernel
def IX3_push : List (Nat × Instr × Nat) := [(0, .aload_n 0, 1), (1, .getfield 60, 3), (4, .bipush 64, 2), (6, .if_icmp .ge 23, 3), (9, .aload_n 0, 1), (10, .getfield 18, 3), (13, .aload_n 0, 1), (14, .getfield 60, 3), (17, .iload_n 1, 1), (18, .iastore, 1), (19, .aload_n 0, 1), (20, .dup, 1), (21, .getfield 60, 3), (24, .iconst 1, 1), (25, .iadd, 1), (26, .putfield 60, 3), (29, .return_, 1)]
theorem DX3_push : x_dk cX3_push IX3_push = true := by decide +kernel
def IX3_pop : List (Nat × Instr × Nat) := [(0, .aload_n 0, 1), (1, .getfield 60, 3), (4, .ifCond .gt 5, 3), (7, .iconst 0, 1), (8, .ireturn, 1), (9, .aload_n 0, 1), (10, .dup, 1), (11, .getfield 60, 3), (14, .iconst 1, 1), (15, .isub, 1), (16, .putfield 60, 3), (19, .aload_n 0, 1), (20, .getfield 18, 3), (23, .aload_n 0, 1), (24, .getfield 60, 3), (27, .iaload, 1), (28, .ireturn, 1)]
theorem DX3_pop : x_dk cX3_pop IX3_pop = true := by decide +kernel
def IX4_init : List (Nat × Instr × Nat) := [(0, .aload_n 0, 1), (1, .invokespecial 1, 3), (4, .aload_n 0, 1), (5, .bipush 6, 2), (7, .newarray .int, 2), (9, .dup, 1), (10, .iconst 0, 1), (11, .iconst (-1), 1), (12, .iastore, 1), (13, .dup, 1), (14, .iconst 1, 1), (15, .iconst (-1), 1), (16, .iastore, 1), (17, .dup, 1), (18, .iconst 2, 1), (19, .iconst (-1), 1), (20, .iastore, 1), (21, .dup, 1), (22, .iconst 3, 1), (23, .iconst (-1), 1), (24, .iastore, 1), (25, .dup, 1), (26, .iconst 4, 1), (27, .iconst (-1), 1), (28, .iastore, 1), (29, .dup, 1), (30, .iconst 5, 1), (31, .iconst (-1), 1), (32, .iastore, 1), (33, .putfield 9, 3), (36, .aload_n 0, 1), (37, .bipush 6, 2), (39, .newarray .int, 2), (41, .putfield 13, 3), (44, .aload_n 0, 1), (45, .sipush 360, 3), (48, .newarray .long, 2), (50, .putfield 16, 3), (53, .return_, 1)]
theorem DX4_init : x_dk cX4_init IX4_init = true := by decide +kernel
def IX4_has : List (Nat × Instr × Nat) := [(0, .iload_n 1, 1), (1, .ifCond .lt 13, 3), (4, .iload_n 1, 1), (5, .bipush 6, 2), (7, .if_icmp .ge 7, 3), (10, .iconst 1, 1), (11, .goto 4, 3), (14, .iconst 0, 1), (15, .ireturn, 1)]
theorem DX4_has : x_dk cX4_has IX4_has = true := by decide +kernel
def IX4_sortOf : List (Nat × Instr × Nat) := [(0, .aload_n 0, 1), (1, .getfield 9, 3), (4, .iload_n 1, 1), (5, .iaload, 1), (6, .ireturn, 1)]
theorem DX4_sortOf : x_dk cX4_sortOf IX4_sortOf = true := by decide +kernel
def IX4_isRow : List (Nat × Instr × Nat) := [(0, .aload_n 0, 1), (1, .getfield 9, 3), (4, .iload_n 1, 1), (5, .iaload, 1), (6, .ifCond .lt 17, 3), (9, .aload_n 0, 1), (10, .getfield 9, 3), (13, .iload_n 1, 1), (14, .iaload, 1), (15, .iconst 5, 1), (16, .if_icmp .ge 7, 3), (19, .iconst 1, 1), (20, .goto 4, 3), (23, .iconst 0, 1), (24, .ireturn, 1)]
theorem DX4_isRow : x_dk cX4_isRow IX4_isRow = true := by decide +kernel
def IX4_sizeOf : List (Nat × Instr × Nat) := [(0, .aload_n 0, 1), (1, .getfield 13, 3), (4, .iload_n 1, 1), (5, .iaload, 1), (6, .ireturn, 1)]
theorem DX4_sizeOf : x_dk cX4_sizeOf IX4_sizeOf = true := by decide +kernel
def IX4_set : List (Nat × Instr × Nat) := [(0, .aload_n 0, 1), (1, .getfield 9, 3), (4, .iload_n 1, 1), (5, .iload_n 2, 1), (6, .iastore, 1), (7, .aload_n 0, 1), (8, .getfield 13, 3), (11, .iload_n 1, 1), (12, .iload_n 3, 1), (13, .iastore, 1), (14, .return_, 1)]
theorem DX4_set : x_dk cX4_set IX4_set = true := by decide +kernel
def IX4_empty : List (Nat × Instr × Nat) := [(0, .iconst 0, 1), (1, .istore_n 2, 1), (2, .iload_n 2, 1), (3, .bipush 60, 2), (5, .if_icmp .ge 21, 3), (8, .aload_n 0, 1), (9, .getfield 16, 3), (12, .iload_n 1, 1), (13, .bipush 60, 2), (15, .imul, 1), (16, .iload_n 2, 1), (17, .iadd, 1), (18, .lconst 0, 1), (19, .lastore, 1), (20, .iinc 2 1, 3), (23, .goto (-21), 3), (26, .return_, 1)]
theorem DX4_empty : x_dk cX4_empty IX4_empty = true := by decide +kernel
def IX4_hasStretch : List (Nat × Instr × Nat) := [(0, .iload_n 2, 1), (1, .ifCond .lt 33, 3), (4, .iload_n 3, 1), (5, .ifCond .lt 29, 3), (8, .iload_n 3, 1), (9, .aload_n 0, 1), (10, .getfield 13, 3), (13, .iload_n 1, 1), (14, .iaload, 1), (15, .if_icmp .gt 19, 3), (18, .iload_n 2, 1), (19, .aload_n 0, 1), (20, .getfield 13, 3), (23, .iload_n 1, 1), (24, .iaload, 1), (25, .iload_n 3, 1), (26, .isub, 1), (27, .if_icmp .gt 7, 3), (30, .iconst 1, 1), (31, .goto 4, 3), (34, .iconst 0, 1), (35, .ireturn, 1)]
theorem DX4_hasStretch : x_dk cX4_hasStretch IX4_hasStretch = true := by decide +kernel
def IX4_at : List (Nat × Instr × Nat) := [(0, .aload_n 0, 1), (1, .getfield 16, 3), (4, .iload_n 1, 1), (5, .bipush 60, 2), (7, .imul, 1), (8, .iload_n 2, 1), (9, .iadd, 1), (10, .laload, 1), (11, .lreturn, 1)]
theorem DX4_at : x_dk cX4_at IX4_at = true := by decide +kernel
def IX4_write : List (Nat × Instr × Nat) := [(0, .aload_n 0, 1), (1, .getfield 16, 3), (4, .iload_n 1, 1), (5, .bipush 60, 2), (7, .imul, 1), (8, .iload_n 2, 1), (9, .iadd, 1), (10, .aload_n 0, 1), (11, .getfield 9, 3), (14, .iload_n 1, 1), (15, .iaload, 1), (16, .lload_n 3, 1), (17, .invokestatic 20, 3), (20, .lastore, 1), (21, .return_, 1)]
theorem DX4_write : x_dk cX4_write IX4_write = true := by decide +kernel
def IX4_copy : List (Nat × Instr × Nat) := [(0, .aload_n 0, 1), (1, .getfield 16, 3), (4, .iload_n 1, 1), (5, .bipush 60, 2), (7, .imul, 1), (8, .iload_n 2, 1), (9, .iadd, 1), (10, .aload_n 0, 1), (11, .getfield 16, 3), (14, .iload_n 3, 1), (15, .bipush 60, 2), (17, .imul, 1), (18, .iload 4, 2), (20, .iadd, 1), (21, .iload 5, 2), (23, .invokestatic 24, 3), (26, .return_, 1)]
theorem DX4_copy : x_dk cX4_copy IX4_copy = true := by decide +kernel
def IX4_narrowed : List (Nat × Instr × Nat) := [(0, .iload_n 0, 1), (1, .tableswitch 61 0 4 #[35, 40, 45, 61, 49], 35), (36, .lload_n 1, 1), (37, .l2i, 1), (38, .i2b, 1), (39, .i2l, 1), (40, .lreturn, 1), (41, .lload_n 1, 1), (42, .l2i, 1), (43, .i2s, 1), (44, .i2l, 1), (45, .lreturn, 1), (46, .lload_n 1, 1), (47, .l2i, 1), (48, .i2l, 1), (49, .lreturn, 1), (50, .lload_n 1, 1), (51, .lconst 0, 1), (52, .lcmp, 1), (53, .ifCond .eq 7, 3), (56, .lconst 1, 1), (57, .goto 4, 3), (60, .lconst 0, 1), (61, .lreturn, 1), (62, .lload_n 1, 1), (63, .lreturn, 1)]
theorem DX4_narrowed : x_dk cX4_narrowed IX4_narrowed = true := by decide +kernel
def IX5_init : List (Nat × Instr × Nat) := [(0, .aload_n 0, 1), (1, .invokespecial 3, 3), (4, .aload_n 0, 1), (5, .bipush 10, 2), (7, .anewarray 9, 3), (10, .putfield 11, 3), (13, .aload_n 0, 1), (14, .bipush 30, 2), (16, .newarray .int, 2), (18, .putfield 17, 3), (21, .aload_n 0, 1), (22, .bipush 10, 2), (24, .newarray .int, 2), (26, .putfield 21, 3), (29, .aload_n 0, 1), (30, .bipush 10, 2), (32, .newarray .int, 2), (34, .putfield 24, 3), (37, .iconst 0, 1), (38, .istore_n 1, 1), (39, .iload_n 1, 1), (40, .bipush 10, 2), (42, .if_icmp .ge 22, 3), (45, .aload_n 0, 1), (46, .getfield 11, 3), (49, .iload_n 1, 1), (50, .new 9, 3), (53, .dup, 1), (54, .invokespecial 27, 3), (57, .aastore, 1), (58, .iinc 1 1, 3), (61, .goto (-22), 3), (64, .return_, 1)]
theorem DX5_init : x_dk cX5_init IX5_init = true := by decide +kernel
def IX5_came : List (Nat × Instr × Nat) := [(0, .aload_n 0, 1), (1, .getfield 28, 3), (4, .ireturn, 1)]
theorem DX5_came : x_dk cX5_came IX5_came = true := by decide +kernel
def IX5_has : List (Nat × Instr × Nat) := [(0, .iload_n 1, 1), (1, .ifCond .lt 15, 3), (4, .iload_n 1, 1), (5, .aload_n 0, 1), (6, .getfield 28, 3), (9, .if_icmp .ge 7, 3), (12, .iconst 1, 1), (13, .goto 4, 3), (16, .iconst 0, 1), (17, .ireturn, 1)]
theorem DX5_has : x_dk cX5_has IX5_has = true := by decide +kernel
def IX5_all : List (Nat × Instr × Nat) := [(0, .iconst 1, 1), (1, .aload_n 0, 1), (2, .getfield 28, 3), (5, .ishl, 1), (6, .iconst 1, 1), (7, .isub, 1), (8, .ireturn, 1)]
theorem DX5_all : x_dk cX5_all IX5_all = true := by decide +kernel
def IX5_formOf : List (Nat × Instr × Nat) := [(0, .aload_n 0, 1), (1, .getfield 11, 3), (4, .iload_n 1, 1), (5, .aaload, 1), (6, .areturn, 1)]
theorem DX5_formOf : x_dk cX5_formOf IX5_formOf = true := by decide +kernel
def IX5_traitOf : List (Nat × Instr × Nat) := [(0, .aload_n 0, 1), (1, .getfield 17, 3), (4, .iload_n 1, 1), (5, .iconst 3, 1), (6, .imul, 1), (7, .iload_n 2, 1), (8, .iadd, 1), (9, .iaload, 1), (10, .ireturn, 1)]
theorem DX5_traitOf : x_dk cX5_traitOf IX5_traitOf = true := by decide +kernel
def IX5_setTrait : List (Nat × Instr × Nat) := [(0, .aload_n 0, 1), (1, .getfield 17, 3), (4, .iload_n 1, 1), (5, .iconst 3, 1), (6, .imul, 1), (7, .iload_n 2, 1), (8, .iadd, 1), (9, .iload_n 3, 1), (10, .iastore, 1), (11, .return_, 1)]
theorem DX5_setTrait : x_dk cX5_setTrait IX5_setTrait = true := by decide +kernel
def IX5_outOf : List (Nat × Instr × Nat) := [(0, .aload_n 0, 1), (1, .getfield 21, 3), (4, .iload_n 1, 1), (5, .iaload, 1), (6, .ireturn, 1)]
theorem DX5_outOf : x_dk cX5_outOf IX5_outOf = true := by decide +kernel
def IX5_bySize : List (Nat × Instr × Nat) := [(0, .aload_n 0, 1), (1, .getfield 24, 3), (4, .iload_n 1, 1), (5, .iaload, 1), (6, .ireturn, 1)]
theorem DX5_bySize : x_dk cX5_bySize IX5_bySize = true := by decide +kernel
def IX5_add : List (Nat × Instr × Nat) := [(0, .aload_n 0, 1), (1, .getfield 28, 3), (4, .bipush 10, 2), (6, .if_icmp .lt 6, 3), (9, .bipush (-3), 2), (11, .ireturn, 1), (12, .aload_n 0, 1), (13, .getfield 28, 3), (16, .istore_n 3, 1), (17, .aload_n 0, 1), (18, .getfield 11, 3), (21, .iload_n 3, 1), (22, .aaload, 1), (23, .iload_n 1, 1), (24, .invokevirtual 32, 3), (27, .aload_n 0, 1), (28, .iload_n 3, 1), (29, .iconst 0, 1), (30, .iload_n 2, 1), (31, .invokevirtual 36, 3), (34, .aload_n 0, 1), (35, .dup, 1), (36, .getfield 28, 3), (39, .iconst 1, 1), (40, .iadd, 1), (41, .putfield 28, 3), (44, .aload_n 0, 1), (45, .iload_n 3, 1), (46, .invokevirtual 40, 3), (49, .aload_n 0, 1), (50, .iload_n 3, 1), (51, .invokevirtual 43, 3), (54, .iload_n 3, 1), (55, .ireturn, 1)]
theorem DX5_add : x_dk cX5_add IX5_add = true := by decide +kernel
def IX5_cuttableOf : List (Nat × Instr × Nat) := [(0, .iconst 0, 1), (1, .istore_n 2, 1), (2, .iconst 0, 1), (3, .istore_n 3, 1), (4, .iload_n 3, 1), (5, .aload_n 0, 1), (6, .getfield 28, 3), (9, .if_icmp .ge 28, 3), (12, .aload_n 0, 1), (13, .getfield 11, 3), (16, .iload_n 3, 1), (17, .aaload, 1), (18, .iload_n 1, 1), (19, .invokevirtual 46, 3), (22, .ifCond .eq 9, 3), (25, .iload_n 2, 1), (26, .iconst 1, 1), (27, .iload_n 3, 1), (28, .ishl, 1), (29, .ior, 1), (30, .istore_n 2, 1), (31, .iinc 3 1, 3), (34, .goto (-30), 3), (37, .iload_n 2, 1), (38, .ireturn, 1)]
theorem DX5_cuttableOf : x_dk cX5_cuttableOf IX5_cuttableOf = true := by decide +kernel
def IX5_above : List (Nat × Instr × Nat) := [(0, .iconst 0, 1), (1, .istore_n 2, 1), (2, .iconst 0, 1), (3, .istore_n 3, 1), (4, .iload_n 3, 1), (5, .aload_n 0, 1), (6, .getfield 28, 3), (9, .if_icmp .ge 28, 3), (12, .aload_n 0, 1), (13, .getfield 21, 3), (16, .iload_n 3, 1), (17, .iaload, 1), (18, .iload_n 1, 1), (19, .invokestatic 50, 3), (22, .ifCond .eq 9, 3), (25, .iload_n 2, 1), (26, .iconst 1, 1), (27, .iload_n 3, 1), (28, .ishl, 1), (29, .ior, 1), (30, .istore_n 2, 1), (31, .iinc 3 1, 3), (34, .goto (-30), 3), (37, .iload_n 2, 1), (38, .ireturn, 1)]
theorem DX5_above : x_dk cX5_above IX5_above = true := by decide +kernel
def IX5_outOfAny : List (Nat × Instr × Nat) := [(0, .iconst 0, 1), (1, .istore_n 2, 1), (2, .iconst 0, 1), (3, .istore_n 3, 1), (4, .iload_n 3, 1), (5, .aload_n 0, 1), (6, .getfield 28, 3), (9, .if_icmp .ge 26, 3), (12, .iload_n 1, 1), (13, .iload_n 3, 1), (14, .invokestatic 50, 3), (17, .ifCond .eq 12, 3), (20, .iload_n 2, 1), (21, .aload_n 0, 1), (22, .getfield 21, 3), (25, .iload_n 3, 1), (26, .iaload, 1), (27, .ior, 1), (28, .istore_n 2, 1), (29, .iinc 3 1, 3), (32, .goto (-28), 3), (35, .iload_n 2, 1), (36, .ireturn, 1)]
theorem DX5_outOfAny : x_dk cX5_outOfAny IX5_outOfAny = true := by decide +kernel
def IX5_relate : List (Nat × Instr × Nat) := [(0, .aload_n 0, 1), (1, .getfield 21, 3), (4, .iload_n 1, 1), (5, .aload_n 0, 1), (6, .aload_n 0, 1), (7, .getfield 11, 3), (10, .iload_n 1, 1), (11, .aaload, 1), (12, .getfield 54, 3), (15, .invokevirtual 57, 3), (18, .iastore, 1), (19, .iconst 0, 1), (20, .istore_n 2, 1), (21, .iload_n 2, 1), (22, .iload_n 1, 1), (23, .if_icmp .ge 42, 3), (26, .aload_n 0, 1), (27, .getfield 11, 3), (30, .iload_n 1, 1), (31, .aaload, 1), (32, .aload_n 0, 1), (33, .getfield 11, 3), (36, .iload_n 2, 1), (37, .aaload, 1), (38, .getfield 54, 3), (41, .invokevirtual 46, 3), (44, .ifCond .eq 15, 3), (47, .aload_n 0, 1), (48, .getfield 21, 3), (51, .iload_n 2, 1), (52, .dup2, 1), (53, .iaload, 1), (54, .iconst 1, 1), (55, .iload_n 1, 1), (56, .ishl, 1), (57, .ior, 1), (58, .iastore, 1), (59, .iinc 2 1, 3), (62, .goto (-41), 3), (65, .return_, 1)]
theorem DX5_relate : x_dk cX5_relate IX5_relate = true := by decide +kernel
def IX5_sortIn : List (Nat × Instr × Nat) := [(0, .iload_n 1, 1), (1, .istore_n 2, 1), (2, .iload_n 2, 1), (3, .ifCond .le 51, 3), (6, .aload_n 0, 1), (7, .getfield 11, 3), (10, .aload_n 0, 1), (11, .getfield 24, 3), (14, .iload_n 2, 1), (15, .iconst 1, 1), (16, .isub, 1), (17, .iaload, 1), (18, .aaload, 1), (19, .getfield 61, 3), (22, .aload_n 0, 1), (23, .getfield 11, 3), (26, .iload_n 1, 1), (27, .aaload, 1), (28, .getfield 61, 3), (31, .if_icmp .le 23, 3), (34, .aload_n 0, 1), (35, .getfield 24, 3), (38, .iload_n 2, 1), (39, .aload_n 0, 1), (40, .getfield 24, 3), (43, .iload_n 2, 1), (44, .iconst 1, 1), (45, .isub, 1), (46, .iaload, 1), (47, .iastore, 1), (48, .iinc 2 (-1), 3), (51, .goto (-49), 3), (54, .aload_n 0, 1), (55, .getfield 24, 3), (58, .iload_n 2, 1), (59, .iload_n 1, 1), (60, .iastore, 1), (61, .return_, 1)]
theorem DX5_sortIn : x_dk cX5_sortIn IX5_sortIn = true := by decide +kernel
def IX6_init : List (Nat × Instr × Nat) := [(0, .aload_n 0, 1), (1, .invokespecial 3, 3), (4, .aload_n 0, 1), (5, .bipush 50, 2), (7, .newarray .int, 2), (9, .putfield 11, 3), (12, .aload_n 0, 1), (13, .bipush 24, 2), (15, .newarray .int, 2), (17, .putfield 15, 3), (20, .return_, 1)]
theorem DX6_init : x_dk cX6_init IX6_init = true := by decide +kernel
def IX6_kept : List (Nat × Instr × Nat) := [(0, .aload_n 0, 1), (1, .getfield 18, 3), (4, .ireturn, 1)]
theorem DX6_kept : x_dk cX6_kept IX6_kept = true := by decide +kernel
def IX6_ran : List (Nat × Instr × Nat) := [(0, .aload_n 0, 1), (1, .getfield 22, 3), (4, .ireturn, 1)]
theorem DX6_ran : x_dk cX6_ran IX6_ran = true := by decide +kernel
def IX6_has : List (Nat × Instr × Nat) := [(0, .iload_n 1, 1), (1, .ifCond .lt 15, 3), (4, .iload_n 1, 1), (5, .aload_n 0, 1), (6, .getfield 18, 3), (9, .if_icmp .ge 7, 3), (12, .iconst 1, 1), (13, .goto 4, 3), (16, .iconst 0, 1), (17, .ireturn, 1)]
theorem DX6_has : x_dk cX6_has IX6_has = true := by decide +kernel
def IX6_kindOf : List (Nat × Instr × Nat) := [(0, .aload_n 0, 1), (1, .getfield 11, 3), (4, .iload_n 1, 1), (5, .iaload, 1), (6, .ireturn, 1)]
theorem DX6_kindOf : x_dk cX6_kindOf IX6_kindOf = true := by decide +kernel
def IX6_add : List (Nat × Instr × Nat) := [(0, .aload_n 0, 1), (1, .getfield 18, 3), (4, .bipush 50, 2), (6, .if_icmp .lt 6, 3), (9, .bipush (-3), 2), (11, .ireturn, 1), (12, .aload_n 0, 1), (13, .getfield 11, 3), (16, .aload_n 0, 1), (17, .getfield 18, 3), (20, .iload_n 1, 1), (21, .iastore, 1), (22, .aload_n 0, 1), (23, .dup, 1), (24, .getfield 18, 3), (27, .iconst 1, 1), (28, .iadd, 1), (29, .putfield 18, 3), (32, .aload_n 0, 1), (33, .getfield 18, 3), (36, .iconst 1, 1), (37, .isub, 1), (38, .ireturn, 1)]
theorem DX6_add : x_dk cX6_add IX6_add = true := by decide +kernel
def IX6_traced : List (Nat × Instr × Nat) := [(0, .iload_n 1, 1), (1, .ifCond .lt 25, 3), (4, .iload_n 1, 1), (5, .aload_n 0, 1), (6, .getfield 22, 3), (9, .bipush 24, 2), (11, .invokestatic 25, 3), (14, .if_icmp .ge 12, 3), (17, .aload_n 0, 1), (18, .getfield 15, 3), (21, .iload_n 1, 1), (22, .iaload, 1), (23, .goto 4, 3), (26, .iconst (-1), 1), (27, .ireturn, 1)]
theorem DX6_traced : x_dk cX6_traced IX6_traced = true := by decide +kernel
def IX6_isUnder : List (Nat × Instr × Nat) := [(0, .iload_n 0, 1), (1, .istore_n 2, 1), (2, .iconst 0, 1), (3, .istore_n 3, 1), (4, .iload_n 3, 1), (5, .bipush 8, 2), (7, .if_icmp .ge 26, 3), (10, .iload_n 2, 1), (11, .ifCond .lt 22, 3), (14, .iload_n 2, 1), (15, .iload_n 1, 1), (16, .if_icmp .ne 5, 3), (19, .iconst 1, 1), (20, .ireturn, 1), (21, .getstatic 31, 3), (24, .iload_n 2, 1), (25, .iaload, 1), (26, .istore_n 2, 1), (27, .iinc 3 1, 3), (30, .goto (-26), 3), (33, .iconst 0, 1), (34, .ireturn, 1)]
theorem DX6_isUnder : x_dk cX6_isUnder IX6_isUnder = true := by decide +kernel
def IX6_start : List (Nat × Instr × Nat) := [(0, .aload_n 0, 1), (1, .iconst 0, 1), (2, .putfield 22, 3), (5, .aload_n 0, 1), (6, .iload_n 1, 1), (7, .invokevirtual 34, 3), (10, .ifCond .eq 12, 3), (13, .iload_n 2, 1), (14, .ifCond .lt 8, 3), (17, .iload_n 2, 1), (18, .iconst 4, 1), (19, .if_icmp .lt 5, 3), (22, .iconst 0, 1), (23, .ireturn, 1), (24, .aload_n 0, 1), (25, .iload_n 1, 1), (26, .iload_n 2, 1), (27, .iload_n 3, 1), (28, .iconst 0, 1), (29, .invokevirtual 38, 3), (32, .ireturn, 1)]
theorem DX6_start : x_dk cX6_start IX6_start = true := by decide +kernel
def IX6_own : List (Nat × Instr × Nat) := [(0, .aload_n 0, 1), (1, .iload_n 1, 1), (2, .aload_n 0, 1), (3, .getfield 11, 3), (6, .iload_n 1, 1), (7, .iaload, 1), (8, .iload_n 2, 1), (9, .iload_n 3, 1), (10, .iload 4, 2), (12, .invokevirtual 42, 3), (15, .ireturn, 1)]
theorem DX6_own : x_dk cX6_own IX6_own = true := by decide +kernel
def IX6_answer : List (Nat × Instr × Nat) := [(0, .iload_n 2, 1), (1, .istore 6, 2), (3, .iconst 0, 1), (4, .istore 7, 2), (6, .iload 7, 2), (8, .bipush 8, 2), (10, .if_icmp .ge 35, 3), (13, .iload 6, 2), (15, .ifCond .lt 30, 3), (18, .getstatic 46, 3), (21, .iload 6, 2), (23, .iconst 4, 1), (24, .imul, 1), (25, .iload_n 3, 1), (26, .iadd, 1), (27, .iaload, 1), (28, .ifCond .ne 17, 3), (31, .getstatic 31, 3), (34, .iload 6, 2), (36, .iaload, 1), (37, .istore 6, 2), (39, .iinc 7 1, 3), (42, .goto (-36), 3), (45, .iload 6, 2), (47, .ifCond .lt 10, 3), (50, .iload 5, 2), (52, .bipush 40, 2), (54, .if_icmp .lt 5, 3), (57, .iconst 0, 1), (58, .ireturn, 1), (59, .getstatic 46, 3), (62, .iload 6, 2), (64, .iconst 4, 1), (65, .imul, 1), (66, .iload_n 3, 1), (67, .iadd, 1), (68, .iaload, 1), (69, .istore 7, 2), (71, .aload_n 0, 1), (72, .iload 7, 2), (74, .invokevirtual 49, 3), (77, .iload 5, 2), (79, .iconst 1, 1), (80, .iadd, 1), (81, .istore 8, 2), (83, .getstatic 31, 3), (86, .iload 6, 2), (88, .iaload, 1), (89, .istore 9, 2), (91, .iload 7, 2), (93, .lookupswitch 309 #[(1, 115), (2, 120), (10, 141), (11, 154), (20, 159), (30, 174), (40, 188), (41, 203), (50, 218), (60, 241), (70, 256), (80, 271), (81, 294)], 115), (208, .iload 4, 2), (210, .iload_n 1, 1), (211, .iadd, 1), (212, .ireturn, 1), (213, .aload_n 0, 1), (214, .iload_n 1, 1), (215, .iconst 1, 1), (216, .iload 4, 2), (218, .iload 8, 2)]
theorem DX6_answer : x_dk cX6_answer IX6_answer = true := by decide +kernel
def IX6_answer_1 : List (Nat × Instr × Nat) := [(220, .invokevirtual 38, 3), (223, .aload_n 0, 1), (224, .iload_n 1, 1), (225, .iconst 2, 1), (226, .iconst 1, 1), (227, .iload 8, 2), (229, .invokevirtual 38, 3), (232, .isub, 1), (233, .ireturn, 1), (234, .aload_n 0, 1), (235, .iload_n 1, 1), (236, .iconst 0, 1), (237, .iload 4, 2), (239, .iload 8, 2), (241, .invokevirtual 38, 3), (244, .iconst 2, 1), (245, .imul, 1), (246, .ireturn, 1), (247, .iload 4, 2), (249, .iload_n 1, 1), (250, .ixor, 1), (251, .ireturn, 1), (252, .aload_n 0, 1), (253, .iload_n 1, 1), (254, .iload 9, 2), (256, .iconst 0, 1), (257, .iload 4, 2), (259, .iload 8, 2), (261, .invokevirtual 42, 3), (264, .iconst 3, 1), (265, .iadd, 1), (266, .ireturn, 1), (267, .aload_n 0, 1), (268, .iload_n 1, 1), (269, .iload 9, 2), (271, .iconst 1, 1), (272, .iload 4, 2), (274, .iload 8, 2), (276, .invokevirtual 42, 3), (279, .ineg, 1), (280, .ireturn, 1), (281, .aload_n 0, 1), (282, .iload_n 1, 1), (283, .iload 9, 2), (285, .iconst 2, 1), (286, .iload 4, 2), (288, .iload 8, 2), (290, .invokevirtual 42, 3), (293, .iconst 3, 1), (294, .imul, 1), (295, .ireturn, 1), (296, .aload_n 0, 1), (297, .iload_n 1, 1), (298, .iload 9, 2), (300, .iconst 1, 1), (301, .iload 4, 2), (303, .iconst 1, 1), (304, .iadd, 1), (305, .iload 8, 2), (307, .invokevirtual 42, 3)]
theorem DX6_answer_1 : x_dk cX6_answer IX6_answer_1 = true := by decide +kernel
def IX6_answer_2 : List (Nat × Instr × Nat) := [(310, .ireturn, 1), (311, .aload_n 0, 1), (312, .iload_n 1, 1), (313, .iload 9, 2), (315, .iconst 2, 1), (316, .iload 4, 2), (318, .iload 8, 2), (320, .invokevirtual 42, 3), (323, .aload_n 0, 1), (324, .iload_n 1, 1), (325, .iconst 0, 1), (326, .iconst 2, 1), (327, .iload 8, 2), (329, .invokevirtual 38, 3), (332, .isub, 1), (333, .ireturn, 1), (334, .aload_n 0, 1), (335, .iload_n 1, 1), (336, .iload 9, 2), (338, .iconst 3, 1), (339, .iload 4, 2), (341, .iload 8, 2), (343, .invokevirtual 42, 3), (346, .iconst 5, 1), (347, .ixor, 1), (348, .ireturn, 1), (349, .aload_n 0, 1), (350, .iload_n 1, 1), (351, .iload 9, 2), (353, .iconst 0, 1), (354, .iload 4, 2), (356, .iload 8, 2), (358, .invokevirtual 42, 3), (361, .iconst 2, 1), (362, .imul, 1), (363, .ireturn, 1), (364, .aload_n 0, 1), (365, .iload_n 1, 1), (366, .iload 9, 2), (368, .iconst 1, 1), (369, .iload 4, 2), (371, .iload 8, 2), (373, .invokevirtual 42, 3), (376, .aload_n 0, 1), (377, .iload_n 1, 1), (378, .iconst 2, 1), (379, .iconst 2, 1), (380, .iload 8, 2), (382, .invokevirtual 38, 3), (385, .iadd, 1), (386, .ireturn, 1), (387, .aload_n 0, 1), (388, .iload_n 1, 1), (389, .iload 9, 2), (391, .iconst 3, 1), (392, .iload 4, 2), (394, .iload 8, 2), (396, .invokevirtual 42, 3), (399, .iconst 1, 1), (400, .isub, 1)]
theorem DX6_answer_2 : x_dk cX6_answer IX6_answer_2 = true := by decide +kernel
def IX6_answer_3 : List (Nat × Instr × Nat) := [(401, .ireturn, 1), (402, .iconst 0, 1), (403, .ireturn, 1)]
theorem DX6_answer_3 : x_dk cX6_answer IX6_answer_3 = true := by decide +kernel
def IX6_note : List (Nat × Instr × Nat) := [(0, .aload_n 0, 1), (1, .getfield 22, 3), (4, .bipush 24, 2), (6, .if_icmp .ge 13, 3), (9, .aload_n 0, 1), (10, .getfield 15, 3), (13, .aload_n 0, 1), (14, .getfield 22, 3), (17, .iload_n 1, 1), (18, .iastore, 1), (19, .aload_n 0, 1), (20, .dup, 1), (21, .getfield 22, 3), (24, .iconst 1, 1), (25, .iadd, 1), (26, .putfield 22, 3), (29, .return_, 1)]
theorem DX6_note : x_dk cX6_note IX6_note = true := by decide +kernel
def IX7_init : List (Nat × Instr × Nat) := [(0, .aload_n 0, 1), (1, .invokespecial 3, 3), (4, .aload_n 0, 1), (5, .bipush 120, 2), (7, .newarray .int, 2), (9, .putfield 11, 3), (12, .aload_n 0, 1), (13, .sipush 256, 3), (16, .newarray .int, 2), (18, .putfield 15, 3), (21, .return_, 1)]
theorem DX7_init : x_dk cX7_init IX7_init = true := by decide +kernel
def IX7_length : List (Nat × Instr × Nat) := [(0, .aload_n 0, 1), (1, .getfield 18, 3), (4, .ireturn, 1)]
theorem DX7_length : x_dk cX7_length IX7_length = true := by decide +kernel
def IX7_add : List (Nat × Instr × Nat) := [(0, .aload_n 0, 1), (1, .getfield 18, 3), (4, .bipush 120, 2), (6, .if_icmp .lt 6, 3), (9, .bipush (-3), 2), (11, .ireturn, 1), (12, .aload_n 0, 1), (13, .getfield 11, 3), (16, .aload_n 0, 1), (17, .getfield 18, 3), (20, .iload_n 1, 1), (21, .iastore, 1), (22, .aload_n 0, 1), (23, .dup, 1), (24, .getfield 18, 3), (27, .iconst 1, 1), (28, .iadd, 1), (29, .putfield 18, 3), (32, .aload_n 0, 1), (33, .getfield 18, 3), (36, .ireturn, 1)]
theorem DX7_add : x_dk cX7_add IX7_add = true := by decide +kernel
def IX7_clear : List (Nat × Instr × Nat) := [(0, .aload_n 0, 1), (1, .iconst 0, 1), (2, .putfield 18, 3), (5, .return_, 1)]
theorem DX7_clear : x_dk cX7_clear IX7_clear = true := by decide +kernel
def IX7_read : List (Nat × Instr × Nat) := [(0, .aload_n 0, 1), (1, .iconst 0, 1), (2, .putfield 22, 3), (5, .aload_n 0, 1), (6, .iconst 0, 1), (7, .putfield 25, 3), (10, .iconst 0, 1), (11, .istore_n 1, 1), (12, .iload_n 1, 1), (13, .bipush 120, 2), (15, .if_icmp .gt 49, 3), (18, .aload_n 0, 1), (19, .invokevirtual 28, 3), (22, .ifCond .ne 8, 3), (25, .aload_n 0, 1), (26, .getfield 22, 3), (29, .ireturn, 1), (30, .aload_n 0, 1), (31, .getfield 22, 3), (34, .aload_n 0, 1), (35, .getfield 18, 3), (38, .if_icmp .ne 6, 3), (41, .bipush (-2), 2), (43, .ireturn, 1), (44, .aload_n 0, 1), (45, .bipush 59, 2), (47, .invokevirtual 32, 3), (50, .ifCond .ne 8, 3), (53, .aload_n 0, 1), (54, .getfield 22, 3), (57, .ireturn, 1), (58, .iinc 1 1, 3), (61, .goto (-49), 3), (64, .aload_n 0, 1), (65, .getfield 22, 3), (68, .ireturn, 1)]
theorem DX7_read : x_dk cX7_read IX7_read = true := by decide +kernel
def IX7_copyCode : List (Nat × Instr × Nat) := [(0, .aload_n 0, 1), (1, .getfield 15, 3), (4, .iconst 0, 1), (5, .aload_n 1, 1), (6, .iconst 0, 1), (7, .aload_n 0, 1), (8, .getfield 25, 3), (11, .invokestatic 36, 3), (14, .aload_n 0, 1), (15, .getfield 25, 3), (18, .ireturn, 1)]
theorem DX7_copyCode : x_dk cX7_copyCode IX7_copyCode = true := by decide +kernel
def IX7_readLine : List (Nat × Instr × Nat) := [(0, .aload_n 0, 1), (1, .iconst 0, 1), (2, .iconst 0, 1), (3, .invokevirtual 42, 3), (6, .ifCond .ne 5, 3), (9, .iconst 0, 1), (10, .ireturn, 1), (11, .aload_n 0, 1), (12, .bipush 63, 2), (14, .invokevirtual 32, 3), (17, .ifCond .ne 10, 3), (20, .aload_n 0, 1), (21, .iconst (-1), 1), (22, .invokevirtual 46, 3), (25, .iconst 1, 1), (26, .ireturn, 1), (27, .aload_n 0, 1), (28, .bipush (-2), 2), (30, .invokevirtual 46, 3), (33, .aload_n 0, 1), (34, .getfield 25, 3), (37, .istore_n 1, 1), (38, .aload_n 0, 1), (39, .iconst 0, 1), (40, .invokevirtual 46, 3), (43, .aload_n 0, 1), (44, .iconst 0, 1), (45, .iconst 0, 1), (46, .invokevirtual 42, 3), (49, .ifCond .ne 5, 3), (52, .iconst 0, 1), (53, .ireturn, 1), (54, .aload_n 0, 1), (55, .iconst (-1), 1), (56, .invokevirtual 46, 3), (59, .iload_n 1, 1), (60, .sipush 256, 3), (63, .if_icmp .ge 13, 3), (66, .aload_n 0, 1), (67, .getfield 15, 3), (70, .iload_n 1, 1), (71, .aload_n 0, 1), (72, .getfield 25, 3), (75, .iastore, 1), (76, .iconst 1, 1), (77, .ireturn, 1)]
theorem DX7_readLine : x_dk cX7_readLine IX7_readLine = true := by decide +kernel
def IX7_readJoined : List (Nat × Instr × Nat) := [(0, .iload_n 1, 1), (1, .iconst 5, 1), (2, .if_icmp .lt 9, 3), (5, .aload_n 0, 1), (6, .iload_n 2, 1), (7, .invokevirtual 50, 3), (10, .ireturn, 1), (11, .aload_n 0, 1), (12, .iload_n 1, 1), (13, .iconst 1, 1), (14, .iadd, 1), (15, .iload_n 2, 1), (16, .invokevirtual 42, 3), (19, .ifCond .ne 5, 3), (22, .iconst 0, 1), (23, .ireturn, 1), (24, .iload_n 1, 1), (25, .iconst 2, 1), (26, .if_icmp .ne 7, 3), (29, .iconst 1, 1), (30, .goto 5, 3), (33, .bipush 120, 2), (35, .istore_n 3, 1), (36, .iconst 0, 1), (37, .istore 4, 2), (39, .iload 4, 2), (41, .iload_n 3, 1), (42, .if_icmp .ge 61, 3), (45, .aload_n 0, 1), (46, .iload_n 1, 1), (47, .invokestatic 54, 3), (50, .invokevirtual 58, 3), (53, .ifCond .eq 50, 3), (56, .aload_n 0, 1), (57, .getfield 11, 3), (60, .aload_n 0, 1), (61, .getfield 22, 3), (64, .iaload, 1), (65, .istore 5, 2), (67, .aload_n 0, 1), (68, .dup, 1), (69, .getfield 22, 3), (72, .iconst 1, 1), (73, .iadd, 1), (74, .putfield 22, 3), (77, .aload_n 0, 1), (78, .iload_n 1, 1), (79, .iconst 1, 1), (80, .iadd, 1), (81, .iload_n 2, 1), (82, .invokevirtual 42, 3), (85, .ifCond .ne 5, 3), (88, .iconst 0, 1), (89, .ireturn, 1), (90, .aload_n 0, 1), (91, .iload 5, 2), (93, .ineg, 1), (94, .invokevirtual 46, 3), (97, .iinc 4 1, 3), (100, .goto (-61), 3)]
theorem DX7_readJoined : x_dk cX7_readJoined IX7_readJoined = true := by decide +kernel
def IX7_readJoined_1 : List (Nat × Instr × Nat) := [(103, .iconst 1, 1), (104, .ireturn, 1)]
theorem DX7_readJoined_1 : x_dk cX7_readJoined IX7_readJoined_1 = true := by decide +kernel
def IX7_readOperand : List (Nat × Instr × Nat) := [(0, .aload_n 0, 1), (1, .invokevirtual 62, 3), (4, .ifCond .eq 9, 3), (7, .aload_n 0, 1), (8, .invokevirtual 65, 3), (11, .iconst 1, 1), (12, .ireturn, 1), (13, .aload_n 0, 1), (14, .ldc 68, 2), (16, .invokevirtual 58, 3), (19, .ifCond .eq 38, 3), (22, .aload_n 0, 1), (23, .sipush (-1000), 3), (26, .ldc 68, 2), (28, .aload_n 0, 1), (29, .getfield 11, 3), (32, .aload_n 0, 1), (33, .getfield 22, 3), (36, .iaload, 1), (37, .i2c, 1), (38, .invokevirtual 70, 3), (41, .isub, 1), (42, .invokevirtual 46, 3), (45, .aload_n 0, 1), (46, .dup, 1), (47, .getfield 22, 3), (50, .iconst 1, 1), (51, .iadd, 1), (52, .putfield 22, 3), (55, .iconst 1, 1), (56, .ireturn, 1), (57, .iload_n 1, 1), (58, .bipush 6, 2), (60, .if_icmp .lt 5, 3), (63, .iconst 0, 1), (64, .ireturn, 1), (65, .aload_n 0, 1), (66, .bipush 40, 2), (68, .invokevirtual 32, 3), (71, .ifCond .eq 29, 3), (74, .aload_n 0, 1), (75, .iconst 0, 1), (76, .iload_n 1, 1), (77, .iconst 1, 1), (78, .iadd, 1), (79, .invokevirtual 42, 3), (82, .ifCond .eq 16, 3), (85, .aload_n 0, 1), (86, .bipush 41, 2), (88, .invokevirtual 32, 3), (91, .ifCond .eq 7, 3), (94, .iconst 1, 1), (95, .goto 4, 3), (98, .iconst 0, 1), (99, .ireturn, 1), (100, .aload_n 0, 1), (101, .bipush 33, 2), (103, .invokevirtual 32, 3), (106, .ifCond .eq 19, 3), (109, .aload_n 0, 1)]
theorem DX7_readOperand : x_dk cX7_readOperand IX7_readOperand = true := by decide +kernel
def IX7_readOperand_1 : List (Nat × Instr × Nat) := [(110, .iload_n 1, 1), (111, .iconst 1, 1), (112, .iadd, 1), (113, .invokevirtual 50, 3), (116, .istore_n 2, 1), (117, .aload_n 0, 1), (118, .bipush (-4), 2), (120, .invokevirtual 46, 3), (123, .iload_n 2, 1), (124, .ireturn, 1), (125, .aload_n 0, 1), (126, .bipush 45, 2), (128, .invokevirtual 32, 3), (131, .ifCond .eq 19, 3), (134, .aload_n 0, 1), (135, .iload_n 1, 1), (136, .iconst 1, 1), (137, .iadd, 1), (138, .invokevirtual 50, 3), (141, .istore_n 2, 1), (142, .aload_n 0, 1), (143, .bipush (-3), 2), (145, .invokevirtual 46, 3), (148, .iload_n 2, 1), (149, .ireturn, 1), (150, .iconst 0, 1), (151, .ireturn, 1)]
theorem DX7_readOperand_1 : x_dk cX7_readOperand IX7_readOperand_1 = true := by decide +kernel
def IX7_readNumber : List (Nat × Instr × Nat) := [(0, .iconst 0, 1), (1, .istore_n 1, 1), (2, .iconst 0, 1), (3, .istore_n 2, 1), (4, .iload_n 2, 1), (5, .iconst 4, 1), (6, .if_icmp .ge 44, 3), (9, .aload_n 0, 1), (10, .invokevirtual 62, 3), (13, .ifCond .eq 37, 3), (16, .bipush 10, 2), (18, .iload_n 1, 1), (19, .imul, 1), (20, .aload_n 0, 1), (21, .getfield 11, 3), (24, .aload_n 0, 1), (25, .getfield 22, 3), (28, .iaload, 1), (29, .iadd, 1), (30, .bipush 48, 2), (32, .isub, 1), (33, .istore_n 1, 1), (34, .aload_n 0, 1), (35, .dup, 1), (36, .getfield 22, 3), (39, .iconst 1, 1), (40, .iadd, 1), (41, .putfield 22, 3), (44, .iinc 2 1, 3), (47, .goto (-43), 3), (50, .aload_n 0, 1), (51, .iload_n 1, 1), (52, .invokevirtual 46, 3), (55, .return_, 1)]
theorem DX7_readNumber : x_dk cX7_readNumber IX7_readNumber = true := by decide +kernel
def IX7_signsOf : List (Nat × Instr × Nat) := [(0, .iload_n 0, 1), (1, .tableswitch 43 0 3 #[31, 34, 37, 40], 31), (32, .ldc 76, 2), (34, .areturn, 1), (35, .ldc 78, 2), (37, .areturn, 1), (38, .ldc 80, 2), (40, .areturn, 1), (41, .ldc 82, 2), (43, .areturn, 1), (44, .ldc 84, 2), (46, .areturn, 1)]
theorem DX7_signsOf : x_dk cX7_signsOf IX7_signsOf = true := by decide +kernel
def IX7_isDigit : List (Nat × Instr × Nat) := [(0, .aload_n 0, 1), (1, .getfield 22, 3), (4, .aload_n 0, 1), (5, .getfield 18, 3), (8, .if_icmp .ge 35, 3), (11, .aload_n 0, 1), (12, .getfield 11, 3), (15, .aload_n 0, 1), (16, .getfield 22, 3), (19, .iaload, 1), (20, .bipush 48, 2), (22, .if_icmp .lt 21, 3), (25, .aload_n 0, 1), (26, .getfield 11, 3), (29, .aload_n 0, 1), (30, .getfield 22, 3), (33, .iaload, 1), (34, .bipush 57, 2), (36, .if_icmp .gt 7, 3), (39, .iconst 1, 1), (40, .goto 4, 3), (43, .iconst 0, 1), (44, .ireturn, 1)]
theorem DX7_isDigit : x_dk cX7_isDigit IX7_isDigit = true := by decide +kernel
def IX7_isAhead : List (Nat × Instr × Nat) := [(0, .aload_n 0, 1), (1, .getfield 22, 3), (4, .aload_n 0, 1), (5, .getfield 18, 3), (8, .if_icmp .ge 24, 3), (11, .aload_n 1, 1), (12, .aload_n 0, 1), (13, .getfield 11, 3), (16, .aload_n 0, 1), (17, .getfield 22, 3), (20, .iaload, 1), (21, .i2c, 1), (22, .invokevirtual 70, 3), (25, .ifCond .lt 7, 3), (28, .iconst 1, 1), (29, .goto 4, 3), (32, .iconst 0, 1), (33, .ireturn, 1)]
theorem DX7_isAhead : x_dk cX7_isAhead IX7_isAhead = true := by decide +kernel
def IX7_accepts : List (Nat × Instr × Nat) := [(0, .aload_n 0, 1), (1, .getfield 22, 3), (4, .aload_n 0, 1), (5, .getfield 18, 3), (8, .if_icmp .ge 16, 3), (11, .aload_n 0, 1), (12, .getfield 11, 3), (15, .aload_n 0, 1), (16, .getfield 22, 3), (19, .iaload, 1), (20, .iload_n 1, 1), (21, .if_icmp .eq 5, 3), (24, .iconst 0, 1), (25, .ireturn, 1), (26, .aload_n 0, 1), (27, .dup, 1), (28, .getfield 22, 3), (31, .iconst 1, 1), (32, .iadd, 1), (33, .putfield 22, 3), (36, .iconst 1, 1), (37, .ireturn, 1)]
theorem DX7_accepts : x_dk cX7_accepts IX7_accepts = true := by decide +kernel
def IX7_write : List (Nat × Instr × Nat) := [(0, .aload_n 0, 1), (1, .getfield 25, 3), (4, .sipush 256, 3), (7, .if_icmp .ge 23, 3), (10, .aload_n 0, 1), (11, .getfield 15, 3), (14, .aload_n 0, 1), (15, .getfield 25, 3), (18, .iload_n 1, 1), (19, .iastore, 1), (20, .aload_n 0, 1), (21, .dup, 1), (22, .getfield 25, 3), (25, .iconst 1, 1), (26, .iadd, 1), (27, .putfield 25, 3), (30, .return_, 1)]
theorem DX7_write : x_dk cX7_write IX7_write = true := by decide +kernel
def IX8_init : List (Nat × Instr × Nat) := [(0, .aload_n 0, 1), (1, .invokespecial 3, 3), (4, .aload_n 0, 1), (5, .bipush 10, 2), (7, .newarray .int, 2), (9, .putfield 9, 3), (12, .aload_n 0, 1), (13, .bipush 10, 2), (15, .newarray .int, 2), (17, .putfield 15, 3), (20, .aload_n 0, 1), (21, .aload_n 1, 1), (22, .putfield 18, 3), (25, .return_, 1)]
theorem DX8_init : x_dk cX8_init IX8_init = true := by decide +kernel
def IX8_firstWrong : List (Nat × Instr × Nat) := [(0, .iload_n 3, 1), (1, .istore 6, 2), (3, .aload_n 0, 1), (4, .iconst 0, 1), (5, .putfield 22, 3), (8, .iconst 0, 1), (9, .istore 7, 2), (11, .iload 7, 2), (13, .aload_n 1, 1), (14, .iload_n 2, 1), (15, .invokevirtual 26, 3), (18, .if_icmp .ge 63, 3), (21, .aload_n 0, 1), (22, .iload 6, 2), (24, .aload_n 0, 1), (25, .iload 7, 2), (27, .iload 4, 2), (29, .if_icmp .ne 9, 3), (32, .iload 5, 2), (34, .i2l, 1), (35, .goto 10, 3), (38, .aload_n 1, 1), (39, .iload_n 2, 1), (40, .iload 7, 2), (42, .invokevirtual 32, 3), (45, .invokevirtual 36, 3), (48, .iand, 1), (49, .putfield 22, 3), (52, .aload_n 0, 1), (53, .getfield 22, 3), (56, .ifCond .ne 6, 3), (59, .iload 7, 2), (61, .ireturn, 1), (62, .aload_n 0, 1), (63, .getfield 18, 3), (66, .aload_n 0, 1), (67, .getfield 22, 3), (70, .invokevirtual 40, 3), (73, .istore 6, 2), (75, .iinc 7 1, 3), (78, .goto (-67), 3), (81, .bipush (-2), 2), (83, .ireturn, 1)]
theorem DX8_firstWrong : x_dk cX8_firstWrong IX8_firstWrong = true := by decide +kernel
def IX8_lastOnes : List (Nat × Instr × Nat) := [(0, .aload_n 0, 1), (1, .aload_n 1, 1), (2, .iload_n 2, 1), (3, .iload_n 3, 1), (4, .iconst (-1), 1), (5, .iconst (-1), 1), (6, .invokevirtual 45, 3), (9, .bipush (-2), 2), (11, .if_icmp .ne 10, 3), (14, .aload_n 0, 1), (15, .getfield 22, 3), (18, .goto 4, 3), (21, .iconst 0, 1), (22, .ireturn, 1)]
theorem DX8_lastOnes : x_dk cX8_lastOnes IX8_lastOnes = true := by decide +kernel
def IX8_firstFilling : List (Nat × Instr × Nat) := [(0, .aload_n 1, 1), (1, .iload_n 2, 1), (2, .invokestatic 49, 3), (5, .istore 4, 2), (7, .iload 4, 2), (9, .bipush (-2), 2), (11, .if_icmp .ne 6, 3), (14, .bipush (-2), 2), (16, .ireturn, 1), (17, .iconst 0, 1), (18, .istore 5, 2), (20, .iload 5, 2), (22, .aload_n 0, 1), (23, .getfield 18, 3), (26, .invokevirtual 53, 3), (29, .if_icmp .ge 28, 3), (32, .aload_n 0, 1), (33, .aload_n 1, 1), (34, .iload_n 2, 1), (35, .iload_n 3, 1), (36, .iload 4, 2), (38, .iload 5, 2), (40, .invokevirtual 45, 3), (43, .bipush (-2), 2), (45, .if_icmp .ne 6, 3), (48, .iload 5, 2), (50, .ireturn, 1), (51, .iinc 5 1, 3), (54, .goto (-34), 3), (57, .bipush (-2), 2), (59, .ireturn, 1)]
theorem DX8_firstFilling : x_dk cX8_firstFilling IX8_firstFilling = true := by decide +kernel
def IX8_countFillings : List (Nat × Instr × Nat) := [(0, .aload_n 1, 1), (1, .iload_n 2, 1), (2, .invokevirtual 26, 3), (5, .ifCond .ne 5, 3), (8, .iconst 1, 1), (9, .ireturn, 1), (10, .iload_n 3, 1), (11, .aload_n 0, 1), (12, .aload_n 1, 1), (13, .iload_n 2, 1), (14, .iconst 0, 1), (15, .invokevirtual 32, 3), (18, .invokevirtual 36, 3), (21, .iand, 1), (22, .istore 4, 2), (24, .iconst 0, 1), (25, .istore 5, 2), (27, .iload 5, 2), (29, .bipush 10, 2), (31, .if_icmp .ge 31, 3), (34, .aload_n 0, 1), (35, .getfield 9, 3), (38, .iload 5, 2), (40, .iload 4, 2), (42, .iload 5, 2), (44, .invokestatic 57, 3), (47, .ifCond .eq 7, 3), (50, .iconst 1, 1), (51, .goto 4, 3), (54, .iconst 0, 1), (55, .iastore, 1), (56, .iinc 5 1, 3), (59, .goto (-32), 3), (62, .iconst 1, 1), (63, .istore 5, 2), (65, .iload 5, 2), (67, .aload_n 1, 1), (68, .iload_n 2, 1), (69, .invokevirtual 26, 3), (72, .if_icmp .ge 24, 3), (75, .aload_n 0, 1), (76, .aload_n 0, 1), (77, .aload_n 1, 1), (78, .iload_n 2, 1), (79, .iload 5, 2), (81, .invokevirtual 32, 3), (84, .invokevirtual 36, 3), (87, .invokevirtual 61, 3), (90, .iinc 5 1, 3), (93, .goto (-28), 3), (96, .iconst 0, 1), (97, .istore 5, 2), (99, .iconst 0, 1), (100, .istore 6, 2), (102, .iload 6, 2), (104, .bipush 10, 2), (106, .if_icmp .ge 27, 3), (109, .sipush 9999, 3), (112, .iload 5, 2), (114, .aload_n 0, 1)]
theorem DX8_countFillings : x_dk cX8_countFillings IX8_countFillings = true := by decide +kernel
def IX8_countFillings_1 : List (Nat × Instr × Nat) := [(115, .getfield 9, 3), (118, .iload 6, 2), (120, .iaload, 1), (121, .iadd, 1), (122, .invokestatic 65, 3), (125, .istore 5, 2), (127, .iinc 6 1, 3), (130, .goto (-28), 3), (133, .iload 5, 2), (135, .ireturn, 1)]
theorem DX8_countFillings_1 : x_dk cX8_countFillings IX8_countFillings_1 = true := by decide +kernel
def IX8_goOn : List (Nat × Instr × Nat) := [(0, .iconst 0, 1), (1, .istore_n 2, 1), (2, .iload_n 2, 1), (3, .bipush 10, 2), (5, .if_icmp .ge 83, 3), (8, .aload_n 0, 1), (9, .getfield 15, 3), (12, .iload_n 2, 1), (13, .iconst 0, 1), (14, .iastore, 1), (15, .iconst 0, 1), (16, .istore_n 3, 1), (17, .iload_n 3, 1), (18, .aload_n 0, 1), (19, .getfield 18, 3), (22, .invokevirtual 53, 3), (25, .if_icmp .ge 57, 3), (28, .iload_n 1, 1), (29, .iload_n 2, 1), (30, .invokestatic 57, 3), (33, .ifCond .eq 49, 3), (36, .aload_n 0, 1), (37, .getfield 18, 3), (40, .iload_n 3, 1), (41, .invokevirtual 71, 3), (44, .iload_n 2, 1), (45, .invokestatic 57, 3), (48, .ifCond .eq 28, 3), (51, .aload_n 0, 1), (52, .getfield 15, 3), (55, .iload_n 2, 1), (56, .sipush 9999, 3), (59, .aload_n 0, 1), (60, .getfield 15, 3), (63, .iload_n 2, 1), (64, .iaload, 1), (65, .aload_n 0, 1), (66, .getfield 9, 3), (69, .iload_n 3, 1), (70, .iaload, 1), (71, .iadd, 1), (72, .invokestatic 65, 3), (75, .iastore, 1), (76, .iinc 3 1, 3), (79, .goto (-62), 3), (82, .iinc 2 1, 3), (85, .goto (-83), 3), (88, .aload_n 0, 1), (89, .getfield 9, 3), (92, .astore_n 2, 1), (93, .aload_n 0, 1), (94, .aload_n 0, 1), (95, .getfield 15, 3), (98, .putfield 9, 3), (101, .aload_n 0, 1), (102, .aload_n 2, 1), (103, .putfield 15, 3), (106, .return_, 1)]
theorem DX8_goOn : x_dk cX8_goOn IX8_goOn = true := by decide +kernel
def IX8_meant : List (Nat × Instr × Nat) := [(0, .lload_n 1, 1), (1, .ldc2_w 74, 3), (4, .lcmp, 1), (5, .ifCond .ne 11, 3), (8, .aload_n 0, 1), (9, .getfield 18, 3), (12, .invokevirtual 76, 3), (15, .ireturn, 1), (16, .lload_n 1, 1), (17, .lconst 0, 1), (18, .lcmp, 1), (19, .ifCond .lt 23, 3), (22, .lload_n 1, 1), (23, .aload_n 0, 1), (24, .getfield 18, 3), (27, .invokevirtual 53, 3), (30, .i2l, 1), (31, .lcmp, 1), (32, .ifCond .ge 10, 3), (35, .iconst 1, 1), (36, .lload_n 1, 1), (37, .l2i, 1), (38, .ishl, 1), (39, .goto 4, 3), (42, .iconst 0, 1), (43, .ireturn, 1)]
theorem DX8_meant : x_dk cX8_meant IX8_meant = true := by decide +kernel
def IX8_firstUnknown : List (Nat × Instr × Nat) := [(0, .iconst 0, 1), (1, .istore_n 2, 1), (2, .iload_n 2, 1), (3, .aload_n 0, 1), (4, .iload_n 1, 1), (5, .invokevirtual 26, 3), (8, .if_icmp .ge 24, 3), (11, .aload_n 0, 1), (12, .iload_n 1, 1), (13, .iload_n 2, 1), (14, .invokevirtual 32, 3), (17, .ldc2_w 74, 3), (20, .lcmp, 1), (21, .ifCond .ne 5, 3), (24, .iload_n 2, 1), (25, .ireturn, 1), (26, .iinc 2 1, 3), (29, .goto (-27), 3), (32, .bipush (-2), 2), (34, .ireturn, 1)]
theorem DX8_firstUnknown : x_dk cX8_firstUnknown IX8_firstUnknown = true := by decide +kernel
def IX9_init : List (Nat × Instr × Nat) := [(0, .aload_n 0, 1), (1, .invokespecial 3, 3), (4, .aload_n 0, 1), (5, .bipush 6, 2), (7, .newarray .int, 2), (9, .putfield 11, 3), (12, .aload_n 0, 1), (13, .bipush 6, 2), (15, .newarray .int, 2), (17, .putfield 15, 3), (20, .aload_n 0, 1), (21, .iconst 4, 1), (22, .newarray .int, 2), (24, .putfield 18, 3), (27, .aload_n 0, 1), (28, .bipush 6, 2), (30, .newarray .int, 2), (32, .putfield 21, 3), (35, .aload_n 0, 1), (36, .bipush 6, 2), (38, .newarray .int, 2), (40, .putfield 24, 3), (43, .aload_n 0, 1), (44, .iconst 4, 1), (45, .newarray .int, 2), (47, .putfield 27, 3), (50, .return_, 1)]
theorem DX9_init : x_dk cX9_init IX9_init = true := by decide +kernel
def IX9_blocks : List (Nat × Instr × Nat) := [(0, .aload_n 0, 1), (1, .getfield 30, 3), (4, .ireturn, 1)]
theorem DX9_blocks : x_dk cX9_blocks IX9_blocks = true := by decide +kernel
def IX9_has : List (Nat × Instr × Nat) := [(0, .iload_n 1, 1), (1, .ifCond .lt 15, 3), (4, .iload_n 1, 1), (5, .aload_n 0, 1), (6, .getfield 30, 3), (9, .if_icmp .ge 7, 3), (12, .iconst 1, 1), (13, .goto 4, 3), (16, .iconst 0, 1), (17, .ireturn, 1)]
theorem DX9_has : x_dk cX9_has IX9_has = true := by decide +kernel
def IX9_add : List (Nat × Instr × Nat) := [(0, .aload_n 0, 1), (1, .getfield 30, 3), (4, .bipush 6, 2), (6, .if_icmp .lt 6, 3), (9, .bipush (-3), 2), (11, .ireturn, 1), (12, .aload_n 0, 1), (13, .getfield 11, 3), (16, .aload_n 0, 1), (17, .getfield 30, 3), (20, .iload_n 1, 1), (21, .iastore, 1), (22, .aload_n 0, 1), (23, .dup, 1), (24, .getfield 30, 3), (27, .iconst 1, 1), (28, .iadd, 1), (29, .putfield 30, 3), (32, .aload_n 0, 1), (33, .getfield 30, 3), (36, .iconst 1, 1), (37, .isub, 1), (38, .ireturn, 1)]
theorem DX9_add : x_dk cX9_add IX9_add = true := by decide +kernel
def IX9_leftOf : List (Nat × Instr × Nat) := [(0, .aload_n 0, 1), (1, .getfield 11, 3), (4, .iload_n 1, 1), (5, .iaload, 1), (6, .ireturn, 1)]
theorem DX9_leftOf : x_dk cX9_leftOf IX9_leftOf = true := by decide +kernel
def IX9_cutsOf : List (Nat × Instr × Nat) := [(0, .aload_n 0, 1), (1, .getfield 15, 3), (4, .iload_n 1, 1), (5, .iaload, 1), (6, .ireturn, 1)]
theorem DX9_cutsOf : x_dk cX9_cutsOf IX9_cutsOf = true := by decide +kernel
def IX9_ledger : List (Nat × Instr × Nat) := [(0, .aload_n 0, 1), (1, .getfield 18, 3), (4, .iload_n 1, 1), (5, .iaload, 1), (6, .ireturn, 1)]
theorem DX9_ledger : x_dk cX9_ledger IX9_ledger = true := by decide +kernel
def IX9_take : List (Nat × Instr × Nat) := [(0, .aload_n 0, 1), (1, .getfield 18, 3), (4, .iconst 0, 1), (5, .dup2, 1), (6, .iaload, 1), (7, .iconst 1, 1), (8, .iadd, 1), (9, .iastore, 1), (10, .aload_n 0, 1), (11, .getfield 18, 3), (14, .iconst 1, 1), (15, .dup2, 1), (16, .iaload, 1), (17, .aload_n 0, 1), (18, .getfield 11, 3), (21, .iload_n 1, 1), (22, .iaload, 1), (23, .invokestatic 34, 3), (26, .iload_n 2, 1), (27, .invokestatic 34, 3), (30, .isub, 1), (31, .iadd, 1), (32, .iastore, 1), (33, .aload_n 0, 1), (34, .getfield 18, 3), (37, .iconst 2, 1), (38, .dup2, 1), (39, .iaload, 1), (40, .iload_n 3, 1), (41, .iadd, 1), (42, .iastore, 1), (43, .aload_n 0, 1), (44, .getfield 11, 3), (47, .iload_n 1, 1), (48, .iload_n 2, 1), (49, .iastore, 1), (50, .aload_n 0, 1), (51, .getfield 15, 3), (54, .iload_n 1, 1), (55, .dup2, 1), (56, .iaload, 1), (57, .iconst 1, 1), (58, .iadd, 1), (59, .iastore, 1), (60, .return_, 1)]
theorem DX9_take : x_dk cX9_take IX9_take = true := by decide +kernel
def IX9_letPass : List (Nat × Instr × Nat) := [(0, .aload_n 0, 1), (1, .getfield 18, 3), (4, .iconst 3, 1), (5, .iaload, 1), (6, .iload_n 1, 1), (7, .iadd, 1), (8, .bipush 99, 2), (10, .if_icmp .le 6, 3), (13, .bipush (-5), 2), (15, .ireturn, 1), (16, .aload_n 0, 1), (17, .getfield 18, 3), (20, .iconst 3, 1), (21, .dup2, 1), (22, .iaload, 1), (23, .iload_n 1, 1), (24, .iadd, 1), (25, .iastore, 1), (26, .aload_n 0, 1), (27, .getfield 18, 3), (30, .iconst 3, 1), (31, .iaload, 1), (32, .ireturn, 1)]
theorem DX9_letPass : x_dk cX9_letPass IX9_letPass = true := by decide +kernel
def IX9_store : List (Nat × Instr × Nat) := [(0, .aload_n 0, 1), (1, .getfield 11, 3), (4, .iconst 0, 1), (5, .aload_n 0, 1), (6, .getfield 21, 3), (9, .iconst 0, 1), (10, .aload_n 0, 1), (11, .getfield 30, 3), (14, .invokestatic 40, 3), (17, .aload_n 0, 1), (18, .getfield 15, 3), (21, .iconst 0, 1), (22, .aload_n 0, 1), (23, .getfield 24, 3), (26, .iconst 0, 1), (27, .aload_n 0, 1), (28, .getfield 30, 3), (31, .invokestatic 40, 3), (34, .aload_n 0, 1), (35, .getfield 18, 3), (38, .iconst 0, 1), (39, .aload_n 0, 1), (40, .getfield 27, 3), (43, .iconst 0, 1), (44, .iconst 4, 1), (45, .invokestatic 40, 3), (48, .aload_n 0, 1), (49, .aload_n 0, 1), (50, .getfield 30, 3), (53, .putfield 46, 3), (56, .aload_n 0, 1), (57, .iconst 1, 1), (58, .putfield 49, 3), (61, .return_, 1)]
theorem DX9_store : x_dk cX9_store IX9_store = true := by decide +kernel
def IX9_restore : List (Nat × Instr × Nat) := [(0, .aload_n 0, 1), (1, .getfield 49, 3), (4, .ifCond .ne 5, 3), (7, .iconst 0, 1), (8, .ireturn, 1), (9, .aload_n 0, 1), (10, .getfield 21, 3), (13, .iconst 0, 1), (14, .aload_n 0, 1), (15, .getfield 11, 3), (18, .iconst 0, 1), (19, .aload_n 0, 1), (20, .getfield 46, 3), (23, .invokestatic 40, 3), (26, .aload_n 0, 1), (27, .getfield 24, 3), (30, .iconst 0, 1), (31, .aload_n 0, 1), (32, .getfield 15, 3), (35, .iconst 0, 1), (36, .aload_n 0, 1), (37, .getfield 46, 3), (40, .invokestatic 40, 3), (43, .aload_n 0, 1), (44, .getfield 27, 3), (47, .iconst 0, 1), (48, .aload_n 0, 1), (49, .getfield 18, 3), (52, .iconst 0, 1), (53, .iconst 4, 1), (54, .invokestatic 40, 3), (57, .iconst 1, 1), (58, .ireturn, 1)]
theorem DX9_restore : x_dk cX9_restore IX9_restore = true := by decide +kernel
def IX10_init : List (Nat × Instr × Nat) := [(0, .aload_n 0, 1), (1, .invokespecial 1, 3), (4, .aload_n 0, 1), (5, .new 7, 3), (8, .dup, 1), (9, .invokespecial 9, 3), (12, .putfield 10, 3), (15, .aload_n 0, 1), (16, .new 16, 3), (19, .dup, 1), (20, .invokespecial 18, 3), (23, .putfield 19, 3), (26, .aload_n 0, 1), (27, .new 23, 3), (30, .dup, 1), (31, .invokespecial 25, 3), (34, .putfield 26, 3), (37, .aload_n 0, 1), (38, .new 30, 3), (41, .dup, 1), (42, .aload_n 0, 1), (43, .getfield 10, 3), (46, .aload_n 0, 1), (47, .getfield 26, 3), (50, .invokespecial 32, 3), (53, .putfield 35, 3), (56, .aload_n 0, 1), (57, .new 39, 3), (60, .dup, 1), (61, .aload_n 0, 1), (62, .getfield 10, 3), (65, .invokespecial 41, 3), (68, .putfield 44, 3), (71, .aload_n 0, 1), (72, .new 48, 3), (75, .dup, 1), (76, .invokespecial 50, 3), (79, .putfield 51, 3), (82, .aload_n 0, 1), (83, .new 55, 3), (86, .dup, 1), (87, .invokespecial 57, 3), (90, .putfield 58, 3), (93, .aload_n 0, 1), (94, .new 62, 3), (97, .dup, 1), (98, .invokespecial 64, 3), (101, .putfield 65, 3), (104, .aload_n 0, 1), (105, .new 69, 3), (108, .dup, 1), (109, .invokespecial 71, 3), (112, .putfield 72, 3), (115, .aload_n 0, 1), (116, .new 76, 3), (119, .dup, 1), (120, .invokespecial 78, 3), (123, .putfield 79, 3), (126, .return_, 1)]
theorem DX10_init : x_dk cX10_init IX10_init = true := by decide +kernel
def IX10_figure : List (Nat × Instr × Nat) := [(0, .iload_n 1, 1), (1, .invokestatic 83, 3), (4, .ifCond .ne 5, 3), (7, .iconst (-1), 1), (8, .ireturn, 1), (9, .aload_n 0, 1), (10, .getfield 10, 3), (13, .iload_n 1, 1), (14, .bipush 100, 2), (16, .invokevirtual 87, 3), (19, .ireturn, 1)]
theorem DX10_figure : x_dk cX10_figure IX10_figure = true := by decide +kernel
def IX10_figures : List (Nat × Instr × Nat) := [(0, .aload_n 0, 1), (1, .getfield 72, 3), (4, .iload_n 1, 1), (5, .invokevirtual 91, 3), (8, .ifCond .eq 14, 3), (11, .iload_n 3, 1), (12, .iconst 1, 1), (13, .if_icmp .lt 9, 3), (16, .iload_n 3, 1), (17, .bipush 10, 2), (19, .if_icmp .le 5, 3), (22, .iconst (-1), 1), (23, .ireturn, 1), (24, .aload_n 0, 1), (25, .getfield 72, 3), (28, .iload_n 1, 1), (29, .invokevirtual 94, 3), (32, .iconst (-1), 1), (33, .if_icmp .ne 5, 3), (36, .iconst 0, 1), (37, .ireturn, 1), (38, .aload_n 0, 1), (39, .getfield 72, 3), (42, .iload_n 1, 1), (43, .invokevirtual 94, 3), (46, .iconst 2, 1), (47, .if_icmp .eq 6, 3), (50, .bipush (-12), 2), (52, .ireturn, 1), (53, .aload_n 0, 1), (54, .iload_n 1, 1), (55, .iload_n 2, 1), (56, .iload_n 3, 1), (57, .invokevirtual 98, 3), (60, .ireturn, 1)]
theorem DX10_figures : x_dk cX10_figures IX10_figures = true := by decide +kernel
def IX10_block : List (Nat × Instr × Nat) := [(0, .iload_n 1, 1), (1, .invokestatic 83, 3), (4, .ifCond .ne 5, 3), (7, .iconst (-1), 1), (8, .ireturn, 1), (9, .aload_n 0, 1), (10, .getfield 51, 3), (13, .iload_n 1, 1), (14, .invokevirtual 102, 3), (17, .ireturn, 1)]
theorem DX10_block : x_dk cX10_block IX10_block = true := by decide +kernel
def IX10_mend : List (Nat × Instr × Nat) := [(0, .aload_n 0, 1), (1, .getfield 10, 3), (4, .iload_n 1, 1), (5, .invokevirtual 104, 3), (8, .ifCond .eq 25, 3), (11, .iload_n 2, 1), (12, .ifCond .lt 21, 3), (15, .iload_n 2, 1), (16, .iconst 3, 1), (17, .if_icmp .ge 16, 3), (20, .iload_n 3, 1), (21, .ifCond .lt 12, 3), (24, .iload_n 3, 1), (25, .getstatic 105, 3), (28, .iload_n 2, 1), (29, .iaload, 1), (30, .if_icmp .le 5, 3), (33, .iconst (-1), 1), (34, .ireturn, 1), (35, .aload_n 0, 1), (36, .getfield 10, 3), (39, .iload_n 1, 1), (40, .iload_n 2, 1), (41, .invokevirtual 109, 3), (44, .istore 4, 2), (46, .iload 4, 2), (48, .iload_n 3, 1), (49, .if_icmp .eq 25, 3), (52, .aload_n 0, 1), (53, .getfield 10, 3), (56, .iload_n 1, 1), (57, .iload_n 2, 1), (58, .iload_n 3, 1), (59, .invokevirtual 112, 3), (62, .aload_n 0, 1), (63, .getfield 58, 3), (66, .iload_n 1, 1), (67, .iload_n 2, 1), (68, .iload 4, 2), (70, .iload_n 3, 1), (71, .invokevirtual 116, 3), (74, .iload 4, 2), (76, .ireturn, 1)]
theorem DX10_mend : x_dk cX10_mend IX10_mend = true := by decide +kernel
def IX10_of : List (Nat × Instr × Nat) := [(0, .iload_n 2, 1), (1, .ifCond .lt 29, 3), (4, .iload_n 2, 1), (5, .iconst 3, 1), (6, .if_icmp .ge 24, 3), (9, .aload_n 0, 1), (10, .getfield 10, 3), (13, .iload_n 1, 1), (14, .invokevirtual 104, 3), (17, .ifCond .eq 13, 3), (20, .aload_n 0, 1), (21, .getfield 10, 3), (24, .iload_n 1, 1), (25, .iload_n 2, 1), (26, .invokevirtual 109, 3), (29, .ireturn, 1), (30, .iload_n 2, 1), (31, .iconst 3, 1), (32, .if_icmp .ne 26, 3), (35, .aload_n 0, 1), (36, .getfield 10, 3), (39, .iload_n 1, 1), (40, .invokevirtual 104, 3), (43, .ifCond .eq 15, 3), (46, .aload_n 0, 1), (47, .getfield 10, 3), (50, .iload_n 1, 1), (51, .invokevirtual 119, 3), (54, .getfield 123, 3), (57, .ireturn, 1), (58, .iload_n 2, 1), (59, .iconst 4, 1), (60, .if_icmp .ne 23, 3), (63, .aload_n 0, 1), (64, .getfield 51, 3), (67, .iload_n 1, 1), (68, .invokevirtual 127, 3), (71, .ifCond .eq 12, 3), (74, .aload_n 0, 1), (75, .getfield 51, 3), (78, .iload_n 1, 1), (79, .invokevirtual 128, 3), (82, .ireturn, 1), (83, .iload_n 2, 1), (84, .iconst 5, 1), (85, .if_icmp .ne 23, 3), (88, .aload_n 0, 1), (89, .getfield 51, 3), (92, .iload_n 1, 1), (93, .invokevirtual 127, 3), (96, .ifCond .eq 12, 3), (99, .aload_n 0, 1), (100, .getfield 51, 3), (103, .iload_n 1, 1), (104, .invokevirtual 131, 3), (107, .ireturn, 1), (108, .iload_n 2, 1), (109, .bipush 6, 2), (111, .if_icmp .ne 18, 3), (114, .iload_n 1, 1)]
theorem DX10_of : x_dk cX10_of IX10_of = true := by decide +kernel
def IX10_of_1 : List (Nat × Instr × Nat) := [(115, .ifCond .ne 14, 3), (118, .aload_n 0, 1), (119, .getfield 51, 3), (122, .iconst 3, 1), (123, .invokevirtual 134, 3), (126, .goto 4, 3), (129, .iconst (-1), 1), (130, .ireturn, 1)]
theorem DX10_of_1 : x_dk cX10_of IX10_of_1 = true := by decide +kernel
def IX10_feed : List (Nat × Instr × Nat) := [(0, .iload_n 1, 1), (1, .ifCond .lt 10, 3), (4, .iload_n 1, 1), (5, .sipush 255, 3), (8, .if_icmp .le 5, 3), (11, .iconst (-1), 1), (12, .ireturn, 1), (13, .aload_n 0, 1), (14, .getfield 19, 3), (17, .iload_n 1, 1), (18, .invokevirtual 137, 3), (21, .ireturn, 1)]
theorem DX10_feed : x_dk cX10_feed IX10_feed = true := by decide +kernel
def IX10_law : List (Nat × Instr × Nat) := [(0, .aload_n 0, 1), (1, .getfield 19, 3), (4, .invokevirtual 138, 3), (7, .istore_n 1, 1), (8, .aload_n 0, 1), (9, .getfield 19, 3), (12, .invokevirtual 142, 3), (15, .iload_n 1, 1), (16, .bipush (-2), 2), (18, .if_icmp .eq 8, 3), (21, .bipush (-100), 2), (23, .iload_n 1, 1), (24, .isub, 1), (25, .ireturn, 1), (26, .aload_n 0, 1), (27, .getfield 26, 3), (30, .aload_n 0, 1), (31, .getfield 19, 3), (34, .invokevirtual 145, 3), (37, .iconst 1, 1), (38, .ireturn, 1)]
theorem DX10_law : x_dk cX10_law IX10_law = true := by decide +kernel
def IX10_brings : List (Nat × Instr × Nat) := [(0, .aload_n 0, 1), (1, .getfield 10, 3), (4, .iload_n 1, 1), (5, .invokevirtual 104, 3), (8, .ifCond .eq 20, 3), (11, .iload_n 2, 1), (12, .invokestatic 149, 3), (15, .ifCond .eq 13, 3), (18, .iload_n 3, 1), (19, .ifCond .lt 9, 3), (22, .iload_n 3, 1), (23, .bipush 99, 2), (25, .if_icmp .le 5, 3), (28, .iconst (-1), 1), (29, .ireturn, 1), (30, .aload_n 0, 1), (31, .getfield 26, 3), (34, .aload_n 0, 1), (35, .getfield 10, 3), (38, .iload_n 1, 1), (39, .iload_n 2, 1), (40, .iload_n 3, 1), (41, .invokevirtual 152, 3), (44, .ireturn, 1)]
theorem DX10_brings : x_dk cX10_brings IX10_brings = true := by decide +kernel
def IX10_size : List (Nat × Instr × Nat) := [(0, .aload_n 0, 1), (1, .getfield 10, 3), (4, .iload_n 1, 1), (5, .invokevirtual 104, 3), (8, .ifCond .eq 12, 3), (11, .iload_n 2, 1), (12, .ifCond .lt 8, 3), (15, .iload_n 2, 1), (16, .iconst 2, 1), (17, .if_icmp .le 5, 3), (20, .iconst (-1), 1), (21, .ireturn, 1), (22, .aload_n 0, 1), (23, .getfield 10, 3), (26, .iload_n 1, 1), (27, .invokevirtual 119, 3), (30, .astore_n 3, 1), (31, .iload_n 2, 1), (32, .ifCond .ne 8, 3), (35, .aload_n 3, 1), (36, .getfield 156, 3), (39, .ireturn, 1), (40, .iload_n 2, 1), (41, .iconst 1, 1), (42, .if_icmp .ne 15, 3), (45, .aload_n 3, 1), (46, .getfield 159, 3), (49, .iconst 0, 1), (50, .iaload, 1), (51, .invokestatic 162, 3), (54, .goto 12, 3), (57, .aload_n 3, 1), (58, .getfield 159, 3), (61, .iconst 0, 1), (62, .iaload, 1), (63, .invokestatic 165, 3), (66, .ireturn, 1)]
theorem DX10_size : x_dk cX10_size IX10_size = true := by decide +kernel
def IX10_turned : List (Nat × Instr × Nat) := [(0, .aload_n 0, 1), (1, .getfield 10, 3), (4, .iload_n 1, 1), (5, .invokevirtual 104, 3), (8, .ifCond .eq 28, 3), (11, .iload_n 2, 1), (12, .ifCond .lt 24, 3), (15, .iload_n 2, 1), (16, .iconst 4, 1), (17, .if_icmp .ge 19, 3), (20, .aload_n 0, 1), (21, .getfield 10, 3), (24, .iload_n 1, 1), (25, .invokevirtual 119, 3), (28, .getfield 159, 3), (31, .iload_n 2, 1), (32, .iaload, 1), (33, .goto 4, 3), (36, .iconst (-1), 1), (37, .ireturn, 1)]
theorem DX10_turned : x_dk cX10_turned IX10_turned = true := by decide +kernel
def IX10_ways : List (Nat × Instr × Nat) := [(0, .aload_n 0, 1), (1, .iload_n 1, 1), (2, .invokevirtual 168, 3), (5, .ifCond .eq 12, 3), (8, .iload_n 2, 1), (9, .ifCond .lt 8, 3), (12, .iload_n 2, 1), (13, .iconst 2, 1), (14, .if_icmp .le 5, 3), (17, .iconst (-1), 1), (18, .ireturn, 1), (19, .aload_n 0, 1), (20, .getfield 51, 3), (23, .iload_n 1, 1), (24, .bipush 10, 2), (26, .idiv, 1), (27, .invokevirtual 128, 3), (30, .istore_n 3, 1), (31, .aload_n 0, 1), (32, .getfield 10, 3), (35, .iload_n 1, 1), (36, .bipush 10, 2), (38, .irem, 1), (39, .invokevirtual 119, 3), (42, .astore 4, 2), (44, .iload_n 2, 1), (45, .ifCond .ne 10, 3), (48, .aload 4, 2), (50, .iload_n 3, 1), (51, .invokevirtual 171, 3), (54, .ireturn, 1), (55, .iload_n 2, 1), (56, .iconst 1, 1), (57, .if_icmp .ne 31, 3), (60, .aload 4, 2), (62, .iload_n 3, 1), (63, .invokevirtual 174, 3), (66, .istore 5, 2), (68, .iload 5, 2), (70, .bipush (-2), 2), (72, .if_icmp .ne 8, 3), (75, .bipush (-2), 2), (77, .goto 10, 3), (80, .aload 4, 2), (82, .iload 5, 2), (84, .invokevirtual 177, 3), (87, .ireturn, 1), (88, .aload 4, 2), (90, .iload_n 3, 1), (91, .invokevirtual 180, 3), (94, .ifCond .eq 16, 3), (97, .iload_n 3, 1), (98, .invokestatic 183, 3), (101, .aload 4, 2), (103, .getfield 156, 3), (106, .isub, 1), (107, .goto 5, 3), (110, .bipush (-2), 2), (112, .ireturn, 1)]
theorem DX10_ways : x_dk cX10_ways IX10_ways = true := by decide +kernel
def IX10_inside : List (Nat × Instr × Nat) := [(0, .aload_n 0, 1), (1, .iload_n 1, 1), (2, .invokevirtual 188, 3), (5, .ifCond .ne 5, 3), (8, .iconst (-1), 1), (9, .ireturn, 1), (10, .aload_n 0, 1), (11, .getfield 10, 3), (14, .iload_n 1, 1), (15, .bipush 10, 2), (17, .irem, 1), (18, .invokevirtual 191, 3), (21, .iload_n 1, 1), (22, .bipush 10, 2), (24, .idiv, 1), (25, .invokestatic 194, 3), (28, .ifCond .eq 7, 3), (31, .iconst 1, 1), (32, .goto 4, 3), (35, .iconst 0, 1), (36, .ireturn, 1)]
theorem DX10_inside : x_dk cX10_inside IX10_inside = true := by decide +kernel
def IX10_around : List (Nat × Instr × Nat) := [(0, .aload_n 0, 1), (1, .getfield 10, 3), (4, .iload_n 1, 1), (5, .invokevirtual 104, 3), (8, .ifCond .eq 12, 3), (11, .iload_n 2, 1), (12, .ifCond .lt 8, 3), (15, .iload_n 2, 1), (16, .iconst 1, 1), (17, .if_icmp .le 5, 3), (20, .iconst (-1), 1), (21, .ireturn, 1), (22, .iload_n 2, 1), (23, .ifCond .ne 14, 3), (26, .aload_n 0, 1), (27, .getfield 10, 3), (30, .iload_n 1, 1), (31, .invokevirtual 198, 3), (34, .goto 11, 3), (37, .aload_n 0, 1), (38, .getfield 10, 3), (41, .iload_n 1, 1), (42, .invokevirtual 191, 3), (45, .ireturn, 1)]
theorem DX10_around : x_dk cX10_around IX10_around = true := by decide +kernel
def IX10_common : List (Nat × Instr × Nat) := [(0, .iload_n 1, 1), (1, .ifCond .lt 17, 3), (4, .iload_n 1, 1), (5, .aload_n 0, 1), (6, .getfield 10, 3), (9, .invokevirtual 201, 3), (12, .iconst (-1), 1), (13, .ixor, 1), (14, .iand, 1), (15, .ifCond .eq 5, 3), (18, .iconst (-1), 1), (19, .ireturn, 1), (20, .aload_n 0, 1), (21, .getfield 10, 3), (24, .invokevirtual 201, 3), (27, .istore_n 2, 1), (28, .iconst 0, 1), (29, .istore_n 3, 1), (30, .iload_n 3, 1), (31, .bipush 10, 2), (33, .if_icmp .ge 28, 3), (36, .iload_n 1, 1), (37, .iload_n 3, 1), (38, .invokestatic 194, 3), (41, .ifCond .eq 14, 3), (44, .iload_n 2, 1), (45, .aload_n 0, 1), (46, .getfield 10, 3), (49, .iload_n 3, 1), (50, .invokevirtual 191, 3), (53, .iand, 1), (54, .istore_n 2, 1), (55, .iinc 3 1, 3), (58, .goto (-28), 3), (61, .iload_n 2, 1), (62, .ireturn, 1)]
theorem DX10_common : x_dk cX10_common IX10_common = true := by decide +kernel
def IX10_longest : List (Nat × Instr × Nat) := [(0, .aload_n 0, 1), (1, .getfield 51, 3), (4, .iload_n 1, 1), (5, .invokevirtual 127, 3), (8, .ifCond .eq 8, 3), (11, .iload_n 2, 1), (12, .iconst (-1), 1), (13, .if_icmp .ge 5, 3), (16, .iconst (-1), 1), (17, .ireturn, 1), (18, .aload_n 0, 1), (19, .iload_n 1, 1), (20, .invokevirtual 204, 3), (23, .istore_n 3, 1), (24, .aload_n 0, 1), (25, .getfield 35, 3), (28, .aload_n 0, 1), (29, .getfield 10, 3), (32, .invokevirtual 201, 3), (35, .invokevirtual 207, 3), (38, .iload_n 2, 1), (39, .iconst (-1), 1), (40, .if_icmp .ne 14, 3), (43, .aload_n 0, 1), (44, .getfield 35, 3), (47, .iload_n 3, 1), (48, .invokevirtual 211, 3), (51, .goto 12, 3), (54, .aload_n 0, 1), (55, .getfield 35, 3), (58, .iload_n 3, 1), (59, .iload_n 2, 1), (60, .invokevirtual 214, 3), (63, .ireturn, 1)]
theorem DX10_longest : x_dk cX10_longest IX10_longest = true := by decide +kernel
def IX10_richest : List (Nat × Instr × Nat) := [(0, .aload_n 0, 1), (1, .getfield 51, 3), (4, .iload_n 1, 1), (5, .invokevirtual 127, 3), (8, .ifCond .eq 15, 3), (11, .iload_n 2, 1), (12, .invokestatic 149, 3), (15, .ifCond .eq 8, 3), (18, .iload_n 3, 1), (19, .iconst (-1), 1), (20, .if_icmp .ge 5, 3), (23, .iconst (-1), 1), (24, .ireturn, 1), (25, .aload_n 0, 1), (26, .iload_n 1, 1), (27, .invokevirtual 204, 3), (30, .istore 4, 2), (32, .aload_n 0, 1), (33, .getfield 35, 3), (36, .iload_n 2, 1), (37, .invokevirtual 217, 3), (40, .iload_n 3, 1), (41, .iconst (-1), 1), (42, .if_icmp .ne 15, 3), (45, .aload_n 0, 1), (46, .getfield 35, 3), (49, .iload 4, 2), (51, .invokevirtual 220, 3), (54, .goto 13, 3), (57, .aload_n 0, 1), (58, .getfield 35, 3), (61, .iload 4, 2), (63, .iload_n 3, 1), (64, .invokevirtual 223, 3), (67, .ireturn, 1)]
theorem DX10_richest : x_dk cX10_richest IX10_richest = true := by decide +kernel
def IX10_with : List (Nat × Instr × Nat) := [(0, .aload_n 0, 1), (1, .getfield 51, 3), (4, .iload_n 1, 1), (5, .invokevirtual 127, 3), (8, .ifCond .eq 11, 3), (11, .aload_n 0, 1), (12, .iload_n 2, 1), (13, .invokevirtual 188, 3), (16, .ifCond .ne 5, 3), (19, .iconst (-1), 1), (20, .ireturn, 1), (21, .aload_n 0, 1), (22, .getfield 35, 3), (25, .aload_n 0, 1), (26, .iload_n 1, 1), (27, .invokevirtual 204, 3), (30, .iload_n 2, 1), (31, .bipush 10, 2), (33, .idiv, 1), (34, .iload_n 2, 1), (35, .bipush 10, 2), (37, .irem, 1), (38, .invokevirtual 226, 3), (41, .ireturn, 1)]
theorem DX10_with : x_dk cX10_with IX10_with = true := by decide +kernel
def IX10_spare : List (Nat × Instr × Nat) := [(0, .aload_n 0, 1), (1, .getfield 51, 3), (4, .iload_n 1, 1), (5, .invokevirtual 127, 3), (8, .ifCond .eq 12, 3), (11, .iload_n 2, 1), (12, .ifCond .lt 8, 3), (15, .iload_n 2, 1), (16, .iconst 1, 1), (17, .if_icmp .le 5, 3), (20, .iconst (-1), 1), (21, .ireturn, 1), (22, .aload_n 0, 1), (23, .getfield 10, 3), (26, .invokevirtual 229, 3), (29, .ifCond .ne 6, 3), (32, .bipush (-2), 2), (34, .ireturn, 1), (35, .aload_n 0, 1), (36, .iload_n 1, 1), (37, .invokevirtual 204, 3), (40, .istore_n 3, 1), (41, .iconst 0, 1), (42, .istore 4, 2), (44, .aload_n 0, 1), (45, .getfield 35, 3), (48, .iload_n 3, 1), (49, .iconst 0, 1), (50, .invokevirtual 232, 3), (53, .istore 5, 2), (55, .iconst 1, 1), (56, .istore 6, 2), (58, .iload 6, 2), (60, .aload_n 0, 1), (61, .getfield 10, 3), (64, .invokevirtual 229, 3), (67, .if_icmp .ge 36, 3), (70, .aload_n 0, 1), (71, .getfield 35, 3), (74, .iload_n 3, 1), (75, .iload 6, 2), (77, .invokevirtual 232, 3), (80, .istore 7, 2), (82, .iload 7, 2), (84, .iload 5, 2), (86, .if_icmp .ge 11, 3), (89, .iload 6, 2), (91, .istore 4, 2), (93, .iload 7, 2), (95, .istore 5, 2), (97, .iinc 6 1, 3), (100, .goto (-42), 3), (103, .iload_n 2, 1), (104, .ifCond .ne 8, 3), (107, .iload 4, 2), (109, .goto 5, 3), (112, .iload 5, 2), (114, .ireturn, 1)]
theorem DX10_spare : x_dk cX10_spare IX10_spare = true := by decide +kernel
def IX10_when : List (Nat × Instr × Nat) := [(0, .aload_n 0, 1), (1, .getfield 10, 3), (4, .iload_n 1, 1), (5, .invokevirtual 104, 3), (8, .ifCond .eq 12, 3), (11, .iload_n 2, 1), (12, .ifCond .lt 8, 3), (15, .iload_n 2, 1), (16, .iconst 1, 1), (17, .if_icmp .le 5, 3), (20, .iconst (-1), 1), (21, .ireturn, 1), (22, .iconst 0, 1), (23, .istore_n 3, 1), (24, .iconst (-1), 1), (25, .istore 4, 2), (27, .iconst 0, 1), (28, .istore 5, 2), (30, .iload 5, 2), (32, .bipush 99, 2), (34, .if_icmp .gt 40, 3), (37, .aload_n 0, 1), (38, .getfield 26, 3), (41, .aload_n 0, 1), (42, .getfield 10, 3), (45, .iload_n 1, 1), (46, .iload 5, 2), (48, .iconst 0, 1), (49, .invokevirtual 152, 3), (52, .istore 6, 2), (54, .iload 6, 2), (56, .iload 4, 2), (58, .if_icmp .le 10, 3), (61, .iload 5, 2), (63, .istore_n 3, 1), (64, .iload 6, 2), (66, .istore 4, 2), (68, .iinc 5 1, 3), (71, .goto (-41), 3), (74, .iload_n 2, 1), (75, .ifCond .ne 7, 3), (78, .iload_n 3, 1), (79, .goto 5, 3), (82, .iload 4, 2), (84, .ireturn, 1)]
theorem DX10_when : x_dk cX10_when IX10_when = true := by decide +kernel
def IX10_smallest : List (Nat × Instr × Nat) := [(0, .aload_n 0, 1), (1, .iload_n 1, 1), (2, .invokevirtual 188, 3), (5, .ifCond .eq 12, 3), (8, .iload_n 2, 1), (9, .ifCond .lt 8, 3), (12, .iload_n 2, 1), (13, .iconst 1, 1), (14, .if_icmp .le 5, 3), (17, .iconst (-1), 1), (18, .ireturn, 1), (19, .aload_n 0, 1), (20, .getfield 10, 3), (23, .iload_n 1, 1), (24, .bipush 10, 2), (26, .idiv, 1), (27, .invokevirtual 119, 3), (30, .aload_n 0, 1), (31, .getfield 10, 3), (34, .iload_n 1, 1), (35, .bipush 10, 2), (37, .irem, 1), (38, .invokevirtual 119, 3), (41, .invokevirtual 235, 3), (44, .istore_n 3, 1), (45, .iload_n 2, 1), (46, .ifCond .ne 10, 3), (49, .iload_n 3, 1), (50, .invokestatic 183, 3), (53, .goto 4, 3), (56, .iload_n 3, 1), (57, .ireturn, 1)]
theorem DX10_smallest : x_dk cX10_smallest IX10_smallest = true := by decide +kernel
def IX10_leave : List (Nat × Instr × Nat) := [(0, .aload_n 0, 1), (1, .getfield 51, 3), (4, .iload_n 1, 1), (5, .invokevirtual 127, 3), (8, .ifCond .eq 12, 3), (11, .iload_n 2, 1), (12, .ifCond .lt 8, 3), (15, .iload_n 2, 1), (16, .iconst 1, 1), (17, .if_icmp .le 5, 3), (20, .iconst (-1), 1), (21, .ireturn, 1), (22, .aload_n 0, 1), (23, .iload_n 1, 1), (24, .invokevirtual 204, 3), (27, .istore_n 3, 1), (28, .bipush (-2), 2), (30, .istore 4, 2), (32, .iconst (-1), 1), (33, .istore 5, 2), (35, .iconst 0, 1), (36, .istore 6, 2), (38, .iload 6, 2), (40, .bipush 10, 2), (42, .if_icmp .ge 53, 3), (45, .iload_n 3, 1), (46, .iload 6, 2), (48, .invokestatic 194, 3), (51, .ifCond .eq 38, 3), (54, .aload_n 0, 1), (55, .getfield 10, 3), (58, .iload 6, 2), (60, .invokevirtual 191, 3), (63, .invokestatic 183, 3), (66, .iload 5, 2), (68, .if_icmp .le 21, 3), (71, .iload 6, 2), (73, .istore 4, 2), (75, .aload_n 0, 1), (76, .getfield 10, 3), (79, .iload 6, 2), (81, .invokevirtual 191, 3), (84, .invokestatic 183, 3), (87, .istore 5, 2), (89, .iinc 6 1, 3), (92, .goto (-54), 3), (95, .iload_n 2, 1), (96, .ifCond .eq 10, 3), (99, .iload 4, 2), (101, .bipush (-2), 2), (103, .if_icmp .ne 8, 3), (106, .iload 4, 2), (108, .goto 5, 3), (111, .iload 5, 2), (113, .ireturn, 1)]
theorem DX10_leave : x_dk cX10_leave IX10_leave = true := by decide +kernel
def IX10_byTurns : List (Nat × Instr × Nat) := [(0, .aload_n 0, 1), (1, .getfield 51, 3), (4, .iload_n 1, 1), (5, .invokevirtual 127, 3), (8, .ifCond .eq 12, 3), (11, .iload_n 2, 1), (12, .ifCond .lt 8, 3), (15, .iload_n 2, 1), (16, .iconst 2, 1), (17, .if_icmp .le 5, 3), (20, .iconst (-1), 1), (21, .ireturn, 1), (22, .aload_n 0, 1), (23, .iload_n 1, 1), (24, .invokevirtual 204, 3), (27, .istore_n 3, 1), (28, .aload_n 0, 1), (29, .getfield 35, 3), (32, .invokevirtual 239, 3), (35, .aload_n 0, 1), (36, .getfield 35, 3), (39, .iload_n 3, 1), (40, .invokevirtual 242, 3), (43, .istore 4, 2), (45, .iload_n 2, 1), (46, .ifCond .ne 16, 3), (49, .iload 4, 2), (51, .bipush (-2), 2), (53, .if_icmp .ne 7, 3), (56, .iconst 0, 1), (57, .goto 4, 3), (60, .iconst 1, 1), (61, .ireturn, 1), (62, .iload_n 2, 1), (63, .iconst 1, 1), (64, .if_icmp .ne 8, 3), (67, .iload 4, 2), (69, .goto 11, 3), (72, .aload_n 0, 1), (73, .getfield 35, 3), (76, .iload_n 3, 1), (77, .invokevirtual 245, 3), (80, .ireturn, 1)]
theorem DX10_byTurns : x_dk cX10_byTurns IX10_byTurns = true := by decide +kernel
def IX10_egg : List (Nat × Instr × Nat) := [(0, .iload_n 1, 1), (1, .invokestatic 83, 3), (4, .ifCond .eq 12, 3), (7, .iload_n 2, 1), (8, .ifCond .lt 8, 3), (11, .iload_n 2, 1), (12, .iconst 2, 1), (13, .if_icmp .le 5, 3), (16, .iconst (-1), 1), (17, .ireturn, 1), (18, .iload_n 2, 1), (19, .ifCond .ne 12, 3), (22, .aload_n 0, 1), (23, .getfield 10, 3), (26, .iload_n 1, 1), (27, .invokevirtual 248, 3), (30, .ireturn, 1), (31, .iload_n 2, 1), (32, .iconst 1, 1), (33, .if_icmp .ne 11, 3), (36, .aload_n 0, 1), (37, .iload_n 1, 1), (38, .invokevirtual 251, 3), (41, .goto 7, 3), (44, .iload_n 1, 1), (45, .invokestatic 183, 3), (48, .ireturn, 1)]
theorem DX10_egg : x_dk cX10_egg IX10_egg = true := by decide +kernel
def IX10_judge : List (Nat × Instr × Nat) := [(0, .aload_n 0, 1), (1, .iload_n 1, 1), (2, .iload_n 2, 1), (3, .invokevirtual 254, 3), (6, .istore_n 3, 1), (7, .iload_n 3, 1), (8, .ifCond .eq 5, 3), (11, .iload_n 3, 1), (12, .ireturn, 1), (13, .aload_n 0, 1), (14, .getfield 44, 3), (17, .aload_n 0, 1), (18, .getfield 72, 3), (21, .iload_n 1, 1), (22, .aload_n 0, 1), (23, .iload_n 2, 1), (24, .invokevirtual 204, 3), (27, .iconst (-1), 1), (28, .iconst (-1), 1), (29, .invokevirtual 257, 3), (32, .ireturn, 1)]
theorem DX10_judge : x_dk cX10_judge IX10_judge = true := by decide +kernel
def IX10_filled : List (Nat × Instr × Nat) := [(0, .iload_n 3, 1), (1, .ifCond .lt 8, 3), (4, .iload_n 3, 1), (5, .iconst 1, 1), (6, .if_icmp .le 7, 3), (9, .iconst (-1), 1), (10, .goto 9, 3), (13, .aload_n 0, 1), (14, .iload_n 1, 1), (15, .iload_n 2, 1), (16, .invokevirtual 254, 3), (19, .istore 4, 2), (21, .iload 4, 2), (23, .ifCond .eq 6, 3), (26, .iload 4, 2), (28, .ireturn, 1), (29, .aload_n 0, 1), (30, .iload_n 2, 1), (31, .invokevirtual 204, 3), (34, .istore 5, 2), (36, .iload_n 3, 1), (37, .ifCond .ne 20, 3), (40, .aload_n 0, 1), (41, .getfield 44, 3), (44, .aload_n 0, 1), (45, .getfield 72, 3), (48, .iload_n 1, 1), (49, .iload 5, 2), (51, .invokevirtual 261, 3), (54, .goto 17, 3), (57, .aload_n 0, 1), (58, .getfield 44, 3), (61, .aload_n 0, 1), (62, .getfield 72, 3), (65, .iload_n 1, 1), (66, .iload 5, 2), (68, .invokevirtual 265, 3), (71, .ireturn, 1)]
theorem DX10_filled : x_dk cX10_filled IX10_filled = true := by decide +kernel
def IX10_last : List (Nat × Instr × Nat) := [(0, .aload_n 0, 1), (1, .iload_n 1, 1), (2, .iload_n 2, 1), (3, .invokevirtual 254, 3), (6, .istore_n 3, 1), (7, .iload_n 3, 1), (8, .ifCond .eq 5, 3), (11, .iload_n 3, 1), (12, .ireturn, 1), (13, .aload_n 0, 1), (14, .getfield 44, 3), (17, .aload_n 0, 1), (18, .getfield 72, 3), (21, .iload_n 1, 1), (22, .aload_n 0, 1), (23, .iload_n 2, 1), (24, .invokevirtual 204, 3), (27, .invokevirtual 268, 3), (30, .ireturn, 1)]
theorem DX10_last : x_dk cX10_last IX10_last = true := by decide +kernel
def IX10_drawn : List (Nat × Instr × Nat) := [(0, .aload_n 0, 1), (1, .getfield 51, 3), (4, .iload_n 1, 1), (5, .invokevirtual 127, 3), (8, .ifCond .eq 32, 3), (11, .iload_n 3, 1), (12, .iconst 1, 1), (13, .if_icmp .lt 27, 3), (16, .iload_n 3, 1), (17, .bipush 50, 2), (19, .if_icmp .gt 21, 3), (22, .iload 4, 2), (24, .iconst (-1), 1), (25, .if_icmp .eq 17, 3), (28, .aload_n 0, 1), (29, .getfield 10, 3), (32, .iload 4, 2), (34, .invokevirtual 104, 3), (37, .ifCond .ne 5, 3), (40, .iconst (-1), 1), (41, .ireturn, 1), (42, .aload_n 0, 1), (43, .getfield 35, 3), (46, .aload_n 0, 1), (47, .iload_n 1, 1), (48, .invokevirtual 204, 3), (51, .iload_n 2, 1), (52, .iload_n 3, 1), (53, .iload 4, 2), (55, .invokevirtual 271, 3), (58, .ireturn, 1)]
theorem DX10_drawn : x_dk cX10_drawn IX10_drawn = true := by decide +kernel
def IX10_cut : List (Nat × Instr × Nat) := [(0, .aload_n 0, 1), (1, .iload_n 1, 1), (2, .invokevirtual 168, 3), (5, .ifCond .ne 5, 3), (8, .iconst (-1), 1), (9, .ireturn, 1), (10, .iload_n 1, 1), (11, .bipush 10, 2), (13, .idiv, 1), (14, .istore_n 2, 1), (15, .iload_n 1, 1), (16, .bipush 10, 2), (18, .irem, 1), (19, .istore_n 3, 1), (20, .aload_n 0, 1), (21, .getfield 10, 3), (24, .iload_n 3, 1), (25, .invokevirtual 119, 3), (28, .astore 4, 2), (30, .aload_n 0, 1), (31, .getfield 51, 3), (34, .iload_n 2, 1), (35, .invokevirtual 128, 3), (38, .istore 5, 2), (40, .aload 4, 2), (42, .iload 5, 2), (44, .invokevirtual 180, 3), (47, .ifCond .ne 6, 3), (50, .bipush (-5), 2), (52, .ireturn, 1), (53, .aload_n 0, 1), (54, .getfield 26, 3), (57, .aload_n 0, 1), (58, .getfield 10, 3), (61, .iload_n 3, 1), (62, .aload_n 0, 1), (63, .getfield 51, 3), (66, .iconst 3, 1), (67, .invokevirtual 134, 3), (70, .aload_n 0, 1), (71, .getfield 51, 3), (74, .iload_n 2, 1), (75, .invokevirtual 131, 3), (78, .invokevirtual 152, 3), (81, .istore 6, 2), (83, .aload_n 0, 1), (84, .getfield 51, 3), (87, .iload_n 2, 1), (88, .aload 4, 2), (90, .aload 4, 2), (92, .iload 5, 2), (94, .invokevirtual 174, 3), (97, .invokevirtual 275, 3), (100, .iload 6, 2), (102, .invokevirtual 278, 3), (105, .iload 6, 2), (107, .ireturn, 1)]
theorem DX10_cut : x_dk cX10_cut IX10_cut = true := by decide +kernel
def IX10_pass : List (Nat × Instr × Nat) := [(0, .iload_n 1, 1), (1, .iconst 1, 1), (2, .if_icmp .lt 9, 3), (5, .iload_n 1, 1), (6, .bipush 99, 2), (8, .if_icmp .le 5, 3), (11, .iconst (-1), 1), (12, .ireturn, 1), (13, .aload_n 0, 1), (14, .getfield 51, 3), (17, .iload_n 1, 1), (18, .invokevirtual 280, 3), (21, .ireturn, 1)]
theorem DX10_pass : x_dk cX10_pass IX10_pass = true := by decide +kernel
def IX10_led : List (Nat × Instr × Nat) := [(0, .iload_n 1, 1), (1, .ifCond .lt 19, 3), (4, .iload_n 1, 1), (5, .iconst 4, 1), (6, .if_icmp .ge 14, 3), (9, .aload_n 0, 1), (10, .getfield 51, 3), (13, .iload_n 1, 1), (14, .invokevirtual 134, 3), (17, .goto 4, 3), (20, .iconst (-1), 1), (21, .ireturn, 1)]
theorem DX10_led : x_dk cX10_led IX10_led = true := by decide +kernel
def IX10_image : List (Nat × Instr × Nat) := [(0, .aload_n 0, 1), (1, .getfield 51, 3), (4, .invokevirtual 283, 3), (7, .aload_n 0, 1), (8, .getfield 51, 3), (11, .iconst 0, 1), (12, .invokevirtual 134, 3), (15, .ireturn, 1)]
theorem DX10_image : x_dk cX10_image IX10_image = true := by decide +kernel
def IX10_back : List (Nat × Instr × Nat) := [(0, .aload_n 0, 1), (1, .getfield 51, 3), (4, .invokevirtual 286, 3), (7, .ifCond .eq 14, 3), (10, .aload_n 0, 1), (11, .getfield 51, 3), (14, .iconst 0, 1), (15, .invokevirtual 134, 3), (18, .goto 5, 3), (21, .bipush (-5), 2), (23, .ireturn, 1)]
theorem DX10_back : x_dk cX10_back IX10_back = true := by decide +kernel
def IX10_undo : List (Nat × Instr × Nat) := [(0, .aload_n 0, 1), (1, .getfield 58, 3), (4, .aload_n 0, 1), (5, .getfield 10, 3), (8, .invokevirtual 290, 3), (11, .ireturn, 1)]
theorem DX10_undo : x_dk cX10_undo IX10_undo = true := by decide +kernel
def IX10_redo : List (Nat × Instr × Nat) := [(0, .aload_n 0, 1), (1, .getfield 58, 3), (4, .aload_n 0, 1), (5, .getfield 10, 3), (8, .invokevirtual 294, 3), (11, .ireturn, 1)]
theorem DX10_redo : x_dk cX10_redo IX10_redo = true := by decide +kernel
def IX10_body : List (Nat × Instr × Nat) := [(0, .iload_n 1, 1), (1, .ifCond .lt 20, 3), (4, .iload_n 1, 1), (5, .bipush 8, 2), (7, .if_icmp .ge 14, 3), (10, .aload_n 0, 1), (11, .getfield 65, 3), (14, .iload_n 1, 1), (15, .invokevirtual 297, 3), (18, .goto 4, 3), (21, .iconst (-1), 1), (22, .ireturn, 1)]
theorem DX10_body : x_dk cX10_body IX10_body = true := by decide +kernel
def IX10_act : List (Nat × Instr × Nat) := [(0, .aload_n 0, 1), (1, .getfield 65, 3), (4, .iload_n 1, 1), (5, .iload_n 2, 1), (6, .iload_n 3, 1), (7, .invokevirtual 298, 3), (10, .ireturn, 1)]
theorem DX10_act : x_dk cX10_act IX10_act = true := by decide +kernel
def IX10_trace : List (Nat × Instr × Nat) := [(0, .aload_n 0, 1), (1, .getfield 65, 3), (4, .iload_n 1, 1), (5, .invokevirtual 301, 3), (8, .ireturn, 1)]
theorem DX10_trace : x_dk cX10_trace IX10_trace = true := by decide +kernel
def IX10_keep : List (Nat × Instr × Nat) := [(0, .aload_n 0, 1), (1, .getfield 72, 3), (4, .iload_n 1, 1), (5, .invokevirtual 91, 3), (8, .ifCond .eq 19, 3), (11, .iload_n 2, 1), (12, .iconst (-1), 1), (13, .if_icmp .eq 16, 3), (16, .aload_n 0, 1), (17, .getfield 65, 3), (20, .iload_n 2, 1), (21, .invokevirtual 304, 3), (24, .ifCond .ne 5, 3), (27, .iconst (-1), 1), (28, .ireturn, 1), (29, .aload_n 0, 1), (30, .getfield 72, 3), (33, .iload_n 1, 1), (34, .iload_n 2, 1), (35, .iconst (-1), 1), (36, .if_icmp .ne 7, 3), (39, .iconst (-1), 1), (40, .goto 4, 3), (43, .iconst 5, 1), (44, .iload_n 2, 1), (45, .invokevirtual 305, 3), (48, .iconst 1, 1), (49, .ireturn, 1)]
theorem DX10_keep : x_dk cX10_keep IX10_keep = true := by decide +kernel
def IX10_row : List (Nat × Instr × Nat) := [(0, .aload_n 0, 1), (1, .getfield 72, 3), (4, .iload_n 1, 1), (5, .invokevirtual 91, 3), (8, .ifCond .eq 18, 3), (11, .iload_n 2, 1), (12, .ifCond .lt 14, 3), (15, .iload_n 2, 1), (16, .iconst 5, 1), (17, .if_icmp .ge 9, 3), (20, .iload_n 3, 1), (21, .bipush 60, 2), (23, .if_icmp .le 5, 3), (26, .iconst (-1), 1), (27, .ireturn, 1), (28, .iload_n 3, 1), (29, .ifCond .ge 6, 3), (32, .bipush (-14), 2), (34, .ireturn, 1), (35, .aload_n 0, 1), (36, .getfield 72, 3), (39, .iload_n 1, 1), (40, .iload_n 2, 1), (41, .iload_n 3, 1), (42, .invokevirtual 305, 3), (45, .aload_n 0, 1), (46, .getfield 72, 3), (49, .iload_n 1, 1), (50, .invokevirtual 308, 3), (53, .iconst 1, 1), (54, .ireturn, 1)]
theorem DX10_row : x_dk cX10_row IX10_row = true := by decide +kernel
def IX10_put : List (Nat × Instr × Nat) := [(0, .aload_n 0, 1), (1, .iload_n 1, 1), (2, .iload_n 2, 1), (3, .invokevirtual 311, 3), (6, .istore 5, 2), (8, .iload 5, 2), (10, .ifCond .eq 6, 3), (13, .iload 5, 2), (15, .ireturn, 1), (16, .aload_n 0, 1), (17, .getfield 72, 3), (20, .iload_n 1, 1), (21, .iload_n 2, 1), (22, .lload_n 3, 1), (23, .invokevirtual 314, 3), (26, .iconst 1, 1), (27, .ireturn, 1)]
theorem DX10_put : x_dk cX10_put IX10_put = true := by decide +kernel
def IX10_element : List (Nat × Instr × Nat) := [(0, .aload_n 0, 1), (1, .iload_n 1, 1), (2, .iload_n 2, 1), (3, .invokevirtual 311, 3), (6, .ifCond .ne 15, 3), (9, .aload_n 0, 1), (10, .getfield 72, 3), (13, .iload_n 1, 1), (14, .iload_n 2, 1), (15, .invokevirtual 318, 3), (18, .goto 6, 3), (21, .ldc2_w 324, 3), (24, .lreturn, 1)]
theorem DX10_element : x_dk cX10_element IX10_element = true := by decide +kernel
def IX10_shift : List (Nat × Instr × Nat) := [(0, .aload_n 0, 1), (1, .getfield 72, 3), (4, .iload_n 1, 1), (5, .invokevirtual 91, 3), (8, .ifCond .eq 14, 3), (11, .aload_n 0, 1), (12, .getfield 72, 3), (15, .iload_n 3, 1), (16, .invokevirtual 91, 3), (19, .ifCond .ne 5, 3), (22, .iconst (-1), 1), (23, .ireturn, 1), (24, .aload_n 0, 1), (25, .getfield 72, 3), (28, .iload_n 1, 1), (29, .invokevirtual 94, 3), (32, .iconst (-1), 1), (33, .if_icmp .eq 15, 3), (36, .aload_n 0, 1), (37, .getfield 72, 3), (40, .iload_n 3, 1), (41, .invokevirtual 94, 3), (44, .iconst (-1), 1), (45, .if_icmp .ne 6, 3), (48, .bipush (-11), 2), (50, .ireturn, 1), (51, .aload_n 0, 1), (52, .getfield 72, 3), (55, .iload_n 1, 1), (56, .invokevirtual 326, 3), (59, .ifCond .eq 22, 3), (62, .aload_n 0, 1), (63, .getfield 72, 3), (66, .iload_n 1, 1), (67, .invokevirtual 94, 3), (70, .aload_n 0, 1), (71, .getfield 72, 3), (74, .iload_n 3, 1), (75, .invokevirtual 94, 3), (78, .if_icmp .eq 6, 3), (81, .bipush (-12), 2), (83, .ireturn, 1), (84, .aload_n 0, 1), (85, .getfield 72, 3), (88, .iload_n 1, 1), (89, .iload_n 2, 1), (90, .iload 5, 2), (92, .invokevirtual 329, 3), (95, .ifCond .eq 18, 3), (98, .aload_n 0, 1), (99, .getfield 72, 3), (102, .iload_n 3, 1), (103, .iload 4, 2), (105, .iload 5, 2), (107, .invokevirtual 329, 3), (110, .ifCond .ne 6, 3), (113, .bipush (-13), 2), (115, .ireturn, 1), (116, .aload_n 0, 1), (117, .getfield 72, 3)]
theorem DX10_shift : x_dk cX10_shift IX10_shift = true := by decide +kernel
def IX10_shift_1 : List (Nat × Instr × Nat) := [(120, .iload_n 1, 1), (121, .iload_n 2, 1), (122, .iload_n 3, 1), (123, .iload 4, 2), (125, .iload 5, 2), (127, .invokevirtual 333, 3), (130, .iload 5, 2), (132, .ireturn, 1)]
theorem DX10_shift_1 : x_dk cX10_shift IX10_shift_1 = true := by decide +kernel
def IX10_taken : List (Nat × Instr × Nat) := [(0, .aload_n 0, 1), (1, .getfield 72, 3), (4, .iload_n 1, 1), (5, .invokevirtual 91, 3), (8, .ifCond .eq 13, 3), (11, .iload_n 2, 1), (12, .ifCond .lt 9, 3), (15, .iload_n 2, 1), (16, .bipush 8, 2), (18, .if_icmp .lt 5, 3), (21, .iconst (-1), 1), (22, .ireturn, 1), (23, .aload_n 0, 1), (24, .getfield 72, 3), (27, .iload_n 1, 1), (28, .invokevirtual 94, 3), (31, .iconst (-1), 1), (32, .if_icmp .ne 6, 3), (35, .bipush (-11), 2), (37, .ireturn, 1), (38, .aload_n 0, 1), (39, .getfield 72, 3), (42, .iload_n 1, 1), (43, .invokevirtual 94, 3), (46, .iconst 5, 1), (47, .if_icmp .eq 6, 3), (50, .bipush (-12), 2), (52, .ireturn, 1), (53, .aload_n 0, 1), (54, .getfield 65, 3), (57, .aload_n 0, 1), (58, .getfield 72, 3), (61, .iload_n 1, 1), (62, .invokevirtual 337, 3), (65, .invokevirtual 340, 3), (68, .istore_n 3, 1), (69, .iload_n 3, 1), (70, .iload_n 2, 1), (71, .invokestatic 343, 3), (74, .ifCond .eq 7, 3), (77, .iload_n 3, 1), (78, .goto 5, 3), (81, .bipush (-12), 2), (83, .ireturn, 1)]
theorem DX10_taken : x_dk cX10_taken IX10_taken = true := by decide +kernel
def IX10_count : List (Nat × Instr × Nat) := [(0, .iload_n 1, 1), (1, .tableswitch 87 0 5 #[39, 47, 55, 63, 71, 79], 39), (40, .aload_n 0, 1), (41, .getfield 10, 3), (44, .invokevirtual 229, 3), (47, .ireturn, 1), (48, .aload_n 0, 1), (49, .getfield 51, 3), (52, .invokevirtual 346, 3), (55, .ireturn, 1), (56, .aload_n 0, 1), (57, .getfield 19, 3), (60, .invokevirtual 349, 3), (63, .ireturn, 1), (64, .aload_n 0, 1), (65, .getfield 58, 3), (68, .invokevirtual 352, 3), (71, .ireturn, 1), (72, .aload_n 0, 1), (73, .getfield 65, 3), (76, .invokevirtual 355, 3), (79, .ireturn, 1), (80, .aload_n 0, 1), (81, .getfield 65, 3), (84, .invokevirtual 358, 3), (87, .ireturn, 1), (88, .iconst (-1), 1), (89, .ireturn, 1)]
theorem DX10_count : x_dk cX10_count IX10_count = true := by decide +kernel
def IX10_isShape : List (Nat × Instr × Nat) := [(0, .iload_n 0, 1), (1, .ifCond .le 14, 3), (4, .iload_n 0, 1), (5, .ldc_w 361, 3), (8, .if_icmp .gt 7, 3), (11, .iconst 1, 1), (12, .goto 4, 3), (15, .iconst 0, 1), (16, .ireturn, 1)]
theorem DX10_isShape : x_dk cX10_isShape IX10_isShape = true := by decide +kernel
def IX10_isYear : List (Nat × Instr × Nat) := [(0, .iload_n 0, 1), (1, .ifCond .lt 13, 3), (4, .iload_n 0, 1), (5, .bipush 99, 2), (7, .if_icmp .gt 7, 3), (10, .iconst 1, 1), (11, .goto 4, 3), (14, .iconst 0, 1), (15, .ireturn, 1)]
theorem DX10_isYear : x_dk cX10_isYear IX10_isYear = true := by decide +kernel
def IX10_holds : List (Nat × Instr × Nat) := [(0, .iload_n 0, 1), (1, .iload_n 1, 1), (2, .ishr, 1), (3, .iconst 1, 1), (4, .iand, 1), (5, .iconst 1, 1), (6, .if_icmp .ne 7, 3), (9, .iconst 1, 1), (10, .goto 4, 3), (13, .iconst 0, 1), (14, .ireturn, 1)]
theorem DX10_holds : x_dk cX10_holds IX10_holds = true := by decide +kernel
def IX10_isBlockAndFigure : List (Nat × Instr × Nat) := [(0, .iload_n 1, 1), (1, .ifCond .lt 35, 3), (4, .aload_n 0, 1), (5, .getfield 51, 3), (8, .iload_n 1, 1), (9, .bipush 10, 2), (11, .idiv, 1), (12, .invokevirtual 127, 3), (15, .ifCond .eq 21, 3), (18, .aload_n 0, 1), (19, .getfield 10, 3), (22, .iload_n 1, 1), (23, .bipush 10, 2), (25, .irem, 1), (26, .invokevirtual 104, 3), (29, .ifCond .eq 7, 3), (32, .iconst 1, 1), (33, .goto 4, 3), (36, .iconst 0, 1), (37, .ireturn, 1)]
theorem DX10_isBlockAndFigure : x_dk cX10_isBlockAndFigure IX10_isBlockAndFigure = true := by decide +kernel
def IX10_isTwoFigures : List (Nat × Instr × Nat) := [(0, .iload_n 1, 1), (1, .ifCond .lt 46, 3), (4, .aload_n 0, 1), (5, .getfield 10, 3), (8, .iload_n 1, 1), (9, .bipush 10, 2), (11, .idiv, 1), (12, .invokevirtual 104, 3), (15, .ifCond .eq 32, 3), (18, .aload_n 0, 1), (19, .getfield 10, 3), (22, .iload_n 1, 1), (23, .bipush 10, 2), (25, .irem, 1), (26, .invokevirtual 104, 3), (29, .ifCond .eq 18, 3), (32, .iload_n 1, 1), (33, .bipush 10, 2), (35, .idiv, 1), (36, .iload_n 1, 1), (37, .bipush 10, 2), (39, .irem, 1), (40, .if_icmp .eq 7, 3), (43, .iconst 1, 1), (44, .goto 4, 3), (47, .iconst 0, 1), (48, .ireturn, 1)]
theorem DX10_isTwoFigures : x_dk cX10_isTwoFigures IX10_isTwoFigures = true := by decide +kernel
def IX10_firstOutOf : List (Nat × Instr × Nat) := [(0, .aload_n 0, 1), (1, .getfield 10, 3), (4, .aload_n 0, 1), (5, .getfield 51, 3), (8, .iload_n 1, 1), (9, .invokevirtual 128, 3), (12, .invokevirtual 248, 3), (15, .ireturn, 1)]
theorem DX10_firstOutOf : x_dk cX10_firstOutOf IX10_firstOutOf = true := by decide +kernel
def IX10_partOf : List (Nat × Instr × Nat) := [(0, .aload_n 0, 1), (1, .getfield 79, 3), (4, .iload_n 1, 1), (5, .invokevirtual 362, 3), (8, .iconst 0, 1), (9, .istore_n 2, 1), (10, .iconst 0, 1), (11, .istore_n 3, 1), (12, .iload_n 3, 1), (13, .aload_n 0, 1), (14, .getfield 10, 3), (17, .invokevirtual 229, 3), (20, .if_icmp .ge 38, 3), (23, .aload_n 0, 1), (24, .getfield 79, 3), (27, .aload_n 0, 1), (28, .getfield 10, 3), (31, .iload_n 3, 1), (32, .invokevirtual 119, 3), (35, .getfield 123, 3), (38, .invokevirtual 174, 3), (41, .bipush (-2), 2), (43, .if_icmp .eq 9, 3), (46, .iload_n 2, 1), (47, .iconst 1, 1), (48, .iload_n 3, 1), (49, .ishl, 1), (50, .ior, 1), (51, .istore_n 2, 1), (52, .iinc 3 1, 3), (55, .goto (-43), 3), (58, .iload_n 2, 1), (59, .ireturn, 1)]
theorem DX10_partOf : x_dk cX10_partOf IX10_partOf = true := by decide +kernel
def IX10_figuresCome : List (Nat × Instr × Nat) := [(0, .iconst 0, 1), (1, .istore 4, 2), (3, .iconst 0, 1), (4, .istore 5, 2), (6, .iload 5, 2), (8, .iload_n 3, 1), (9, .if_icmp .ge 111, 3), (12, .aload_n 0, 1), (13, .getfield 72, 3), (16, .iload_n 1, 1), (17, .iload_n 2, 1), (18, .iconst 2, 1), (19, .iload 5, 2), (21, .imul, 1), (22, .iconst 2, 1), (23, .iadd, 1), (24, .invokevirtual 329, 3), (27, .ifCond .ne 6, 3), (30, .goto 90, 3), (33, .aload_n 0, 1), (34, .getfield 72, 3), (37, .iload_n 1, 1), (38, .iload_n 2, 1), (39, .iconst 2, 1), (40, .iload 5, 2), (42, .imul, 1), (43, .iadd, 1), (44, .invokevirtual 318, 3), (47, .l2i, 1), (48, .istore 6, 2), (50, .aload_n 0, 1), (51, .getfield 72, 3), (54, .iload_n 1, 1), (55, .iload_n 2, 1), (56, .iconst 2, 1), (57, .iload 5, 2), (59, .imul, 1), (60, .iadd, 1), (61, .iconst 1, 1), (62, .iadd, 1), (63, .invokevirtual 318, 3), (66, .l2i, 1), (67, .istore 7, 2), (69, .iload 6, 2), (71, .invokestatic 83, 3), (74, .ifCond .eq 46, 3), (77, .iload 7, 2), (79, .ifCond .lt 41, 3), (82, .iload 7, 2), (84, .getstatic 105, 3), (87, .iconst 0, 1), (88, .iaload, 1), (89, .if_icmp .gt 31, 3), (92, .aload_n 0, 1), (93, .getfield 10, 3), (96, .iload 6, 2), (98, .iload 7, 2), (100, .invokevirtual 87, 3), (103, .bipush (-3), 2), (105, .if_icmp .ne 6, 3)]
theorem DX10_figuresCome : x_dk cX10_figuresCome IX10_figuresCome = true := by decide +kernel
def IX10_figuresCome_1 : List (Nat × Instr × Nat) := [(108, .goto 12, 3), (111, .iinc 4 1, 3), (114, .iinc 5 1, 3), (117, .goto (-111), 3), (120, .iload 4, 2), (122, .ireturn, 1)]
theorem DX10_figuresCome_1 : x_dk cX10_figuresCome IX10_figuresCome_1 = true := by decide +kernel
def IX10_refusalOfTold : List (Nat × Instr × Nat) := [(0, .aload_n 0, 1), (1, .getfield 72, 3), (4, .iload_n 1, 1), (5, .invokevirtual 91, 3), (8, .ifCond .eq 14, 3), (11, .aload_n 0, 1), (12, .getfield 51, 3), (15, .iload_n 2, 1), (16, .invokevirtual 127, 3), (19, .ifCond .ne 5, 3), (22, .iconst (-1), 1), (23, .ireturn, 1), (24, .aload_n 0, 1), (25, .getfield 72, 3), (28, .iload_n 1, 1), (29, .invokevirtual 94, 3), (32, .iconst (-1), 1), (33, .if_icmp .ne 6, 3), (36, .bipush (-11), 2), (38, .ireturn, 1), (39, .aload_n 0, 1), (40, .getfield 72, 3), (43, .iload_n 1, 1), (44, .invokevirtual 94, 3), (47, .ifCond .ne 7, 3), (50, .iconst 0, 1), (51, .goto 5, 3), (54, .bipush (-12), 2), (56, .ireturn, 1)]
theorem DX10_refusalOfTold : x_dk cX10_refusalOfTold IX10_refusalOfTold = true := by decide +kernel
def IX10_refusalOfElement : List (Nat × Instr × Nat) := [(0, .aload_n 0, 1), (1, .getfield 72, 3), (4, .iload_n 1, 1), (5, .invokevirtual 91, 3), (8, .ifCond .ne 5, 3), (11, .iconst (-1), 1), (12, .ireturn, 1), (13, .aload_n 0, 1), (14, .getfield 72, 3), (17, .iload_n 1, 1), (18, .invokevirtual 94, 3), (21, .iconst (-1), 1), (22, .if_icmp .ne 6, 3), (25, .bipush (-11), 2), (27, .ireturn, 1), (28, .aload_n 0, 1), (29, .getfield 72, 3), (32, .iload_n 1, 1), (33, .invokevirtual 326, 3), (36, .ifCond .ne 6, 3), (39, .bipush (-12), 2), (41, .ireturn, 1), (42, .aload_n 0, 1), (43, .getfield 72, 3), (46, .iload_n 1, 1), (47, .iload_n 2, 1), (48, .iconst 1, 1), (49, .invokevirtual 329, 3), (52, .ifCond .eq 7, 3), (55, .iconst 0, 1), (56, .goto 5, 3), (59, .bipush (-13), 2), (61, .ireturn, 1)]
theorem DX10_refusalOfElement : x_dk cX10_refusalOfElement IX10_refusalOfElement = true := by decide +kernel
def IJ6_bitCount_0f7a4 : List (Nat × Instr × Nat) := [(0, .iload_n 0, 1), (1, .iload_n 0, 1), (2, .iconst 1, 1), (3, .iushr, 1), (4, .ldc_w 265, 3), (7, .iand, 1), (8, .isub, 1), (9, .istore_n 0, 1), (10, .iload_n 0, 1), (11, .ldc_w 266, 3), (14, .iand, 1), (15, .iload_n 0, 1), (16, .iconst 2, 1), (17, .iushr, 1), (18, .ldc_w 266, 3), (21, .iand, 1), (22, .iadd, 1), (23, .istore_n 0, 1), (24, .iload_n 0, 1), (25, .iload_n 0, 1), (26, .iconst 4, 1), (27, .iushr, 1), (28, .iadd, 1), (29, .ldc_w 267, 3), (32, .iand, 1), (33, .istore_n 0, 1), (34, .iload_n 0, 1), (35, .iload_n 0, 1), (36, .bipush 8, 2), (38, .iushr, 1), (39, .iadd, 1), (40, .istore_n 0, 1), (41, .iload_n 0, 1), (42, .iload_n 0, 1), (43, .bipush 16, 2), (45, .iushr, 1), (46, .iadd, 1), (47, .istore_n 0, 1), (48, .iload_n 0, 1), (49, .bipush 63, 2), (51, .iand, 1), (52, .ireturn, 1)]
theorem DJ6_bitCount_0f7a4 : x_dk cJ6_bitCount_0f7a4 IJ6_bitCount_0f7a4 = true := by decide +kernel
def IJ9_abs_0f7a4 : List (Nat × Instr × Nat) := [(0, .iload_n 0, 1), (1, .ifCond .ge 8, 3), (4, .iload_n 0, 1), (5, .ineg, 1), (6, .goto 4, 3), (9, .iload_n 0, 1), (10, .ireturn, 1)]
theorem DJ9_abs_0f7a4 : x_dk cJ9_abs_0f7a4 IJ9_abs_0f7a4 = true := by decide +kernel
def IJ9_max_7cf53 : List (Nat × Instr × Nat) := [(0, .iload_n 0, 1), (1, .iload_n 1, 1), (2, .if_icmp .lt 7, 3), (5, .iload_n 0, 1), (6, .goto 4, 3), (9, .iload_n 1, 1), (10, .ireturn, 1)]
theorem DJ9_max_7cf53 : x_dk cJ9_max_7cf53 IJ9_max_7cf53 = true := by decide +kernel
def IJ9_min_7cf53 : List (Nat × Instr × Nat) := [(0, .iload_n 0, 1), (1, .iload_n 1, 1), (2, .if_icmp .gt 7, 3), (5, .iload_n 0, 1), (6, .goto 4, 3), (9, .iload_n 1, 1), (10, .ireturn, 1)]
theorem DJ9_min_7cf53 : x_dk cJ9_min_7cf53 IJ9_min_7cf53 = true := by decide +kernel
def IJ0_length_8abf5 : List (Nat × Instr × Nat) := [(0, .aload_n 0, 1), (1, .getfield 9, 3), (4, .arraylength, 1), (5, .aload_n 0, 1), (6, .invokevirtual 335, 3), (9, .ishr, 1), (10, .ireturn, 1)]
theorem DJ0_length_8abf5 : x_dk cJ0_length_8abf5 IJ0_length_8abf5 = true := by decide +kernel
def IJ0_indexOf_0f7a4 : List (Nat × Instr × Nat) := [(0, .aload_n 0, 1), (1, .iload_n 1, 1), (2, .iconst 0, 1), (3, .invokevirtual 633, 3), (6, .ireturn, 1)]
theorem DJ0_indexOf_0f7a4 : x_dk cJ0_indexOf_0f7a4 IJ0_indexOf_0f7a4 = true := by decide +kernel
def IJ0_indexOf_7cf53 : List (Nat × Instr × Nat) := [(0, .aload_n 0, 1), (1, .invokevirtual 492, 3), (4, .ifCond .eq 19, 3), (7, .aload_n 0, 1), (8, .getfield 9, 3), (11, .iload_n 1, 1), (12, .iload_n 2, 1), (13, .aload_n 0, 1), (14, .invokevirtual 505, 3), (17, .invokestatic 637, 3), (20, .goto 16, 3), (23, .aload_n 0, 1), (24, .getfield 9, 3), (27, .iload_n 1, 1), (28, .iload_n 2, 1), (29, .aload_n 0, 1), (30, .invokevirtual 505, 3), (33, .invokestatic 640, 3), (36, .ireturn, 1)]
theorem DJ0_indexOf_7cf53 : x_dk cJ0_indexOf_7cf53 IJ0_indexOf_7cf53 = true := by decide +kernel
def IJ0_coder_7d493 : List (Nat × Instr × Nat) := [(0, .getstatic 38, 3), (3, .ifCond .eq 10, 3), (6, .aload_n 0, 1), (7, .getfield 15, 3), (10, .goto 4, 3), (13, .iconst 1, 1), (14, .ireturn, 1)]
theorem DJ0_coder_7d493 : x_dk cJ0_coder_7d493 IJ0_coder_7d493 = true := by decide +kernel
def IJ0_isLatin1_aae02 : List (Nat × Instr × Nat) := [(0, .getstatic 38, 3), (3, .ifCond .eq 14, 3), (6, .aload_n 0, 1), (7, .getfield 15, 3), (10, .ifCond .ne 7, 3), (13, .iconst 1, 1), (14, .goto 4, 3), (17, .iconst 0, 1), (18, .ireturn, 1)]
theorem DJ0_isLatin1_aae02 : x_dk cJ0_isLatin1_aae02 IJ0_isLatin1_aae02 = true := by decide +kernel
def IJ0_checkBoundsBeginEnd_23922 : List (Nat × Instr × Nat) := [(0, .iload_n 0, 1), (1, .iload_n 1, 1), (2, .iload_n 2, 1), (3, .getstatic 1053, 3), (6, .invokestatic 1062, 3), (9, .pop, 1), (10, .return_, 1)]
theorem DJ0_checkBoundsBeginEnd_23922 : x_dk cJ0_checkBoundsBeginEnd_23922 IJ0_checkBoundsBeginEnd_23922 = true := by decide +kernel
def IJ1_canEncode_9a6ad : List (Nat × Instr × Nat) := [(0, .iload_n 0, 1), (1, .ifCond .lt 14, 3), (4, .iload_n 0, 1), (5, .sipush 255, 3), (8, .if_icmp .gt 7, 3), (11, .iconst 1, 1), (12, .goto 4, 3), (15, .iconst 0, 1), (16, .ireturn, 1)]
theorem DJ1_canEncode_9a6ad : x_dk cJ1_canEncode_9a6ad IJ1_canEncode_9a6ad = true := by decide +kernel
def IJ1_indexOf_4cfef : List (Nat × Instr × Nat) := [(0, .iload_n 1, 1), (1, .invokestatic 88, 3), (4, .ifCond .ne 5, 3), (7, .iconst (-1), 1), (8, .ireturn, 1), (9, .iload_n 2, 1), (10, .iconst 0, 1), (11, .invokestatic 92, 3), (14, .istore_n 2, 1), (15, .iload_n 3, 1), (16, .aload_n 0, 1), (17, .arraylength, 1), (18, .invokestatic 38, 3), (21, .istore_n 3, 1), (22, .iload_n 2, 1), (23, .iload_n 3, 1), (24, .if_icmp .lt 5, 3), (27, .iconst (-1), 1), (28, .ireturn, 1), (29, .aload_n 0, 1), (30, .iload_n 1, 1), (31, .iload_n 2, 1), (32, .iload_n 3, 1), (33, .invokestatic 95, 3), (36, .ireturn, 1)]
theorem DJ1_indexOf_4cfef : x_dk cJ1_indexOf_4cfef IJ1_indexOf_4cfef = true := by decide +kernel
def IJ1_indexOfChar_4cfef : List (Nat × Instr × Nat) := [(0, .iload_n 1, 1), (1, .i2b, 1), (2, .istore 4, 2), (4, .iload_n 2, 1), (5, .istore 5, 2), (7, .iload 5, 2), (9, .iload_n 3, 1), (10, .if_icmp .ge 21, 3), (13, .aload_n 0, 1), (14, .iload 5, 2), (16, .baload, 1), (17, .iload 4, 2), (19, .if_icmp .ne 6, 3), (22, .iload 5, 2), (24, .ireturn, 1), (25, .iinc 5 1, 3), (28, .goto (-21), 3), (31, .iconst (-1), 1), (32, .ireturn, 1)]
theorem DJ1_indexOfChar_4cfef : x_dk cJ1_indexOfChar_4cfef IJ1_indexOfChar_4cfef = true := by decide +kernel
end
section
def IX11_init : List (Nat × Instr × Nat) := [(0, .aload_n 0, 1), (1, .invokespecial 3, 3), (4, .aload_n 0, 1), (5, .bipush 10, 2), (7, .newarray .int, 2), (9, .putfield 9, 3), (12, .aload_n 0, 1), (13, .bipush 10, 2), (15, .newarray .int, 2), (17, .putfield 15, 3), (20, .aload_n 0, 1), (21, .bipush 10, 2), (23, .newarray .int, 2), (25, .putfield 18, 3), (28, .aload_n 0, 1), (29, .bipush 10, 2), (31, .newarray .int, 2), (33, .putfield 21, 3), (36, .aload_n 0, 1), (37, .bipush 6, 2), (39, .newarray .int, 2), (41, .putfield 24, 3), (44, .aload_n 0, 1), (45, .bipush 6, 2), (47, .newarray .int, 2), (49, .putfield 27, 3), (52, .aload_n 0, 1), (53, .bipush 120, 2), (55, .newarray .int, 2), (57, .putfield 30, 3), (60, .aload_n 0, 1), (61, .bipush 60, 2), (63, .newarray .int, 2), (65, .putfield 33, 3), (68, .aload_n 0, 1), (69, .bipush 60, 2), (71, .newarray .int, 2), (73, .putfield 36, 3), (76, .aload_n 0, 1), (77, .bipush 60, 2), (79, .newarray .int, 2), (81, .putfield 39, 3), (84, .aload_n 0, 1), (85, .sipush 200, 3), (88, .newarray .int, 2), (90, .putfield 42, 3), (93, .aload_n 0, 1), (94, .bipush 61, 2), (96, .newarray .int, 2), (98, .putfield 45, 3), (101, .aload_n 0, 1), (102, .bipush 61, 2), (104, .newarray .int, 2), (106, .putfield 48, 3), (109, .aload_n 0, 1), (110, .bipush 61, 2), (112, .newarray .int, 2), (114, .putfield 51, 3), (117, .aload_n 0, 1), (118, .sipush 200, 3)]
theorem DX11_init : x_dk cX11_init IX11_init = true := by decide +kernel
def IX11_init_1 : List (Nat × Instr × Nat) := [(121, .newarray .int, 2), (123, .putfield 54, 3), (126, .aload_n 0, 1), (127, .sipush 200, 3), (130, .newarray .int, 2), (132, .putfield 57, 3), (135, .aload_n 0, 1), (136, .bipush 6, 2), (138, .newarray .int, 2), (140, .putfield 60, 3), (143, .aload_n 0, 1), (144, .iconst 3, 1), (145, .newarray .int, 2), (147, .putfield 63, 3), (150, .aload_n 0, 1), (151, .bipush 6, 2), (153, .newarray .int, 2), (155, .putfield 66, 3), (158, .aload_n 0, 1), (159, .bipush 6, 2), (161, .newarray .int, 2), (163, .putfield 69, 3), (166, .aload_n 0, 1), (167, .iconst 3, 1), (168, .newarray .int, 2), (170, .putfield 72, 3), (173, .aload_n 0, 1), (174, .sipush 160, 3), (177, .newarray .int, 2), (179, .putfield 75, 3), (182, .aload_n 0, 1), (183, .bipush 50, 2), (185, .newarray .int, 2), (187, .putfield 78, 3), (190, .aload_n 0, 1), (191, .bipush 24, 2), (193, .newarray .int, 2), (195, .putfield 81, 3), (198, .aload_n 0, 1), (199, .bipush 6, 2), (201, .newarray .int, 2), (203, .putfield 84, 3), (206, .aload_n 0, 1), (207, .bipush 6, 2), (209, .newarray .int, 2), (211, .putfield 87, 3), (214, .aload_n 0, 1), (215, .sipush 360, 3), (218, .newarray .long, 2), (220, .putfield 90, 3), (223, .aload_n 0, 1), (224, .bipush 11, 2), (226, .newarray .int, 2), (228, .putfield 94, 3), (231, .aload_n 0, 1), (232, .bipush 11, 2), (234, .newarray .int, 2), (236, .putfield 97, 3), (239, .aload_n 0, 1), (240, .bipush 110, 2)]
theorem DX11_init_1 : x_dk cX11_init IX11_init_1 = true := by decide +kernel
def IX11_init_2 : List (Nat × Instr × Nat) := [(242, .newarray .int, 2), (244, .putfield 100, 3), (247, .aload_n 0, 1), (248, .bipush 110, 2), (250, .newarray .int, 2), (252, .putfield 103, 3), (255, .aload_n 0, 1), (256, .bipush 11, 2), (258, .newarray .int, 2), (260, .putfield 106, 3), (263, .aload_n 0, 1), (264, .bipush 11, 2), (266, .newarray .int, 2), (268, .putfield 109, 3), (271, .iconst 0, 1), (272, .istore_n 1, 1), (273, .iload_n 1, 1), (274, .bipush 6, 2), (276, .if_icmp .ge 16, 3), (279, .aload_n 0, 1), (280, .getfield 84, 3), (283, .iload_n 1, 1), (284, .iconst (-1), 1), (285, .iastore, 1), (286, .iinc 1 1, 3), (289, .goto (-16), 3), (292, .return_, 1)]
theorem DX11_init_2 : x_dk cX11_init IX11_init_2 = true := by decide +kernel
def IX11_within : List (Nat × Instr × Nat) := [(0, .iload_n 0, 1), (1, .iload_n 1, 1), (2, .if_icmp .lt 12, 3), (5, .iload_n 0, 1), (6, .iload_n 2, 1), (7, .if_icmp .gt 7, 3), (10, .iconst 1, 1), (11, .goto 4, 3), (14, .iconst 0, 1), (15, .ireturn, 1)]
theorem DX11_within : x_dk cX11_within IX11_within = true := by decide +kernel
def IX11_isFigure : List (Nat × Instr × Nat) := [(0, .iload_n 1, 1), (1, .iconst 0, 1), (2, .aload_n 0, 1), (3, .getfield 112, 3), (6, .iconst 1, 1), (7, .isub, 1), (8, .invokestatic 116, 3), (11, .ireturn, 1)]
theorem DX11_isFigure : x_dk cX11_isFigure IX11_isFigure = true := by decide +kernel
def IX11_isBlock : List (Nat × Instr × Nat) := [(0, .iload_n 1, 1), (1, .iconst 0, 1), (2, .aload_n 0, 1), (3, .getfield 120, 3), (6, .iconst 1, 1), (7, .isub, 1), (8, .invokestatic 116, 3), (11, .ireturn, 1)]
theorem DX11_isBlock : x_dk cX11_isBlock IX11_isBlock = true := by decide +kernel
def IX11_isIn : List (Nat × Instr × Nat) := [(0, .iload_n 1, 1), (1, .ifCond .lt 29, 3), (4, .aload_n 0, 1), (5, .iload_n 1, 1), (6, .bipush 10, 2), (8, .idiv, 1), (9, .invokevirtual 123, 3), (12, .ifCond .eq 18, 3), (15, .aload_n 0, 1), (16, .iload_n 1, 1), (17, .bipush 10, 2), (19, .irem, 1), (20, .invokevirtual 127, 3), (23, .ifCond .eq 7, 3), (26, .iconst 1, 1), (27, .goto 4, 3), (30, .iconst 0, 1), (31, .ireturn, 1)]
theorem DX11_isIn : x_dk cX11_isIn IX11_isIn = true := by decide +kernel
def IX11_areTwo : List (Nat × Instr × Nat) := [(0, .iload_n 1, 1), (1, .ifCond .lt 40, 3), (4, .aload_n 0, 1), (5, .iload_n 1, 1), (6, .bipush 10, 2), (8, .idiv, 1), (9, .invokevirtual 127, 3), (12, .ifCond .eq 29, 3), (15, .aload_n 0, 1), (16, .iload_n 1, 1), (17, .bipush 10, 2), (19, .irem, 1), (20, .invokevirtual 127, 3), (23, .ifCond .eq 18, 3), (26, .iload_n 1, 1), (27, .bipush 10, 2), (29, .idiv, 1), (30, .iload_n 1, 1), (31, .bipush 10, 2), (33, .irem, 1), (34, .if_icmp .eq 7, 3), (37, .iconst 1, 1), (38, .goto 4, 3), (41, .iconst 0, 1), (42, .ireturn, 1)]
theorem DX11_areTwo : x_dk cX11_areTwo IX11_areTwo = true := by decide +kernel
def IX11_isShape : List (Nat × Instr × Nat) := [(0, .iload_n 0, 1), (1, .iconst 1, 1), (2, .ldc 130, 2), (4, .invokestatic 116, 3), (7, .ireturn, 1)]
theorem DX11_isShape : x_dk cX11_isShape IX11_isShape = true := by decide +kernel
def IX11_isYear : List (Nat × Instr × Nat) := [(0, .iload_n 0, 1), (1, .iconst 0, 1), (2, .bipush 99, 2), (4, .invokestatic 116, 3), (7, .ireturn, 1)]
theorem DX11_isYear : x_dk cX11_isYear IX11_isYear = true := by decide +kernel
def IX11_isShelf : List (Nat × Instr × Nat) := [(0, .iload_n 0, 1), (1, .iconst 0, 1), (2, .iconst 5, 1), (3, .invokestatic 116, 3), (6, .ireturn, 1)]
theorem DX11_isShelf : x_dk cX11_isShelf IX11_isShelf = true := by decide +kernel
def IX11_has : List (Nat × Instr × Nat) := [(0, .iload_n 0, 1), (1, .iload_n 1, 1), (2, .ishr, 1), (3, .iconst 1, 1), (4, .iand, 1), (5, .iconst 1, 1), (6, .if_icmp .ne 7, 3), (9, .iconst 1, 1), (10, .goto 4, 3), (13, .iconst 0, 1), (14, .ireturn, 1)]
theorem DX11_has : x_dk cX11_has IX11_has = true := by decide +kernel
def IX11_cells : List (Nat × Instr × Nat) := [(0, .iload_n 0, 1), (1, .invokestatic 131, 3), (4, .ireturn, 1)]
theorem DX11_cells : x_dk cX11_cells IX11_cells = true := by decide +kernel
def IX11_pushed : List (Nat × Instr × Nat) := [(0, .iload_n 0, 1), (1, .istore_n 1, 1), (2, .iload_n 1, 1), (3, .bipush 31, 2), (5, .iand, 1), (6, .ifCond .ne 10, 3), (9, .iload_n 1, 1), (10, .iconst 5, 1), (11, .ishr, 1), (12, .istore_n 1, 1), (13, .goto (-11), 3), (16, .iload_n 1, 1), (17, .ldc 137, 2), (19, .iand, 1), (20, .ifCond .ne 10, 3), (23, .iload_n 1, 1), (24, .iconst 1, 1), (25, .ishr, 1), (26, .istore_n 1, 1), (27, .goto (-11), 3), (30, .iload_n 1, 1), (31, .ireturn, 1)]
theorem DX11_pushed : x_dk cX11_pushed IX11_pushed = true := by decide +kernel
def IX11_turnedOnce : List (Nat × Instr × Nat) := [(0, .iconst 0, 1), (1, .istore_n 1, 1), (2, .iconst 0, 1), (3, .istore_n 2, 1), (4, .iload_n 2, 1), (5, .iconst 5, 1), (6, .if_icmp .ge 46, 3), (9, .iconst 0, 1), (10, .istore_n 3, 1), (11, .iload_n 3, 1), (12, .iconst 5, 1), (13, .if_icmp .ge 33, 3), (16, .iload_n 0, 1), (17, .iconst 5, 1), (18, .iload_n 2, 1), (19, .imul, 1), (20, .iload_n 3, 1), (21, .iadd, 1), (22, .invokestatic 138, 3), (25, .ifCond .eq 15, 3), (28, .iload_n 1, 1), (29, .iconst 1, 1), (30, .iconst 5, 1), (31, .iload_n 3, 1), (32, .imul, 1), (33, .iconst 4, 1), (34, .iadd, 1), (35, .iload_n 2, 1), (36, .isub, 1), (37, .ishl, 1), (38, .ior, 1), (39, .istore_n 1, 1), (40, .iinc 3 1, 3), (43, .goto (-32), 3), (46, .iinc 2 1, 3), (49, .goto (-45), 3), (52, .iload_n 1, 1), (53, .ireturn, 1)]
theorem DX11_turnedOnce : x_dk cX11_turnedOnce IX11_turnedOnce = true := by decide +kernel
def IX11_turnedBy : List (Nat × Instr × Nat) := [(0, .iload_n 0, 1), (1, .istore_n 2, 1), (2, .iconst 0, 1), (3, .istore_n 3, 1), (4, .iload_n 3, 1), (5, .iload_n 1, 1), (6, .if_icmp .ge 14, 3), (9, .iload_n 2, 1), (10, .invokestatic 142, 3), (13, .istore_n 2, 1), (14, .iinc 3 1, 3), (17, .goto (-13), 3), (20, .iload_n 2, 1), (21, .invokestatic 145, 3), (24, .ireturn, 1)]
theorem DX11_turnedBy : x_dk cX11_turnedBy IX11_turnedBy = true := by decide +kernel
def IX11_moved : List (Nat × Instr × Nat) := [(0, .iconst 0, 1), (1, .istore_n 3, 1), (2, .iconst 0, 1), (3, .istore 4, 2), (5, .iload 4, 2), (7, .iconst 5, 1), (8, .if_icmp .ge 75, 3), (11, .iconst 0, 1), (12, .istore 5, 2), (14, .iload 5, 2), (16, .iconst 5, 1), (17, .if_icmp .ge 60, 3), (20, .iload_n 0, 1), (21, .iconst 5, 1), (22, .iload 4, 2), (24, .imul, 1), (25, .iload 5, 2), (27, .iadd, 1), (28, .invokestatic 138, 3), (31, .ifCond .ne 6, 3), (34, .goto 37, 3), (37, .iload 5, 2), (39, .iload_n 1, 1), (40, .iadd, 1), (41, .iconst 4, 1), (42, .if_icmp .gt 11, 3), (45, .iload 4, 2), (47, .iload_n 2, 1), (48, .iadd, 1), (49, .iconst 4, 1), (50, .if_icmp .le 5, 3), (53, .iconst 0, 1), (54, .ireturn, 1), (55, .iload_n 3, 1), (56, .iconst 1, 1), (57, .iconst 5, 1), (58, .iload 4, 2), (60, .iload_n 2, 1), (61, .iadd, 1), (62, .imul, 1), (63, .iload 5, 2), (65, .iadd, 1), (66, .iload_n 1, 1), (67, .iadd, 1), (68, .ishl, 1), (69, .ior, 1), (70, .istore_n 3, 1), (71, .iinc 5 1, 3), (74, .goto (-60), 3), (77, .iinc 4 1, 3), (80, .goto (-75), 3), (83, .iload_n 3, 1), (84, .ireturn, 1)]
theorem DX11_moved : x_dk cX11_moved IX11_moved = true := by decide +kernel
def IX11_placed : List (Nat × Instr × Nat) := [(0, .iload_n 0, 1), (1, .iload_n 1, 1), (2, .bipush 100, 2), (4, .idiv, 1), (5, .invokestatic 148, 3), (8, .iload_n 1, 1), (9, .bipush 10, 2), (11, .irem, 1), (12, .iload_n 1, 1), (13, .bipush 10, 2), (15, .idiv, 1), (16, .bipush 10, 2), (18, .irem, 1), (19, .invokestatic 152, 3), (22, .ireturn, 1)]
theorem DX11_placed : x_dk cX11_placed IX11_placed = true := by decide +kernel
def IX11_isWay : List (Nat × Instr × Nat) := [(0, .iload_n 0, 1), (1, .bipush 10, 2), (3, .irem, 1), (4, .iconst 5, 1), (5, .if_icmp .ge 18, 3), (8, .iload_n 0, 1), (9, .bipush 10, 2), (11, .idiv, 1), (12, .bipush 10, 2), (14, .irem, 1), (15, .iconst 5, 1), (16, .if_icmp .ge 7, 3), (19, .iconst 1, 1), (20, .goto 4, 3), (23, .iconst 0, 1), (24, .ireturn, 1)]
theorem DX11_isWay : x_dk cX11_isWay IX11_isWay = true := by decide +kernel
def IX11_waysIn : List (Nat × Instr × Nat) := [(0, .iconst 0, 1), (1, .istore_n 3, 1), (2, .iconst 0, 1), (3, .istore 4, 2), (5, .iload 4, 2), (7, .iconst 4, 1), (8, .if_icmp .ge 98, 3), (11, .iload_n 0, 1), (12, .iload 4, 2), (14, .invokestatic 148, 3), (17, .istore 5, 2), (19, .iconst 0, 1), (20, .istore 6, 2), (22, .iload 6, 2), (24, .iconst 5, 1), (25, .if_icmp .ge 75, 3), (28, .iconst 0, 1), (29, .istore 7, 2), (31, .iload 7, 2), (33, .iconst 5, 1), (34, .if_icmp .ge 60, 3), (37, .iload 5, 2), (39, .iload 7, 2), (41, .iload 6, 2), (43, .invokestatic 152, 3), (46, .istore 8, 2), (48, .iload 8, 2), (50, .ifCond .eq 38, 3), (53, .iload 8, 2), (55, .iload_n 1, 1), (56, .iconst (-1), 1), (57, .ixor, 1), (58, .iand, 1), (59, .ifCond .eq 6, 3), (62, .goto 26, 3), (65, .iload_n 2, 1), (66, .iconst 1, 1), (67, .if_icmp .ne 18, 3), (70, .bipush 100, 2), (72, .iload 4, 2), (74, .imul, 1), (75, .bipush 10, 2), (77, .iload 6, 2), (79, .imul, 1), (80, .iadd, 1), (81, .iload 7, 2), (83, .iadd, 1), (84, .ireturn, 1), (85, .iinc 3 1, 3), (88, .iinc 7 1, 3), (91, .goto (-60), 3), (94, .iinc 6 1, 3), (97, .goto (-75), 3), (100, .iinc 4 1, 3), (103, .goto (-98), 3), (106, .iload_n 2, 1), (107, .iconst 1, 1), (108, .if_icmp .ne 8, 3), (111, .bipush (-2), 2), (113, .goto 4, 3)]
theorem DX11_waysIn : x_dk cX11_waysIn IX11_waysIn = true := by decide +kernel
def IX11_waysIn_1 : List (Nat × Instr × Nat) := [(116, .iload_n 3, 1), (117, .ireturn, 1)]
theorem DX11_waysIn_1 : x_dk cX11_waysIn IX11_waysIn_1 = true := by decide +kernel
def IX11_isCutOf : List (Nat × Instr × Nat) := [(0, .iload_n 0, 1), (1, .invokestatic 156, 3), (4, .iload_n 1, 1), (5, .invokestatic 156, 3), (8, .if_icmp .ge 18, 3), (11, .iload_n 0, 1), (12, .iload_n 1, 1), (13, .iconst 1, 1), (14, .invokestatic 159, 3), (17, .bipush (-2), 2), (19, .if_icmp .eq 7, 3), (22, .iconst 1, 1), (23, .goto 4, 3), (26, .iconst 0, 1), (27, .ireturn, 1)]
theorem DX11_isCutOf : x_dk cX11_isCutOf IX11_isCutOf = true := by decide +kernel
def IX11_cutOf : List (Nat × Instr × Nat) := [(0, .iconst 0, 1), (1, .istore_n 2, 1), (2, .iconst 0, 1), (3, .istore_n 3, 1), (4, .iload_n 3, 1), (5, .aload_n 0, 1), (6, .getfield 112, 3), (9, .if_icmp .ge 28, 3), (12, .aload_n 0, 1), (13, .getfield 9, 3), (16, .iload_n 3, 1), (17, .iaload, 1), (18, .iload_n 1, 1), (19, .invokestatic 162, 3), (22, .ifCond .eq 9, 3), (25, .iload_n 2, 1), (26, .iconst 1, 1), (27, .iload_n 3, 1), (28, .ishl, 1), (29, .ior, 1), (30, .istore_n 2, 1), (31, .iinc 3 1, 3), (34, .goto (-30), 3), (37, .iload_n 2, 1), (38, .ireturn, 1)]
theorem DX11_cutOf : x_dk cX11_cutOf IX11_cutOf = true := by decide +kernel
def IX11_looks : List (Nat × Instr × Nat) := [(0, .iconst 0, 1), (1, .istore_n 2, 1), (2, .iload_n 2, 1), (3, .aload_n 0, 1), (4, .getfield 112, 3), (7, .if_icmp .ge 25, 3), (10, .aload_n 0, 1), (11, .getfield 94, 3), (14, .iload_n 2, 1), (15, .aload_n 0, 1), (16, .aload_n 0, 1), (17, .getfield 9, 3), (20, .iload_n 2, 1), (21, .iaload, 1), (22, .invokevirtual 165, 3), (25, .iastore, 1), (26, .iinc 2 1, 3), (29, .goto (-27), 3), (32, .aload_n 0, 1), (33, .getfield 94, 3), (36, .bipush 10, 2), (38, .aload_n 0, 1), (39, .iload_n 1, 1), (40, .invokevirtual 165, 3), (43, .iastore, 1), (44, .return_, 1)]
theorem DX11_looks : x_dk cX11_looks IX11_looks = true := by decide +kernel
def IX11_newFigure : List (Nat × Instr × Nat) := [(0, .aload_n 0, 1), (1, .getfield 9, 3), (4, .aload_n 0, 1), (5, .getfield 112, 3), (8, .iload_n 1, 1), (9, .iastore, 1), (10, .aload_n 0, 1), (11, .getfield 15, 3), (14, .aload_n 0, 1), (15, .getfield 112, 3), (18, .iload_n 2, 1), (19, .iastore, 1), (20, .aload_n 0, 1), (21, .getfield 18, 3), (24, .aload_n 0, 1), (25, .getfield 112, 3), (28, .iconst 0, 1), (29, .iastore, 1), (30, .aload_n 0, 1), (31, .getfield 21, 3), (34, .aload_n 0, 1), (35, .getfield 112, 3), (38, .iconst 0, 1), (39, .iastore, 1), (40, .aload_n 0, 1), (41, .dup, 1), (42, .getfield 112, 3), (45, .dup_x1, 1), (46, .iconst 1, 1), (47, .iadd, 1), (48, .putfield 112, 3), (51, .ireturn, 1)]
theorem DX11_newFigure : x_dk cX11_newFigure IX11_newFigure = true := by decide +kernel
def IX11_figure : List (Nat × Instr × Nat) := [(0, .iload_n 1, 1), (1, .invokestatic 168, 3), (4, .ifCond .ne 5, 3), (7, .iconst (-1), 1), (8, .ireturn, 1), (9, .aload_n 0, 1), (10, .getfield 112, 3), (13, .bipush 10, 2), (15, .if_icmp .ne 8, 3), (18, .bipush (-3), 2), (20, .goto 10, 3), (23, .aload_n 0, 1), (24, .iload_n 1, 1), (25, .bipush 100, 2), (27, .invokevirtual 171, 3), (30, .ireturn, 1)]
theorem DX11_figure : x_dk cX11_figure IX11_figure = true := by decide +kernel
def IX11_figures : List (Nat × Instr × Nat) := [(0, .iload_n 1, 1), (1, .invokestatic 174, 3), (4, .ifCond .eq 13, 3), (7, .iload_n 3, 1), (8, .iconst 1, 1), (9, .bipush 10, 2), (11, .invokestatic 116, 3), (14, .ifCond .ne 5, 3), (17, .iconst (-1), 1), (18, .ireturn, 1), (19, .aload_n 0, 1), (20, .getfield 84, 3), (23, .iload_n 1, 1), (24, .iaload, 1), (25, .iconst (-1), 1), (26, .if_icmp .ne 5, 3), (29, .iconst 0, 1), (30, .ireturn, 1), (31, .aload_n 0, 1), (32, .getfield 84, 3), (35, .iload_n 1, 1), (36, .iaload, 1), (37, .iconst 2, 1), (38, .if_icmp .eq 6, 3), (41, .bipush (-12), 2), (43, .ireturn, 1), (44, .iconst 0, 1), (45, .istore 4, 2), (47, .iconst 0, 1), (48, .istore 5, 2), (50, .iload 5, 2), (52, .iload_n 3, 1), (53, .if_icmp .ge 130, 3), (56, .iload_n 2, 1), (57, .i2l, 1), (58, .ldc2_w 177, 3), (61, .iload 5, 2), (63, .i2l, 1), (64, .lmul, 1), (65, .ladd, 1), (66, .lstore 6, 2), (68, .lload 6, 2), (70, .lconst 0, 1), (71, .lcmp, 1), (72, .ifCond .lt 29, 3), (75, .lload 6, 2), (77, .ldc2_w 177, 3), (80, .ladd, 1), (81, .aload_n 0, 1), (82, .getfield 87, 3), (85, .iload_n 1, 1), (86, .iaload, 1), (87, .i2l, 1), (88, .lcmp, 1), (89, .ifCond .gt 12, 3), (92, .aload_n 0, 1), (93, .getfield 112, 3), (96, .bipush 10, 2), (98, .if_icmp .ne 6, 3), (101, .iload 4, 2)]
theorem DX11_figures : x_dk cX11_figures IX11_figures = true := by decide +kernel
def IX11_figures_1 : List (Nat × Instr × Nat) := [(103, .ireturn, 1), (104, .bipush 60, 2), (106, .iload_n 1, 1), (107, .imul, 1), (108, .lload 6, 2), (110, .l2i, 1), (111, .iadd, 1), (112, .istore 8, 2), (114, .aload_n 0, 1), (115, .getfield 90, 3), (118, .iload 8, 2), (120, .laload, 1), (121, .l2i, 1), (122, .invokestatic 168, 3), (125, .ifCond .eq 23, 3), (128, .aload_n 0, 1), (129, .getfield 90, 3), (132, .iload 8, 2), (134, .iconst 1, 1), (135, .iadd, 1), (136, .laload, 1), (137, .l2i, 1), (138, .iconst 0, 1), (139, .sipush 999, 3), (142, .invokestatic 116, 3), (145, .ifCond .ne 6, 3), (148, .iload 4, 2), (150, .ireturn, 1), (151, .aload_n 0, 1), (152, .aload_n 0, 1), (153, .getfield 90, 3), (156, .iload 8, 2), (158, .laload, 1), (159, .l2i, 1), (160, .aload_n 0, 1), (161, .getfield 90, 3), (164, .iload 8, 2), (166, .iconst 1, 1), (167, .iadd, 1), (168, .laload, 1), (169, .l2i, 1), (170, .invokevirtual 171, 3), (173, .pop, 1), (174, .iinc 4 1, 3), (177, .iinc 5 1, 3), (180, .goto (-130), 3), (183, .iload 4, 2), (185, .ireturn, 1)]
theorem DX11_figures_1 : x_dk cX11_figures IX11_figures_1 = true := by decide +kernel
def IX11_block : List (Nat × Instr × Nat) := [(0, .iload_n 1, 1), (1, .invokestatic 168, 3), (4, .ifCond .ne 5, 3), (7, .iconst (-1), 1), (8, .ireturn, 1), (9, .aload_n 0, 1), (10, .getfield 120, 3), (13, .bipush 6, 2), (15, .if_icmp .ne 6, 3), (18, .bipush (-3), 2), (20, .ireturn, 1), (21, .aload_n 0, 1), (22, .getfield 24, 3), (25, .aload_n 0, 1), (26, .getfield 120, 3), (29, .iload_n 1, 1), (30, .iastore, 1), (31, .aload_n 0, 1), (32, .getfield 27, 3), (35, .aload_n 0, 1), (36, .getfield 120, 3), (39, .iconst 0, 1), (40, .iastore, 1), (41, .aload_n 0, 1), (42, .dup, 1), (43, .getfield 120, 3), (46, .dup_x1, 1), (47, .iconst 1, 1), (48, .iadd, 1), (49, .putfield 120, 3), (52, .ireturn, 1)]
theorem DX11_block : x_dk cX11_block IX11_block = true := by decide +kernel
def IX11_get : List (Nat × Instr × Nat) := [(0, .iload_n 2, 1), (1, .ifCond .ne 12, 3), (4, .aload_n 0, 1), (5, .getfield 15, 3), (8, .iload_n 1, 1), (9, .iaload, 1), (10, .goto 23, 3), (13, .iload_n 2, 1), (14, .iconst 1, 1), (15, .if_icmp .ne 12, 3), (18, .aload_n 0, 1), (19, .getfield 18, 3), (22, .iload_n 1, 1), (23, .iaload, 1), (24, .goto 9, 3), (27, .aload_n 0, 1), (28, .getfield 21, 3), (31, .iload_n 1, 1), (32, .iaload, 1), (33, .ireturn, 1)]
theorem DX11_get : x_dk cX11_get IX11_get = true := by decide +kernel
def IX11_becomes : List (Nat × Instr × Nat) := [(0, .iload_n 2, 1), (1, .ifCond .ne 13, 3), (4, .aload_n 0, 1), (5, .getfield 15, 3), (8, .iload_n 1, 1), (9, .iload_n 3, 1), (10, .iastore, 1), (11, .goto 25, 3), (14, .iload_n 2, 1), (15, .iconst 1, 1), (16, .if_icmp .ne 13, 3), (19, .aload_n 0, 1), (20, .getfield 18, 3), (23, .iload_n 1, 1), (24, .iload_n 3, 1), (25, .iastore, 1), (26, .goto 10, 3), (29, .aload_n 0, 1), (30, .getfield 21, 3), (33, .iload_n 1, 1), (34, .iload_n 3, 1), (35, .iastore, 1), (36, .return_, 1)]
theorem DX11_becomes : x_dk cX11_becomes IX11_becomes = true := by decide +kernel
def IX11_mend : List (Nat × Instr × Nat) := [(0, .aload_n 0, 1), (1, .iload_n 1, 1), (2, .invokevirtual 127, 3), (5, .ifCond .eq 42, 3), (8, .iload_n 2, 1), (9, .iconst 0, 1), (10, .iconst 2, 1), (11, .invokestatic 116, 3), (14, .ifCond .eq 33, 3), (17, .iload_n 3, 1), (18, .iconst 0, 1), (19, .iload_n 2, 1), (20, .ifCond .ne 9, 3), (23, .sipush 999, 3), (26, .goto 15, 3), (29, .iload_n 2, 1), (30, .iconst 1, 1), (31, .if_icmp .ne 8, 3), (34, .bipush 9, 2), (36, .goto 5, 3), (39, .bipush 99, 2), (41, .invokestatic 116, 3), (44, .ifCond .ne 5, 3), (47, .iconst (-1), 1), (48, .ireturn, 1), (49, .aload_n 0, 1), (50, .iload_n 1, 1), (51, .iload_n 2, 1), (52, .invokevirtual 179, 3), (55, .istore 4, 2), (57, .iload 4, 2), (59, .iload_n 3, 1), (60, .if_icmp .ne 6, 3), (63, .iload 4, 2), (65, .ireturn, 1), (66, .aload_n 0, 1), (67, .iload_n 1, 1), (68, .iload_n 2, 1), (69, .iload_n 3, 1), (70, .invokevirtual 182, 3), (73, .aload_n 0, 1), (74, .getfield 186, 3), (77, .bipush 40, 2), (79, .if_icmp .ne 46, 3), (82, .iconst 0, 1), (83, .istore 5, 2), (85, .iload 5, 2), (87, .sipush 156, 3), (90, .if_icmp .ge 25, 3), (93, .aload_n 0, 1), (94, .getfield 75, 3), (97, .iload 5, 2), (99, .aload_n 0, 1), (100, .getfield 75, 3), (103, .iload 5, 2), (105, .iconst 4, 1), (106, .iadd, 1), (107, .iaload, 1), (108, .iastore, 1), (109, .iinc 5 1, 3)]
theorem DX11_mend : x_dk cX11_mend IX11_mend = true := by decide +kernel
def IX11_mend_1 : List (Nat × Instr × Nat) := [(112, .goto (-27), 3), (115, .aload_n 0, 1), (116, .dup, 1), (117, .getfield 186, 3), (120, .iconst 1, 1), (121, .isub, 1), (122, .putfield 186, 3), (125, .aload_n 0, 1), (126, .getfield 75, 3), (129, .iconst 4, 1), (130, .aload_n 0, 1), (131, .getfield 186, 3), (134, .imul, 1), (135, .iload_n 1, 1), (136, .iastore, 1), (137, .aload_n 0, 1), (138, .getfield 75, 3), (141, .iconst 4, 1), (142, .aload_n 0, 1), (143, .getfield 186, 3), (146, .imul, 1), (147, .iconst 1, 1), (148, .iadd, 1), (149, .iload_n 2, 1), (150, .iastore, 1), (151, .aload_n 0, 1), (152, .getfield 75, 3), (155, .iconst 4, 1), (156, .aload_n 0, 1), (157, .getfield 186, 3), (160, .imul, 1), (161, .iconst 2, 1), (162, .iadd, 1), (163, .iload 4, 2), (165, .iastore, 1), (166, .aload_n 0, 1), (167, .getfield 75, 3), (170, .iconst 4, 1), (171, .aload_n 0, 1), (172, .getfield 186, 3), (175, .imul, 1), (176, .iconst 3, 1), (177, .iadd, 1), (178, .iload_n 3, 1), (179, .iastore, 1), (180, .aload_n 0, 1), (181, .dup, 1), (182, .getfield 186, 3), (185, .iconst 1, 1), (186, .iadd, 1), (187, .putfield 186, 3), (190, .aload_n 0, 1), (191, .aload_n 0, 1), (192, .getfield 186, 3), (195, .putfield 189, 3), (198, .iload 4, 2), (200, .ireturn, 1)]
theorem DX11_mend_1 : x_dk cX11_mend IX11_mend_1 = true := by decide +kernel
def IX11_of : List (Nat × Instr × Nat) := [(0, .iload_n 2, 1), (1, .tableswitch 132 0 6 #[43, 43, 43, 62, 81, 100, 119], 43), (44, .aload_n 0, 1), (45, .iload_n 1, 1), (46, .invokevirtual 127, 3), (49, .ifCond .eq 12, 3), (52, .aload_n 0, 1), (53, .iload_n 1, 1), (54, .iload_n 2, 1), (55, .invokevirtual 179, 3), (58, .goto 4, 3), (61, .iconst (-1), 1), (62, .ireturn, 1), (63, .aload_n 0, 1), (64, .iload_n 1, 1), (65, .invokevirtual 127, 3), (68, .ifCond .eq 12, 3), (71, .aload_n 0, 1), (72, .getfield 9, 3), (75, .iload_n 1, 1), (76, .iaload, 1), (77, .goto 4, 3), (80, .iconst (-1), 1), (81, .ireturn, 1), (82, .aload_n 0, 1), (83, .iload_n 1, 1), (84, .invokevirtual 123, 3), (87, .ifCond .eq 12, 3), (90, .aload_n 0, 1), (91, .getfield 24, 3), (94, .iload_n 1, 1), (95, .iaload, 1), (96, .goto 4, 3), (99, .iconst (-1), 1), (100, .ireturn, 1), (101, .aload_n 0, 1), (102, .iload_n 1, 1), (103, .invokevirtual 123, 3), (106, .ifCond .eq 12, 3), (109, .aload_n 0, 1), (110, .getfield 27, 3), (113, .iload_n 1, 1), (114, .iaload, 1), (115, .goto 4, 3), (118, .iconst (-1), 1), (119, .ireturn, 1), (120, .iload_n 1, 1), (121, .ifCond .ne 10, 3), (124, .aload_n 0, 1), (125, .getfield 192, 3), (128, .goto 4, 3), (131, .iconst (-1), 1), (132, .ireturn, 1), (133, .iconst (-1), 1), (134, .ireturn, 1)]
theorem DX11_of : x_dk cX11_of IX11_of = true := by decide +kernel
def IX11_undo : List (Nat × Instr × Nat) := [(0, .aload_n 0, 1), (1, .getfield 186, 3), (4, .ifCond .ne 6, 3), (7, .bipush (-5), 2), (9, .ireturn, 1), (10, .aload_n 0, 1), (11, .dup, 1), (12, .getfield 186, 3), (15, .iconst 1, 1), (16, .isub, 1), (17, .putfield 186, 3), (20, .aload_n 0, 1), (21, .aload_n 0, 1), (22, .getfield 75, 3), (25, .iconst 4, 1), (26, .aload_n 0, 1), (27, .getfield 186, 3), (30, .imul, 1), (31, .iaload, 1), (32, .aload_n 0, 1), (33, .getfield 75, 3), (36, .iconst 4, 1), (37, .aload_n 0, 1), (38, .getfield 186, 3), (41, .imul, 1), (42, .iconst 1, 1), (43, .iadd, 1), (44, .iaload, 1), (45, .aload_n 0, 1), (46, .getfield 75, 3), (49, .iconst 4, 1), (50, .aload_n 0, 1), (51, .getfield 186, 3), (54, .imul, 1), (55, .iconst 2, 1), (56, .iadd, 1), (57, .iaload, 1), (58, .invokevirtual 182, 3), (61, .aload_n 0, 1), (62, .getfield 186, 3), (65, .ireturn, 1)]
theorem DX11_undo : x_dk cX11_undo IX11_undo = true := by decide +kernel
def IX11_redo : List (Nat × Instr × Nat) := [(0, .aload_n 0, 1), (1, .getfield 186, 3), (4, .aload_n 0, 1), (5, .getfield 189, 3), (8, .if_icmp .ne 6, 3), (11, .bipush (-5), 2), (13, .ireturn, 1), (14, .aload_n 0, 1), (15, .aload_n 0, 1), (16, .getfield 75, 3), (19, .iconst 4, 1), (20, .aload_n 0, 1), (21, .getfield 186, 3), (24, .imul, 1), (25, .iaload, 1), (26, .aload_n 0, 1), (27, .getfield 75, 3), (30, .iconst 4, 1), (31, .aload_n 0, 1), (32, .getfield 186, 3), (35, .imul, 1), (36, .iconst 1, 1), (37, .iadd, 1), (38, .iaload, 1), (39, .aload_n 0, 1), (40, .getfield 75, 3), (43, .iconst 4, 1), (44, .aload_n 0, 1), (45, .getfield 186, 3), (48, .imul, 1), (49, .iconst 3, 1), (50, .iadd, 1), (51, .iaload, 1), (52, .invokevirtual 182, 3), (55, .aload_n 0, 1), (56, .dup, 1), (57, .getfield 186, 3), (60, .iconst 1, 1), (61, .iadd, 1), (62, .putfield 186, 3), (65, .aload_n 0, 1), (66, .getfield 189, 3), (69, .aload_n 0, 1), (70, .getfield 186, 3), (73, .isub, 1), (74, .ireturn, 1)]
theorem DX11_redo : x_dk cX11_redo IX11_redo = true := by decide +kernel
def IX11_feed : List (Nat × Instr × Nat) := [(0, .iload_n 1, 1), (1, .iconst 0, 1), (2, .sipush 255, 3), (5, .invokestatic 116, 3), (8, .ifCond .ne 5, 3), (11, .iconst (-1), 1), (12, .ireturn, 1), (13, .aload_n 0, 1), (14, .getfield 195, 3), (17, .bipush 120, 2), (19, .if_icmp .ne 6, 3), (22, .bipush (-3), 2), (24, .ireturn, 1), (25, .aload_n 0, 1), (26, .getfield 30, 3), (29, .aload_n 0, 1), (30, .dup, 1), (31, .getfield 195, 3), (34, .dup_x1, 1), (35, .iconst 1, 1), (36, .iadd, 1), (37, .putfield 195, 3), (40, .iload_n 1, 1), (41, .iastore, 1), (42, .aload_n 0, 1), (43, .getfield 195, 3), (46, .ireturn, 1)]
theorem DX11_feed : x_dk cX11_feed IX11_feed = true := by decide +kernel
def IX11_sign : List (Nat × Instr × Nat) := [(0, .aload_n 0, 1), (1, .getfield 198, 3), (4, .aload_n 0, 1), (5, .getfield 195, 3), (8, .if_icmp .ge 15, 3), (11, .aload_n 0, 1), (12, .getfield 30, 3), (15, .aload_n 0, 1), (16, .getfield 198, 3), (19, .iaload, 1), (20, .goto 4, 3), (23, .iconst (-1), 1), (24, .ireturn, 1)]
theorem DX11_sign : x_dk cX11_sign IX11_sign = true := by decide +kernel
def IX11_is : List (Nat × Instr × Nat) := [(0, .aload_n 0, 1), (1, .invokevirtual 201, 3), (4, .iload_n 1, 1), (5, .if_icmp .eq 5, 3), (8, .iconst 0, 1), (9, .ireturn, 1), (10, .aload_n 0, 1), (11, .dup, 1), (12, .getfield 198, 3), (15, .iconst 1, 1), (16, .iadd, 1), (17, .putfield 198, 3), (20, .iconst 1, 1), (21, .ireturn, 1)]
theorem DX11_is : x_dk cX11_is IX11_is = true := by decide +kernel
def IX11_codes : List (Nat × Instr × Nat) := [(0, .aload_n 0, 1), (1, .getfield 54, 3), (4, .aload_n 0, 1), (5, .dup, 1), (6, .getfield 205, 3), (9, .dup_x1, 1), (10, .iconst 1, 1), (11, .iadd, 1), (12, .putfield 205, 3), (15, .iload_n 1, 1), (16, .iastore, 1), (17, .iconst 1, 1), (18, .ireturn, 1)]
theorem DX11_codes : x_dk cX11_codes IX11_codes = true := by decide +kernel
def IX11_isDigit : List (Nat × Instr × Nat) := [(0, .aload_n 0, 1), (1, .invokevirtual 201, 3), (4, .bipush 48, 2), (6, .if_icmp .lt 16, 3), (9, .aload_n 0, 1), (10, .invokevirtual 201, 3), (13, .bipush 57, 2), (15, .if_icmp .gt 7, 3), (18, .iconst 1, 1), (19, .goto 4, 3), (22, .iconst 0, 1), (23, .ireturn, 1)]
theorem DX11_isDigit : x_dk cX11_isDigit IX11_isDigit = true := by decide +kernel
def IX11_nameOf : List (Nat × Instr × Nat) := [(0, .iload_n 0, 1), (1, .lookupswitch 71 #[(97, 63), (99, 65), (102, 61), (107, 69), (110, 67), (119, 59)], 59), (60, .iconst 0, 1), (61, .ireturn, 1), (62, .iconst 1, 1), (63, .ireturn, 1), (64, .iconst 2, 1), (65, .ireturn, 1), (66, .iconst 3, 1), (67, .ireturn, 1), (68, .iconst 4, 1), (69, .ireturn, 1), (70, .iconst 5, 1), (71, .ireturn, 1), (72, .iconst (-1), 1), (73, .ireturn, 1)]
theorem DX11_nameOf : x_dk cX11_nameOf IX11_nameOf = true := by decide +kernel
def IX11_isO : List (Nat × Instr × Nat) := [(0, .aload_n 0, 1), (1, .invokevirtual 208, 3), (4, .ifCond .eq 62, 3), (7, .iconst 0, 1), (8, .istore_n 1, 1), (9, .iconst 0, 1), (10, .istore_n 2, 1), (11, .iload_n 2, 1), (12, .iconst 4, 1), (13, .if_icmp .ge 44, 3), (16, .aload_n 0, 1), (17, .invokevirtual 208, 3), (20, .ifCond .eq 37, 3), (23, .bipush 10, 2), (25, .iload_n 1, 1), (26, .imul, 1), (27, .aload_n 0, 1), (28, .getfield 30, 3), (31, .aload_n 0, 1), (32, .getfield 198, 3), (35, .iaload, 1), (36, .iadd, 1), (37, .bipush 48, 2), (39, .isub, 1), (40, .istore_n 1, 1), (41, .aload_n 0, 1), (42, .dup, 1), (43, .getfield 198, 3), (46, .iconst 1, 1), (47, .iadd, 1), (48, .putfield 198, 3), (51, .iinc 2 1, 3), (54, .goto (-43), 3), (57, .aload_n 0, 1), (58, .bipush 18, 2), (60, .iload_n 1, 1), (61, .iadd, 1), (62, .invokevirtual 212, 3), (65, .ireturn, 1), (66, .aload_n 0, 1), (67, .invokevirtual 201, 3), (70, .invokestatic 215, 3), (73, .istore_n 1, 1), (74, .iload_n 1, 1), (75, .ifCond .lt 19, 3), (78, .aload_n 0, 1), (79, .dup, 1), (80, .getfield 198, 3), (83, .iconst 1, 1), (84, .iadd, 1), (85, .putfield 198, 3), (88, .aload_n 0, 1), (89, .iload_n 1, 1), (90, .invokevirtual 212, 3), (93, .ireturn, 1), (94, .aload_n 0, 1), (95, .getfield 218, 3), (98, .bipush 6, 2), (100, .if_icmp .ne 5, 3), (103, .iconst 0, 1)]
theorem DX11_isO : x_dk cX11_isO IX11_isO = true := by decide +kernel
def IX11_isO_1 : List (Nat × Instr × Nat) := [(104, .ireturn, 1), (105, .aload_n 0, 1), (106, .dup, 1), (107, .getfield 218, 3), (110, .iconst 1, 1), (111, .iadd, 1), (112, .putfield 218, 3), (115, .aload_n 0, 1), (116, .bipush 33, 2), (118, .invokevirtual 221, 3), (121, .ifCond .eq 28, 3), (124, .aload_n 0, 1), (125, .invokevirtual 224, 3), (128, .ifCond .eq 16, 3), (131, .aload_n 0, 1), (132, .bipush 16, 2), (134, .invokevirtual 212, 3), (137, .ifCond .eq 7, 3), (140, .iconst 1, 1), (141, .goto 4, 3), (144, .iconst 0, 1), (145, .istore_n 2, 1), (146, .goto 68, 3), (149, .aload_n 0, 1), (150, .bipush 45, 2), (152, .invokevirtual 221, 3), (155, .ifCond .eq 28, 3), (158, .aload_n 0, 1), (159, .invokevirtual 224, 3), (162, .ifCond .eq 16, 3), (165, .aload_n 0, 1), (166, .bipush 17, 2), (168, .invokevirtual 212, 3), (171, .ifCond .eq 7, 3), (174, .iconst 1, 1), (175, .goto 4, 3), (178, .iconst 0, 1), (179, .istore_n 2, 1), (180, .goto 34, 3), (183, .aload_n 0, 1), (184, .bipush 40, 2), (186, .invokevirtual 221, 3), (189, .ifCond .eq 23, 3), (192, .aload_n 0, 1), (193, .invokevirtual 227, 3), (196, .ifCond .eq 16, 3), (199, .aload_n 0, 1), (200, .bipush 41, 2), (202, .invokevirtual 221, 3), (205, .ifCond .eq 7, 3), (208, .iconst 1, 1), (209, .goto 4, 3), (212, .iconst 0, 1), (213, .istore_n 2, 1), (214, .aload_n 0, 1), (215, .dup, 1), (216, .getfield 218, 3), (219, .iconst 1, 1), (220, .isub, 1), (221, .putfield 218, 3)]
theorem DX11_isO_1 : x_dk cX11_isO IX11_isO_1 = true := by decide +kernel
def IX11_isO_2 : List (Nat × Instr × Nat) := [(224, .iload_n 2, 1), (225, .ireturn, 1)]
theorem DX11_isO_2 : x_dk cX11_isO IX11_isO_2 = true := by decide +kernel
def IX11_isP : List (Nat × Instr × Nat) := [(0, .aload_n 0, 1), (1, .invokevirtual 224, 3), (4, .ifCond .ne 5, 3), (7, .iconst 0, 1), (8, .ireturn, 1), (9, .aload_n 0, 1), (10, .invokevirtual 201, 3), (13, .bipush 42, 2), (15, .if_icmp .ne 8, 3), (18, .bipush 13, 2), (20, .goto 32, 3), (23, .aload_n 0, 1), (24, .invokevirtual 201, 3), (27, .bipush 47, 2), (29, .if_icmp .ne 8, 3), (32, .bipush 14, 2), (34, .goto 18, 3), (37, .aload_n 0, 1), (38, .invokevirtual 201, 3), (41, .bipush 37, 2), (43, .if_icmp .ne 8, 3), (46, .bipush 15, 2), (48, .goto 4, 3), (51, .iconst (-1), 1), (52, .istore_n 1, 1), (53, .iload_n 1, 1), (54, .ifCond .ge 5, 3), (57, .iconst 1, 1), (58, .ireturn, 1), (59, .aload_n 0, 1), (60, .dup, 1), (61, .getfield 198, 3), (64, .iconst 1, 1), (65, .iadd, 1), (66, .putfield 198, 3), (69, .aload_n 0, 1), (70, .invokevirtual 224, 3), (73, .ifCond .ne 5, 3), (76, .iconst 0, 1), (77, .ireturn, 1), (78, .aload_n 0, 1), (79, .iload_n 1, 1), (80, .invokevirtual 212, 3), (83, .pop, 1), (84, .goto (-75), 3)]
theorem DX11_isP : x_dk cX11_isP IX11_isP = true := by decide +kernel
def IX11_isS : List (Nat × Instr × Nat) := [(0, .aload_n 0, 1), (1, .invokevirtual 230, 3), (4, .ifCond .ne 5, 3), (7, .iconst 0, 1), (8, .ireturn, 1), (9, .aload_n 0, 1), (10, .invokevirtual 201, 3), (13, .bipush 43, 2), (15, .if_icmp .ne 8, 3), (18, .bipush 11, 2), (20, .goto 18, 3), (23, .aload_n 0, 1), (24, .invokevirtual 201, 3), (27, .bipush 45, 2), (29, .if_icmp .ne 8, 3), (32, .bipush 12, 2), (34, .goto 4, 3), (37, .iconst (-1), 1), (38, .istore_n 1, 1), (39, .iload_n 1, 1), (40, .ifCond .ge 5, 3), (43, .iconst 1, 1), (44, .ireturn, 1), (45, .aload_n 0, 1), (46, .dup, 1), (47, .getfield 198, 3), (50, .iconst 1, 1), (51, .iadd, 1), (52, .putfield 198, 3), (55, .aload_n 0, 1), (56, .invokevirtual 230, 3), (59, .ifCond .ne 5, 3), (62, .iconst 0, 1), (63, .ireturn, 1), (64, .aload_n 0, 1), (65, .iload_n 1, 1), (66, .invokevirtual 212, 3), (69, .pop, 1), (70, .goto (-61), 3)]
theorem DX11_isS : x_dk cX11_isS IX11_isS = true := by decide +kernel
def IX11_isB : List (Nat × Instr × Nat) := [(0, .aload_n 0, 1), (1, .invokevirtual 233, 3), (4, .ifCond .ne 5, 3), (7, .iconst 0, 1), (8, .ireturn, 1), (9, .aload_n 0, 1), (10, .invokevirtual 201, 3), (13, .bipush 60, 2), (15, .if_icmp .ne 8, 3), (18, .bipush 8, 2), (20, .goto 32, 3), (23, .aload_n 0, 1), (24, .invokevirtual 201, 3), (27, .bipush 61, 2), (29, .if_icmp .ne 8, 3), (32, .bipush 9, 2), (34, .goto 18, 3), (37, .aload_n 0, 1), (38, .invokevirtual 201, 3), (41, .bipush 62, 2), (43, .if_icmp .ne 8, 3), (46, .bipush 10, 2), (48, .goto 4, 3), (51, .iconst (-1), 1), (52, .istore_n 1, 1), (53, .iload_n 1, 1), (54, .ifCond .ge 5, 3), (57, .iconst 1, 1), (58, .ireturn, 1), (59, .aload_n 0, 1), (60, .dup, 1), (61, .getfield 198, 3), (64, .iconst 1, 1), (65, .iadd, 1), (66, .putfield 198, 3), (69, .aload_n 0, 1), (70, .invokevirtual 233, 3), (73, .ifCond .eq 15, 3), (76, .aload_n 0, 1), (77, .iload_n 1, 1), (78, .invokevirtual 212, 3), (81, .ifCond .eq 7, 3), (84, .iconst 1, 1), (85, .goto 4, 3), (88, .iconst 0, 1), (89, .ireturn, 1)]
theorem DX11_isB : x_dk cX11_isB IX11_isB = true := by decide +kernel
def IX11_isA : List (Nat × Instr × Nat) := [(0, .aload_n 0, 1), (1, .invokevirtual 236, 3), (4, .ifCond .ne 5, 3), (7, .iconst 0, 1), (8, .ireturn, 1), (9, .aload_n 0, 1), (10, .bipush 38, 2), (12, .invokevirtual 221, 3), (15, .ifCond .eq 22, 3), (18, .aload_n 0, 1), (19, .invokevirtual 236, 3), (22, .ifCond .ne 5, 3), (25, .iconst 0, 1), (26, .ireturn, 1), (27, .aload_n 0, 1), (28, .bipush 7, 2), (30, .invokevirtual 212, 3), (33, .pop, 1), (34, .goto (-25), 3), (37, .iconst 1, 1), (38, .ireturn, 1)]
theorem DX11_isA : x_dk cX11_isA IX11_isA = true := by decide +kernel
def IX11_isE : List (Nat × Instr × Nat) := [(0, .aload_n 0, 1), (1, .invokevirtual 239, 3), (4, .ifCond .ne 5, 3), (7, .iconst 0, 1), (8, .ireturn, 1), (9, .aload_n 0, 1), (10, .bipush 124, 2), (12, .invokevirtual 221, 3), (15, .ifCond .eq 22, 3), (18, .aload_n 0, 1), (19, .invokevirtual 239, 3), (22, .ifCond .ne 5, 3), (25, .iconst 0, 1), (26, .ireturn, 1), (27, .aload_n 0, 1), (28, .bipush 6, 2), (30, .invokevirtual 212, 3), (33, .pop, 1), (34, .goto (-25), 3), (37, .iconst 1, 1), (38, .ireturn, 1)]
theorem DX11_isE : x_dk cX11_isE IX11_isE = true := by decide +kernel
def IX11_isLine : List (Nat × Instr × Nat) := [(0, .aload_n 0, 1), (1, .getfield 45, 3), (4, .aload_n 0, 1), (5, .getfield 242, 3), (8, .aload_n 0, 1), (9, .getfield 205, 3), (12, .iastore, 1), (13, .aload_n 0, 1), (14, .invokevirtual 227, 3), (17, .ifCond .ne 5, 3), (20, .iconst 0, 1), (21, .ireturn, 1), (22, .aload_n 0, 1), (23, .getfield 48, 3), (26, .aload_n 0, 1), (27, .getfield 242, 3), (30, .aload_n 0, 1), (31, .getfield 45, 3), (34, .aload_n 0, 1), (35, .getfield 242, 3), (38, .iaload, 1), (39, .iastore, 1), (40, .aload_n 0, 1), (41, .bipush 63, 2), (43, .invokevirtual 221, 3), (46, .ifCond .eq 25, 3), (49, .aload_n 0, 1), (50, .getfield 48, 3), (53, .aload_n 0, 1), (54, .getfield 242, 3), (57, .aload_n 0, 1), (58, .getfield 205, 3), (61, .iastore, 1), (62, .aload_n 0, 1), (63, .invokevirtual 227, 3), (66, .ifCond .ne 5, 3), (69, .iconst 0, 1), (70, .ireturn, 1), (71, .aload_n 0, 1), (72, .getfield 51, 3), (75, .aload_n 0, 1), (76, .dup, 1), (77, .getfield 242, 3), (80, .dup_x1, 1), (81, .iconst 1, 1), (82, .iadd, 1), (83, .putfield 242, 3), (86, .aload_n 0, 1), (87, .getfield 205, 3), (90, .iastore, 1), (91, .iconst 1, 1), (92, .ireturn, 1)]
theorem DX11_isLine : x_dk cX11_isLine IX11_isLine = true := by decide +kernel
def IX11_law : List (Nat × Instr × Nat) := [(0, .aload_n 0, 1), (1, .iconst 0, 1), (2, .putfield 198, 3), (5, .aload_n 0, 1), (6, .iconst 0, 1), (7, .putfield 218, 3), (10, .aload_n 0, 1), (11, .iconst 0, 1), (12, .putfield 205, 3), (15, .aload_n 0, 1), (16, .iconst 0, 1), (17, .putfield 242, 3), (20, .aload_n 0, 1), (21, .invokevirtual 245, 3), (24, .istore_n 1, 1), (25, .iload_n 1, 1), (26, .ifCond .eq 20, 3), (29, .aload_n 0, 1), (30, .bipush 59, 2), (32, .invokevirtual 221, 3), (35, .ifCond .eq 11, 3), (38, .aload_n 0, 1), (39, .invokevirtual 245, 3), (42, .istore_n 1, 1), (43, .goto (-18), 3), (46, .iload_n 1, 1), (47, .ifCond .eq 18, 3), (50, .aload_n 0, 1), (51, .getfield 198, 3), (54, .aload_n 0, 1), (55, .getfield 195, 3), (58, .if_icmp .ne 7, 3), (61, .iconst 1, 1), (62, .goto 4, 3), (65, .iconst 0, 1), (66, .istore_n 2, 1), (67, .aload_n 0, 1), (68, .iconst 0, 1), (69, .putfield 195, 3), (72, .iload_n 2, 1), (73, .ifCond .ne 11, 3), (76, .bipush (-100), 2), (78, .aload_n 0, 1), (79, .getfield 198, 3), (82, .isub, 1), (83, .ireturn, 1), (84, .aload_n 0, 1), (85, .iconst 1, 1), (86, .putfield 248, 3), (89, .aload_n 0, 1), (90, .aload_n 0, 1), (91, .getfield 242, 3), (94, .putfield 252, 3), (97, .iconst 0, 1), (98, .istore_n 3, 1), (99, .iload_n 3, 1), (100, .aload_n 0, 1), (101, .getfield 252, 3), (104, .if_icmp .ge 45, 3), (107, .aload_n 0, 1)]
theorem DX11_law : x_dk cX11_law IX11_law = true := by decide +kernel
def IX11_law_1 : List (Nat × Instr × Nat) := [(108, .getfield 33, 3), (111, .iload_n 3, 1), (112, .aload_n 0, 1), (113, .getfield 45, 3), (116, .iload_n 3, 1), (117, .iaload, 1), (118, .iastore, 1), (119, .aload_n 0, 1), (120, .getfield 36, 3), (123, .iload_n 3, 1), (124, .aload_n 0, 1), (125, .getfield 48, 3), (128, .iload_n 3, 1), (129, .iaload, 1), (130, .iastore, 1), (131, .aload_n 0, 1), (132, .getfield 39, 3), (135, .iload_n 3, 1), (136, .aload_n 0, 1), (137, .getfield 51, 3), (140, .iload_n 3, 1), (141, .iaload, 1), (142, .iastore, 1), (143, .iinc 3 1, 3), (146, .goto (-47), 3), (149, .iconst 0, 1), (150, .istore_n 3, 1), (151, .iload_n 3, 1), (152, .aload_n 0, 1), (153, .getfield 205, 3), (156, .if_icmp .ge 21, 3), (159, .aload_n 0, 1), (160, .getfield 42, 3), (163, .iload_n 3, 1), (164, .aload_n 0, 1), (165, .getfield 54, 3), (168, .iload_n 3, 1), (169, .iaload, 1), (170, .iastore, 1), (171, .iinc 3 1, 3), (174, .goto (-23), 3), (177, .iconst 1, 1), (178, .ireturn, 1)]
theorem DX11_law_1 : x_dk cX11_law IX11_law_1 = true := by decide +kernel
def IX11_both : List (Nat × Instr × Nat) := [(0, .iload_n 0, 1), (1, .tableswitch 136 6 14 #[51, 65, 79, 90, 101, 112, 116, 120, 124], 51), (52, .iload_n 1, 1), (53, .ifCond .ne 7, 3), (56, .iload_n 2, 1), (57, .ifCond .eq 7, 3), (60, .iconst 1, 1), (61, .goto 4, 3), (64, .iconst 0, 1), (65, .ireturn, 1), (66, .iload_n 1, 1), (67, .ifCond .eq 11, 3), (70, .iload_n 2, 1), (71, .ifCond .eq 7, 3), (74, .iconst 1, 1), (75, .goto 4, 3), (78, .iconst 0, 1), (79, .ireturn, 1), (80, .iload_n 1, 1), (81, .iload_n 2, 1), (82, .if_icmp .ge 7, 3), (85, .iconst 1, 1), (86, .goto 4, 3), (89, .iconst 0, 1), (90, .ireturn, 1), (91, .iload_n 1, 1), (92, .iload_n 2, 1), (93, .if_icmp .ne 7, 3), (96, .iconst 1, 1), (97, .goto 4, 3), (100, .iconst 0, 1), (101, .ireturn, 1), (102, .iload_n 1, 1), (103, .iload_n 2, 1), (104, .if_icmp .le 7, 3), (107, .iconst 1, 1), (108, .goto 4, 3), (111, .iconst 0, 1), (112, .ireturn, 1), (113, .iload_n 1, 1), (114, .iload_n 2, 1), (115, .iadd, 1), (116, .ireturn, 1), (117, .iload_n 1, 1), (118, .iload_n 2, 1), (119, .isub, 1), (120, .ireturn, 1), (121, .iload_n 1, 1), (122, .iload_n 2, 1), (123, .imul, 1), (124, .ireturn, 1), (125, .iload_n 2, 1), (126, .ifCond .ne 7, 3), (129, .iconst 0, 1), (130, .goto 6, 3), (133, .iload_n 1, 1), (134, .iload_n 2, 1), (135, .idiv, 1), (136, .ireturn, 1), (137, .iload_n 2, 1)]
theorem DX11_both : x_dk cX11_both IX11_both = true := by decide +kernel
def IX11_both_1 : List (Nat × Instr × Nat) := [(138, .ifCond .ne 7, 3), (141, .iconst 0, 1), (142, .goto 6, 3), (145, .iload_n 1, 1), (146, .iload_n 2, 1), (147, .irem, 1), (148, .ireturn, 1)]
theorem DX11_both_1 : x_dk cX11_both IX11_both_1 = true := by decide +kernel
def IX11_worked : List (Nat × Instr × Nat) := [(0, .iconst 0, 1), (1, .istore_n 3, 1), (2, .iload_n 1, 1), (3, .istore 4, 2), (5, .iload 4, 2), (7, .iload_n 2, 1), (8, .if_icmp .ge 155, 3), (11, .aload_n 0, 1), (12, .getfield 42, 3), (15, .iload 4, 2), (17, .iaload, 1), (18, .istore 5, 2), (20, .iload 5, 2), (22, .bipush 18, 2), (24, .if_icmp .ge 9, 3), (27, .iload 5, 2), (29, .iconst 5, 1), (30, .if_icmp .gt 37, 3), (33, .aload_n 0, 1), (34, .getfield 57, 3), (37, .iload_n 3, 1), (38, .iinc 3 1, 3), (41, .iload 5, 2), (43, .bipush 18, 2), (45, .if_icmp .lt 11, 3), (48, .iload 5, 2), (50, .bipush 18, 2), (52, .isub, 1), (53, .goto 10, 3), (56, .aload_n 0, 1), (57, .getfield 60, 3), (60, .iload 5, 2), (62, .iaload, 1), (63, .iastore, 1), (64, .goto 93, 3), (67, .iload 5, 2), (69, .bipush 16, 2), (71, .if_icmp .eq 10, 3), (74, .iload 5, 2), (76, .bipush 17, 2), (78, .if_icmp .ne 49, 3), (81, .aload_n 0, 1), (82, .getfield 57, 3), (85, .iload_n 3, 1), (86, .iconst 1, 1), (87, .isub, 1), (88, .iload 5, 2), (90, .bipush 17, 2), (92, .if_icmp .ne 15, 3), (95, .aload_n 0, 1), (96, .getfield 57, 3), (99, .iload_n 3, 1), (100, .iconst 1, 1), (101, .isub, 1), (102, .iaload, 1), (103, .ineg, 1), (104, .goto 19, 3), (107, .aload_n 0, 1), (108, .getfield 57, 3), (111, .iload_n 3, 1)]
theorem DX11_worked : x_dk cX11_worked IX11_worked = true := by decide +kernel
def IX11_worked_1 : List (Nat × Instr × Nat) := [(112, .iconst 1, 1), (113, .isub, 1), (114, .iaload, 1), (115, .ifCond .ne 7, 3), (118, .iconst 1, 1), (119, .goto 4, 3), (122, .iconst 0, 1), (123, .iastore, 1), (124, .goto 33, 3), (127, .iinc 3 (-1), 3), (130, .aload_n 0, 1), (131, .getfield 57, 3), (134, .iload_n 3, 1), (135, .iconst 1, 1), (136, .isub, 1), (137, .iload 5, 2), (139, .aload_n 0, 1), (140, .getfield 57, 3), (143, .iload_n 3, 1), (144, .iconst 1, 1), (145, .isub, 1), (146, .iaload, 1), (147, .aload_n 0, 1), (148, .getfield 57, 3), (151, .iload_n 3, 1), (152, .iaload, 1), (153, .invokestatic 255, 3), (156, .iastore, 1), (157, .iinc 4 1, 3), (160, .goto (-155), 3), (163, .aload_n 0, 1), (164, .getfield 57, 3), (167, .iconst 0, 1), (168, .iaload, 1), (169, .ireturn, 1)]
theorem DX11_worked_1 : x_dk cX11_worked IX11_worked_1 = true := by decide +kernel
def IX11_bringsIn : List (Nat × Instr × Nat) := [(0, .aload_n 0, 1), (1, .getfield 60, 3), (4, .iconst 0, 1), (5, .aload_n 0, 1), (6, .getfield 15, 3), (9, .iload_n 1, 1), (10, .iaload, 1), (11, .iastore, 1), (12, .aload_n 0, 1), (13, .getfield 60, 3), (16, .iconst 1, 1), (17, .aload_n 0, 1), (18, .getfield 18, 3), (21, .iload_n 1, 1), (22, .iaload, 1), (23, .iastore, 1), (24, .aload_n 0, 1), (25, .getfield 60, 3), (28, .iconst 2, 1), (29, .iload_n 2, 1), (30, .aload_n 0, 1), (31, .getfield 21, 3), (34, .iload_n 1, 1), (35, .iaload, 1), (36, .isub, 1), (37, .invokestatic 258, 3), (40, .iastore, 1), (41, .aload_n 0, 1), (42, .getfield 60, 3), (45, .iconst 3, 1), (46, .aload_n 0, 1), (47, .getfield 9, 3), (50, .iload_n 1, 1), (51, .iaload, 1), (52, .invokestatic 156, 3), (55, .iastore, 1), (56, .aload_n 0, 1), (57, .getfield 60, 3), (60, .iconst 4, 1), (61, .iload_n 3, 1), (62, .iastore, 1), (63, .aload_n 0, 1), (64, .getfield 60, 3), (67, .iconst 5, 1), (68, .iload_n 1, 1), (69, .iastore, 1), (70, .aload_n 0, 1), (71, .getfield 248, 3), (74, .ifCond .ne 28, 3), (77, .iconst 0, 1), (78, .aload_n 0, 1), (79, .getfield 15, 3), (82, .iload_n 1, 1), (83, .iaload, 1), (84, .aload_n 0, 1), (85, .getfield 18, 3), (88, .iload_n 1, 1), (89, .iaload, 1), (90, .aload_n 0, 1), (91, .getfield 60, 3)]
theorem DX11_bringsIn : x_dk cX11_bringsIn IX11_bringsIn = true := by decide +kernel
def IX11_bringsIn_1 : List (Nat × Instr × Nat) := [(94, .iconst 2, 1), (95, .iaload, 1), (96, .imul, 1), (97, .isub, 1), (98, .invokestatic 263, 3), (101, .ireturn, 1), (102, .iconst 0, 1), (103, .istore 4, 2), (105, .iload 4, 2), (107, .aload_n 0, 1), (108, .getfield 252, 3), (111, .if_icmp .ge 79, 3), (114, .aload_n 0, 1), (115, .getfield 36, 3), (118, .iload 4, 2), (120, .iaload, 1), (121, .aload_n 0, 1), (122, .getfield 33, 3), (125, .iload 4, 2), (127, .iaload, 1), (128, .if_icmp .le 27, 3), (131, .aload_n 0, 1), (132, .aload_n 0, 1), (133, .getfield 33, 3), (136, .iload 4, 2), (138, .iaload, 1), (139, .aload_n 0, 1), (140, .getfield 36, 3), (143, .iload 4, 2), (145, .iaload, 1), (146, .invokevirtual 266, 3), (149, .ifCond .ne 6, 3), (152, .goto 32, 3), (155, .iconst 0, 1), (156, .sipush 9999, 3), (159, .aload_n 0, 1), (160, .aload_n 0, 1), (161, .getfield 36, 3), (164, .iload 4, 2), (166, .iaload, 1), (167, .aload_n 0, 1), (168, .getfield 39, 3), (171, .iload 4, 2), (173, .iaload, 1), (174, .invokevirtual 266, 3), (177, .invokestatic 269, 3), (180, .invokestatic 263, 3), (183, .ireturn, 1), (184, .iinc 4 1, 3), (187, .goto (-82), 3), (190, .iconst 0, 1), (191, .ireturn, 1)]
theorem DX11_bringsIn_1 : x_dk cX11_bringsIn IX11_bringsIn_1 = true := by decide +kernel
def IX11_brings : List (Nat × Instr × Nat) := [(0, .aload_n 0, 1), (1, .iload_n 1, 1), (2, .invokevirtual 127, 3), (5, .ifCond .eq 27, 3), (8, .iload_n 2, 1), (9, .invokestatic 272, 3), (12, .ifCond .eq 20, 3), (15, .iload_n 3, 1), (16, .invokestatic 272, 3), (19, .ifCond .eq 13, 3), (22, .aload_n 0, 1), (23, .iload_n 1, 1), (24, .iload_n 2, 1), (25, .iload_n 3, 1), (26, .invokevirtual 275, 3), (29, .goto 4, 3), (32, .iconst (-1), 1), (33, .ireturn, 1)]
theorem DX11_brings : x_dk cX11_brings IX11_brings = true := by decide +kernel
def IX11_size : List (Nat × Instr × Nat) := [(0, .aload_n 0, 1), (1, .iload_n 1, 1), (2, .invokevirtual 127, 3), (5, .ifCond .eq 12, 3), (8, .iload_n 2, 1), (9, .iconst 0, 1), (10, .iconst 2, 1), (11, .invokestatic 116, 3), (14, .ifCond .ne 5, 3), (17, .iconst (-1), 1), (18, .ireturn, 1), (19, .iload_n 2, 1), (20, .ifCond .ne 13, 3), (23, .aload_n 0, 1), (24, .getfield 9, 3), (27, .iload_n 1, 1), (28, .iaload, 1), (29, .invokestatic 156, 3), (32, .ireturn, 1), (33, .aload_n 0, 1), (34, .getfield 9, 3), (37, .iload_n 1, 1), (38, .iaload, 1), (39, .invokestatic 145, 3), (42, .istore_n 3, 1), (43, .iconst 0, 1), (44, .istore 4, 2), (46, .iconst 0, 1), (47, .istore 5, 2), (49, .iload 5, 2), (51, .iconst 5, 1), (52, .if_icmp .ge 40, 3), (55, .iload_n 3, 1), (56, .iload_n 2, 1), (57, .iconst 1, 1), (58, .if_icmp .ne 11, 3), (61, .ldc 137, 2), (63, .iload 5, 2), (65, .ishl, 1), (66, .goto 10, 3), (69, .bipush 31, 2), (71, .iconst 5, 1), (72, .iload 5, 2), (74, .imul, 1), (75, .ishl, 1), (76, .iand, 1), (77, .ifCond .eq 9, 3), (80, .iload 5, 2), (82, .iconst 1, 1), (83, .iadd, 1), (84, .istore 4, 2), (86, .iinc 5 1, 3), (89, .goto (-40), 3), (92, .iload 4, 2), (94, .ireturn, 1)]
theorem DX11_size : x_dk cX11_size IX11_size = true := by decide +kernel
def IX11_turned : List (Nat × Instr × Nat) := [(0, .aload_n 0, 1), (1, .iload_n 1, 1), (2, .invokevirtual 127, 3), (5, .ifCond .eq 25, 3), (8, .iload_n 2, 1), (9, .iconst 0, 1), (10, .iconst 3, 1), (11, .invokestatic 116, 3), (14, .ifCond .eq 16, 3), (17, .aload_n 0, 1), (18, .getfield 9, 3), (21, .iload_n 1, 1), (22, .iaload, 1), (23, .iload_n 2, 1), (24, .invokestatic 148, 3), (27, .goto 4, 3), (30, .iconst (-1), 1), (31, .ireturn, 1)]
theorem DX11_turned : x_dk cX11_turned IX11_turned = true := by decide +kernel
def IX11_ways : List (Nat × Instr × Nat) := [(0, .aload_n 0, 1), (1, .iload_n 1, 1), (2, .invokevirtual 278, 3), (5, .ifCond .eq 12, 3), (8, .iload_n 2, 1), (9, .iconst 0, 1), (10, .iconst 2, 1), (11, .invokestatic 116, 3), (14, .ifCond .ne 5, 3), (17, .iconst (-1), 1), (18, .ireturn, 1), (19, .aload_n 0, 1), (20, .getfield 9, 3), (23, .iload_n 1, 1), (24, .bipush 10, 2), (26, .irem, 1), (27, .iaload, 1), (28, .istore_n 3, 1), (29, .aload_n 0, 1), (30, .getfield 24, 3), (33, .iload_n 1, 1), (34, .bipush 10, 2), (36, .idiv, 1), (37, .iaload, 1), (38, .istore 4, 2), (40, .iload_n 2, 1), (41, .iconst 2, 1), (42, .if_icmp .ge 11, 3), (45, .iload_n 3, 1), (46, .iload 4, 2), (48, .iload_n 2, 1), (49, .invokestatic 159, 3), (52, .ireturn, 1), (53, .iload_n 3, 1), (54, .iload 4, 2), (56, .invokestatic 162, 3), (59, .ifCond .eq 16, 3), (62, .iload 4, 2), (64, .invokestatic 156, 3), (67, .iload_n 3, 1), (68, .invokestatic 156, 3), (71, .isub, 1), (72, .goto 5, 3), (75, .bipush (-2), 2), (77, .ireturn, 1)]
theorem DX11_ways : x_dk cX11_ways IX11_ways = true := by decide +kernel
def IX11_inside : List (Nat × Instr × Nat) := [(0, .aload_n 0, 1), (1, .iload_n 1, 1), (2, .invokevirtual 281, 3), (5, .ifCond .eq 35, 3), (8, .aload_n 0, 1), (9, .getfield 9, 3), (12, .iload_n 1, 1), (13, .bipush 10, 2), (15, .idiv, 1), (16, .iaload, 1), (17, .aload_n 0, 1), (18, .getfield 9, 3), (21, .iload_n 1, 1), (22, .bipush 10, 2), (24, .irem, 1), (25, .iaload, 1), (26, .invokestatic 162, 3), (29, .ifCond .eq 7, 3), (32, .iconst 1, 1), (33, .goto 8, 3), (36, .iconst 0, 1), (37, .goto 4, 3), (40, .iconst (-1), 1), (41, .ireturn, 1)]
theorem DX11_inside : x_dk cX11_inside IX11_inside = true := by decide +kernel
def IX11_around : List (Nat × Instr × Nat) := [(0, .aload_n 0, 1), (1, .iload_n 1, 1), (2, .invokevirtual 127, 3), (5, .ifCond .eq 12, 3), (8, .iload_n 2, 1), (9, .iconst 0, 1), (10, .iconst 1, 1), (11, .invokestatic 116, 3), (14, .ifCond .ne 5, 3), (17, .iconst (-1), 1), (18, .ireturn, 1), (19, .iload_n 2, 1), (20, .iconst 1, 1), (21, .if_icmp .ne 14, 3), (24, .aload_n 0, 1), (25, .aload_n 0, 1), (26, .getfield 9, 3), (29, .iload_n 1, 1), (30, .iaload, 1), (31, .invokevirtual 165, 3), (34, .ireturn, 1), (35, .iconst 0, 1), (36, .istore_n 3, 1), (37, .iconst 0, 1), (38, .istore 4, 2), (40, .iload 4, 2), (42, .aload_n 0, 1), (43, .getfield 112, 3), (46, .if_icmp .ge 35, 3), (49, .aload_n 0, 1), (50, .getfield 9, 3), (53, .iload_n 1, 1), (54, .iaload, 1), (55, .aload_n 0, 1), (56, .getfield 9, 3), (59, .iload 4, 2), (61, .iaload, 1), (62, .invokestatic 162, 3), (65, .ifCond .eq 10, 3), (68, .iload_n 3, 1), (69, .iconst 1, 1), (70, .iload 4, 2), (72, .ishl, 1), (73, .ior, 1), (74, .istore_n 3, 1), (75, .iinc 4 1, 3), (78, .goto (-38), 3), (81, .iload_n 3, 1), (82, .ireturn, 1)]
theorem DX11_around : x_dk cX11_around IX11_around = true := by decide +kernel
def IX11_common : List (Nat × Instr × Nat) := [(0, .iload_n 1, 1), (1, .iconst 0, 1), (2, .iconst 1, 1), (3, .aload_n 0, 1), (4, .getfield 112, 3), (7, .ishl, 1), (8, .iconst 1, 1), (9, .isub, 1), (10, .invokestatic 116, 3), (13, .ifCond .ne 5, 3), (16, .iconst (-1), 1), (17, .ireturn, 1), (18, .iconst 1, 1), (19, .aload_n 0, 1), (20, .getfield 112, 3), (23, .ishl, 1), (24, .iconst 1, 1), (25, .isub, 1), (26, .istore_n 2, 1), (27, .iconst 0, 1), (28, .istore_n 3, 1), (29, .iload_n 3, 1), (30, .aload_n 0, 1), (31, .getfield 112, 3), (34, .if_icmp .ge 30, 3), (37, .iload_n 1, 1), (38, .iload_n 3, 1), (39, .invokestatic 138, 3), (42, .ifCond .eq 16, 3), (45, .iload_n 2, 1), (46, .aload_n 0, 1), (47, .aload_n 0, 1), (48, .getfield 9, 3), (51, .iload_n 3, 1), (52, .iaload, 1), (53, .invokevirtual 165, 3), (56, .iand, 1), (57, .istore_n 2, 1), (58, .iinc 3 1, 3), (61, .goto (-32), 3), (64, .iload_n 2, 1), (65, .ireturn, 1)]
theorem DX11_common : x_dk cX11_common IX11_common = true := by decide +kernel
def IX11_longestOf : List (Nat × Instr × Nat) := [(0, .iconst 0, 1), (1, .istore_n 2, 1), (2, .iload_n 2, 1), (3, .bipush 26, 2), (5, .if_icmp .ge 50, 3), (8, .iconst 0, 1), (9, .istore_n 3, 1), (10, .iload_n 3, 1), (11, .aload_n 0, 1), (12, .getfield 112, 3), (15, .if_icmp .ge 34, 3), (18, .aload_n 0, 1), (19, .getfield 9, 3), (22, .iload_n 3, 1), (23, .iaload, 1), (24, .invokestatic 156, 3), (27, .iload_n 2, 1), (28, .if_icmp .ne 15, 3), (31, .aload_n 0, 1), (32, .getfield 97, 3), (35, .iload_n 3, 1), (36, .aload_n 0, 1), (37, .iload_n 3, 1), (38, .iload_n 1, 1), (39, .invokevirtual 284, 3), (42, .iastore, 1), (43, .iinc 3 1, 3), (46, .goto (-36), 3), (49, .iinc 2 1, 3), (52, .goto (-50), 3), (55, .aload_n 0, 1), (56, .getfield 97, 3), (59, .bipush 10, 2), (61, .aload_n 0, 1), (62, .bipush 10, 2), (64, .iload_n 1, 1), (65, .invokevirtual 284, 3), (68, .iastore, 1), (69, .aload_n 0, 1), (70, .getfield 97, 3), (73, .bipush 10, 2), (75, .iaload, 1), (76, .ireturn, 1)]
theorem DX11_longestOf : x_dk cX11_longestOf IX11_longestOf = true := by decide +kernel
def IX11_mostOf : List (Nat × Instr × Nat) := [(0, .iconst 0, 1), (1, .istore_n 3, 1), (2, .iconst 0, 1), (3, .istore 4, 2), (5, .iload 4, 2), (7, .aload_n 0, 1), (8, .getfield 112, 3), (11, .if_icmp .ge 39, 3), (14, .aload_n 0, 1), (15, .getfield 94, 3), (18, .iload_n 1, 1), (19, .iaload, 1), (20, .iload_n 2, 1), (21, .iand, 1), (22, .iload 4, 2), (24, .invokestatic 138, 3), (27, .ifCond .eq 17, 3), (30, .iload_n 3, 1), (31, .aload_n 0, 1), (32, .getfield 97, 3), (35, .iload 4, 2), (37, .iaload, 1), (38, .iconst 1, 1), (39, .iadd, 1), (40, .invokestatic 263, 3), (43, .istore_n 3, 1), (44, .iinc 4 1, 3), (47, .goto (-42), 3), (50, .iload_n 3, 1), (51, .ireturn, 1)]
theorem DX11_mostOf : x_dk cX11_mostOf IX11_mostOf = true := by decide +kernel
def IX11_longest : List (Nat × Instr × Nat) := [(0, .aload_n 0, 1), (1, .iload_n 1, 1), (2, .invokevirtual 123, 3), (5, .ifCond .eq 8, 3), (8, .iload_n 2, 1), (9, .iconst (-1), 1), (10, .if_icmp .ge 5, 3), (13, .iconst (-1), 1), (14, .ireturn, 1), (15, .aload_n 0, 1), (16, .aload_n 0, 1), (17, .getfield 24, 3), (20, .iload_n 1, 1), (21, .iaload, 1), (22, .invokevirtual 287, 3), (25, .aload_n 0, 1), (26, .ldc 130, 2), (28, .invokevirtual 291, 3), (31, .istore_n 3, 1), (32, .iload_n 2, 1), (33, .ifCond .ge 5, 3), (36, .iload_n 3, 1), (37, .ireturn, 1), (38, .iload_n 2, 1), (39, .iload_n 3, 1), (40, .if_icmp .lt 6, 3), (43, .bipush (-2), 2), (45, .ireturn, 1), (46, .bipush 10, 2), (48, .istore 4, 2), (50, .iconst 0, 1), (51, .istore 5, 2), (53, .iload 5, 2), (55, .iload_n 2, 1), (56, .if_icmp .gt 26, 3), (59, .aload_n 0, 1), (60, .iload 4, 2), (62, .aload_n 0, 1), (63, .getfield 97, 3), (66, .iload 4, 2), (68, .iaload, 1), (69, .iconst 1, 1), (70, .isub, 1), (71, .invokevirtual 294, 3), (74, .istore 4, 2), (76, .iinc 5 1, 3), (79, .goto (-26), 3), (82, .iload 4, 2), (84, .ireturn, 1)]
theorem DX11_longest : x_dk cX11_longest IX11_longest = true := by decide +kernel
def IX11_firstOf : List (Nat × Instr × Nat) := [(0, .iconst 0, 1), (1, .istore_n 3, 1), (2, .iload_n 3, 1), (3, .aload_n 0, 1), (4, .getfield 112, 3), (7, .if_icmp .ge 34, 3), (10, .aload_n 0, 1), (11, .getfield 94, 3), (14, .iload_n 1, 1), (15, .iaload, 1), (16, .iload_n 3, 1), (17, .invokestatic 138, 3), (20, .ifCond .eq 15, 3), (23, .aload_n 0, 1), (24, .getfield 97, 3), (27, .iload_n 3, 1), (28, .iaload, 1), (29, .iload_n 2, 1), (30, .if_icmp .ne 5, 3), (33, .iload_n 3, 1), (34, .ireturn, 1), (35, .iinc 3 1, 3), (38, .goto (-36), 3), (41, .bipush (-2), 2), (43, .ireturn, 1)]
theorem DX11_firstOf : x_dk cX11_firstOf IX11_firstOf = true := by decide +kernel
def IX11_rich : List (Nat × Instr × Nat) := [(0, .iconst 0, 1), (1, .istore 4, 2), (3, .iconst 0, 1), (4, .istore 5, 2), (6, .iconst 0, 1), (7, .istore 6, 2), (9, .iload 6, 2), (11, .aload_n 0, 1), (12, .getfield 112, 3), (15, .if_icmp .ge 96, 3), (18, .iload_n 3, 1), (19, .bipush 9, 2), (21, .if_icmp .ge 90, 3), (24, .aload_n 0, 1), (25, .getfield 94, 3), (28, .iload_n 1, 1), (29, .iaload, 1), (30, .iload 6, 2), (32, .invokestatic 138, 3), (35, .ifCond .ne 6, 3), (38, .goto 67, 3), (41, .aload_n 0, 1), (42, .getfield 100, 3), (45, .bipush 11, 2), (47, .iload_n 3, 1), (48, .iconst 1, 1), (49, .iadd, 1), (50, .imul, 1), (51, .iload 6, 2), (53, .iadd, 1), (54, .iaload, 1), (55, .istore 7, 2), (57, .aload_n 0, 1), (58, .getfield 103, 3), (61, .bipush 11, 2), (63, .iload_n 3, 1), (64, .iconst 1, 1), (65, .iadd, 1), (66, .imul, 1), (67, .iload 6, 2), (69, .iadd, 1), (70, .iaload, 1), (71, .istore 8, 2), (73, .iload 7, 2), (75, .iload 4, 2), (77, .if_icmp .lt 28, 3), (80, .iload 7, 2), (82, .iload 4, 2), (84, .if_icmp .ne 13, 3), (87, .iload 8, 2), (89, .iload 5, 2), (91, .if_icmp .lt 6, 3), (94, .goto 11, 3), (97, .iload 7, 2), (99, .istore 4, 2), (101, .iload 8, 2), (103, .istore 5, 2), (105, .iinc 6 1, 3), (108, .goto (-99), 3), (111, .aload_n 0, 1)]
theorem DX11_rich : x_dk cX11_rich IX11_rich = true := by decide +kernel
def IX11_rich_1 : List (Nat × Instr × Nat) := [(112, .getfield 100, 3), (115, .bipush 11, 2), (117, .iload_n 3, 1), (118, .imul, 1), (119, .iload_n 1, 1), (120, .iadd, 1), (121, .iload 4, 2), (123, .iload_n 1, 1), (124, .bipush 10, 2), (126, .if_icmp .ne 7, 3), (129, .iconst 0, 1), (130, .goto 12, 3), (133, .aload_n 0, 1), (134, .iload_n 1, 1), (135, .iload_n 2, 1), (136, .iload_n 3, 1), (137, .iadd, 1), (138, .iload_n 3, 1), (139, .invokevirtual 275, 3), (142, .iadd, 1), (143, .iastore, 1), (144, .aload_n 0, 1), (145, .getfield 103, 3), (148, .bipush 11, 2), (150, .iload_n 3, 1), (151, .imul, 1), (152, .iload_n 1, 1), (153, .iadd, 1), (154, .iload 5, 2), (156, .iconst 1, 1), (157, .iadd, 1), (158, .iastore, 1), (159, .return_, 1)]
theorem DX11_rich_1 : x_dk cX11_rich IX11_rich_1 = true := by decide +kernel
def IX11_richest : List (Nat × Instr × Nat) := [(0, .aload_n 0, 1), (1, .iload_n 1, 1), (2, .invokevirtual 123, 3), (5, .ifCond .eq 15, 3), (8, .iload_n 2, 1), (9, .invokestatic 272, 3), (12, .ifCond .eq 8, 3), (15, .iload_n 3, 1), (16, .iconst (-1), 1), (17, .if_icmp .ge 5, 3), (20, .iconst (-1), 1), (21, .ireturn, 1), (22, .aload_n 0, 1), (23, .aload_n 0, 1), (24, .getfield 24, 3), (27, .iload_n 1, 1), (28, .iaload, 1), (29, .invokevirtual 287, 3), (32, .bipush 9, 2), (34, .istore 4, 2), (36, .iload 4, 2), (38, .ifCond .lt 36, 3), (41, .iconst 0, 1), (42, .istore 5, 2), (44, .iload 5, 2), (46, .aload_n 0, 1), (47, .getfield 112, 3), (50, .if_icmp .ge 18, 3), (53, .aload_n 0, 1), (54, .iload 5, 2), (56, .iload_n 2, 1), (57, .iload 4, 2), (59, .invokevirtual 297, 3), (62, .iinc 5 1, 3), (65, .goto (-21), 3), (68, .iinc 4 (-1), 3), (71, .goto (-35), 3), (74, .iconst 0, 1), (75, .istore 4, 2), (77, .iconst 0, 1), (78, .istore 5, 2), (80, .bipush (-2), 2), (82, .istore 6, 2), (84, .iconst 0, 1), (85, .istore 7, 2), (87, .iload 7, 2), (89, .aload_n 0, 1), (90, .getfield 112, 3), (93, .if_icmp .ge 85, 3), (96, .aload_n 0, 1), (97, .getfield 94, 3), (100, .bipush 10, 2), (102, .iaload, 1), (103, .iload 7, 2), (105, .invokestatic 138, 3), (108, .ifCond .eq 64, 3), (111, .aload_n 0, 1), (112, .getfield 100, 3), (115, .iload 7, 2), (117, .iaload, 1)]
theorem DX11_richest : x_dk cX11_richest IX11_richest = true := by decide +kernel
def IX11_richest_1 : List (Nat × Instr × Nat) := [(118, .iload 4, 2), (120, .if_icmp .lt 52, 3), (123, .aload_n 0, 1), (124, .getfield 100, 3), (127, .iload 7, 2), (129, .iaload, 1), (130, .iload 4, 2), (132, .if_icmp .ne 18, 3), (135, .aload_n 0, 1), (136, .getfield 103, 3), (139, .iload 7, 2), (141, .iaload, 1), (142, .iload 5, 2), (144, .if_icmp .lt 6, 3), (147, .goto 25, 3), (150, .aload_n 0, 1), (151, .getfield 100, 3), (154, .iload 7, 2), (156, .iaload, 1), (157, .istore 4, 2), (159, .aload_n 0, 1), (160, .getfield 103, 3), (163, .iload 7, 2), (165, .iaload, 1), (166, .istore 5, 2), (168, .iload 7, 2), (170, .istore 6, 2), (172, .iinc 7 1, 3), (175, .goto (-88), 3), (178, .iload_n 3, 1), (179, .ifCond .ge 6, 3), (182, .iload 4, 2), (184, .ireturn, 1), (185, .iload_n 3, 1), (186, .iload 5, 2), (188, .if_icmp .lt 6, 3), (191, .bipush (-2), 2), (193, .ireturn, 1), (194, .iconst 0, 1), (195, .istore 7, 2), (197, .iload 7, 2), (199, .iload_n 3, 1), (200, .if_icmp .ge 20, 3), (203, .aload_n 0, 1), (204, .iload 6, 2), (206, .iload 7, 2), (208, .iload_n 2, 1), (209, .invokevirtual 300, 3), (212, .istore 6, 2), (214, .iinc 7 1, 3), (217, .goto (-20), 3), (220, .iload 6, 2), (222, .ireturn, 1)]
theorem DX11_richest_1 : x_dk cX11_richest IX11_richest_1 = true := by decide +kernel
def IX11_nextRich : List (Nat × Instr × Nat) := [(0, .aload_n 0, 1), (1, .getfield 100, 3), (4, .bipush 11, 2), (6, .iload_n 2, 1), (7, .imul, 1), (8, .iload_n 1, 1), (9, .iadd, 1), (10, .iaload, 1), (11, .aload_n 0, 1), (12, .iload_n 1, 1), (13, .iload_n 3, 1), (14, .iload_n 2, 1), (15, .iadd, 1), (16, .iload_n 2, 1), (17, .invokevirtual 275, 3), (20, .isub, 1), (21, .istore 4, 2), (23, .iconst 0, 1), (24, .istore 5, 2), (26, .iload 5, 2), (28, .aload_n 0, 1), (29, .getfield 112, 3), (32, .if_icmp .ge 75, 3), (35, .aload_n 0, 1), (36, .getfield 94, 3), (39, .iload_n 1, 1), (40, .iaload, 1), (41, .iload 5, 2), (43, .invokestatic 138, 3), (46, .ifCond .eq 55, 3), (49, .aload_n 0, 1), (50, .getfield 100, 3), (53, .bipush 11, 2), (55, .iload_n 2, 1), (56, .iconst 1, 1), (57, .iadd, 1), (58, .imul, 1), (59, .iload 5, 2), (61, .iadd, 1), (62, .iaload, 1), (63, .iload 4, 2), (65, .if_icmp .ne 36, 3), (68, .aload_n 0, 1), (69, .getfield 103, 3), (72, .bipush 11, 2), (74, .iload_n 2, 1), (75, .iconst 1, 1), (76, .iadd, 1), (77, .imul, 1), (78, .iload 5, 2), (80, .iadd, 1), (81, .iaload, 1), (82, .aload_n 0, 1), (83, .getfield 103, 3), (86, .bipush 11, 2), (88, .iload_n 2, 1), (89, .imul, 1), (90, .iload_n 1, 1), (91, .iadd, 1), (92, .iaload, 1)]
theorem DX11_nextRich : x_dk cX11_nextRich IX11_nextRich = true := by decide +kernel
def IX11_nextRich_1 : List (Nat × Instr × Nat) := [(93, .iconst 1, 1), (94, .isub, 1), (95, .if_icmp .ne 6, 3), (98, .iload 5, 2), (100, .ireturn, 1), (101, .iinc 5 1, 3), (104, .goto (-78), 3), (107, .bipush (-2), 2), (109, .ireturn, 1)]
theorem DX11_nextRich_1 : x_dk cX11_nextRich IX11_nextRich_1 = true := by decide +kernel
def IX11_between : List (Nat × Instr × Nat) := [(0, .aload_n 0, 1), (1, .getfield 94, 3), (4, .iload_n 1, 1), (5, .iaload, 1), (6, .iload_n 2, 1), (7, .invokestatic 138, 3), (10, .ifCond .ne 6, 3), (13, .bipush (-2), 2), (15, .ireturn, 1), (16, .iconst 1, 1), (17, .istore_n 3, 1), (18, .iconst 0, 1), (19, .istore 4, 2), (21, .iload 4, 2), (23, .aload_n 0, 1), (24, .getfield 112, 3), (27, .if_icmp .ge 57, 3), (30, .iload 4, 2), (32, .iload_n 2, 1), (33, .if_icmp .eq 45, 3), (36, .aload_n 0, 1), (37, .getfield 94, 3), (40, .iload_n 1, 1), (41, .iaload, 1), (42, .iload 4, 2), (44, .invokestatic 138, 3), (47, .ifCond .eq 31, 3), (50, .aload_n 0, 1), (51, .getfield 94, 3), (54, .iload 4, 2), (56, .iaload, 1), (57, .iload_n 2, 1), (58, .invokestatic 138, 3), (61, .ifCond .eq 17, 3), (64, .iload_n 3, 1), (65, .iconst 1, 1), (66, .aload_n 0, 1), (67, .iload 4, 2), (69, .iload_n 2, 1), (70, .invokevirtual 303, 3), (73, .iadd, 1), (74, .invokestatic 263, 3), (77, .istore_n 3, 1), (78, .iinc 4 1, 3), (81, .goto (-60), 3), (84, .iload_n 3, 1), (85, .ireturn, 1)]
theorem DX11_between : x_dk cX11_between IX11_between = true := by decide +kernel
def IX11_through : List (Nat × Instr × Nat) := [(0, .aload_n 0, 1), (1, .bipush 10, 2), (3, .iload_n 1, 1), (4, .invokevirtual 303, 3), (7, .istore_n 3, 1), (8, .aload_n 0, 1), (9, .iload_n 1, 1), (10, .iload_n 2, 1), (11, .invokevirtual 303, 3), (14, .istore 4, 2), (16, .iload_n 3, 1), (17, .bipush (-2), 2), (19, .if_icmp .eq 10, 3), (22, .iload 4, 2), (24, .bipush (-2), 2), (26, .if_icmp .ne 8, 3), (29, .bipush (-2), 2), (31, .goto 14, 3), (34, .iload_n 3, 1), (35, .iload 4, 2), (37, .iadd, 1), (38, .aload_n 0, 1), (39, .getfield 97, 3), (42, .iload_n 2, 1), (43, .iaload, 1), (44, .iadd, 1), (45, .ireturn, 1)]
theorem DX11_through : x_dk cX11_through IX11_through = true := by decide +kernel
def IX11_with : List (Nat × Instr × Nat) := [(0, .aload_n 0, 1), (1, .iload_n 1, 1), (2, .invokevirtual 123, 3), (5, .ifCond .eq 11, 3), (8, .aload_n 0, 1), (9, .iload_n 2, 1), (10, .invokevirtual 281, 3), (13, .ifCond .ne 5, 3), (16, .iconst (-1), 1), (17, .ireturn, 1), (18, .aload_n 0, 1), (19, .aload_n 0, 1), (20, .getfield 24, 3), (23, .iload_n 1, 1), (24, .iaload, 1), (25, .invokevirtual 287, 3), (28, .aload_n 0, 1), (29, .ldc 130, 2), (31, .invokevirtual 291, 3), (34, .pop, 1), (35, .aload_n 0, 1), (36, .iload_n 2, 1), (37, .bipush 10, 2), (39, .idiv, 1), (40, .iload_n 2, 1), (41, .bipush 10, 2), (43, .irem, 1), (44, .invokevirtual 306, 3), (47, .aload_n 0, 1), (48, .iload_n 2, 1), (49, .bipush 10, 2), (51, .irem, 1), (52, .iload_n 2, 1), (53, .bipush 10, 2), (55, .idiv, 1), (56, .invokevirtual 306, 3), (59, .invokestatic 263, 3), (62, .ireturn, 1)]
theorem DX11_with : x_dk cX11_with IX11_with = true := by decide +kernel
def IX11_spare : List (Nat × Instr × Nat) := [(0, .aload_n 0, 1), (1, .iload_n 1, 1), (2, .invokevirtual 123, 3), (5, .ifCond .eq 12, 3), (8, .iload_n 2, 1), (9, .iconst 0, 1), (10, .iconst 1, 1), (11, .invokestatic 116, 3), (14, .ifCond .ne 5, 3), (17, .iconst (-1), 1), (18, .ireturn, 1), (19, .aload_n 0, 1), (20, .aload_n 0, 1), (21, .getfield 24, 3), (24, .iload_n 1, 1), (25, .iaload, 1), (26, .invokevirtual 287, 3), (29, .bipush (-2), 2), (31, .istore_n 3, 1), (32, .bipush (-2), 2), (34, .istore 4, 2), (36, .iconst 0, 1), (37, .istore 5, 2), (39, .iload 5, 2), (41, .aload_n 0, 1), (42, .getfield 112, 3), (45, .if_icmp .ge 47, 3), (48, .aload_n 0, 1), (49, .ldc 130, 2), (51, .iconst 1, 1), (52, .iload 5, 2), (54, .ishl, 1), (55, .iconst (-1), 1), (56, .ixor, 1), (57, .iand, 1), (58, .invokevirtual 291, 3), (61, .istore 6, 2), (63, .iload_n 3, 1), (64, .bipush (-2), 2), (66, .if_icmp .eq 13, 3), (69, .iload 6, 2), (71, .iload 4, 2), (73, .if_icmp .lt 6, 3), (76, .goto 10, 3), (79, .iload 6, 2), (81, .istore 4, 2), (83, .iload 5, 2), (85, .istore_n 3, 1), (86, .iinc 5 1, 3), (89, .goto (-50), 3), (92, .iload_n 2, 1), (93, .ifCond .ne 7, 3), (96, .iload_n 3, 1), (97, .goto 5, 3), (100, .iload 4, 2), (102, .ireturn, 1)]
theorem DX11_spare : x_dk cX11_spare IX11_spare = true := by decide +kernel
def IX11_when : List (Nat × Instr × Nat) := [(0, .aload_n 0, 1), (1, .iload_n 1, 1), (2, .invokevirtual 127, 3), (5, .ifCond .eq 12, 3), (8, .iload_n 2, 1), (9, .iconst 0, 1), (10, .iconst 1, 1), (11, .invokestatic 116, 3), (14, .ifCond .ne 5, 3), (17, .iconst (-1), 1), (18, .ireturn, 1), (19, .iconst 0, 1), (20, .istore_n 3, 1), (21, .iconst 1, 1), (22, .istore 4, 2), (24, .iload 4, 2), (26, .bipush 100, 2), (28, .if_icmp .ge 30, 3), (31, .aload_n 0, 1), (32, .iload_n 1, 1), (33, .iload 4, 2), (35, .iconst 0, 1), (36, .invokevirtual 275, 3), (39, .aload_n 0, 1), (40, .iload_n 1, 1), (41, .iload_n 3, 1), (42, .iconst 0, 1), (43, .invokevirtual 275, 3), (46, .if_icmp .le 6, 3), (49, .iload 4, 2), (51, .istore_n 3, 1), (52, .iinc 4 1, 3), (55, .goto (-31), 3), (58, .iload_n 2, 1), (59, .ifCond .ne 7, 3), (62, .iload_n 3, 1), (63, .goto 10, 3), (66, .aload_n 0, 1), (67, .iload_n 1, 1), (68, .iload_n 3, 1), (69, .iconst 0, 1), (70, .invokevirtual 275, 3), (73, .ireturn, 1)]
theorem DX11_when : x_dk cX11_when IX11_when = true := by decide +kernel
def IX11_smallest : List (Nat × Instr × Nat) := [(0, .aload_n 0, 1), (1, .iload_n 1, 1), (2, .invokevirtual 281, 3), (5, .ifCond .eq 12, 3), (8, .iload_n 2, 1), (9, .iconst 0, 1), (10, .iconst 1, 1), (11, .invokestatic 116, 3), (14, .ifCond .ne 5, 3), (17, .iconst (-1), 1), (18, .ireturn, 1), (19, .ldc 130, 2), (21, .istore_n 3, 1), (22, .iconst 0, 1), (23, .istore 4, 2), (25, .iload 4, 2), (27, .sipush 345, 3), (30, .if_icmp .ge 135, 3), (33, .iload 4, 2), (35, .invokestatic 309, 3), (38, .ifCond .eq 20, 3), (41, .aload_n 0, 1), (42, .getfield 9, 3), (45, .iload_n 1, 1), (46, .bipush 10, 2), (48, .idiv, 1), (49, .iaload, 1), (50, .iload 4, 2), (52, .invokestatic 312, 3), (55, .goto 4, 3), (58, .iconst 0, 1), (59, .istore 5, 2), (61, .iconst 0, 1), (62, .istore 6, 2), (64, .iload 6, 2), (66, .sipush 345, 3), (69, .if_icmp .ge 90, 3), (72, .iload 5, 2), (74, .ifCond .eq 85, 3), (77, .iload 6, 2), (79, .invokestatic 309, 3), (82, .ifCond .eq 20, 3), (85, .aload_n 0, 1), (86, .getfield 9, 3), (89, .iload_n 1, 1), (90, .bipush 10, 2), (92, .irem, 1), (93, .iaload, 1), (94, .iload 6, 2), (96, .invokestatic 312, 3), (99, .goto 4, 3), (102, .iconst 0, 1), (103, .istore 7, 2), (105, .iload 7, 2), (107, .ifCond .ne 6, 3), (110, .goto 43, 3), (113, .iload 7, 2), (115, .iload 5, 2), (117, .ior, 1), (118, .istore 7, 2)]
theorem DX11_smallest : x_dk cX11_smallest IX11_smallest = true := by decide +kernel
def IX11_smallest_1 : List (Nat × Instr × Nat) := [(120, .iload 7, 2), (122, .invokestatic 156, 3), (125, .iload_n 3, 1), (126, .invokestatic 156, 3), (129, .if_icmp .lt 21, 3), (132, .iload 7, 2), (134, .invokestatic 156, 3), (137, .iload_n 3, 1), (138, .invokestatic 156, 3), (141, .if_icmp .ne 12, 3), (144, .iload 7, 2), (146, .iload_n 3, 1), (147, .if_icmp .ge 6, 3), (150, .iload 7, 2), (152, .istore_n 3, 1), (153, .iinc 6 1, 3), (156, .goto (-92), 3), (159, .iinc 4 1, 3), (162, .goto (-137), 3), (165, .iload_n 2, 1), (166, .ifCond .ne 10, 3), (169, .iload_n 3, 1), (170, .invokestatic 156, 3), (173, .goto 4, 3), (176, .iload_n 3, 1), (177, .ireturn, 1)]
theorem DX11_smallest_1 : x_dk cX11_smallest IX11_smallest_1 = true := by decide +kernel
def IX11_leave : List (Nat × Instr × Nat) := [(0, .aload_n 0, 1), (1, .iload_n 1, 1), (2, .invokevirtual 123, 3), (5, .ifCond .eq 12, 3), (8, .iload_n 2, 1), (9, .iconst 0, 1), (10, .iconst 1, 1), (11, .invokestatic 116, 3), (14, .ifCond .ne 5, 3), (17, .iconst (-1), 1), (18, .ireturn, 1), (19, .aload_n 0, 1), (20, .aload_n 0, 1), (21, .getfield 24, 3), (24, .iload_n 1, 1), (25, .iaload, 1), (26, .invokevirtual 287, 3), (29, .bipush (-2), 2), (31, .istore_n 3, 1), (32, .iconst 0, 1), (33, .istore 4, 2), (35, .iload 4, 2), (37, .aload_n 0, 1), (38, .getfield 112, 3), (41, .if_icmp .ge 55, 3), (44, .aload_n 0, 1), (45, .getfield 94, 3), (48, .bipush 10, 2), (50, .iaload, 1), (51, .iload 4, 2), (53, .invokestatic 138, 3), (56, .ifCond .eq 34, 3), (59, .iload_n 3, 1), (60, .bipush (-2), 2), (62, .if_icmp .eq 25, 3), (65, .aload_n 0, 1), (66, .getfield 94, 3), (69, .iload 4, 2), (71, .iaload, 1), (72, .invokestatic 156, 3), (75, .aload_n 0, 1), (76, .getfield 94, 3), (79, .iload_n 3, 1), (80, .iaload, 1), (81, .invokestatic 156, 3), (84, .if_icmp .le 6, 3), (87, .iload 4, 2), (89, .istore_n 3, 1), (90, .iinc 4 1, 3), (93, .goto (-58), 3), (96, .iload_n 3, 1), (97, .bipush (-2), 2), (99, .if_icmp .eq 7, 3), (102, .iload_n 2, 1), (103, .ifCond .ne 7, 3), (106, .iload_n 3, 1), (107, .goto 12, 3), (110, .aload_n 0, 1), (111, .getfield 94, 3), (114, .iload_n 3, 1)]
theorem DX11_leave : x_dk cX11_leave IX11_leave = true := by decide +kernel
def IX11_leave_1 : List (Nat × Instr × Nat) := [(115, .iaload, 1), (116, .invokestatic 156, 3), (119, .ireturn, 1)]
theorem DX11_leave_1 : x_dk cX11_leave IX11_leave_1 = true := by decide +kernel
def IX11_plays : List (Nat × Instr × Nat) := [(0, .aload_n 0, 1), (1, .getfield 106, 3), (4, .iload_n 1, 1), (5, .iconst 0, 1), (6, .iastore, 1), (7, .aload_n 0, 1), (8, .getfield 109, 3), (11, .iload_n 1, 1), (12, .iconst 0, 1), (13, .iastore, 1), (14, .iconst 0, 1), (15, .istore_n 2, 1), (16, .iload_n 2, 1), (17, .aload_n 0, 1), (18, .getfield 112, 3), (21, .if_icmp .ge 124, 3), (24, .aload_n 0, 1), (25, .getfield 94, 3), (28, .iload_n 1, 1), (29, .iaload, 1), (30, .iload_n 2, 1), (31, .invokestatic 138, 3), (34, .ifCond .ne 6, 3), (37, .goto 102, 3), (40, .aload_n 0, 1), (41, .getfield 106, 3), (44, .iload_n 2, 1), (45, .iaload, 1), (46, .ifCond .ne 7, 3), (49, .iconst 1, 1), (50, .goto 4, 3), (53, .iconst 0, 1), (54, .istore_n 3, 1), (55, .iload_n 3, 1), (56, .ifCond .eq 32, 3), (59, .aload_n 0, 1), (60, .getfield 106, 3), (63, .iload_n 1, 1), (64, .iaload, 1), (65, .ifCond .eq 49, 3), (68, .aload_n 0, 1), (69, .getfield 109, 3), (72, .iload_n 2, 1), (73, .iaload, 1), (74, .iconst 1, 1), (75, .iadd, 1), (76, .aload_n 0, 1), (77, .getfield 109, 3), (80, .iload_n 1, 1), (81, .iaload, 1), (82, .if_icmp .ge 46, 3), (85, .goto 29, 3), (88, .aload_n 0, 1), (89, .getfield 106, 3), (92, .iload_n 1, 1), (93, .iaload, 1), (94, .ifCond .ne 34, 3), (97, .aload_n 0, 1), (98, .getfield 109, 3), (101, .iload_n 2, 1)]
theorem DX11_plays : x_dk cX11_plays IX11_plays = true := by decide +kernel
def IX11_plays_1 : List (Nat × Instr × Nat) := [(102, .iaload, 1), (103, .iconst 1, 1), (104, .iadd, 1), (105, .aload_n 0, 1), (106, .getfield 109, 3), (109, .iload_n 1, 1), (110, .iaload, 1), (111, .if_icmp .le 17, 3), (114, .aload_n 0, 1), (115, .getfield 109, 3), (118, .iload_n 1, 1), (119, .aload_n 0, 1), (120, .getfield 109, 3), (123, .iload_n 2, 1), (124, .iaload, 1), (125, .iconst 1, 1), (126, .iadd, 1), (127, .iastore, 1), (128, .iload_n 3, 1), (129, .ifCond .eq 10, 3), (132, .aload_n 0, 1), (133, .getfield 106, 3), (136, .iload_n 1, 1), (137, .iconst 1, 1), (138, .iastore, 1), (139, .iinc 2 1, 3), (142, .goto (-126), 3), (145, .return_, 1)]
theorem DX11_plays_1 : x_dk cX11_plays IX11_plays_1 = true := by decide +kernel
def IX11_byTurns : List (Nat × Instr × Nat) := [(0, .aload_n 0, 1), (1, .iload_n 1, 1), (2, .invokevirtual 123, 3), (5, .ifCond .eq 12, 3), (8, .iload_n 2, 1), (9, .iconst 0, 1), (10, .iconst 2, 1), (11, .invokestatic 116, 3), (14, .ifCond .ne 5, 3), (17, .iconst (-1), 1), (18, .ireturn, 1), (19, .aload_n 0, 1), (20, .aload_n 0, 1), (21, .getfield 24, 3), (24, .iload_n 1, 1), (25, .iaload, 1), (26, .invokevirtual 287, 3), (29, .iconst 0, 1), (30, .istore_n 3, 1), (31, .iload_n 3, 1), (32, .bipush 26, 2), (34, .if_icmp .ge 47, 3), (37, .iconst 0, 1), (38, .istore 4, 2), (40, .iload 4, 2), (42, .aload_n 0, 1), (43, .getfield 112, 3), (46, .if_icmp .ge 29, 3), (49, .aload_n 0, 1), (50, .getfield 9, 3), (53, .iload 4, 2), (55, .iaload, 1), (56, .invokestatic 156, 3), (59, .iload_n 3, 1), (60, .if_icmp .ne 9, 3), (63, .aload_n 0, 1), (64, .iload 4, 2), (66, .invokevirtual 315, 3), (69, .iinc 4 1, 3), (72, .goto (-32), 3), (75, .iinc 3 1, 3), (78, .goto (-47), 3), (81, .aload_n 0, 1), (82, .bipush 10, 2), (84, .invokevirtual 315, 3), (87, .iload_n 2, 1), (88, .iconst 1, 1), (89, .if_icmp .eq 25, 3), (92, .iload_n 2, 1), (93, .ifCond .ne 13, 3), (96, .aload_n 0, 1), (97, .getfield 106, 3), (100, .bipush 10, 2), (102, .iaload, 1), (103, .goto 10, 3), (106, .aload_n 0, 1), (107, .getfield 109, 3), (110, .bipush 10, 2), (112, .iaload, 1), (113, .ireturn, 1)]
theorem DX11_byTurns : x_dk cX11_byTurns IX11_byTurns = true := by decide +kernel
def IX11_byTurns_1 : List (Nat × Instr × Nat) := [(114, .iconst 0, 1), (115, .istore_n 3, 1), (116, .iload_n 3, 1), (117, .aload_n 0, 1), (118, .getfield 112, 3), (121, .if_icmp .ge 34, 3), (124, .aload_n 0, 1), (125, .getfield 94, 3), (128, .bipush 10, 2), (130, .iaload, 1), (131, .iload_n 3, 1), (132, .invokestatic 138, 3), (135, .ifCond .eq 14, 3), (138, .aload_n 0, 1), (139, .getfield 106, 3), (142, .iload_n 3, 1), (143, .iaload, 1), (144, .ifCond .ne 5, 3), (147, .iload_n 3, 1), (148, .ireturn, 1), (149, .iinc 3 1, 3), (152, .goto (-36), 3), (155, .bipush (-2), 2), (157, .ireturn, 1)]
theorem DX11_byTurns_1 : x_dk cX11_byTurns IX11_byTurns_1 = true := by decide +kernel
def IX11_egg : List (Nat × Instr × Nat) := [(0, .iload_n 1, 1), (1, .invokestatic 168, 3), (4, .ifCond .eq 12, 3), (7, .iload_n 2, 1), (8, .iconst 0, 1), (9, .iconst 2, 1), (10, .invokestatic 116, 3), (13, .ifCond .ne 5, 3), (16, .iconst (-1), 1), (17, .ireturn, 1), (18, .iload_n 2, 1), (19, .iconst 2, 1), (20, .if_icmp .ne 8, 3), (23, .iload_n 1, 1), (24, .invokestatic 156, 3), (27, .ireturn, 1), (28, .iload_n 2, 1), (29, .ifCond .ne 9, 3), (32, .aload_n 0, 1), (33, .iload_n 1, 1), (34, .invokevirtual 165, 3), (37, .ireturn, 1), (38, .iconst 0, 1), (39, .istore_n 3, 1), (40, .iconst 0, 1), (41, .istore 4, 2), (43, .iload 4, 2), (45, .aload_n 0, 1), (46, .getfield 112, 3), (49, .if_icmp .ge 33, 3), (52, .iload_n 1, 1), (53, .aload_n 0, 1), (54, .getfield 9, 3), (57, .iload 4, 2), (59, .iaload, 1), (60, .iconst 1, 1), (61, .invokestatic 159, 3), (64, .bipush (-2), 2), (66, .if_icmp .eq 10, 3), (69, .iload_n 3, 1), (70, .iconst 1, 1), (71, .iload 4, 2), (73, .ishl, 1), (74, .ior, 1), (75, .istore_n 3, 1), (76, .iinc 4 1, 3), (79, .goto (-36), 3), (82, .iload_n 3, 1), (83, .ireturn, 1)]
theorem DX11_egg : x_dk cX11_egg IX11_egg = true := by decide +kernel
def IX11_noRow : List (Nat × Instr × Nat) := [(0, .aload_n 0, 1), (1, .getfield 84, 3), (4, .iload_n 1, 1), (5, .iaload, 1), (6, .iconst (-1), 1), (7, .if_icmp .ne 8, 3), (10, .bipush (-11), 2), (12, .goto 18, 3), (15, .aload_n 0, 1), (16, .getfield 84, 3), (19, .iload_n 1, 1), (20, .iaload, 1), (21, .ifCond .eq 8, 3), (24, .bipush (-12), 2), (26, .goto 4, 3), (29, .iconst 0, 1), (30, .ireturn, 1)]
theorem DX11_noRow : x_dk cX11_noRow IX11_noRow = true := by decide +kernel
def IX11_toldAt : List (Nat × Instr × Nat) := [(0, .aload_n 0, 1), (1, .getfield 90, 3), (4, .bipush 60, 2), (6, .iload_n 1, 1), (7, .imul, 1), (8, .iload_n 2, 1), (9, .iadd, 1), (10, .laload, 1), (11, .l2i, 1), (12, .ireturn, 1)]
theorem DX11_toldAt : x_dk cX11_toldAt IX11_toldAt = true := by decide +kernel
def IX11_asTold : List (Nat × Instr × Nat) := [(0, .aload_n 0, 1), (1, .iload_n 1, 1), (2, .iload_n 2, 1), (3, .invokevirtual 318, 3), (6, .istore 4, 2), (8, .iload 4, 2), (10, .iconst (-1), 1), (11, .if_icmp .ne 7, 3), (14, .iload_n 3, 1), (15, .goto 22, 3), (18, .aload_n 0, 1), (19, .iload 4, 2), (21, .invokevirtual 127, 3), (24, .ifCond .eq 12, 3), (27, .iload_n 3, 1), (28, .iconst 1, 1), (29, .iload 4, 2), (31, .ishl, 1), (32, .iand, 1), (33, .goto 4, 3), (36, .iconst 0, 1), (37, .ireturn, 1)]
theorem DX11_asTold : x_dk cX11_asTold IX11_asTold = true := by decide +kernel
def IX11_nextOf : List (Nat × Instr × Nat) := [(0, .iconst 0, 1), (1, .istore_n 2, 1), (2, .iconst 0, 1), (3, .istore_n 3, 1), (4, .iload_n 3, 1), (5, .aload_n 0, 1), (6, .getfield 112, 3), (9, .if_icmp .ge 26, 3), (12, .iload_n 1, 1), (13, .iload_n 3, 1), (14, .invokestatic 138, 3), (17, .ifCond .eq 12, 3), (20, .iload_n 2, 1), (21, .aload_n 0, 1), (22, .getfield 94, 3), (25, .iload_n 3, 1), (26, .iaload, 1), (27, .ior, 1), (28, .istore_n 2, 1), (29, .iinc 3 1, 3), (32, .goto (-28), 3), (35, .iload_n 2, 1), (36, .ireturn, 1)]
theorem DX11_nextOf : x_dk cX11_nextOf IX11_nextOf = true := by decide +kernel
def IX11_canBe : List (Nat × Instr × Nat) := [(0, .aload_n 0, 1), (1, .iload_n 1, 1), (2, .iconst 0, 1), (3, .aload_n 0, 1), (4, .getfield 94, 3), (7, .bipush 10, 2), (9, .iaload, 1), (10, .invokevirtual 321, 3), (13, .istore_n 3, 1), (14, .iconst 1, 1), (15, .istore 4, 2), (17, .iload 4, 2), (19, .iload_n 2, 1), (20, .if_icmp .gt 22, 3), (23, .aload_n 0, 1), (24, .iload_n 1, 1), (25, .iload 4, 2), (27, .aload_n 0, 1), (28, .iload_n 3, 1), (29, .invokevirtual 324, 3), (32, .invokevirtual 321, 3), (35, .istore_n 3, 1), (36, .iinc 4 1, 3), (39, .goto (-22), 3), (42, .iload_n 3, 1), (43, .ireturn, 1)]
theorem DX11_canBe : x_dk cX11_canBe IX11_canBe = true := by decide +kernel
def IX11_judge : List (Nat × Instr × Nat) := [(0, .iload_n 1, 1), (1, .invokestatic 174, 3), (4, .ifCond .eq 11, 3), (7, .aload_n 0, 1), (8, .iload_n 2, 1), (9, .invokevirtual 123, 3), (12, .ifCond .ne 5, 3), (15, .iconst (-1), 1), (16, .ireturn, 1), (17, .aload_n 0, 1), (18, .iload_n 1, 1), (19, .invokevirtual 327, 3), (22, .istore_n 3, 1), (23, .iload_n 3, 1), (24, .ifCond .ge 5, 3), (27, .iload_n 3, 1), (28, .ireturn, 1), (29, .aload_n 0, 1), (30, .aload_n 0, 1), (31, .getfield 24, 3), (34, .iload_n 2, 1), (35, .iaload, 1), (36, .invokevirtual 287, 3), (39, .iconst 0, 1), (40, .istore 4, 2), (42, .iload 4, 2), (44, .aload_n 0, 1), (45, .getfield 87, 3), (48, .iload_n 1, 1), (49, .iaload, 1), (50, .if_icmp .ge 22, 3), (53, .aload_n 0, 1), (54, .iload_n 1, 1), (55, .iload 4, 2), (57, .invokevirtual 330, 3), (60, .ifCond .ne 6, 3), (63, .iload 4, 2), (65, .ireturn, 1), (66, .iinc 4 1, 3), (69, .goto (-27), 3), (72, .bipush (-2), 2), (74, .ireturn, 1)]
theorem DX11_judge : x_dk cX11_judge IX11_judge = true := by decide +kernel
def IX11_waysOn : List (Nat × Instr × Nat) := [(0, .iload_n 2, 1), (1, .aload_n 0, 1), (2, .getfield 87, 3), (5, .iload_n 1, 1), (6, .iaload, 1), (7, .if_icmp .ne 5, 3), (10, .iconst 1, 1), (11, .ireturn, 1), (12, .aload_n 0, 1), (13, .iload_n 1, 1), (14, .iload_n 2, 1), (15, .aload_n 0, 1), (16, .getfield 94, 3), (19, .iload_n 3, 1), (20, .iaload, 1), (21, .invokevirtual 321, 3), (24, .istore 4, 2), (26, .iconst 0, 1), (27, .istore 5, 2), (29, .iconst 0, 1), (30, .istore 6, 2), (32, .iload 6, 2), (34, .aload_n 0, 1), (35, .getfield 112, 3), (38, .if_icmp .ge 40, 3), (41, .iload 4, 2), (43, .iload 6, 2), (45, .invokestatic 138, 3), (48, .ifCond .eq 24, 3), (51, .sipush 9999, 3), (54, .iload 5, 2), (56, .aload_n 0, 1), (57, .iload_n 1, 1), (58, .iload_n 2, 1), (59, .iconst 1, 1), (60, .iadd, 1), (61, .iload 6, 2), (63, .invokevirtual 333, 3), (66, .iadd, 1), (67, .invokestatic 269, 3), (70, .istore 5, 2), (72, .iinc 6 1, 3), (75, .goto (-43), 3), (78, .iload 5, 2), (80, .ireturn, 1)]
theorem DX11_waysOn : x_dk cX11_waysOn IX11_waysOn = true := by decide +kernel
def IX11_firstUnknown : List (Nat × Instr × Nat) := [(0, .bipush 10, 2), (2, .istore_n 2, 1), (3, .iconst 0, 1), (4, .istore_n 3, 1), (5, .iload_n 3, 1), (6, .aload_n 0, 1), (7, .getfield 87, 3), (10, .iload_n 1, 1), (11, .iaload, 1), (12, .if_icmp .ge 71, 3), (15, .aload_n 0, 1), (16, .iload_n 1, 1), (17, .iload_n 3, 1), (18, .aload_n 0, 1), (19, .getfield 94, 3), (22, .iload_n 2, 1), (23, .iaload, 1), (24, .invokevirtual 321, 3), (27, .istore 4, 2), (29, .iconst 0, 1), (30, .istore 5, 2), (32, .iload 4, 2), (34, .iload 5, 2), (36, .invokestatic 138, 3), (39, .ifCond .eq 16, 3), (42, .aload_n 0, 1), (43, .iload_n 1, 1), (44, .iload_n 3, 1), (45, .iconst 1, 1), (46, .iadd, 1), (47, .iload 5, 2), (49, .invokevirtual 333, 3), (52, .ifCond .ne 9, 3), (55, .iinc 5 1, 3), (58, .goto (-26), 3), (61, .aload_n 0, 1), (62, .iload_n 1, 1), (63, .iload_n 3, 1), (64, .invokevirtual 318, 3), (67, .iconst (-1), 1), (68, .if_icmp .ne 6, 3), (71, .iload 5, 2), (73, .ireturn, 1), (74, .iload 5, 2), (76, .istore_n 2, 1), (77, .iinc 3 1, 3), (80, .goto (-75), 3), (83, .bipush (-2), 2), (85, .ireturn, 1)]
theorem DX11_firstUnknown : x_dk cX11_firstUnknown IX11_firstUnknown = true := by decide +kernel
def IX11_filled : List (Nat × Instr × Nat) := [(0, .iload_n 1, 1), (1, .invokestatic 174, 3), (4, .ifCond .eq 20, 3), (7, .aload_n 0, 1), (8, .iload_n 2, 1), (9, .invokevirtual 123, 3), (12, .ifCond .eq 12, 3), (15, .iload_n 3, 1), (16, .iconst 0, 1), (17, .iconst 1, 1), (18, .invokestatic 116, 3), (21, .ifCond .ne 5, 3), (24, .iconst (-1), 1), (25, .ireturn, 1), (26, .aload_n 0, 1), (27, .iload_n 1, 1), (28, .invokevirtual 327, 3), (31, .istore 4, 2), (33, .iload 4, 2), (35, .ifCond .ge 6, 3), (38, .iload 4, 2), (40, .ireturn, 1), (41, .aload_n 0, 1), (42, .aload_n 0, 1), (43, .getfield 24, 3), (46, .iload_n 2, 1), (47, .iaload, 1), (48, .invokevirtual 287, 3), (51, .aload_n 0, 1), (52, .iload_n 1, 1), (53, .iconst 0, 1), (54, .bipush 10, 2), (56, .invokevirtual 333, 3), (59, .istore 5, 2), (61, .iload_n 3, 1), (62, .ifCond .ne 6, 3), (65, .iload 5, 2), (67, .ireturn, 1), (68, .iload 5, 2), (70, .ifCond .ne 8, 3), (73, .bipush (-2), 2), (75, .goto 8, 3), (78, .aload_n 0, 1), (79, .iload_n 1, 1), (80, .invokevirtual 336, 3), (83, .ireturn, 1)]
theorem DX11_filled : x_dk cX11_filled IX11_filled = true := by decide +kernel
def IX11_last : List (Nat × Instr × Nat) := [(0, .iload_n 1, 1), (1, .invokestatic 174, 3), (4, .ifCond .eq 11, 3), (7, .aload_n 0, 1), (8, .iload_n 2, 1), (9, .invokevirtual 123, 3), (12, .ifCond .ne 5, 3), (15, .iconst (-1), 1), (16, .ireturn, 1), (17, .aload_n 0, 1), (18, .iload_n 1, 1), (19, .invokevirtual 327, 3), (22, .istore_n 3, 1), (23, .iload_n 3, 1), (24, .ifCond .ge 5, 3), (27, .iload_n 3, 1), (28, .ireturn, 1), (29, .aload_n 0, 1), (30, .aload_n 0, 1), (31, .getfield 24, 3), (34, .iload_n 2, 1), (35, .iaload, 1), (36, .invokevirtual 287, 3), (39, .aload_n 0, 1), (40, .getfield 87, 3), (43, .iload_n 1, 1), (44, .iaload, 1), (45, .ifCond .ne 7, 3), (48, .iconst 0, 1), (49, .goto 16, 3), (52, .aload_n 0, 1), (53, .iload_n 1, 1), (54, .aload_n 0, 1), (55, .getfield 87, 3), (58, .iload_n 1, 1), (59, .iaload, 1), (60, .iconst 1, 1), (61, .isub, 1), (62, .invokevirtual 330, 3), (65, .ireturn, 1)]
theorem DX11_last : x_dk cX11_last IX11_last = true := by decide +kernel
def IX11_drawn : List (Nat × Instr × Nat) := [(0, .aload_n 0, 1), (1, .iload_n 1, 1), (2, .invokevirtual 123, 3), (5, .ifCond .eq 28, 3), (8, .iload_n 3, 1), (9, .iconst 1, 1), (10, .bipush 50, 2), (12, .invokestatic 116, 3), (15, .ifCond .eq 18, 3), (18, .iload 4, 2), (20, .iconst (-1), 1), (21, .aload_n 0, 1), (22, .getfield 112, 3), (25, .iconst 1, 1), (26, .isub, 1), (27, .invokestatic 116, 3), (30, .ifCond .ne 5, 3), (33, .iconst (-1), 1), (34, .ireturn, 1), (35, .aload_n 0, 1), (36, .aload_n 0, 1), (37, .getfield 24, 3), (40, .iload_n 1, 1), (41, .iaload, 1), (42, .invokevirtual 287, 3), (45, .iload_n 2, 1), (46, .istore 5, 2), (48, .iconst 0, 1), (49, .istore 6, 2), (51, .iconst 0, 1), (52, .istore 7, 2), (54, .iconst 0, 1), (55, .istore 8, 2), (57, .iload 8, 2), (59, .iload_n 3, 1), (60, .if_icmp .ge 79, 3), (63, .bipush 10, 2), (65, .istore 9, 2), (67, .aload_n 0, 1), (68, .getfield 94, 3), (71, .iload 9, 2), (73, .iaload, 1), (74, .ifCond .eq 49, 3), (77, .iload 5, 2), (79, .ldc_w 339, 3), (82, .imul, 1), (83, .sipush 12345, 3), (86, .iadd, 1), (87, .istore 5, 2), (89, .aload_n 0, 1), (90, .getfield 94, 3), (93, .iload 9, 2), (95, .iaload, 1), (96, .iload 5, 2), (98, .bipush 8, 2), (100, .iushr, 1), (101, .aload_n 0, 1), (102, .getfield 94, 3), (105, .iload 9, 2), (107, .iaload, 1)]
theorem DX11_drawn : x_dk cX11_drawn IX11_drawn = true := by decide +kernel
def IX11_drawn_1 : List (Nat × Instr × Nat) := [(108, .invokestatic 156, 3), (111, .irem, 1), (112, .invokestatic 340, 3), (115, .istore 9, 2), (117, .iinc 6 1, 3), (120, .goto (-53), 3), (123, .iload 9, 2), (125, .iload 4, 2), (127, .if_icmp .ne 6, 3), (130, .iinc 7 1, 3), (133, .iinc 8 1, 3), (136, .goto (-79), 3), (139, .iload 4, 2), (141, .ifCond .ge 8, 3), (144, .iload 6, 2), (146, .goto 5, 3), (149, .iload 7, 2), (151, .ireturn, 1)]
theorem DX11_drawn_1 : x_dk cX11_drawn IX11_drawn_1 = true := by decide +kernel
def IX11_pick : List (Nat × Instr × Nat) := [(0, .iconst 0, 1), (1, .istore_n 2, 1), (2, .iload_n 1, 1), (3, .istore_n 3, 1), (4, .iload_n 0, 1), (5, .iload_n 2, 1), (6, .invokestatic 138, 3), (9, .ifCond .eq 7, 3), (12, .iload_n 3, 1), (13, .ifCond .le 20, 3), (16, .iload_n 0, 1), (17, .iload_n 2, 1), (18, .invokestatic 138, 3), (21, .ifCond .eq 6, 3), (24, .iinc 3 (-1), 3), (27, .iinc 2 1, 3), (30, .goto (-26), 3), (33, .iload_n 2, 1), (34, .ireturn, 1)]
theorem DX11_pick : x_dk cX11_pick IX11_pick = true := by decide +kernel
def IX11_cut : List (Nat × Instr × Nat) := [(0, .aload_n 0, 1), (1, .iload_n 1, 1), (2, .invokevirtual 278, 3), (5, .ifCond .ne 5, 3), (8, .iconst (-1), 1), (9, .ireturn, 1), (10, .iload_n 1, 1), (11, .bipush 10, 2), (13, .idiv, 1), (14, .istore_n 2, 1), (15, .iload_n 1, 1), (16, .bipush 10, 2), (18, .irem, 1), (19, .istore_n 3, 1), (20, .aload_n 0, 1), (21, .getfield 9, 3), (24, .iload_n 3, 1), (25, .iaload, 1), (26, .aload_n 0, 1), (27, .getfield 24, 3), (30, .iload_n 2, 1), (31, .iaload, 1), (32, .invokestatic 162, 3), (35, .ifCond .ne 6, 3), (38, .bipush (-5), 2), (40, .ireturn, 1), (41, .aload_n 0, 1), (42, .iload_n 3, 1), (43, .aload_n 0, 1), (44, .getfield 192, 3), (47, .aload_n 0, 1), (48, .getfield 27, 3), (51, .iload_n 2, 1), (52, .iaload, 1), (53, .invokevirtual 275, 3), (56, .istore 4, 2), (58, .aload_n 0, 1), (59, .getfield 63, 3), (62, .iconst 0, 1), (63, .dup2, 1), (64, .iaload, 1), (65, .iconst 1, 1), (66, .iadd, 1), (67, .iastore, 1), (68, .aload_n 0, 1), (69, .getfield 63, 3), (72, .iconst 1, 1), (73, .dup2, 1), (74, .iaload, 1), (75, .aload_n 0, 1), (76, .getfield 24, 3), (79, .iload_n 2, 1), (80, .iaload, 1), (81, .invokestatic 156, 3), (84, .aload_n 0, 1), (85, .getfield 9, 3), (88, .iload_n 3, 1), (89, .iaload, 1), (90, .invokestatic 156, 3), (93, .isub, 1)]
theorem DX11_cut : x_dk cX11_cut IX11_cut = true := by decide +kernel
def IX11_cut_1 : List (Nat × Instr × Nat) := [(94, .iadd, 1), (95, .iastore, 1), (96, .aload_n 0, 1), (97, .getfield 63, 3), (100, .iconst 2, 1), (101, .dup2, 1), (102, .iaload, 1), (103, .iload 4, 2), (105, .iadd, 1), (106, .iastore, 1), (107, .aload_n 0, 1), (108, .getfield 24, 3), (111, .iload_n 2, 1), (112, .aload_n 0, 1), (113, .getfield 9, 3), (116, .iload_n 3, 1), (117, .iaload, 1), (118, .aload_n 0, 1), (119, .getfield 9, 3), (122, .iload_n 3, 1), (123, .iaload, 1), (124, .aload_n 0, 1), (125, .getfield 24, 3), (128, .iload_n 2, 1), (129, .iaload, 1), (130, .iconst 1, 1), (131, .invokestatic 159, 3), (134, .invokestatic 312, 3), (137, .iastore, 1), (138, .aload_n 0, 1), (139, .getfield 27, 3), (142, .iload_n 2, 1), (143, .dup2, 1), (144, .iaload, 1), (145, .iconst 1, 1), (146, .iadd, 1), (147, .iastore, 1), (148, .iload 4, 2), (150, .ireturn, 1)]
theorem DX11_cut_1 : x_dk cX11_cut IX11_cut_1 = true := by decide +kernel
def IX11_pass : List (Nat × Instr × Nat) := [(0, .iload_n 1, 1), (1, .iconst 1, 1), (2, .bipush 99, 2), (4, .invokestatic 116, 3), (7, .ifCond .ne 5, 3), (10, .iconst (-1), 1), (11, .ireturn, 1), (12, .aload_n 0, 1), (13, .getfield 192, 3), (16, .iload_n 1, 1), (17, .iadd, 1), (18, .bipush 99, 2), (20, .if_icmp .le 6, 3), (23, .bipush (-5), 2), (25, .ireturn, 1), (26, .aload_n 0, 1), (27, .dup, 1), (28, .getfield 192, 3), (31, .iload_n 1, 1), (32, .iadd, 1), (33, .putfield 192, 3), (36, .aload_n 0, 1), (37, .getfield 192, 3), (40, .ireturn, 1)]
theorem DX11_pass : x_dk cX11_pass IX11_pass = true := by decide +kernel
def IX11_led : List (Nat × Instr × Nat) := [(0, .iload_n 1, 1), (1, .iconst 3, 1), (2, .if_icmp .ne 10, 3), (5, .aload_n 0, 1), (6, .getfield 192, 3), (9, .goto 22, 3), (12, .iload_n 1, 1), (13, .iconst 0, 1), (14, .iconst 2, 1), (15, .invokestatic 116, 3), (18, .ifCond .eq 12, 3), (21, .aload_n 0, 1), (22, .getfield 63, 3), (25, .iload_n 1, 1), (26, .iaload, 1), (27, .goto 4, 3), (30, .iconst (-1), 1), (31, .ireturn, 1)]
theorem DX11_led : x_dk cX11_led IX11_led = true := by decide +kernel
def IX11_image : List (Nat × Instr × Nat) := [(0, .aload_n 0, 1), (1, .iconst 1, 1), (2, .putfield 343, 3), (5, .aload_n 0, 1), (6, .aload_n 0, 1), (7, .getfield 120, 3), (10, .putfield 346, 3), (13, .aload_n 0, 1), (14, .aload_n 0, 1), (15, .getfield 192, 3), (18, .putfield 349, 3), (21, .iconst 0, 1), (22, .istore_n 1, 1), (23, .iload_n 1, 1), (24, .bipush 6, 2), (26, .if_icmp .ge 33, 3), (29, .aload_n 0, 1), (30, .getfield 66, 3), (33, .iload_n 1, 1), (34, .aload_n 0, 1), (35, .getfield 24, 3), (38, .iload_n 1, 1), (39, .iaload, 1), (40, .iastore, 1), (41, .aload_n 0, 1), (42, .getfield 69, 3), (45, .iload_n 1, 1), (46, .aload_n 0, 1), (47, .getfield 27, 3), (50, .iload_n 1, 1), (51, .iaload, 1), (52, .iastore, 1), (53, .iinc 1 1, 3), (56, .goto (-33), 3), (59, .iconst 0, 1), (60, .istore_n 1, 1), (61, .iload_n 1, 1), (62, .iconst 3, 1), (63, .if_icmp .ge 21, 3), (66, .aload_n 0, 1), (67, .getfield 72, 3), (70, .iload_n 1, 1), (71, .aload_n 0, 1), (72, .getfield 63, 3), (75, .iload_n 1, 1), (76, .iaload, 1), (77, .iastore, 1), (78, .iinc 1 1, 3), (81, .goto (-20), 3), (84, .aload_n 0, 1), (85, .getfield 63, 3), (88, .iconst 0, 1), (89, .iaload, 1), (90, .ireturn, 1)]
theorem DX11_image : x_dk cX11_image IX11_image = true := by decide +kernel
def IX11_back : List (Nat × Instr × Nat) := [(0, .aload_n 0, 1), (1, .getfield 343, 3), (4, .ifCond .ne 6, 3), (7, .bipush (-5), 2), (9, .ireturn, 1), (10, .aload_n 0, 1), (11, .aload_n 0, 1), (12, .getfield 349, 3), (15, .putfield 192, 3), (18, .iconst 0, 1), (19, .istore_n 1, 1), (20, .iload_n 1, 1), (21, .aload_n 0, 1), (22, .getfield 346, 3), (25, .if_icmp .ge 33, 3), (28, .aload_n 0, 1), (29, .getfield 24, 3), (32, .iload_n 1, 1), (33, .aload_n 0, 1), (34, .getfield 66, 3), (37, .iload_n 1, 1), (38, .iaload, 1), (39, .iastore, 1), (40, .aload_n 0, 1), (41, .getfield 27, 3), (44, .iload_n 1, 1), (45, .aload_n 0, 1), (46, .getfield 69, 3), (49, .iload_n 1, 1), (50, .iaload, 1), (51, .iastore, 1), (52, .iinc 1 1, 3), (55, .goto (-35), 3), (58, .iconst 0, 1), (59, .istore_n 1, 1), (60, .iload_n 1, 1), (61, .iconst 3, 1), (62, .if_icmp .ge 21, 3), (65, .aload_n 0, 1), (66, .getfield 63, 3), (69, .iload_n 1, 1), (70, .aload_n 0, 1), (71, .getfield 72, 3), (74, .iload_n 1, 1), (75, .iaload, 1), (76, .iastore, 1), (77, .iinc 1 1, 3), (80, .goto (-20), 3), (83, .aload_n 0, 1), (84, .getfield 63, 3), (87, .iconst 0, 1), (88, .iaload, 1), (89, .ireturn, 1)]
theorem DX11_back : x_dk cX11_back IX11_back = true := by decide +kernel
def IX11_above : List (Nat × Instr × Nat) := [(0, .iload_n 0, 1), (1, .tableswitch 43 3 7 #[35, 37, 39, 43, 41], 35), (36, .iconst 2, 1), (37, .ireturn, 1), (38, .iconst 1, 1), (39, .ireturn, 1), (40, .iconst 3, 1), (41, .ireturn, 1), (42, .iconst 4, 1), (43, .ireturn, 1), (44, .iconst 0, 1), (45, .ireturn, 1)]
theorem DX11_above : x_dk cX11_above IX11_above = true := by decide +kernel
def IX11_ran : List (Nat × Instr × Nat) := [(0, .aload_n 0, 1), (1, .getfield 352, 3), (4, .bipush 24, 2), (6, .if_icmp .ge 13, 3), (9, .aload_n 0, 1), (10, .getfield 81, 3), (13, .aload_n 0, 1), (14, .getfield 352, 3), (17, .iload_n 1, 1), (18, .iastore, 1), (19, .aload_n 0, 1), (20, .dup, 1), (21, .getfield 352, 3), (24, .iconst 1, 1), (25, .iadd, 1), (26, .putfield 352, 3), (29, .return_, 1)]
theorem DX11_ran : x_dk cX11_ran IX11_ran = true := by decide +kernel
def IX11_cutsBy : List (Nat × Instr × Nat) := [(0, .iload_n 2, 1), (1, .lookupswitch 76 #[(0, 35), (1, 44), (6, 60)], 35), (36, .aload_n 0, 1), (37, .iconst 1, 1), (38, .invokevirtual 355, 3), (41, .iload_n 3, 1), (42, .iload_n 1, 1), (43, .iadd, 1), (44, .ireturn, 1), (45, .aload_n 0, 1), (46, .bipush 20, 2), (48, .invokevirtual 355, 3), (51, .aload_n 0, 1), (52, .iload_n 1, 1), (53, .iconst 0, 1), (54, .iload_n 3, 1), (55, .invokevirtual 358, 3), (58, .iconst 3, 1), (59, .iadd, 1), (60, .ireturn, 1), (61, .aload_n 0, 1), (62, .bipush 70, 2), (64, .invokevirtual 355, 3), (67, .aload_n 0, 1), (68, .iload_n 1, 1), (69, .iconst 0, 1), (70, .iload_n 3, 1), (71, .invokevirtual 358, 3), (74, .iconst 2, 1), (75, .imul, 1), (76, .ireturn, 1), (77, .aload_n 0, 1), (78, .iload_n 1, 1), (79, .iload_n 2, 1), (80, .invokestatic 361, 3), (83, .iload_n 3, 1), (84, .invokevirtual 358, 3), (87, .ireturn, 1)]
theorem DX11_cutsBy : x_dk cX11_cutsBy IX11_cutsBy = true := by decide +kernel
def IX11_holdsBy : List (Nat × Instr × Nat) := [(0, .iload_n 2, 1), (1, .tableswitch 130 0 7 #[47, 130, 68, 83, 130, 130, 130, 99], 47), (48, .aload_n 0, 1), (49, .bipush 10, 2), (51, .invokevirtual 355, 3), (54, .aload_n 0, 1), (55, .iload_n 1, 1), (56, .aload_n 0, 1), (57, .getfield 78, 3), (60, .iload_n 1, 1), (61, .iaload, 1), (62, .iload_n 3, 1), (63, .invokevirtual 358, 3), (66, .iconst 2, 1), (67, .imul, 1), (68, .ireturn, 1), (69, .aload_n 0, 1), (70, .bipush 30, 2), (72, .invokevirtual 355, 3), (75, .aload_n 0, 1), (76, .iload_n 1, 1), (77, .iconst 0, 1), (78, .iload_n 3, 1), (79, .invokevirtual 364, 3), (82, .ineg, 1), (83, .ireturn, 1), (84, .aload_n 0, 1), (85, .bipush 41, 2), (87, .invokevirtual 355, 3), (90, .aload_n 0, 1), (91, .iload_n 1, 1), (92, .iconst 2, 1), (93, .iload_n 3, 1), (94, .iconst 1, 1), (95, .iadd, 1), (96, .invokevirtual 364, 3), (99, .ireturn, 1), (100, .aload_n 0, 1), (101, .bipush 80, 2), (103, .invokevirtual 355, 3), (106, .aload_n 0, 1), (107, .iload_n 1, 1), (108, .iconst 4, 1), (109, .iload_n 3, 1), (110, .invokevirtual 364, 3), (113, .istore 4, 2), (115, .iload 4, 2), (117, .aload_n 0, 1), (118, .iload_n 1, 1), (119, .aload_n 0, 1), (120, .getfield 78, 3), (123, .iload_n 1, 1), (124, .iaload, 1), (125, .iconst 2, 1), (126, .invokevirtual 367, 3), (129, .iadd, 1), (130, .ireturn, 1), (131, .aload_n 0, 1), (132, .iload_n 1, 1), (133, .iload_n 2, 1)]
theorem DX11_holdsBy : x_dk cX11_holdsBy IX11_holdsBy = true := by decide +kernel
def IX11_holdsBy_1 : List (Nat × Instr × Nat) := [(134, .invokestatic 361, 3), (137, .iload_n 3, 1), (138, .invokevirtual 364, 3), (141, .ireturn, 1)]
theorem DX11_holdsBy_1 : x_dk cX11_holdsBy IX11_holdsBy_1 = true := by decide +kernel
def IX11_leavesBy : List (Nat × Instr × Nat) := [(0, .iload_n 2, 1), (1, .tableswitch 92 0 4 #[35, 92, 92, 45, 61], 35), (36, .aload_n 0, 1), (37, .bipush 11, 2), (39, .invokevirtual 355, 3), (42, .iload_n 3, 1), (43, .iload_n 1, 1), (44, .ixor, 1), (45, .ireturn, 1), (46, .aload_n 0, 1), (47, .bipush 40, 2), (49, .invokevirtual 355, 3), (52, .aload_n 0, 1), (53, .iload_n 1, 1), (54, .iconst 2, 1), (55, .iload_n 3, 1), (56, .invokevirtual 367, 3), (59, .iconst 3, 1), (60, .imul, 1), (61, .ireturn, 1), (62, .aload_n 0, 1), (63, .bipush 50, 2), (65, .invokevirtual 355, 3), (68, .aload_n 0, 1), (69, .iload_n 1, 1), (70, .iconst 1, 1), (71, .iload_n 3, 1), (72, .invokevirtual 367, 3), (75, .istore 4, 2), (77, .iload 4, 2), (79, .aload_n 0, 1), (80, .iload_n 1, 1), (81, .aload_n 0, 1), (82, .getfield 78, 3), (85, .iload_n 1, 1), (86, .iaload, 1), (87, .iconst 2, 1), (88, .invokevirtual 358, 3), (91, .isub, 1), (92, .ireturn, 1), (93, .aload_n 0, 1), (94, .iload_n 1, 1), (95, .iload_n 2, 1), (96, .invokestatic 361, 3), (99, .iload_n 3, 1), (100, .invokevirtual 367, 3), (103, .ireturn, 1)]
theorem DX11_leavesBy : x_dk cX11_leavesBy IX11_leavesBy = true := by decide +kernel
def IX11_tells : List (Nat × Instr × Nat) := [(0, .iload_n 2, 1), (1, .lookupswitch 102 #[(0, 35), (5, 70), (7, 86)], 35), (36, .aload_n 0, 1), (37, .iconst 2, 1), (38, .invokevirtual 355, 3), (41, .aload_n 0, 1), (42, .iload_n 1, 1), (43, .aload_n 0, 1), (44, .getfield 78, 3), (47, .iload_n 1, 1), (48, .iaload, 1), (49, .iload_n 3, 1), (50, .invokevirtual 364, 3), (53, .istore 4, 2), (55, .iload 4, 2), (57, .aload_n 0, 1), (58, .iload_n 1, 1), (59, .aload_n 0, 1), (60, .getfield 78, 3), (63, .iload_n 1, 1), (64, .iaload, 1), (65, .iconst 1, 1), (66, .invokevirtual 367, 3), (69, .isub, 1), (70, .ireturn, 1), (71, .aload_n 0, 1), (72, .bipush 60, 2), (74, .invokevirtual 355, 3), (77, .aload_n 0, 1), (78, .iload_n 1, 1), (79, .iconst 3, 1), (80, .iload_n 3, 1), (81, .invokevirtual 370, 3), (84, .iconst 5, 1), (85, .ixor, 1), (86, .ireturn, 1), (87, .aload_n 0, 1), (88, .bipush 81, 2), (90, .invokevirtual 355, 3), (93, .aload_n 0, 1), (94, .iload_n 1, 1), (95, .iconst 4, 1), (96, .iload_n 3, 1), (97, .invokevirtual 370, 3), (100, .iconst 1, 1), (101, .isub, 1), (102, .ireturn, 1), (103, .aload_n 0, 1), (104, .iload_n 1, 1), (105, .iload_n 2, 1), (106, .invokestatic 361, 3), (109, .iload_n 3, 1), (110, .invokevirtual 370, 3), (113, .ireturn, 1)]
theorem DX11_tells : x_dk cX11_tells IX11_tells = true := by decide +kernel
def IX11_body : List (Nat × Instr × Nat) := [(0, .iload_n 1, 1), (1, .iconst 0, 1), (2, .bipush 7, 2), (4, .invokestatic 116, 3), (7, .ifCond .ne 5, 3), (10, .iconst (-1), 1), (11, .ireturn, 1), (12, .aload_n 0, 1), (13, .getfield 373, 3), (16, .bipush 50, 2), (18, .if_icmp .ne 6, 3), (21, .bipush (-3), 2), (23, .ireturn, 1), (24, .aload_n 0, 1), (25, .getfield 78, 3), (28, .aload_n 0, 1), (29, .getfield 373, 3), (32, .iload_n 1, 1), (33, .iastore, 1), (34, .aload_n 0, 1), (35, .dup, 1), (36, .getfield 373, 3), (39, .dup_x1, 1), (40, .iconst 1, 1), (41, .iadd, 1), (42, .putfield 373, 3), (45, .ireturn, 1)]
theorem DX11_body : x_dk cX11_body IX11_body = true := by decide +kernel
def IX11_act : List (Nat × Instr × Nat) := [(0, .aload_n 0, 1), (1, .iconst 0, 1), (2, .putfield 352, 3), (5, .iload_n 1, 1), (6, .iconst 0, 1), (7, .aload_n 0, 1), (8, .getfield 373, 3), (11, .iconst 1, 1), (12, .isub, 1), (13, .invokestatic 116, 3), (16, .ifCond .eq 12, 3), (19, .iload_n 2, 1), (20, .iconst 0, 1), (21, .iconst 3, 1), (22, .invokestatic 116, 3), (25, .ifCond .ne 5, 3), (28, .iconst 0, 1), (29, .ireturn, 1), (30, .aload_n 0, 1), (31, .getfield 78, 3), (34, .iload_n 1, 1), (35, .iaload, 1), (36, .istore 4, 2), (38, .iload_n 2, 1), (39, .ifCond .ne 14, 3), (42, .aload_n 0, 1), (43, .iload_n 1, 1), (44, .iload 4, 2), (46, .iload_n 3, 1), (47, .invokevirtual 358, 3), (50, .goto 43, 3), (53, .iload_n 2, 1), (54, .iconst 1, 1), (55, .if_icmp .ne 14, 3), (58, .aload_n 0, 1), (59, .iload_n 1, 1), (60, .iload 4, 2), (62, .iload_n 3, 1), (63, .invokevirtual 364, 3), (66, .goto 27, 3), (69, .iload_n 2, 1), (70, .iconst 2, 1), (71, .if_icmp .ne 14, 3), (74, .aload_n 0, 1), (75, .iload_n 1, 1), (76, .iload 4, 2), (78, .iload_n 3, 1), (79, .invokevirtual 367, 3), (82, .goto 11, 3), (85, .aload_n 0, 1), (86, .iload_n 1, 1), (87, .iload 4, 2), (89, .iload_n 3, 1), (90, .invokevirtual 370, 3), (93, .ireturn, 1)]
theorem DX11_act : x_dk cX11_act IX11_act = true := by decide +kernel
def IX11_trace : List (Nat × Instr × Nat) := [(0, .iload_n 1, 1), (1, .iconst 0, 1), (2, .bipush 24, 2), (4, .aload_n 0, 1), (5, .getfield 352, 3), (8, .invokestatic 269, 3), (11, .iconst 1, 1), (12, .isub, 1), (13, .invokestatic 116, 3), (16, .ifCond .eq 12, 3), (19, .aload_n 0, 1), (20, .getfield 81, 3), (23, .iload_n 1, 1), (24, .iaload, 1), (25, .goto 4, 3), (28, .iconst (-1), 1), (29, .ireturn, 1)]
theorem DX11_trace : x_dk cX11_trace IX11_trace = true := by decide +kernel
def IX11_keep : List (Nat × Instr × Nat) := [(0, .iload_n 1, 1), (1, .invokestatic 174, 3), (4, .ifCond .eq 17, 3), (7, .iload_n 2, 1), (8, .iconst (-1), 1), (9, .aload_n 0, 1), (10, .getfield 373, 3), (13, .iconst 1, 1), (14, .isub, 1), (15, .invokestatic 116, 3), (18, .ifCond .ne 5, 3), (21, .iconst (-1), 1), (22, .ireturn, 1), (23, .aload_n 0, 1), (24, .getfield 84, 3), (27, .iload_n 1, 1), (28, .iload_n 2, 1), (29, .ifCond .ge 7, 3), (32, .iconst (-1), 1), (33, .goto 7, 3), (36, .bipush 10, 2), (38, .iload_n 2, 1), (39, .iadd, 1), (40, .iastore, 1), (41, .aload_n 0, 1), (42, .getfield 87, 3), (45, .iload_n 1, 1), (46, .iconst 0, 1), (47, .iastore, 1), (48, .iconst 1, 1), (49, .ireturn, 1)]
theorem DX11_keep : x_dk cX11_keep IX11_keep = true := by decide +kernel
def IX11_row : List (Nat × Instr × Nat) := [(0, .iload_n 1, 1), (1, .invokestatic 174, 3), (4, .ifCond .eq 18, 3), (7, .iload_n 2, 1), (8, .iconst 0, 1), (9, .iconst 4, 1), (10, .invokestatic 116, 3), (13, .ifCond .eq 9, 3), (16, .iload_n 3, 1), (17, .bipush 60, 2), (19, .if_icmp .le 5, 3), (22, .iconst (-1), 1), (23, .ireturn, 1), (24, .iload_n 3, 1), (25, .ifCond .ge 6, 3), (28, .bipush (-14), 2), (30, .ireturn, 1), (31, .aload_n 0, 1), (32, .getfield 84, 3), (35, .iload_n 1, 1), (36, .iload_n 2, 1), (37, .iastore, 1), (38, .aload_n 0, 1), (39, .getfield 87, 3), (42, .iload_n 1, 1), (43, .iload_n 3, 1), (44, .iastore, 1), (45, .iconst 0, 1), (46, .istore 4, 2), (48, .iload 4, 2), (50, .bipush 60, 2), (52, .if_icmp .ge 22, 3), (55, .aload_n 0, 1), (56, .getfield 90, 3), (59, .bipush 60, 2), (61, .iload_n 1, 1), (62, .imul, 1), (63, .iload 4, 2), (65, .iadd, 1), (66, .lconst 0, 1), (67, .lastore, 1), (68, .iinc 4 1, 3), (71, .goto (-23), 3), (74, .iconst 1, 1), (75, .ireturn, 1)]
theorem DX11_row : x_dk cX11_row IX11_row = true := by decide +kernel
def IX11_isRow : List (Nat × Instr × Nat) := [(0, .aload_n 0, 1), (1, .getfield 84, 3), (4, .iload_n 1, 1), (5, .iaload, 1), (6, .iconst 0, 1), (7, .iconst 4, 1), (8, .invokestatic 116, 3), (11, .ireturn, 1)]
theorem DX11_isRow : x_dk cX11_isRow IX11_isRow = true := by decide +kernel
def IX11_kept : List (Nat × Instr × Nat) := [(0, .iload_n 0, 1), (1, .tableswitch 47 0 3 #[31, 36, 41, 45], 31), (32, .lload_n 1, 1), (33, .l2i, 1), (34, .i2b, 1), (35, .i2l, 1), (36, .lreturn, 1), (37, .lload_n 1, 1), (38, .l2i, 1), (39, .i2s, 1), (40, .i2l, 1), (41, .lreturn, 1), (42, .lload_n 1, 1), (43, .l2i, 1), (44, .i2l, 1), (45, .lreturn, 1), (46, .lload_n 1, 1), (47, .lreturn, 1), (48, .lload_n 1, 1), (49, .lconst 0, 1), (50, .lcmp, 1), (51, .ifCond .eq 7, 3), (54, .lconst 1, 1), (55, .goto 4, 3), (58, .lconst 0, 1), (59, .lreturn, 1)]
theorem DX11_kept : x_dk cX11_kept IX11_kept = true := by decide +kernel
def IX11_put : List (Nat × Instr × Nat) := [(0, .iload_n 1, 1), (1, .invokestatic 174, 3), (4, .ifCond .ne 5, 3), (7, .iconst (-1), 1), (8, .ireturn, 1), (9, .aload_n 0, 1), (10, .getfield 84, 3), (13, .iload_n 1, 1), (14, .iaload, 1), (15, .iconst (-1), 1), (16, .if_icmp .ne 6, 3), (19, .bipush (-11), 2), (21, .ireturn, 1), (22, .aload_n 0, 1), (23, .iload_n 1, 1), (24, .invokevirtual 376, 3), (27, .ifCond .ne 6, 3), (30, .bipush (-12), 2), (32, .ireturn, 1), (33, .iload_n 2, 1), (34, .iconst 0, 1), (35, .aload_n 0, 1), (36, .getfield 87, 3), (39, .iload_n 1, 1), (40, .iaload, 1), (41, .iconst 1, 1), (42, .isub, 1), (43, .invokestatic 116, 3), (46, .ifCond .ne 6, 3), (49, .bipush (-13), 2), (51, .ireturn, 1), (52, .aload_n 0, 1), (53, .getfield 90, 3), (56, .bipush 60, 2), (58, .iload_n 1, 1), (59, .imul, 1), (60, .iload_n 2, 1), (61, .iadd, 1), (62, .aload_n 0, 1), (63, .getfield 84, 3), (66, .iload_n 1, 1), (67, .iaload, 1), (68, .lload_n 3, 1), (69, .invokestatic 379, 3), (72, .lastore, 1), (73, .iconst 1, 1), (74, .ireturn, 1)]
theorem DX11_put : x_dk cX11_put IX11_put = true := by decide +kernel
def IX11_element : List (Nat × Instr × Nat) := [(0, .iload_n 1, 1), (1, .invokestatic 174, 3), (4, .ifCond .eq 41, 3), (7, .aload_n 0, 1), (8, .iload_n 1, 1), (9, .invokevirtual 376, 3), (12, .ifCond .eq 33, 3), (15, .iload_n 2, 1), (16, .iconst 0, 1), (17, .aload_n 0, 1), (18, .getfield 87, 3), (21, .iload_n 1, 1), (22, .iaload, 1), (23, .iconst 1, 1), (24, .isub, 1), (25, .invokestatic 116, 3), (28, .ifCond .eq 17, 3), (31, .aload_n 0, 1), (32, .getfield 90, 3), (35, .bipush 60, 2), (37, .iload_n 1, 1), (38, .imul, 1), (39, .iload_n 2, 1), (40, .iadd, 1), (41, .laload, 1), (42, .goto 6, 3), (45, .ldc2_w 383, 3), (48, .lreturn, 1)]
theorem DX11_element : x_dk cX11_element IX11_element = true := by decide +kernel
def IX11_shift : List (Nat × Instr × Nat) := [(0, .iload_n 1, 1), (1, .invokestatic 174, 3), (4, .ifCond .eq 10, 3), (7, .iload_n 3, 1), (8, .invokestatic 174, 3), (11, .ifCond .ne 5, 3), (14, .iconst (-1), 1), (15, .ireturn, 1), (16, .aload_n 0, 1), (17, .getfield 84, 3), (20, .iload_n 1, 1), (21, .iaload, 1), (22, .iconst (-1), 1), (23, .if_icmp .eq 13, 3), (26, .aload_n 0, 1), (27, .getfield 84, 3), (30, .iload_n 3, 1), (31, .iaload, 1), (32, .iconst (-1), 1), (33, .if_icmp .ne 6, 3), (36, .bipush (-11), 2), (38, .ireturn, 1), (39, .aload_n 0, 1), (40, .iload_n 1, 1), (41, .invokevirtual 376, 3), (44, .ifCond .eq 26, 3), (47, .aload_n 0, 1), (48, .iload_n 3, 1), (49, .invokevirtual 376, 3), (52, .ifCond .eq 18, 3), (55, .aload_n 0, 1), (56, .getfield 84, 3), (59, .iload_n 1, 1), (60, .iaload, 1), (61, .aload_n 0, 1), (62, .getfield 84, 3), (65, .iload_n 3, 1), (66, .iaload, 1), (67, .if_icmp .eq 6, 3), (70, .bipush (-12), 2), (72, .ireturn, 1), (73, .iload 5, 2), (75, .ifCond .lt 47, 3), (78, .iload_n 2, 1), (79, .ifCond .lt 43, 3), (82, .iload 4, 2), (84, .ifCond .lt 38, 3), (87, .iload_n 2, 1), (88, .i2l, 1), (89, .iload 5, 2), (91, .i2l, 1), (92, .ladd, 1), (93, .aload_n 0, 1), (94, .getfield 87, 3), (97, .iload_n 1, 1), (98, .iaload, 1), (99, .i2l, 1), (100, .lcmp, 1), (101, .ifCond .gt 21, 3), (104, .iload 4, 2)]
theorem DX11_shift : x_dk cX11_shift IX11_shift = true := by decide +kernel
def IX11_shift_1 : List (Nat × Instr × Nat) := [(106, .i2l, 1), (107, .iload 5, 2), (109, .i2l, 1), (110, .ladd, 1), (111, .aload_n 0, 1), (112, .getfield 87, 3), (115, .iload_n 3, 1), (116, .iaload, 1), (117, .i2l, 1), (118, .lcmp, 1), (119, .ifCond .le 6, 3), (122, .bipush (-13), 2), (124, .ireturn, 1), (125, .iload_n 1, 1), (126, .iload_n 3, 1), (127, .if_icmp .ne 58, 3), (130, .iload_n 2, 1), (131, .iload 4, 2), (133, .if_icmp .ge 52, 3), (136, .iload 5, 2), (138, .iconst 1, 1), (139, .isub, 1), (140, .istore 6, 2), (142, .iload 6, 2), (144, .ifCond .lt 38, 3), (147, .aload_n 0, 1), (148, .getfield 90, 3), (151, .bipush 60, 2), (153, .iload_n 3, 1), (154, .imul, 1), (155, .iload 4, 2), (157, .iadd, 1), (158, .iload 6, 2), (160, .iadd, 1), (161, .aload_n 0, 1), (162, .getfield 90, 3), (165, .bipush 60, 2), (167, .iload_n 1, 1), (168, .imul, 1), (169, .iload_n 2, 1), (170, .iadd, 1), (171, .iload 6, 2), (173, .iadd, 1), (174, .laload, 1), (175, .lastore, 1), (176, .iinc 6 (-1), 3), (179, .goto (-37), 3), (182, .goto 48, 3), (185, .iconst 0, 1), (186, .istore 6, 2), (188, .iload 6, 2), (190, .iload 5, 2), (192, .if_icmp .ge 38, 3), (195, .aload_n 0, 1), (196, .getfield 90, 3), (199, .bipush 60, 2), (201, .iload_n 3, 1), (202, .imul, 1), (203, .iload 4, 2), (205, .iadd, 1)]
theorem DX11_shift_1 : x_dk cX11_shift IX11_shift_1 = true := by decide +kernel
def IX11_shift_2 : List (Nat × Instr × Nat) := [(206, .iload 6, 2), (208, .iadd, 1), (209, .aload_n 0, 1), (210, .getfield 90, 3), (213, .bipush 60, 2), (215, .iload_n 1, 1), (216, .imul, 1), (217, .iload_n 2, 1), (218, .iadd, 1), (219, .iload 6, 2), (221, .iadd, 1), (222, .laload, 1), (223, .lastore, 1), (224, .iinc 6 1, 3), (227, .goto (-39), 3), (230, .iload 5, 2), (232, .ireturn, 1)]
theorem DX11_shift_2 : x_dk cX11_shift IX11_shift_2 = true := by decide +kernel
def IX11_taken : List (Nat × Instr × Nat) := [(0, .iload_n 1, 1), (1, .invokestatic 174, 3), (4, .ifCond .eq 13, 3), (7, .iload_n 2, 1), (8, .iconst 0, 1), (9, .bipush 7, 2), (11, .invokestatic 116, 3), (14, .ifCond .ne 5, 3), (17, .iconst (-1), 1), (18, .ireturn, 1), (19, .aload_n 0, 1), (20, .getfield 84, 3), (23, .iload_n 1, 1), (24, .iaload, 1), (25, .iconst (-1), 1), (26, .if_icmp .ne 6, 3), (29, .bipush (-11), 2), (31, .ireturn, 1), (32, .aload_n 0, 1), (33, .iload_n 1, 1), (34, .invokevirtual 376, 3), (37, .ifCond .eq 6, 3), (40, .bipush (-12), 2), (42, .ireturn, 1), (43, .aload_n 0, 1), (44, .getfield 78, 3), (47, .aload_n 0, 1), (48, .getfield 84, 3), (51, .iload_n 1, 1), (52, .iaload, 1), (53, .bipush 10, 2), (55, .isub, 1), (56, .iaload, 1), (57, .istore_n 3, 1), (58, .iload_n 3, 1), (59, .istore 4, 2), (61, .iload 4, 2), (63, .iload_n 2, 1), (64, .if_icmp .eq 18, 3), (67, .iload 4, 2), (69, .ifCond .le 13, 3), (72, .iload 4, 2), (74, .invokestatic 361, 3), (77, .istore 4, 2), (79, .goto (-18), 3), (82, .iload 4, 2), (84, .iload_n 2, 1), (85, .if_icmp .ne 7, 3), (88, .iload_n 3, 1), (89, .goto 5, 3), (92, .bipush (-12), 2), (94, .ireturn, 1)]
theorem DX11_taken : x_dk cX11_taken IX11_taken = true := by decide +kernel
def IX11_count : List (Nat × Instr × Nat) := [(0, .iload_n 1, 1), (1, .tableswitch 69 0 5 #[39, 44, 49, 54, 59, 64], 39), (40, .aload_n 0, 1), (41, .getfield 112, 3), (44, .ireturn, 1), (45, .aload_n 0, 1), (46, .getfield 120, 3), (49, .ireturn, 1), (50, .aload_n 0, 1), (51, .getfield 195, 3), (54, .ireturn, 1), (55, .aload_n 0, 1), (56, .getfield 186, 3), (59, .ireturn, 1), (60, .aload_n 0, 1), (61, .getfield 373, 3), (64, .ireturn, 1), (65, .aload_n 0, 1), (66, .getfield 352, 3), (69, .ireturn, 1), (70, .iconst (-1), 1), (71, .ireturn, 1)]
theorem DX11_count : x_dk cX11_count IX11_count = true := by decide +kernel
end
section
def IL_law : List (Nat × Instr × Nat) := [(0, .new 7, 3), (3, .dup, 1), (4, .invokespecial 9, 3), (7, .astore_n 1, 1), (8, .new 10, 3), (11, .dup, 1), (12, .invokespecial 12, 3), (15, .astore_n 2, 1), (16, .iconst 0, 1), (17, .istore_n 3, 1), (18, .iload_n 3, 1), (19, .aload_n 0, 1), (20, .arraylength, 1), (21, .bipush 6, 2), (23, .isub, 1), (24, .if_icmp .gt 1609, 3), (27, .aload_n 0, 1), (28, .iload_n 3, 1), (29, .iaload, 1), (30, .bipush 63, 2), (32, .iand, 1), (33, .tableswitch 1594 0 43 #[191, 214, 257, 280, 323, 356, 379, 392, 435, 468, 501, 534, 557, 590, 613, 646, 689, 722, 755, 788, 821, 854, 887, 920, 953, 996, 1029, 1082, 1105, 1128, 1151, 1164, 1177, 1190, 1203, 1226, 1269, 1292, 1325, 1368, 1441, 1475, 1538, 1571], 191), (224, .aload_n 1, 1), (225, .aload_n 0, 1), (226, .iload_n 3, 1), (227, .iconst 1, 1), (228, .iadd, 1), (229, .iaload, 1), (230, .invokevirtual 13, 3), (233, .aload_n 2, 1), (234, .aload_n 0, 1), (235, .iload_n 3, 1), (236, .iconst 1, 1), (237, .iadd, 1), (238, .iaload, 1), (239, .invokevirtual 17, 3), (242, .if_icmp .eq 1385, 3), (245, .iconst 0, 1), (246, .ireturn, 1), (247, .aload_n 1, 1), (248, .aload_n 0, 1), (249, .iload_n 3, 1), (250, .iconst 1, 1), (251, .iadd, 1), (252, .iaload, 1), (253, .aload_n 0, 1), (254, .iload_n 3, 1), (255, .iconst 2, 1), (256, .iadd, 1), (257, .iaload, 1), (258, .aload_n 0, 1), (259, .iload_n 3, 1), (260, .iconst 3, 1), (261, .iadd, 1), (262, .iaload, 1), (263, .invokevirtual 18, 3), (266, .aload_n 2, 1), (267, .aload_n 0, 1), (268, .iload_n 3, 1), (269, .iconst 1, 1)]
theorem DL_law : x_dk cL_law IL_law = true := by decide +kernel
def IL_law_1 : List (Nat × Instr × Nat) := [(270, .iadd, 1), (271, .iaload, 1), (272, .aload_n 0, 1), (273, .iload_n 3, 1), (274, .iconst 2, 1), (275, .iadd, 1), (276, .iaload, 1), (277, .aload_n 0, 1), (278, .iload_n 3, 1), (279, .iconst 3, 1), (280, .iadd, 1), (281, .iaload, 1), (282, .invokevirtual 22, 3), (285, .if_icmp .eq 1342, 3), (288, .iconst 0, 1), (289, .ireturn, 1), (290, .aload_n 1, 1), (291, .aload_n 0, 1), (292, .iload_n 3, 1), (293, .iconst 1, 1), (294, .iadd, 1), (295, .iaload, 1), (296, .invokevirtual 23, 3), (299, .aload_n 2, 1), (300, .aload_n 0, 1), (301, .iload_n 3, 1), (302, .iconst 1, 1), (303, .iadd, 1), (304, .iaload, 1), (305, .invokevirtual 26, 3), (308, .if_icmp .eq 1319, 3), (311, .iconst 0, 1), (312, .ireturn, 1), (313, .aload_n 1, 1), (314, .aload_n 0, 1), (315, .iload_n 3, 1), (316, .iconst 1, 1), (317, .iadd, 1), (318, .iaload, 1), (319, .aload_n 0, 1), (320, .iload_n 3, 1), (321, .iconst 2, 1), (322, .iadd, 1), (323, .iaload, 1), (324, .aload_n 0, 1), (325, .iload_n 3, 1), (326, .iconst 3, 1), (327, .iadd, 1), (328, .iaload, 1), (329, .invokevirtual 27, 3), (332, .aload_n 2, 1), (333, .aload_n 0, 1), (334, .iload_n 3, 1), (335, .iconst 1, 1), (336, .iadd, 1), (337, .iaload, 1), (338, .aload_n 0, 1), (339, .iload_n 3, 1), (340, .iconst 2, 1), (341, .iadd, 1)]
theorem DL_law_1 : x_dk cL_law IL_law_1 = true := by decide +kernel
def IL_law_2 : List (Nat × Instr × Nat) := [(342, .iaload, 1), (343, .aload_n 0, 1), (344, .iload_n 3, 1), (345, .iconst 3, 1), (346, .iadd, 1), (347, .iaload, 1), (348, .invokevirtual 30, 3), (351, .if_icmp .eq 1276, 3), (354, .iconst 0, 1), (355, .ireturn, 1), (356, .aload_n 1, 1), (357, .aload_n 0, 1), (358, .iload_n 3, 1), (359, .iconst 1, 1), (360, .iadd, 1), (361, .iaload, 1), (362, .aload_n 0, 1), (363, .iload_n 3, 1), (364, .iconst 2, 1), (365, .iadd, 1), (366, .iaload, 1), (367, .invokevirtual 31, 3), (370, .aload_n 2, 1), (371, .aload_n 0, 1), (372, .iload_n 3, 1), (373, .iconst 1, 1), (374, .iadd, 1), (375, .iaload, 1), (376, .aload_n 0, 1), (377, .iload_n 3, 1), (378, .iconst 2, 1), (379, .iadd, 1), (380, .iaload, 1), (381, .invokevirtual 35, 3), (384, .if_icmp .eq 1243, 3), (387, .iconst 0, 1), (388, .ireturn, 1), (389, .aload_n 1, 1), (390, .aload_n 0, 1), (391, .iload_n 3, 1), (392, .iconst 1, 1), (393, .iadd, 1), (394, .iaload, 1), (395, .invokevirtual 36, 3), (398, .aload_n 2, 1), (399, .aload_n 0, 1), (400, .iload_n 3, 1), (401, .iconst 1, 1), (402, .iadd, 1), (403, .iaload, 1), (404, .invokevirtual 39, 3), (407, .if_icmp .eq 1220, 3), (410, .iconst 0, 1), (411, .ireturn, 1), (412, .aload_n 1, 1), (413, .invokevirtual 40, 3), (416, .aload_n 2, 1), (417, .invokevirtual 44, 3), (420, .if_icmp .eq 1207, 3), (423, .iconst 0, 1)]
theorem DL_law_2 : x_dk cL_law IL_law_2 = true := by decide +kernel
def IL_law_3 : List (Nat × Instr × Nat) := [(424, .ireturn, 1), (425, .aload_n 1, 1), (426, .aload_n 0, 1), (427, .iload_n 3, 1), (428, .iconst 1, 1), (429, .iadd, 1), (430, .iaload, 1), (431, .aload_n 0, 1), (432, .iload_n 3, 1), (433, .iconst 2, 1), (434, .iadd, 1), (435, .iaload, 1), (436, .aload_n 0, 1), (437, .iload_n 3, 1), (438, .iconst 3, 1), (439, .iadd, 1), (440, .iaload, 1), (441, .invokevirtual 45, 3), (444, .aload_n 2, 1), (445, .aload_n 0, 1), (446, .iload_n 3, 1), (447, .iconst 1, 1), (448, .iadd, 1), (449, .iaload, 1), (450, .aload_n 0, 1), (451, .iload_n 3, 1), (452, .iconst 2, 1), (453, .iadd, 1), (454, .iaload, 1), (455, .aload_n 0, 1), (456, .iload_n 3, 1), (457, .iconst 3, 1), (458, .iadd, 1), (459, .iaload, 1), (460, .invokevirtual 48, 3), (463, .if_icmp .eq 1164, 3), (466, .iconst 0, 1), (467, .ireturn, 1), (468, .aload_n 1, 1), (469, .aload_n 0, 1), (470, .iload_n 3, 1), (471, .iconst 1, 1), (472, .iadd, 1), (473, .iaload, 1), (474, .aload_n 0, 1), (475, .iload_n 3, 1), (476, .iconst 2, 1), (477, .iadd, 1), (478, .iaload, 1), (479, .invokevirtual 49, 3), (482, .aload_n 2, 1), (483, .aload_n 0, 1), (484, .iload_n 3, 1), (485, .iconst 1, 1), (486, .iadd, 1), (487, .iaload, 1), (488, .aload_n 0, 1), (489, .iload_n 3, 1), (490, .iconst 2, 1), (491, .iadd, 1)]
theorem DL_law_3 : x_dk cL_law IL_law_3 = true := by decide +kernel
def IL_law_4 : List (Nat × Instr × Nat) := [(492, .iaload, 1), (493, .invokevirtual 52, 3), (496, .if_icmp .eq 1131, 3), (499, .iconst 0, 1), (500, .ireturn, 1), (501, .aload_n 1, 1), (502, .aload_n 0, 1), (503, .iload_n 3, 1), (504, .iconst 1, 1), (505, .iadd, 1), (506, .iaload, 1), (507, .aload_n 0, 1), (508, .iload_n 3, 1), (509, .iconst 2, 1), (510, .iadd, 1), (511, .iaload, 1), (512, .invokevirtual 53, 3), (515, .aload_n 2, 1), (516, .aload_n 0, 1), (517, .iload_n 3, 1), (518, .iconst 1, 1), (519, .iadd, 1), (520, .iaload, 1), (521, .aload_n 0, 1), (522, .iload_n 3, 1), (523, .iconst 2, 1), (524, .iadd, 1), (525, .iaload, 1), (526, .invokevirtual 56, 3), (529, .if_icmp .eq 1098, 3), (532, .iconst 0, 1), (533, .ireturn, 1), (534, .aload_n 1, 1), (535, .aload_n 0, 1), (536, .iload_n 3, 1), (537, .iconst 1, 1), (538, .iadd, 1), (539, .iaload, 1), (540, .aload_n 0, 1), (541, .iload_n 3, 1), (542, .iconst 2, 1), (543, .iadd, 1), (544, .iaload, 1), (545, .invokevirtual 57, 3), (548, .aload_n 2, 1), (549, .aload_n 0, 1), (550, .iload_n 3, 1), (551, .iconst 1, 1), (552, .iadd, 1), (553, .iaload, 1), (554, .aload_n 0, 1), (555, .iload_n 3, 1), (556, .iconst 2, 1), (557, .iadd, 1), (558, .iaload, 1), (559, .invokevirtual 60, 3), (562, .if_icmp .eq 1065, 3), (565, .iconst 0, 1), (566, .ireturn, 1), (567, .aload_n 1, 1)]
theorem DL_law_4 : x_dk cL_law IL_law_4 = true := by decide +kernel
def IL_law_5 : List (Nat × Instr × Nat) := [(568, .aload_n 0, 1), (569, .iload_n 3, 1), (570, .iconst 1, 1), (571, .iadd, 1), (572, .iaload, 1), (573, .invokevirtual 61, 3), (576, .aload_n 2, 1), (577, .aload_n 0, 1), (578, .iload_n 3, 1), (579, .iconst 1, 1), (580, .iadd, 1), (581, .iaload, 1), (582, .invokevirtual 64, 3), (585, .if_icmp .eq 1042, 3), (588, .iconst 0, 1), (589, .ireturn, 1), (590, .aload_n 1, 1), (591, .aload_n 0, 1), (592, .iload_n 3, 1), (593, .iconst 1, 1), (594, .iadd, 1), (595, .iaload, 1), (596, .aload_n 0, 1), (597, .iload_n 3, 1), (598, .iconst 2, 1), (599, .iadd, 1), (600, .iaload, 1), (601, .invokevirtual 65, 3), (604, .aload_n 2, 1), (605, .aload_n 0, 1), (606, .iload_n 3, 1), (607, .iconst 1, 1), (608, .iadd, 1), (609, .iaload, 1), (610, .aload_n 0, 1), (611, .iload_n 3, 1), (612, .iconst 2, 1), (613, .iadd, 1), (614, .iaload, 1), (615, .invokevirtual 68, 3), (618, .if_icmp .eq 1009, 3), (621, .iconst 0, 1), (622, .ireturn, 1), (623, .aload_n 1, 1), (624, .aload_n 0, 1), (625, .iload_n 3, 1), (626, .iconst 1, 1), (627, .iadd, 1), (628, .iaload, 1), (629, .invokevirtual 69, 3), (632, .aload_n 2, 1), (633, .aload_n 0, 1), (634, .iload_n 3, 1), (635, .iconst 1, 1), (636, .iadd, 1), (637, .iaload, 1), (638, .invokevirtual 72, 3), (641, .if_icmp .eq 986, 3), (644, .iconst 0, 1), (645, .ireturn, 1)]
theorem DL_law_5 : x_dk cL_law IL_law_5 = true := by decide +kernel
def IL_law_6 : List (Nat × Instr × Nat) := [(646, .aload_n 1, 1), (647, .aload_n 0, 1), (648, .iload_n 3, 1), (649, .iconst 1, 1), (650, .iadd, 1), (651, .iaload, 1), (652, .aload_n 0, 1), (653, .iload_n 3, 1), (654, .iconst 2, 1), (655, .iadd, 1), (656, .iaload, 1), (657, .invokevirtual 73, 3), (660, .aload_n 2, 1), (661, .aload_n 0, 1), (662, .iload_n 3, 1), (663, .iconst 1, 1), (664, .iadd, 1), (665, .iaload, 1), (666, .aload_n 0, 1), (667, .iload_n 3, 1), (668, .iconst 2, 1), (669, .iadd, 1), (670, .iaload, 1), (671, .invokevirtual 76, 3), (674, .if_icmp .eq 953, 3), (677, .iconst 0, 1), (678, .ireturn, 1), (679, .aload_n 1, 1), (680, .aload_n 0, 1), (681, .iload_n 3, 1), (682, .iconst 1, 1), (683, .iadd, 1), (684, .iaload, 1), (685, .aload_n 0, 1), (686, .iload_n 3, 1), (687, .iconst 2, 1), (688, .iadd, 1), (689, .iaload, 1), (690, .aload_n 0, 1), (691, .iload_n 3, 1), (692, .iconst 3, 1), (693, .iadd, 1), (694, .iaload, 1), (695, .invokevirtual 77, 3), (698, .aload_n 2, 1), (699, .aload_n 0, 1), (700, .iload_n 3, 1), (701, .iconst 1, 1), (702, .iadd, 1), (703, .iaload, 1), (704, .aload_n 0, 1), (705, .iload_n 3, 1), (706, .iconst 2, 1), (707, .iadd, 1), (708, .iaload, 1), (709, .aload_n 0, 1), (710, .iload_n 3, 1), (711, .iconst 3, 1), (712, .iadd, 1), (713, .iaload, 1)]
theorem DL_law_6 : x_dk cL_law IL_law_6 = true := by decide +kernel
def IL_law_7 : List (Nat × Instr × Nat) := [(714, .invokevirtual 80, 3), (717, .if_icmp .eq 910, 3), (720, .iconst 0, 1), (721, .ireturn, 1), (722, .aload_n 1, 1), (723, .aload_n 0, 1), (724, .iload_n 3, 1), (725, .iconst 1, 1), (726, .iadd, 1), (727, .iaload, 1), (728, .aload_n 0, 1), (729, .iload_n 3, 1), (730, .iconst 2, 1), (731, .iadd, 1), (732, .iaload, 1), (733, .invokevirtual 81, 3), (736, .aload_n 2, 1), (737, .aload_n 0, 1), (738, .iload_n 3, 1), (739, .iconst 1, 1), (740, .iadd, 1), (741, .iaload, 1), (742, .aload_n 0, 1), (743, .iload_n 3, 1), (744, .iconst 2, 1), (745, .iadd, 1), (746, .iaload, 1), (747, .invokevirtual 84, 3), (750, .if_icmp .eq 877, 3), (753, .iconst 0, 1), (754, .ireturn, 1), (755, .aload_n 1, 1), (756, .aload_n 0, 1), (757, .iload_n 3, 1), (758, .iconst 1, 1), (759, .iadd, 1), (760, .iaload, 1), (761, .aload_n 0, 1), (762, .iload_n 3, 1), (763, .iconst 2, 1), (764, .iadd, 1), (765, .iaload, 1), (766, .invokevirtual 85, 3), (769, .aload_n 2, 1), (770, .aload_n 0, 1), (771, .iload_n 3, 1), (772, .iconst 1, 1), (773, .iadd, 1), (774, .iaload, 1), (775, .aload_n 0, 1), (776, .iload_n 3, 1), (777, .iconst 2, 1), (778, .iadd, 1), (779, .iaload, 1), (780, .invokevirtual 88, 3), (783, .if_icmp .eq 844, 3), (786, .iconst 0, 1), (787, .ireturn, 1), (788, .aload_n 1, 1), (789, .aload_n 0, 1)]
theorem DL_law_7 : x_dk cL_law IL_law_7 = true := by decide +kernel
def IL_law_8 : List (Nat × Instr × Nat) := [(790, .iload_n 3, 1), (791, .iconst 1, 1), (792, .iadd, 1), (793, .iaload, 1), (794, .aload_n 0, 1), (795, .iload_n 3, 1), (796, .iconst 2, 1), (797, .iadd, 1), (798, .iaload, 1), (799, .invokevirtual 89, 3), (802, .aload_n 2, 1), (803, .aload_n 0, 1), (804, .iload_n 3, 1), (805, .iconst 1, 1), (806, .iadd, 1), (807, .iaload, 1), (808, .aload_n 0, 1), (809, .iload_n 3, 1), (810, .iconst 2, 1), (811, .iadd, 1), (812, .iaload, 1), (813, .invokevirtual 92, 3), (816, .if_icmp .eq 811, 3), (819, .iconst 0, 1), (820, .ireturn, 1), (821, .aload_n 1, 1), (822, .aload_n 0, 1), (823, .iload_n 3, 1), (824, .iconst 1, 1), (825, .iadd, 1), (826, .iaload, 1), (827, .aload_n 0, 1), (828, .iload_n 3, 1), (829, .iconst 2, 1), (830, .iadd, 1), (831, .iaload, 1), (832, .invokevirtual 93, 3), (835, .aload_n 2, 1), (836, .aload_n 0, 1), (837, .iload_n 3, 1), (838, .iconst 1, 1), (839, .iadd, 1), (840, .iaload, 1), (841, .aload_n 0, 1), (842, .iload_n 3, 1), (843, .iconst 2, 1), (844, .iadd, 1), (845, .iaload, 1), (846, .invokevirtual 96, 3), (849, .if_icmp .eq 778, 3), (852, .iconst 0, 1), (853, .ireturn, 1), (854, .aload_n 1, 1), (855, .aload_n 0, 1), (856, .iload_n 3, 1), (857, .iconst 1, 1), (858, .iadd, 1), (859, .iaload, 1), (860, .aload_n 0, 1), (861, .iload_n 3, 1)]
theorem DL_law_8 : x_dk cL_law IL_law_8 = true := by decide +kernel
def IL_law_9 : List (Nat × Instr × Nat) := [(862, .iconst 2, 1), (863, .iadd, 1), (864, .iaload, 1), (865, .invokevirtual 97, 3), (868, .aload_n 2, 1), (869, .aload_n 0, 1), (870, .iload_n 3, 1), (871, .iconst 1, 1), (872, .iadd, 1), (873, .iaload, 1), (874, .aload_n 0, 1), (875, .iload_n 3, 1), (876, .iconst 2, 1), (877, .iadd, 1), (878, .iaload, 1), (879, .invokevirtual 100, 3), (882, .if_icmp .eq 745, 3), (885, .iconst 0, 1), (886, .ireturn, 1), (887, .aload_n 1, 1), (888, .aload_n 0, 1), (889, .iload_n 3, 1), (890, .iconst 1, 1), (891, .iadd, 1), (892, .iaload, 1), (893, .aload_n 0, 1), (894, .iload_n 3, 1), (895, .iconst 2, 1), (896, .iadd, 1), (897, .iaload, 1), (898, .invokevirtual 101, 3), (901, .aload_n 2, 1), (902, .aload_n 0, 1), (903, .iload_n 3, 1), (904, .iconst 1, 1), (905, .iadd, 1), (906, .iaload, 1), (907, .aload_n 0, 1), (908, .iload_n 3, 1), (909, .iconst 2, 1), (910, .iadd, 1), (911, .iaload, 1), (912, .invokevirtual 104, 3), (915, .if_icmp .eq 712, 3), (918, .iconst 0, 1), (919, .ireturn, 1), (920, .aload_n 1, 1), (921, .aload_n 0, 1), (922, .iload_n 3, 1), (923, .iconst 1, 1), (924, .iadd, 1), (925, .iaload, 1), (926, .aload_n 0, 1), (927, .iload_n 3, 1), (928, .iconst 2, 1), (929, .iadd, 1), (930, .iaload, 1), (931, .invokevirtual 105, 3), (934, .aload_n 2, 1), (935, .aload_n 0, 1)]
theorem DL_law_9 : x_dk cL_law IL_law_9 = true := by decide +kernel
def IL_law_10 : List (Nat × Instr × Nat) := [(936, .iload_n 3, 1), (937, .iconst 1, 1), (938, .iadd, 1), (939, .iaload, 1), (940, .aload_n 0, 1), (941, .iload_n 3, 1), (942, .iconst 2, 1), (943, .iadd, 1), (944, .iaload, 1), (945, .invokevirtual 108, 3), (948, .if_icmp .eq 679, 3), (951, .iconst 0, 1), (952, .ireturn, 1), (953, .aload_n 1, 1), (954, .aload_n 0, 1), (955, .iload_n 3, 1), (956, .iconst 1, 1), (957, .iadd, 1), (958, .iaload, 1), (959, .aload_n 0, 1), (960, .iload_n 3, 1), (961, .iconst 2, 1), (962, .iadd, 1), (963, .iaload, 1), (964, .invokevirtual 109, 3), (967, .aload_n 2, 1), (968, .aload_n 0, 1), (969, .iload_n 3, 1), (970, .iconst 1, 1), (971, .iadd, 1), (972, .iaload, 1), (973, .aload_n 0, 1), (974, .iload_n 3, 1), (975, .iconst 2, 1), (976, .iadd, 1), (977, .iaload, 1), (978, .invokevirtual 112, 3), (981, .if_icmp .eq 646, 3), (984, .iconst 0, 1), (985, .ireturn, 1), (986, .aload_n 1, 1), (987, .aload_n 0, 1), (988, .iload_n 3, 1), (989, .iconst 1, 1), (990, .iadd, 1), (991, .iaload, 1), (992, .aload_n 0, 1), (993, .iload_n 3, 1), (994, .iconst 2, 1), (995, .iadd, 1), (996, .iaload, 1), (997, .aload_n 0, 1), (998, .iload_n 3, 1), (999, .iconst 3, 1), (1000, .iadd, 1), (1001, .iaload, 1), (1002, .invokevirtual 113, 3), (1005, .aload_n 2, 1), (1006, .aload_n 0, 1), (1007, .iload_n 3, 1)]
theorem DL_law_10 : x_dk cL_law IL_law_10 = true := by decide +kernel
def IL_law_11 : List (Nat × Instr × Nat) := [(1008, .iconst 1, 1), (1009, .iadd, 1), (1010, .iaload, 1), (1011, .aload_n 0, 1), (1012, .iload_n 3, 1), (1013, .iconst 2, 1), (1014, .iadd, 1), (1015, .iaload, 1), (1016, .aload_n 0, 1), (1017, .iload_n 3, 1), (1018, .iconst 3, 1), (1019, .iadd, 1), (1020, .iaload, 1), (1021, .invokevirtual 116, 3), (1024, .if_icmp .eq 603, 3), (1027, .iconst 0, 1), (1028, .ireturn, 1), (1029, .aload_n 1, 1), (1030, .aload_n 0, 1), (1031, .iload_n 3, 1), (1032, .iconst 1, 1), (1033, .iadd, 1), (1034, .iaload, 1), (1035, .aload_n 0, 1), (1036, .iload_n 3, 1), (1037, .iconst 2, 1), (1038, .iadd, 1), (1039, .iaload, 1), (1040, .invokevirtual 117, 3), (1043, .aload_n 2, 1), (1044, .aload_n 0, 1), (1045, .iload_n 3, 1), (1046, .iconst 1, 1), (1047, .iadd, 1), (1048, .iaload, 1), (1049, .aload_n 0, 1), (1050, .iload_n 3, 1), (1051, .iconst 2, 1), (1052, .iadd, 1), (1053, .iaload, 1), (1054, .invokevirtual 120, 3), (1057, .if_icmp .eq 570, 3), (1060, .iconst 0, 1), (1061, .ireturn, 1), (1062, .aload_n 1, 1), (1063, .aload_n 0, 1), (1064, .iload_n 3, 1), (1065, .iconst 1, 1), (1066, .iadd, 1), (1067, .iaload, 1), (1068, .aload_n 0, 1), (1069, .iload_n 3, 1), (1070, .iconst 2, 1), (1071, .iadd, 1), (1072, .iaload, 1), (1073, .aload_n 0, 1), (1074, .iload_n 3, 1), (1075, .iconst 3, 1), (1076, .iadd, 1), (1077, .iaload, 1)]
theorem DL_law_11 : x_dk cL_law IL_law_11 = true := by decide +kernel
def IL_law_12 : List (Nat × Instr × Nat) := [(1078, .aload_n 0, 1), (1079, .iload_n 3, 1), (1080, .iconst 4, 1), (1081, .iadd, 1), (1082, .iaload, 1), (1083, .invokevirtual 121, 3), (1086, .aload_n 2, 1), (1087, .aload_n 0, 1), (1088, .iload_n 3, 1), (1089, .iconst 1, 1), (1090, .iadd, 1), (1091, .iaload, 1), (1092, .aload_n 0, 1), (1093, .iload_n 3, 1), (1094, .iconst 2, 1), (1095, .iadd, 1), (1096, .iaload, 1), (1097, .aload_n 0, 1), (1098, .iload_n 3, 1), (1099, .iconst 3, 1), (1100, .iadd, 1), (1101, .iaload, 1), (1102, .aload_n 0, 1), (1103, .iload_n 3, 1), (1104, .iconst 4, 1), (1105, .iadd, 1), (1106, .iaload, 1), (1107, .invokevirtual 125, 3), (1110, .if_icmp .eq 517, 3), (1113, .iconst 0, 1), (1114, .ireturn, 1), (1115, .aload_n 1, 1), (1116, .aload_n 0, 1), (1117, .iload_n 3, 1), (1118, .iconst 1, 1), (1119, .iadd, 1), (1120, .iaload, 1), (1121, .invokevirtual 126, 3), (1124, .aload_n 2, 1), (1125, .aload_n 0, 1), (1126, .iload_n 3, 1), (1127, .iconst 1, 1), (1128, .iadd, 1), (1129, .iaload, 1), (1130, .invokevirtual 129, 3), (1133, .if_icmp .eq 494, 3), (1136, .iconst 0, 1), (1137, .ireturn, 1), (1138, .aload_n 1, 1), (1139, .aload_n 0, 1), (1140, .iload_n 3, 1), (1141, .iconst 1, 1), (1142, .iadd, 1), (1143, .iaload, 1), (1144, .invokevirtual 130, 3), (1147, .aload_n 2, 1), (1148, .aload_n 0, 1), (1149, .iload_n 3, 1), (1150, .iconst 1, 1), (1151, .iadd, 1)]
theorem DL_law_12 : x_dk cL_law IL_law_12 = true := by decide +kernel
def IL_law_13 : List (Nat × Instr × Nat) := [(1152, .iaload, 1), (1153, .invokevirtual 133, 3), (1156, .if_icmp .eq 471, 3), (1159, .iconst 0, 1), (1160, .ireturn, 1), (1161, .aload_n 1, 1), (1162, .aload_n 0, 1), (1163, .iload_n 3, 1), (1164, .iconst 1, 1), (1165, .iadd, 1), (1166, .iaload, 1), (1167, .invokevirtual 134, 3), (1170, .aload_n 2, 1), (1171, .aload_n 0, 1), (1172, .iload_n 3, 1), (1173, .iconst 1, 1), (1174, .iadd, 1), (1175, .iaload, 1), (1176, .invokevirtual 137, 3), (1179, .if_icmp .eq 448, 3), (1182, .iconst 0, 1), (1183, .ireturn, 1), (1184, .aload_n 1, 1), (1185, .invokevirtual 138, 3), (1188, .aload_n 2, 1), (1189, .invokevirtual 141, 3), (1192, .if_icmp .eq 435, 3), (1195, .iconst 0, 1), (1196, .ireturn, 1), (1197, .aload_n 1, 1), (1198, .invokevirtual 142, 3), (1201, .aload_n 2, 1), (1202, .invokevirtual 145, 3), (1205, .if_icmp .eq 422, 3), (1208, .iconst 0, 1), (1209, .ireturn, 1), (1210, .aload_n 1, 1), (1211, .invokevirtual 146, 3), (1214, .aload_n 2, 1), (1215, .invokevirtual 149, 3), (1218, .if_icmp .eq 409, 3), (1221, .iconst 0, 1), (1222, .ireturn, 1), (1223, .aload_n 1, 1), (1224, .invokevirtual 150, 3), (1227, .aload_n 2, 1), (1228, .invokevirtual 153, 3), (1231, .if_icmp .eq 396, 3), (1234, .iconst 0, 1), (1235, .ireturn, 1), (1236, .aload_n 1, 1), (1237, .aload_n 0, 1), (1238, .iload_n 3, 1), (1239, .iconst 1, 1), (1240, .iadd, 1), (1241, .iaload, 1), (1242, .invokevirtual 154, 3), (1245, .aload_n 2, 1), (1246, .aload_n 0, 1), (1247, .iload_n 3, 1)]
theorem DL_law_13 : x_dk cL_law IL_law_13 = true := by decide +kernel
def IL_law_14 : List (Nat × Instr × Nat) := [(1248, .iconst 1, 1), (1249, .iadd, 1), (1250, .iaload, 1), (1251, .invokevirtual 157, 3), (1254, .if_icmp .eq 373, 3), (1257, .iconst 0, 1), (1258, .ireturn, 1), (1259, .aload_n 1, 1), (1260, .aload_n 0, 1), (1261, .iload_n 3, 1), (1262, .iconst 1, 1), (1263, .iadd, 1), (1264, .iaload, 1), (1265, .aload_n 0, 1), (1266, .iload_n 3, 1), (1267, .iconst 2, 1), (1268, .iadd, 1), (1269, .iaload, 1), (1270, .aload_n 0, 1), (1271, .iload_n 3, 1), (1272, .iconst 3, 1), (1273, .iadd, 1), (1274, .iaload, 1), (1275, .invokevirtual 158, 3), (1278, .aload_n 2, 1), (1279, .aload_n 0, 1), (1280, .iload_n 3, 1), (1281, .iconst 1, 1), (1282, .iadd, 1), (1283, .iaload, 1), (1284, .aload_n 0, 1), (1285, .iload_n 3, 1), (1286, .iconst 2, 1), (1287, .iadd, 1), (1288, .iaload, 1), (1289, .aload_n 0, 1), (1290, .iload_n 3, 1), (1291, .iconst 3, 1), (1292, .iadd, 1), (1293, .iaload, 1), (1294, .invokevirtual 161, 3), (1297, .if_icmp .eq 330, 3), (1300, .iconst 0, 1), (1301, .ireturn, 1), (1302, .aload_n 1, 1), (1303, .aload_n 0, 1), (1304, .iload_n 3, 1), (1305, .iconst 1, 1), (1306, .iadd, 1), (1307, .iaload, 1), (1308, .invokevirtual 162, 3), (1311, .aload_n 2, 1), (1312, .aload_n 0, 1), (1313, .iload_n 3, 1), (1314, .iconst 1, 1), (1315, .iadd, 1), (1316, .iaload, 1), (1317, .invokevirtual 165, 3), (1320, .if_icmp .eq 307, 3), (1323, .iconst 0, 1)]
theorem DL_law_14 : x_dk cL_law IL_law_14 = true := by decide +kernel
def IL_law_15 : List (Nat × Instr × Nat) := [(1324, .ireturn, 1), (1325, .aload_n 1, 1), (1326, .aload_n 0, 1), (1327, .iload_n 3, 1), (1328, .iconst 1, 1), (1329, .iadd, 1), (1330, .iaload, 1), (1331, .aload_n 0, 1), (1332, .iload_n 3, 1), (1333, .iconst 2, 1), (1334, .iadd, 1), (1335, .iaload, 1), (1336, .invokevirtual 166, 3), (1339, .aload_n 2, 1), (1340, .aload_n 0, 1), (1341, .iload_n 3, 1), (1342, .iconst 1, 1), (1343, .iadd, 1), (1344, .iaload, 1), (1345, .aload_n 0, 1), (1346, .iload_n 3, 1), (1347, .iconst 2, 1), (1348, .iadd, 1), (1349, .iaload, 1), (1350, .invokevirtual 169, 3), (1353, .if_icmp .eq 274, 3), (1356, .iconst 0, 1), (1357, .ireturn, 1), (1358, .aload_n 1, 1), (1359, .aload_n 0, 1), (1360, .iload_n 3, 1), (1361, .iconst 1, 1), (1362, .iadd, 1), (1363, .iaload, 1), (1364, .aload_n 0, 1), (1365, .iload_n 3, 1), (1366, .iconst 2, 1), (1367, .iadd, 1), (1368, .iaload, 1), (1369, .aload_n 0, 1), (1370, .iload_n 3, 1), (1371, .iconst 3, 1), (1372, .iadd, 1), (1373, .iaload, 1), (1374, .invokevirtual 170, 3), (1377, .aload_n 2, 1), (1378, .aload_n 0, 1), (1379, .iload_n 3, 1), (1380, .iconst 1, 1), (1381, .iadd, 1), (1382, .iaload, 1), (1383, .aload_n 0, 1), (1384, .iload_n 3, 1), (1385, .iconst 2, 1), (1386, .iadd, 1), (1387, .iaload, 1), (1388, .aload_n 0, 1), (1389, .iload_n 3, 1), (1390, .iconst 3, 1), (1391, .iadd, 1)]
theorem DL_law_15 : x_dk cL_law IL_law_15 = true := by decide +kernel
def IL_law_16 : List (Nat × Instr × Nat) := [(1392, .iaload, 1), (1393, .invokevirtual 173, 3), (1396, .if_icmp .eq 231, 3), (1399, .iconst 0, 1), (1400, .ireturn, 1), (1401, .aload_n 1, 1), (1402, .aload_n 0, 1), (1403, .iload_n 3, 1), (1404, .iconst 1, 1), (1405, .iadd, 1), (1406, .iaload, 1), (1407, .aload_n 0, 1), (1408, .iload_n 3, 1), (1409, .iconst 2, 1), (1410, .iadd, 1), (1411, .iaload, 1), (1412, .aload_n 0, 1), (1413, .iload_n 3, 1), (1414, .iconst 3, 1), (1415, .iadd, 1), (1416, .iaload, 1), (1417, .i2l, 1), (1418, .bipush 32, 2), (1420, .lshl, 1), (1421, .aload_n 0, 1), (1422, .iload_n 3, 1), (1423, .iconst 4, 1), (1424, .iadd, 1), (1425, .iaload, 1), (1426, .i2l, 1), (1427, .ldc2_w 174, 3), (1430, .land, 1), (1431, .lor, 1), (1432, .invokevirtual 176, 3), (1435, .aload_n 2, 1), (1436, .aload_n 0, 1), (1437, .iload_n 3, 1), (1438, .iconst 1, 1), (1439, .iadd, 1), (1440, .iaload, 1), (1441, .aload_n 0, 1), (1442, .iload_n 3, 1), (1443, .iconst 2, 1), (1444, .iadd, 1), (1445, .iaload, 1), (1446, .aload_n 0, 1), (1447, .iload_n 3, 1), (1448, .iconst 3, 1), (1449, .iadd, 1), (1450, .iaload, 1), (1451, .i2l, 1), (1452, .bipush 32, 2), (1454, .lshl, 1), (1455, .aload_n 0, 1), (1456, .iload_n 3, 1), (1457, .iconst 4, 1), (1458, .iadd, 1), (1459, .iaload, 1), (1460, .i2l, 1), (1461, .ldc2_w 174, 3)]
theorem DL_law_16 : x_dk cL_law IL_law_16 = true := by decide +kernel
def IL_law_17 : List (Nat × Instr × Nat) := [(1464, .land, 1), (1465, .lor, 1), (1466, .invokevirtual 180, 3), (1469, .if_icmp .eq 158, 3), (1472, .iconst 0, 1), (1473, .ireturn, 1), (1474, .aload_n 1, 1), (1475, .aload_n 0, 1), (1476, .iload_n 3, 1), (1477, .iconst 1, 1), (1478, .iadd, 1), (1479, .iaload, 1), (1480, .aload_n 0, 1), (1481, .iload_n 3, 1), (1482, .iconst 2, 1), (1483, .iadd, 1), (1484, .iaload, 1), (1485, .invokevirtual 181, 3), (1488, .aload_n 2, 1), (1489, .aload_n 0, 1), (1490, .iload_n 3, 1), (1491, .iconst 1, 1), (1492, .iadd, 1), (1493, .iaload, 1), (1494, .aload_n 0, 1), (1495, .iload_n 3, 1), (1496, .iconst 2, 1), (1497, .iadd, 1), (1498, .iaload, 1), (1499, .invokevirtual 185, 3), (1502, .lcmp, 1), (1503, .ifCond .eq 124, 3), (1506, .iconst 0, 1), (1507, .ireturn, 1), (1508, .aload_n 1, 1), (1509, .aload_n 0, 1), (1510, .iload_n 3, 1), (1511, .iconst 1, 1), (1512, .iadd, 1), (1513, .iaload, 1), (1514, .aload_n 0, 1), (1515, .iload_n 3, 1), (1516, .iconst 2, 1), (1517, .iadd, 1), (1518, .iaload, 1), (1519, .aload_n 0, 1), (1520, .iload_n 3, 1), (1521, .iconst 3, 1), (1522, .iadd, 1), (1523, .iaload, 1), (1524, .aload_n 0, 1), (1525, .iload_n 3, 1), (1526, .iconst 4, 1), (1527, .iadd, 1), (1528, .iaload, 1), (1529, .aload_n 0, 1), (1530, .iload_n 3, 1), (1531, .iconst 5, 1), (1532, .iadd, 1), (1533, .iaload, 1)]
theorem DL_law_17 : x_dk cL_law IL_law_17 = true := by decide +kernel
def IL_law_18 : List (Nat × Instr × Nat) := [(1534, .invokevirtual 186, 3), (1537, .aload_n 2, 1), (1538, .aload_n 0, 1), (1539, .iload_n 3, 1), (1540, .iconst 1, 1), (1541, .iadd, 1), (1542, .iaload, 1), (1543, .aload_n 0, 1), (1544, .iload_n 3, 1), (1545, .iconst 2, 1), (1546, .iadd, 1), (1547, .iaload, 1), (1548, .aload_n 0, 1), (1549, .iload_n 3, 1), (1550, .iconst 3, 1), (1551, .iadd, 1), (1552, .iaload, 1), (1553, .aload_n 0, 1), (1554, .iload_n 3, 1), (1555, .iconst 4, 1), (1556, .iadd, 1), (1557, .iaload, 1), (1558, .aload_n 0, 1), (1559, .iload_n 3, 1), (1560, .iconst 5, 1), (1561, .iadd, 1), (1562, .iaload, 1), (1563, .invokevirtual 190, 3), (1566, .if_icmp .eq 61, 3), (1569, .iconst 0, 1), (1570, .ireturn, 1), (1571, .aload_n 1, 1), (1572, .aload_n 0, 1), (1573, .iload_n 3, 1), (1574, .iconst 1, 1), (1575, .iadd, 1), (1576, .iaload, 1), (1577, .aload_n 0, 1), (1578, .iload_n 3, 1), (1579, .iconst 2, 1), (1580, .iadd, 1), (1581, .iaload, 1), (1582, .invokevirtual 191, 3), (1585, .aload_n 2, 1), (1586, .aload_n 0, 1), (1587, .iload_n 3, 1), (1588, .iconst 1, 1), (1589, .iadd, 1), (1590, .iaload, 1), (1591, .aload_n 0, 1), (1592, .iload_n 3, 1), (1593, .iconst 2, 1), (1594, .iadd, 1), (1595, .iaload, 1), (1596, .invokevirtual 194, 3), (1599, .if_icmp .eq 28, 3), (1602, .iconst 0, 1), (1603, .ireturn, 1), (1604, .aload_n 1, 1), (1605, .aload_n 0, 1)]
theorem DL_law_18 : x_dk cL_law IL_law_18 = true := by decide +kernel
def IL_law_19 : List (Nat × Instr × Nat) := [(1606, .iload_n 3, 1), (1607, .iconst 1, 1), (1608, .iadd, 1), (1609, .iaload, 1), (1610, .invokevirtual 195, 3), (1613, .aload_n 2, 1), (1614, .aload_n 0, 1), (1615, .iload_n 3, 1), (1616, .iconst 1, 1), (1617, .iadd, 1), (1618, .iaload, 1), (1619, .invokevirtual 198, 3), (1622, .if_icmp .eq 5, 3), (1625, .iconst 0, 1), (1626, .ireturn, 1), (1627, .iinc 3 6, 3), (1630, .goto (-1612), 3), (1633, .iconst 1, 1), (1634, .ireturn, 1)]
theorem DL_law_19 : x_dk cL_law IL_law_19 = true := by decide +kernel
end
section
/-! THE STEADY STATE: all cells are made; only ints, longs and two references (which of Told's rows is which) change -/
def kdL : List Nat := [10, 5, 14, 12, 12, 12, 1, 12, 12, 12, 1, 12, 12, 12, 1, 12, 12, 12, 1, 12, 12, 12, 1, 12, 12, 12, 1, 12, 12, 12, 1, 12, 12, 12, 1, 12, 12, 12, 1, 12, 12, 12, 1, 12, 12, 12, 7, 12, 12, 3, 12, 12, 12, 2, 12, 12, 12, 12, 8, 12, 12, 9, 12, 12, 12, 12, 12, 12, 0, 12, 6, 12, 12, 4, 12, 12, 13, 1, 12, 12, 12, 11, 12, 12, 12, 12, 12, 12, 12, 12, 12, 12, 12, 12, 12, 12, 12, 12, 12, 12, 12, 12, 12, 12, 12, 12, 12, 12, 13, 12, 12, 12, 12, 12, 12]
def lnL : List Nat := [0, 0, 10, 30, 10, 10, 0, 4, 100, 100, 0, 4, 100, 100, 0, 4, 100, 100, 0, 4, 100, 100, 0, 4, 100, 100, 0, 4, 100, 100, 0, 4, 100, 100, 0, 4, 100, 100, 0, 4, 100, 100, 0, 4, 100, 100, 0, 120, 256, 0, 256, 6, 64, 0, 10, 100, 100, 10, 0, 10, 10, 0, 6, 6, 4, 6, 6, 4, 0, 160, 0, 50, 24, 0, 6, 6, 360, 0, 4, 100, 100, 0, 10, 10, 10, 10, 6, 6, 120, 60, 60, 60, 200, 61, 61, 61, 200, 200, 6, 3, 6, 6, 3, 160, 50, 24, 6, 6, 360, 11, 11, 110, 110, 11, 11]
def rfL : List (List (Option Nat)) := [[some 1, some 46, some 49, some 53, some 58, some 61, some 68, some 70, some 73, some 77], [some 2, some 3, some 4, some 5], [some 6, some 10, some 14, some 18, some 22, some 26, some 30, some 34, some 38, some 42], [], [], [], [some 7, some 8, some 9], [], [], [], [some 11, some 12, some 13], [], [], [], [some 15, some 16, some 17], [], [], [], [some 19, some 20, some 21], [], [], [], [some 23, some 24, some 25], [], [], [], [some 27, some 28, some 29], [], [], [], [some 31, some 32, some 33], [], [], [], [some 35, some 36, some 37], [], [], [], [some 39, some 40, some 41], [], [], [], [some 43, some 44, some 45], [], [], [], [some 47, some 48], [], [], [some 50, some 51, some 52], [], [], [], [some 1, some 49, some 54, some 55, some 56, some 57], [], [], [], [], [some 1, some 59, some 60], [], [], [some 62, some 63, some 64, some 65, some 66, some 67], [], [], [], [], [], [], [some 69], [], [some 71, some 72], [], [], [some 74, some 75, some 76], [], [], [], [some 78, some 79, some 80], [], [], [], [none, some 82, some 83, some 84, some 85, none, some 86, some 87, none, none, some 88, none, none, some 89, some 90, some 91, some 92, none, none, none, none, some 93, some 94, some 95, some 96, some 97, some 98, some 99, none, none, none, some 100, some 101, some 102, none, none, some 103, none, some 104, none, some 105, some 106, some 107, some 108, some 109, some 110, some 111, some 112, some 113, some 114], [], [], [], [], [], [], [], [], [], [], [], [], [], [], [], [], [], [], [], [], [], [], [], [], [], [], [], [], [], [], [], [], []]
def kd0 (a : Nat) : Nat := kdL.getD a 99
def ln0 (a : Nat) : Nat := lnL.getD a 0
def rf0 (sw : Bool) (a k : Nat) : Option Nat := if a = 58 ∧ k = 1 then some (if sw then 60 else 59) else if a = 58 ∧ k = 2 then some (if sw then 59 else 60) else (rfL.getD a []).getD k none
/-- the memory: which of Told's rows is which, the ints, the longs -/
def S (sw : Bool) (f : Nat → Nat → Int32) (g : Nat → Nat → Int64) : mM := (115, kd0, ln0, f, g, rf0 sw)
theorem kd0_lt {a c : Nat} (h : kd0 a = c) (hc : c < 99) : a < 115 := by
  by_cases ha : a < 115
  · exact ha
  · exfalso
    unfold kd0 at h
    rw [List.getD_eq_getElem?_getD, List.getElem?_eq_none (show kdL.length ≤ a from Nat.le_of_not_lt ha)] at h
    simp at h
    omega
theorem rf0_lt {sw : Bool} {a k r : Nat} (h : rf0 sw a k = some r) : r < 115 := by
  have hall : ∀ q ∈ rfL, ∀ v ∈ q, ∀ r ∈ v, r < 115 := by decide +kernel
  unfold rf0 at h
  split at h
  · cases sw <;> (simp at h; omega)
  · split at h
    · cases sw <;> (simp at h; omega)
    · rw [List.getD_eq_getElem?_getD] at h
      cases hr : (rfL.getD a [])[k]? with
      | none => rw [hr] at h; cases h
      | some v =>
        rw [hr] at h
        have h : v = some r := h
        have hm := List.mem_of_getElem? hr
        rw [List.getD_eq_getElem?_getD] at hm
        cases hq : rfL[a]? with
        | none => rw [hq] at hm; simp at hm
        | some q =>
          rw [hq] at hm
          exact hall q (List.mem_of_getElem? hq) v hm r (by rw [h]; rfl)
def QR (v : Option Value) (M2 : mM) : Option Value → mM → Prop := fun r M' => r = v ∧ M' = M2
def QS (P : Option Value → Bool → (Nat → Nat → Int32) → (Nat → Nat → Int64) → Prop) : Option Value → mM → Prop := fun r M' => ∃ sw f g, M' = S sw f g ∧ P r sw f g
section STEADY
variable {X : cxT} {own : String} {cc : ByteArray} {d C Sl pc : Nat} {ls : List (Option Value)} {st : List Value} {sw : Bool} {f : Nat → Nat → Int32} {g : Nat → Nat → Int64}
theorem FL.lt {own : String} {idx ci k t : Nat} (h : FL own idx ci k t) : ci < 12 := by
  obtain ⟨_, _, _, _, h, _⟩ := h
  exact h.2.2.1
theorem FP.lt {own : String} {idx ci k t : Nat} (h : FP own idx ci k t) : ci < 12 := by
  obtain ⟨_, _, _, _, h, _⟩ := h
  exact h.2.2.1
theorem w_geti {idx ci k t a : Nat} (hX : Good X own cc d C Sl) (hf : FL own idx ci k t) (hd : decode cc pc = .ok (.getfield idx, 3)) (ht : ¬ t = 0) (hk : kd0 a = ci) (kk : WP X C Sl (pc + 3) ls (.int (f a k) :: st) (S sw f g)) : WP X C Sl pc ls (.ref a :: st) (S sw f g) :=
  wp_geti hX hf hd ht (show a < 115 from kd0_lt hk (Nat.lt_trans hf.lt (by decide))) hk kk
theorem w_getr {idx ci k a r : Nat} (hX : Good X own cc d C Sl) (hf : FL own idx ci k 0) (hd : decode cc pc = .ok (.getfield idx, 3)) (hk : kd0 a = ci) (hr : rf0 sw a k = some r) (kk : WP X C Sl (pc + 3) ls (.ref r :: st) (S sw f g)) : WP X C Sl pc ls (.ref a :: st) (S sw f g) :=
  wp_getr hX hf hd (show a < 115 from kd0_lt hk (Nat.lt_trans hf.lt (by decide))) hk hr (Nat.lt_trans (rf0_lt hr) (by decide)) kk
theorem w_puti {idx ci k a : Nat} {v : Int32} (hX : Good X own cc d C Sl) (hf : FP own idx ci k 1) (hd : decode cc pc = .ok (.putfield idx, 3)) (hk : kd0 a = ci) (kk : WP X C Sl (pc + 3) ls st (S sw (u2 f a k v) g)) : WP X C Sl pc ls (.int v :: .ref a :: st) (S sw f g) :=
  wp_puti hX hf hd (show a < 115 from kd0_lt hk (Nat.lt_trans hf.lt (by decide))) hk kk
theorem w_putz {idx ci k a : Nat} {v : Int32} (hX : Good X own cc d C Sl) (hf : FP own idx ci k 2) (hd : decode cc pc = .ok (.putfield idx, 3)) (hv : narrow .boolean (.int v) = .int v ∧ fits .boolean (.int v) = true) (hk : kd0 a = ci) (kk : WP X C Sl (pc + 3) ls st (S sw (u2 f a k v) g)) : WP X C Sl pc ls (.int v :: .ref a :: st) (S sw f g) :=
  wp_putz hX hf hd hv (show a < 115 from kd0_lt hk (Nat.lt_trans hf.lt (by decide))) hk kk
theorem x_big {a j : Nat} (h : j < ln0 a) : j < 2 ^ 31 := by
  have hall : ∀ q ∈ lnL, q ≤ 360 := by decide +kernel
  have : ln0 a ≤ 360 := by
    unfold ln0
    rw [List.getD_eq_getElem?_getD]
    cases hq : lnL[a]? with
    | none => simp
    | some q => exact hall q (List.mem_of_getElem? hq)
  omega
theorem x_len {a : Nat} : ln0 a < 2 ^ 31 := by
  have hall : ∀ q ∈ lnL, q ≤ 360 := by decide +kernel
  have : ln0 a ≤ 360 := by
    unfold ln0
    rw [List.getD_eq_getElem?_getD]
    cases hq : lnL[a]? with
    | none => simp
    | some q => exact hall q (List.mem_of_getElem? hq)
  omega
theorem w_iald {a j : Nat} {i : Int32} (hX : Good X own cc d C Sl) (hd : decode cc pc = .ok (.iaload, 1)) (hk : kd0 a = 12) (hi : i = nI j) (hj : j < ln0 a) (kk : WP X C Sl (pc + 1) ls (.int (f a j) :: st) (S sw f g)) : WP X C Sl pc ls (.int i :: .ref a :: st) (S sw f g) := by
  subst hi
  refine wp_iald hX hd (show a < 115 from kd0_lt hk (by decide)) hk (vp_in_nI hj x_len) ?_
  rw [nI_clamp (x_big hj)]
  exact kk
theorem w_iast {a j : Nat} {i v : Int32} (hX : Good X own cc d C Sl) (hd : decode cc pc = .ok (.iastore, 1)) (hk : kd0 a = 12) (hi : i = nI j) (hj : j < ln0 a) (kk : WP X C Sl (pc + 1) ls st (S sw (u2 f a j v) g)) : WP X C Sl pc ls (.int v :: .int i :: .ref a :: st) (S sw f g) := by
  subst hi
  refine wp_iast hX hd (show a < 115 from kd0_lt hk (by decide)) hk (vp_in_nI hj x_len) ?_
  rw [nI_clamp (x_big hj)]
  exact kk
theorem w_lald {a j : Nat} {i : Int32} (hX : Good X own cc d C Sl) (hd : decode cc pc = .ok (.laload, 1)) (hk : kd0 a = 13) (hi : i = nI j) (hj : j < ln0 a) (kk : WP X C Sl (pc + 1) ls (.long (g a j) :: st) (S sw f g)) : WP X C Sl pc ls (.int i :: .ref a :: st) (S sw f g) := by
  subst hi
  refine wp_lald hX hd (show a < 115 from kd0_lt hk (by decide)) hk (vp_in_nI hj x_len) ?_
  rw [nI_clamp (x_big hj)]
  exact kk
theorem w_last {a j : Nat} {i : Int32} {v : Int64} (hX : Good X own cc d C Sl) (hd : decode cc pc = .ok (.lastore, 1)) (hk : kd0 a = 13) (hi : i = nI j) (hj : j < ln0 a) (kk : WP X C Sl (pc + 1) ls st (S sw f (u2 g a j v))) : WP X C Sl pc ls (.long v :: .int i :: .ref a :: st) (S sw f g) := by
  subst hi
  refine wp_last hX hd (show a < 115 from kd0_lt hk (by decide)) hk (vp_in_nI hj x_len) ?_
  rw [nI_clamp (x_big hj)]
  exact kk
theorem w_aald {a j r : Nat} {i : Int32} (hX : Good X own cc d C Sl) (hd : decode cc pc = .ok (.aaload, 1)) (hk : kd0 a = 14) (hi : i = nI j) (hj : j < ln0 a) (hr : rf0 sw a j = some r) (kk : WP X C Sl (pc + 1) ls (.ref r :: st) (S sw f g)) : WP X C Sl pc ls (.int i :: .ref a :: st) (S sw f g) := by
  subst hi
  refine wp_aald (r := r) hX hd (show a < 115 from kd0_lt hk (by decide)) hk (vp_in_nI hj x_len) ?_ kk
  rw [nI_clamp (x_big hj)]
  exact hr
theorem w_copyi {idx a b sp dp n : Nat} {i j k : Int32} (hX : Good X own cc (d + 1) C Sl) (hw : Cond.methodLink own idx arraycopyName ∈ x_tbl) (hd : decode cc pc = .ok (.invokestatic idx, 3)) (hst : (st.map fun v => v.category).sum ≤ 8) (hka : kd0 a = 12) (hkb : kd0 b = 12) (hi : i = nI sp) (hj : j = nI dp) (hk : k = nI n) (h1 : sp + n ≤ ln0 a) (h2 : dp + n ≤ ln0 b) (kk : WP X C Sl (pc + 3) ls st (S sw (u1 f b (va_cpy (f a) (f b) sp dp n)) g)) : WP X C Sl pc ls (.int k :: .int j :: .ref b :: .int i :: .ref a :: st) (S sw f g) := by
  subst hi hj hk
  have ha := x_len (a := a)
  have hb := x_len (a := b)
  have e1 := nI_clamp (n := sp) (by omega)
  have e2 := nI_clamp (n := dp) (by omega)
  have e3 := nI_clamp (n := n) (by omega)
  refine wp_copyi hX hw kna_copy kst_copy kin_System hd hst (show a < 115 from kd0_lt hka (by decide)) hka (show b < 115 from kd0_lt hkb (by decide)) hkb (nI_pos (by omega)) (nI_pos (by omega)) (nI_pos (by omega)) (by rw [e1, e3]; exact h1) (by rw [e2, e3]; exact h2) ?_
  rw [e1, e2, e3]
  exact kk
theorem w_copyj {idx a b sp dp n : Nat} {i j k : Int32} (hX : Good X own cc (d + 1) C Sl) (hw : Cond.methodLink own idx arraycopyName ∈ x_tbl) (hd : decode cc pc = .ok (.invokestatic idx, 3)) (hst : (st.map fun v => v.category).sum ≤ 8) (hka : kd0 a = 13) (hkb : kd0 b = 13) (hi : i = nI sp) (hj : j = nI dp) (hk : k = nI n) (h1 : sp + n ≤ ln0 a) (h2 : dp + n ≤ ln0 b) (kk : WP X C Sl (pc + 3) ls st (S sw f (u1 g b (va_cpy (g a) (g b) sp dp n)))) : WP X C Sl pc ls (.int k :: .int j :: .ref b :: .int i :: .ref a :: st) (S sw f g) := by
  subst hi hj hk
  have ha := x_len (a := a)
  have hb := x_len (a := b)
  have e1 := nI_clamp (n := sp) (by omega)
  have e2 := nI_clamp (n := dp) (by omega)
  have e3 := nI_clamp (n := n) (by omega)
  refine wp_copyj hX hw kna_copy kst_copy kin_System hd hst (show a < 115 from kd0_lt hka (by decide)) hka (show b < 115 from kd0_lt hkb (by decide)) hkb (nI_pos (by omega)) (nI_pos (by omega)) (nI_pos (by omega)) (by rw [e1, e3]; exact h1) (by rw [e2, e3]; exact h2) ?_
  rw [e1, e2, e3]
  exact kk
theorem w_max {idx : Nat} {x y : Int32} {M : mM} (hX : Good X own cc (d + 1) C Sl) (hw : Cond.methodLink own idx Lib.Math.max.name ∈ x_tbl) (hd : decode cc pc = .ok (.invokestatic idx, 3)) (hst : (st.map fun v => v.category).sum ≤ 8) (kk : WP X C Sl (pc + 3) ls (.int (if x < y then y else x) :: st) M) : WP X C Sl pc ls (.int y :: .int x :: st) M :=
  wp_max hX hw kst_max kin_Math kcd_max hd hst (Nat.le_refl _) (Nat.le_refl _) kk
theorem w_min {idx : Nat} {x y : Int32} {M : mM} (hX : Good X own cc (d + 1) C Sl) (hw : Cond.methodLink own idx Lib.Math.min.name ∈ x_tbl) (hd : decode cc pc = .ok (.invokestatic idx, 3)) (hst : (st.map fun v => v.category).sum ≤ 8) (kk : WP X C Sl (pc + 3) ls (.int (if y < x then y else x) :: st) M) : WP X C Sl pc ls (.int y :: .int x :: st) M :=
  wp_min hX hw kst_min kin_Math kcd_min hd hst (Nat.le_refl _) (Nat.le_refl _) kk
theorem w_abs {idx : Nat} {x : Int32} {M : mM} (hX : Good X own cc (d + 1) C Sl) (hw : Cond.methodLink own idx Lib.Math.abs.name ∈ x_tbl) (hd : decode cc pc = .ok (.invokestatic idx, 3)) (hst : (st.map fun v => v.category).sum ≤ 8) (kk : WP X C Sl (pc + 3) ls (.int (if 0 ≤ x then x else 0 - x) :: st) M) : WP X C Sl pc ls (.int x :: st) M :=
  wp_abs hX hw kst_abs kin_Math kcd_abs hd hst (Nat.le_refl _) (Nat.le_refl _) kk
/-- calls whose end is known -/
theorem w_callV {i : mI} {n idx b ci : Nat} {As : List Value} {v : Option Value} {sw2 : Bool} {f2 : Nat → Nat → Int32} {g2 : Nat → Nat → Int64} (hv : IV own idx i n ci) (hX : Good X own cc (d + 1) C Sl) (hd : decode cc pc = .ok (.invokevirtual idx, 3)) (hk : kd0 b = ci) (hn : As.length = n) (hst : (st.map fun v => v.category).sum ≤ 8) (hN : x_nl X = ls.length) (hct : CT d 0 0 i (.ref b :: As) (S sw f g) (QR v (S sw2 f2 g2))) (kk : WP X C Sl (pc + 3) ls (v.toList ++ st) (S sw2 f2 g2)) : WP X C Sl pc ls (As.reverse ++ .ref b :: st) (S sw f g) := by
  obtain ⟨h1, h2, h3, h4, ⟨T, N, h5⟩, h6⟩ := hv
  refine wp_invV' hX h1 h2 h3 h4 h5 rfl h6 hd (show b < 115 from kd0_lt hk (Nat.lt_trans h6 (by decide))) hk hn hst (Nat.le_refl _) (Nat.le_refl _) hN hct ?_ ?_
  · rintro M' ⟨r, -, rfl⟩
    exact Or.inl rfl
  · rintro r M' ⟨rfl, rfl⟩
    exact kk
theorem w_callS {i : mI} {n idx : Nat} {As : List Value} {v : Option Value} {sw2 : Bool} {f2 : Nat → Nat → Int32} {g2 : Nat → Nat → Int64} (hv : IS own idx i n) (hX : Good X own cc (d + 1) C Sl) (hd : decode cc pc = .ok (.invokestatic idx, 3)) (hn : As.length = n) (hst : (st.map fun v => v.category).sum ≤ 8) (hct : CT d 0 0 i As (S sw f g) (QR v (S sw2 f2 g2))) (kk : WP X C Sl (pc + 3) ls (v.toList ++ st) (S sw2 f2 g2)) : WP X C Sl pc ls (As.reverse ++ st) (S sw f g) := by
  obtain ⟨h1, h2, h3⟩ := hv
  refine wp_invS' hX h1 h2 h3 hd hn hst (Nat.le_refl _) (Nat.le_refl _) hct ?_ ?_
  · rintro M' ⟨r, -, rfl⟩
    exact Or.inl rfl
  · rintro r M' ⟨rfl, rfl⟩
    exact kk
/-- calls of whose end something is known -/
theorem w_callVQ {i : mI} {n idx b ci : Nat} {As : List Value} {P : Option Value → Bool → (Nat → Nat → Int32) → (Nat → Nat → Int64) → Prop} (hv : IV own idx i n ci) (hX : Good X own cc (d + 1) C Sl) (hd : decode cc pc = .ok (.invokevirtual idx, 3)) (hk : kd0 b = ci) (hn : As.length = n) (hst : (st.map fun v => v.category).sum ≤ 8) (hN : x_nl X = ls.length) (hct : CT d 0 0 i (.ref b :: As) (S sw f g) (QS P)) (kk : ∀ v sw2 f2 g2, P v sw2 f2 g2 → WP X C Sl (pc + 3) ls (v.toList ++ st) (S sw2 f2 g2)) : WP X C Sl pc ls (As.reverse ++ .ref b :: st) (S sw f g) := by
  obtain ⟨h1, h2, h3, h4, ⟨T, N, h5⟩, h6⟩ := hv
  refine wp_invV' hX h1 h2 h3 h4 h5 rfl h6 hd (show b < 115 from kd0_lt hk (Nat.lt_trans h6 (by decide))) hk hn hst (Nat.le_refl _) (Nat.le_refl _) hN hct ?_ ?_
  · rintro M' ⟨r, sw2, f2, g2, rfl, -⟩
    exact Or.inl rfl
  · rintro r M' ⟨sw2, f2, g2, rfl, h⟩
    exact kk r sw2 f2 g2 h
theorem w_callSQ {i : mI} {n idx : Nat} {As : List Value} {P : Option Value → Bool → (Nat → Nat → Int32) → (Nat → Nat → Int64) → Prop} (hv : IS own idx i n) (hX : Good X own cc (d + 1) C Sl) (hd : decode cc pc = .ok (.invokestatic idx, 3)) (hn : As.length = n) (hst : (st.map fun v => v.category).sum ≤ 8) (hct : CT d 0 0 i As (S sw f g) (QS P)) (kk : ∀ v sw2 f2 g2, P v sw2 f2 g2 → WP X C Sl (pc + 3) ls (v.toList ++ st) (S sw2 f2 g2)) : WP X C Sl pc ls (As.reverse ++ st) (S sw f g) := by
  obtain ⟨h1, h2, h3⟩ := hv
  refine wp_invS' hX h1 h2 h3 hd hn hst (Nat.le_refl _) (Nat.le_refl _) hct ?_ ?_
  · rintro M' ⟨r, sw2, f2, g2, rfl, -⟩
    exact Or.inl rfl
  · rintro r M' ⟨sw2, f2, g2, rfl, h⟩
    exact kk r sw2 f2 g2 h
theorem w_callT {i : mI} {n idx b : Nat} {As : List Value} {v : Option Value} {sw2 : Bool} {f2 : Nat → Nat → Int32} {g2 : Nat → Nat → Int64} (hv : IT own idx i n) (hX : Good X own cc (d + 1) C Sl) (hb : b < 6) (hd : decode cc pc = .ok (.invokevirtual idx, 3)) (hn : As.length = n) (hst : (st.map fun v => v.category).sum ≤ 8) (hct : CT d 0 0 i (.ref (1010 + b) :: As) (S sw f g) (QR v (S sw2 f2 g2))) (kk : WP X C Sl (pc + 3) ls (v.toList ++ st) (S sw2 f2 g2)) : WP X C Sl pc ls (As.reverse ++ .ref (1010 + b) :: st) (S sw f g) := by
  obtain ⟨h1, h2, h3, h4, h5⟩ := hv
  refine wp_invT' hX h1 h2 h3 h4 h5 hb hd hn hst (Nat.le_refl _) (Nat.le_refl _) hct ?_ ?_
  · rintro M' ⟨r, -, rfl⟩
    rfl
  · rintro r M' ⟨rfl, rfl⟩
    exact kk
end STEADY
end
section
/-! FORM: walks. Each method's end is told by a function of Lean that does the same steps -/
theorem nI_inc (a : Nat) : nI a + Int32.ofInt 1 = nI (a + 1) := nI_1 a
/-- Integer.bitCount -/
def jpc (x : Int32) : Int32 :=
  let a := x - ((x.toUInt32 >>> ((1 : Int32).toUInt32 &&& Int32.toUInt32 31)).toInt32 &&& 1431655765)
  let b := (a &&& 858993459) + ((a.toUInt32 >>> ((2 : Int32).toUInt32 &&& Int32.toUInt32 31)).toInt32 &&& 858993459)
  let c := (b + (b.toUInt32 >>> ((4 : Int32).toUInt32 &&& Int32.toUInt32 31)).toInt32) &&& 252645135
  let e := c + (c.toUInt32 >>> ((8 : Int32).toUInt32 &&& Int32.toUInt32 31)).toInt32
  let f := e + (e.toUInt32 >>> ((16 : Int32).toUInt32 &&& Int32.toUInt32 31)).toInt32
  f &&& 63
theorem k_bitCount (d : Nat) (x : Int32) (M : mM) : CT d 0 0 iJ6_bitCount_0f7a4 [.int x] M (QR (some (.int (jpc x))) M) := by
  refine CT.of rfl (Nat.le_of_ble_eq_true rfl) (fun X hX hR hN _ => ?_)
  have hX : Good X RJ6 cJ6_bitCount_0f7a4 d 0 0 := hX
  have hN : x_nl X = 1 := hN
  show WP X 0 0 0 [_] [] _
  refine wp_iload_n hX (dk DJ6_bitCount_0f7a4 0 rfl) rfl ?_
  refine wp_iload_n hX (dk DJ6_bitCount_0f7a4 1 rfl) rfl ?_
  refine wp_iconst (v := 1) hX (dk DJ6_bitCount_0f7a4 2 rfl) (by decide) ?_
  refine wp_iushr hX (dk DJ6_bitCount_0f7a4 3 rfl) ?_
  refine wp_ldcw hX (dk DJ6_bitCount_0f7a4 4 rfl) kcJ6_265 ?_
  refine wp_iand hX (dk DJ6_bitCount_0f7a4 5 rfl) ?_
  refine wp_isub hX (dk DJ6_bitCount_0f7a4 6 rfl) ?_
  refine wp_istore_n hX (dk DJ6_bitCount_0f7a4 7 rfl) rfl rfl hN (Nat.le_of_ble_eq_true rfl) ?_
  show WP _ _ _ 10 [_] [] _
  refine wp_iload_n hX (dk DJ6_bitCount_0f7a4 8 rfl) rfl ?_
  refine wp_ldcw hX (dk DJ6_bitCount_0f7a4 9 rfl) kcJ6_266 ?_
  refine wp_iand hX (dk DJ6_bitCount_0f7a4 10 rfl) ?_
  refine wp_iload_n hX (dk DJ6_bitCount_0f7a4 11 rfl) rfl ?_
  refine wp_iconst (v := 2) hX (dk DJ6_bitCount_0f7a4 12 rfl) (by decide) ?_
  refine wp_iushr hX (dk DJ6_bitCount_0f7a4 13 rfl) ?_
  refine wp_ldcw hX (dk DJ6_bitCount_0f7a4 14 rfl) kcJ6_266 ?_
  refine wp_iand hX (dk DJ6_bitCount_0f7a4 15 rfl) ?_
  refine wp_iadd hX (dk DJ6_bitCount_0f7a4 16 rfl) ?_
  refine wp_istore_n hX (dk DJ6_bitCount_0f7a4 17 rfl) rfl rfl hN (Nat.le_of_ble_eq_true rfl) ?_
  show WP _ _ _ 24 [_] [] _
  refine wp_iload_n hX (dk DJ6_bitCount_0f7a4 18 rfl) rfl ?_
  refine wp_iload_n hX (dk DJ6_bitCount_0f7a4 19 rfl) rfl ?_
  refine wp_iconst (v := 4) hX (dk DJ6_bitCount_0f7a4 20 rfl) (by decide) ?_
  refine wp_iushr hX (dk DJ6_bitCount_0f7a4 21 rfl) ?_
  refine wp_iadd hX (dk DJ6_bitCount_0f7a4 22 rfl) ?_
  refine wp_ldcw hX (dk DJ6_bitCount_0f7a4 23 rfl) kcJ6_267 ?_
  refine wp_iand hX (dk DJ6_bitCount_0f7a4 24 rfl) ?_
  refine wp_istore_n hX (dk DJ6_bitCount_0f7a4 25 rfl) rfl rfl hN (Nat.le_of_ble_eq_true rfl) ?_
  show WP _ _ _ 34 [_] [] _
  refine wp_iload_n hX (dk DJ6_bitCount_0f7a4 26 rfl) rfl ?_
  refine wp_iload_n hX (dk DJ6_bitCount_0f7a4 27 rfl) rfl ?_
  refine wp_bipush (v := 8) hX (dk DJ6_bitCount_0f7a4 28 rfl) (by decide) ?_
  refine wp_iushr hX (dk DJ6_bitCount_0f7a4 29 rfl) ?_
  refine wp_iadd hX (dk DJ6_bitCount_0f7a4 30 rfl) ?_
  refine wp_istore_n hX (dk DJ6_bitCount_0f7a4 31 rfl) rfl rfl hN (Nat.le_of_ble_eq_true rfl) ?_
  show WP _ _ _ 41 [_] [] _
  refine wp_iload_n hX (dk DJ6_bitCount_0f7a4 32 rfl) rfl ?_
  refine wp_iload_n hX (dk DJ6_bitCount_0f7a4 33 rfl) rfl ?_
  refine wp_bipush (v := 16) hX (dk DJ6_bitCount_0f7a4 34 rfl) (by decide) ?_
  refine wp_iushr hX (dk DJ6_bitCount_0f7a4 35 rfl) ?_
  refine wp_iadd hX (dk DJ6_bitCount_0f7a4 36 rfl) ?_
  refine wp_istore_n hX (dk DJ6_bitCount_0f7a4 37 rfl) rfl rfl hN (Nat.le_of_ble_eq_true rfl) ?_
  show WP _ _ _ 48 [_] [] _
  refine wp_iload_n hX (dk DJ6_bitCount_0f7a4 38 rfl) rfl ?_
  refine wp_bipush (v := 63) hX (dk DJ6_bitCount_0f7a4 39 rfl) (by decide) ?_
  refine wp_iand hX (dk DJ6_bitCount_0f7a4 40 rfl) ?_
  exact wp_ireturn hX hR (dk DJ6_bitCount_0f7a4 41 rfl) rfl (Nat.le_refl _) (Nat.le_refl _) (⟨rfl, rfl⟩)
/-- holds(set, figure) -/
def jbit (s i : Int32) : Int32 := if (s >>> (i &&& 31)) &&& 1 = 1 then 1 else 0
theorem k_holds (d : Nat) (s i : Int32) (M : mM) : CT d 0 0 iX10_holds [.int s, .int i] M (QR (some (.int (jbit s i))) M) := by
  refine CT.of rfl (Nat.le_of_ble_eq_true rfl) (fun X hX hR hN _ => ?_)
  have hX : Good X RX10 cX10_holds d 0 0 := hX
  have hN : x_nl X = 2 := hN
  show WP X 0 0 0 [_, _] [] _
  refine wp_iload_n hX (dk DX10_holds 0 rfl) rfl ?_
  refine wp_iload_n hX (dk DX10_holds 1 rfl) rfl ?_
  refine wp_ishr hX (dk DX10_holds 2 rfl) ?_
  refine wp_iconst (v := 1) hX (dk DX10_holds 3 rfl) (by decide) ?_
  refine wp_iand hX (dk DX10_holds 4 rfl) ?_
  refine wp_iconst (v := 1) hX (dk DX10_holds 5 rfl) (by decide) ?_
  refine wp_icmp_ne (tgt := 13) hX (dk DX10_holds 6 rfl) (by decide) (fun h => ?_) (fun h => ?_)
  · refine wp_iconst (v := 0) hX (dk DX10_holds 9 rfl) (by decide) ?_
    exact wp_ireturn hX hR (dk DX10_holds 10 rfl) rfl (Nat.le_refl _) (Nat.le_refl _) (⟨by rw [jbit, if_neg h], rfl⟩)
  · refine wp_iconst (v := 1) hX (dk DX10_holds 7 rfl) (by decide) ?_
    refine wp_goto (tgt := 14) hX (dk DX10_holds 8 rfl) (by decide) ?_
    -- to 14
    exact wp_ireturn hX hR (dk DX10_holds 10 rfl) rfl (Nat.le_refl _) (Nat.le_refl _) (⟨by rw [jbit, if_pos h], rfl⟩)
/-- wide -/
def jwide (s : Int32) : Nat → Int32
  | 0 => 1
  | k + 1 => if s &&& ((1082401 : Int32) <<< (nI (k + 1) &&& 31)) = 0 then jwide s k else nI (k + 1) + 1
theorem k_wide (d : Nat) (s : Int32) (M : mM) : CT d 0 0 iX1_wide [.int s] M (QR (some (.int (jwide s 4))) M) := by
  refine CT.of rfl (Nat.le_of_ble_eq_true rfl) (fun X hX hR hN _ => ?_)
  have hX : Good X RX1 cX1_wide d 0 0 := hX
  have hN : x_nl X = 3 := hN
  show WP X 0 0 0 [_, _, _] [] _
  refine wp_iconst (v := 1) hX (dk DX1_wide 0 rfl) (by decide) ?_
  refine wp_istore_n hX (dk DX1_wide 1 rfl) rfl rfl hN (Nat.le_of_ble_eq_true rfl) ?_
  show WP _ _ _ 2 [_, _, _] [] _
  refine wp_iconst (v := 1) hX (dk DX1_wide 2 rfl) (by decide) ?_
  refine wp_istore_n hX (dk DX1_wide 3 rfl) rfl rfl hN (Nat.le_of_ble_eq_true rfl) ?_
  show WP _ _ _ 4 [_, _, _] [] _
  have loop : ∀ (n k : Nat), k + n = 4 → WP X 0 0 4 [some (.int s), some (.int (jwide s k)), some (.int (nI (k + 1)))] [] M := by
    intro n
    induction n with
    | zero =>
      intro k hk
      obtain rfl : k = 4 := by omega
      refine wp_iload_n hX (dk DX1_wide 4 rfl) rfl ?_
      refine wp_iconst (v := 5) hX (dk DX1_wide 5 rfl) (by decide) ?_
      refine wp_icmp_ge (tgt := 28) hX (dk DX1_wide 6 rfl) (by decide) (fun _ => ?_) (fun h_ => absurd ((by decide)) h_)
      refine wp_iload_n hX (dk DX1_wide 19 rfl) rfl ?_
      exact wp_ireturn hX hR (dk DX1_wide 20 rfl) rfl (Nat.le_refl _) (Nat.le_refl _) (⟨rfl, rfl⟩)
    | succ n ih =>
      intro k hk
      refine wp_iload_n hX (dk DX1_wide 4 rfl) rfl ?_
      refine wp_iconst (v := 5) hX (dk DX1_wide 5 rfl) (by decide) ?_
      refine wp_icmp_ge (tgt := 28) hX (dk DX1_wide 6 rfl) (by decide) (fun h_ => absurd h_ ((nI_ge (a := k + 1) (b := 5) (by omega) (by omega)))) (fun _ => ?_)
      refine wp_iload_n hX (dk DX1_wide 7 rfl) rfl ?_
      refine wp_ldc hX (dk DX1_wide 8 rfl) kcX1_55 ?_
      refine wp_iload_n hX (dk DX1_wide 9 rfl) rfl ?_
      refine wp_ishl hX (dk DX1_wide 10 rfl) ?_
      refine wp_iand hX (dk DX1_wide 11 rfl) ?_
      refine wp_if_eq (tgt := 22) hX (dk DX1_wide 12 rfl) (by decide) (fun h => ?_) (fun h => ?_)
      · refine wp_iinc hX (dk DX1_wide 17 rfl) rfl (nI_inc _) rfl hN ?_
        show WP _ _ _ 25 [_, _, _] [] _
        refine wp_goto (tgt := 4) hX (dk DX1_wide 18 rfl) (by decide) ?_
        -- to 4
        have := ih (k + 1) (by omega)
        rw [jwide, if_pos h] at this
        exact this
      · refine wp_iload_n hX (dk DX1_wide 13 rfl) rfl ?_
        refine wp_iconst (v := 1) hX (dk DX1_wide 14 rfl) (by decide) ?_
        refine wp_iadd hX (dk DX1_wide 15 rfl) ?_
        refine wp_istore_n hX (dk DX1_wide 16 rfl) rfl rfl hN (Nat.le_of_ble_eq_true rfl) ?_
        show WP _ _ _ 22 [_, _, _] [] _
        refine wp_iinc hX (dk DX1_wide 17 rfl) rfl (nI_inc _) rfl hN ?_
        show WP _ _ _ 25 [_, _, _] [] _
        refine wp_goto (tgt := 4) hX (dk DX1_wide 18 rfl) (by decide) ?_
        -- to 4
        have := ih (k + 1) (by omega)
        rw [jwide, if_neg h] at this
        exact this
  exact loop 4 0 rfl
/-- the first place within x: k places are left to look at, from j on -/
def jfirst (p : Nat → Int32) (x : Int32) : Nat → Nat → Int32
  | 0, _ => -2
  | k + 1, j => if p j &&& (x ^^^ (-1)) = 0 then nI j else jfirst p x k (j + 1)
/-- a Form's cells -/
def isF (a : Nat) : Prop := kd0 a = 1 ∧ (∀ sw, rf0 sw a 0 = some (a + 1) ∧ rf0 sw a 1 = some (a + 2) ∧ rf0 sw a 2 = some (a + 3)) ∧ kd0 (a + 1) = 12 ∧ kd0 (a + 2) = 12 ∧ kd0 (a + 3) = 12 ∧ ln0 (a + 1) = 4 ∧ ln0 (a + 2) = 100 ∧ ln0 (a + 3) = 100
theorem k_firstPlace (d : Nat) (sw : Bool) (f : Nat → Nat → Int32) (g : Nat → Nat → Int64) (a k : Nat) (x : Int32) (ha : isF a) (hp : f a 5 = nI k) (hk : k ≤ 100) : CT d 0 0 iX1_firstPlace [.ref a, .int x] (S sw f g) (QR (some (.int (jfirst (f (a + 2)) x k 0))) (S sw f g)) := by
  refine CT.of rfl (Nat.le_of_ble_eq_true rfl) (fun X hX hR hN _ => ?_)
  have hX : Good X RX1 cX1_firstPlace d 0 0 := hX
  have hN : x_nl X = 3 := hN
  show WP X 0 0 0 [_, _, _] [] _
  refine wp_iconst (v := 0) hX (dk DX1_firstPlace 0 rfl) (by decide) ?_
  refine wp_istore_n hX (dk DX1_firstPlace 1 rfl) rfl rfl hN (Nat.le_of_ble_eq_true rfl) ?_
  show WP _ _ _ 2 [_, _, _] [] _
  have loop : ∀ (n j : Nat), j + n = k → WP X 0 0 2 [some (.ref a), some (.int x), some (.int (nI j))] [] (S sw f g) ∨ jfirst (f (a + 2)) x k 0 ≠ jfirst (f (a + 2)) x n j := by
    intro n
    induction n with
    | zero =>
      intro j hj
      by_cases e : jfirst (f (a + 2)) x k 0 = jfirst (f (a + 2)) x 0 j
      · left
        refine wp_iload_n hX (dk DX1_firstPlace 2 rfl) rfl ?_
        refine wp_aload_n hX (dk DX1_firstPlace 3 rfl) rfl ?_
        refine w_geti hX flX1_34 (dk DX1_firstPlace 4 rfl) (by decide) ha.1 ?_
        refine wp_icmp_ge (tgt := 31) hX (dk DX1_firstPlace 5 rfl) (by decide) (fun _ => ?_) (fun h_ => absurd ((by rw [hp]; exact nI_le (by omega) (by omega))) h_)
        refine wp_bipush (v := -2) hX (dk DX1_firstPlace 19 rfl) (by decide) ?_
        exact wp_ireturn hX hR (dk DX1_firstPlace 20 rfl) rfl (Nat.le_refl _) (Nat.le_refl _) (⟨by rw [e]; rfl, rfl⟩)
      · exact Or.inr e
    | succ n ih =>
      intro j hj
      by_cases e : jfirst (f (a + 2)) x k 0 = jfirst (f (a + 2)) x (n + 1) j
      · left
        refine wp_iload_n hX (dk DX1_firstPlace 2 rfl) rfl ?_
        refine wp_aload_n hX (dk DX1_firstPlace 3 rfl) rfl ?_
        refine w_geti hX flX1_34 (dk DX1_firstPlace 4 rfl) (by decide) ha.1 ?_
        refine wp_icmp_ge (tgt := 31) hX (dk DX1_firstPlace 5 rfl) (by decide) (fun h_ => absurd h_ ((by rw [hp]; exact nI_ge (by omega) (by omega)))) (fun _ => ?_)
        refine wp_aload_n hX (dk DX1_firstPlace 6 rfl) rfl ?_
        refine w_getr hX flX1_15 (dk DX1_firstPlace 7 rfl) ha.1 (ha.2.1 sw).2.1 ?_
        refine wp_iload_n hX (dk DX1_firstPlace 8 rfl) rfl ?_
        refine w_iald (j := _) hX (dk DX1_firstPlace 9 rfl) ha.2.2.2.1 rfl (by rw [ha.2.2.2.2.2.2.1]; omega) ?_
        refine wp_iload_n hX (dk DX1_firstPlace 10 rfl) rfl ?_
        refine wp_iconst (v := -1) hX (dk DX1_firstPlace 11 rfl) (by decide) ?_
        refine wp_ixor hX (dk DX1_firstPlace 12 rfl) ?_
        refine wp_iand hX (dk DX1_firstPlace 13 rfl) ?_
        refine wp_if_ne (tgt := 25) hX (dk DX1_firstPlace 14 rfl) (by decide) (fun h => ?_) (fun h => ?_)
        · refine wp_iinc hX (dk DX1_firstPlace 17 rfl) rfl (nI_inc _) rfl hN ?_
          show WP _ _ _ 28 [_, _, _] [] _
          refine wp_goto (tgt := 2) hX (dk DX1_firstPlace 18 rfl) (by decide) ?_
          -- to 2
          rw [jfirst, if_neg h] at e
          exact (ih (j + 1) (by omega)).resolve_right (fun q => q e)
        · refine wp_iload_n hX (dk DX1_firstPlace 15 rfl) rfl ?_
          rw [jfirst, if_pos h] at e
          exact wp_ireturn hX hR (dk DX1_firstPlace 16 rfl) rfl (Nat.le_refl _) (Nat.le_refl _) (⟨by rw [e], rfl⟩)
      · exact Or.inr e
  exact (loop k 0 (by omega)).resolve_right (fun q => q rfl)
def jtall (s : Int32) : Nat → Int32
  | 0 => 1
  | k + 1 => if s &&& ((31 : Int32) <<< (5 * nI (k + 1) &&& 31)) = 0 then jtall s k else nI (k + 1) + 1
theorem k_tall (d : Nat) (s : Int32) (M : mM) : CT d 0 0 iX1_tall [.int s] M (QR (some (.int (jtall s 4))) M) := by
  refine CT.of rfl (Nat.le_of_ble_eq_true rfl) (fun X hX hR hN _ => ?_)
  have hX : Good X RX1 cX1_tall d 0 0 := hX
  have hN : x_nl X = 3 := hN
  show WP X 0 0 0 [_, _, _] [] _
  refine wp_iconst (v := 1) hX (dk DX1_tall 0 rfl) (by decide) ?_
  refine wp_istore_n hX (dk DX1_tall 1 rfl) rfl rfl hN (Nat.le_of_ble_eq_true rfl) ?_
  show WP _ _ _ 2 [_, _, _] [] _
  refine wp_iconst (v := 1) hX (dk DX1_tall 2 rfl) (by decide) ?_
  refine wp_istore_n hX (dk DX1_tall 3 rfl) rfl rfl hN (Nat.le_of_ble_eq_true rfl) ?_
  show WP _ _ _ 4 [_, _, _] [] _
  have loop : ∀ (n k : Nat), k + n = 4 → WP X 0 0 4 [some (.int s), some (.int (jtall s k)), some (.int (nI (k + 1)))] [] M := by
    intro n
    induction n with
    | zero =>
      intro k hk
      obtain rfl : k = 4 := by omega
      refine wp_iload_n hX (dk DX1_tall 4 rfl) rfl ?_
      refine wp_iconst (v := 5) hX (dk DX1_tall 5 rfl) (by decide) ?_
      refine wp_icmp_ge (tgt := 30) hX (dk DX1_tall 6 rfl) (by decide) (fun _ => ?_) (fun h_ => absurd ((by decide)) h_)
      refine wp_iload_n hX (dk DX1_tall 21 rfl) rfl ?_
      exact wp_ireturn hX hR (dk DX1_tall 22 rfl) rfl (Nat.le_refl _) (Nat.le_refl _) (⟨rfl, rfl⟩)
    | succ n ih =>
      intro k hk
      refine wp_iload_n hX (dk DX1_tall 4 rfl) rfl ?_
      refine wp_iconst (v := 5) hX (dk DX1_tall 5 rfl) (by decide) ?_
      refine wp_icmp_ge (tgt := 30) hX (dk DX1_tall 6 rfl) (by decide) (fun h_ => absurd h_ ((nI_ge (a := k + 1) (b := 5) (by omega) (by omega)))) (fun _ => ?_)
      refine wp_iload_n hX (dk DX1_tall 7 rfl) rfl ?_
      refine wp_bipush (v := 31) hX (dk DX1_tall 8 rfl) (by decide) ?_
      refine wp_iconst (v := 5) hX (dk DX1_tall 9 rfl) (by decide) ?_
      refine wp_iload_n hX (dk DX1_tall 10 rfl) rfl ?_
      refine wp_imul hX (dk DX1_tall 11 rfl) ?_
      refine wp_ishl hX (dk DX1_tall 12 rfl) ?_
      refine wp_iand hX (dk DX1_tall 13 rfl) ?_
      refine wp_if_eq (tgt := 24) hX (dk DX1_tall 14 rfl) (by decide) (fun h => ?_) (fun h => ?_)
      · refine wp_iinc hX (dk DX1_tall 19 rfl) rfl (nI_inc _) rfl hN ?_
        show WP _ _ _ 27 [_, _, _] [] _
        refine wp_goto (tgt := 4) hX (dk DX1_tall 20 rfl) (by decide) ?_
        -- to 4
        have := ih (k + 1) (by omega)
        rw [jtall, if_pos h] at this
        exact this
      · refine wp_iload_n hX (dk DX1_tall 15 rfl) rfl ?_
        refine wp_iconst (v := 1) hX (dk DX1_tall 16 rfl) (by decide) ?_
        refine wp_iadd hX (dk DX1_tall 17 rfl) ?_
        refine wp_istore_n hX (dk DX1_tall 18 rfl) rfl rfl hN (Nat.le_of_ble_eq_true rfl) ?_
        show WP _ _ _ 24 [_, _, _] [] _
        refine wp_iinc hX (dk DX1_tall 19 rfl) rfl (nI_inc _) rfl hN ?_
        show WP _ _ _ 27 [_, _, _] [] _
        refine wp_goto (tgt := 4) hX (dk DX1_tall 20 rfl) (by decide) ?_
        -- to 4
        have := ih (k + 1) (by omega)
        rw [jtall, if_neg h] at this
        exact this
  exact loop 4 0 rfl
/-- as far up and left as it goes -/
def jup : Nat → Int32 → Int32
  | 0, s => s
  | k + 1, s => if s &&& 31 = 0 then jup k (s >>> ((5 : Int32) &&& 31)) else s
def jlf : Nat → Int32 → Int32
  | 0, s => s
  | k + 1, s => if s &&& 1082401 = 0 then jlf k (s >>> ((1 : Int32) &&& 31)) else s
def jcor (s : Int32) : Int32 := jlf 4 (jup 4 s)
theorem k_cornered (d : Nat) (s : Int32) (M : mM) : CT d 0 0 iX1_cornered [.int s] M (QR (some (.int (jcor s))) M) := by
  refine CT.of rfl (Nat.le_of_ble_eq_true rfl) (fun X hX hR hN _ => ?_)
  have hX : Good X RX1 cX1_cornered d 0 0 := hX
  have hN : x_nl X = 3 := hN
  show WP X 0 0 0 [_, _, _] [] _
  refine wp_iload_n hX (dk DX1_cornered 0 rfl) rfl ?_
  refine wp_istore_n hX (dk DX1_cornered 1 rfl) rfl rfl hN (Nat.le_of_ble_eq_true rfl) ?_
  show WP _ _ _ 2 [_, _, _] [] _
  refine wp_iconst (v := 1) hX (dk DX1_cornered 2 rfl) (by decide) ?_
  refine wp_istore_n hX (dk DX1_cornered 3 rfl) rfl rfl hN (Nat.le_of_ble_eq_true rfl) ?_
  show WP _ _ _ 4 [_, _, _] [] _
  have lp2 : ∀ (n : Nat) (u : Int32), n ≤ 4 → jlf n u = jcor s → WP X 0 0 28 [some (.int s), some (.int u), some (.int (nI (5 - n)))] [] M := by
    intro n
    induction n with
    | zero =>
      intro u hn e
      refine wp_iload_n hX (dk DX1_cornered 19 rfl) rfl ?_
      refine wp_iconst (v := 5) hX (dk DX1_cornered 20 rfl) (by decide) ?_
      refine wp_icmp_ge (tgt := 50) hX (dk DX1_cornered 21 rfl) (by decide) (fun _ => ?_) (fun h_ => absurd ((by decide)) h_)
      refine wp_iload_n hX (dk DX1_cornered 32 rfl) rfl ?_
      exact wp_ireturn hX hR (dk DX1_cornered 33 rfl) rfl (Nat.le_refl _) (Nat.le_refl _) (⟨by rw [← e]; rfl, rfl⟩)
    | succ n ih =>
      intro u hn e
      refine wp_iload_n hX (dk DX1_cornered 19 rfl) rfl ?_
      refine wp_iconst (v := 5) hX (dk DX1_cornered 20 rfl) (by decide) ?_
      refine wp_icmp_ge (tgt := 50) hX (dk DX1_cornered 21 rfl) (by decide) (fun h_ => absurd h_ ((nI_ge (a := 5 - (n + 1)) (b := 5) (by omega) (by omega)))) (fun _ => ?_)
      refine wp_iload_n hX (dk DX1_cornered 22 rfl) rfl ?_
      refine wp_ldc hX (dk DX1_cornered 23 rfl) kcX1_55 ?_
      refine wp_iand hX (dk DX1_cornered 24 rfl) ?_
      refine wp_if_ne (tgt := 50) hX (dk DX1_cornered 25 rfl) (by decide) (fun h => ?_) (fun h => ?_)
      · refine wp_iload_n hX (dk DX1_cornered 32 rfl) rfl ?_
        rw [jlf, if_neg h] at e
        exact wp_ireturn hX hR (dk DX1_cornered 33 rfl) rfl (Nat.le_refl _) (Nat.le_refl _) (⟨by rw [← e], rfl⟩)
      · refine wp_iload_n hX (dk DX1_cornered 26 rfl) rfl ?_
        refine wp_iconst (v := 1) hX (dk DX1_cornered 27 rfl) (by decide) ?_
        refine wp_ishr hX (dk DX1_cornered 28 rfl) ?_
        refine wp_istore_n hX (dk DX1_cornered 29 rfl) rfl rfl hN (Nat.le_of_ble_eq_true rfl) ?_
        show WP _ _ _ 44 [_, _, _] [] _
        refine wp_iinc hX (dk DX1_cornered 30 rfl) rfl (nI_inc _) rfl hN ?_
        show WP _ _ _ 47 [_, _, _] [] _
        refine wp_goto (tgt := 28) hX (dk DX1_cornered 31 rfl) (by decide) ?_
        -- to 28
        rw [jlf, if_pos h] at e
        have := ih _ (by omega) e
        rw [show 5 - n = 5 - (n + 1) + 1 by omega] at this
        exact this
  have lp1 : ∀ (n : Nat) (u : Int32), n ≤ 4 → jup n u = jup 4 s → WP X 0 0 4 [some (.int s), some (.int u), some (.int (nI (5 - n)))] [] M := by
    intro n
    induction n with
    | zero =>
      intro u hn e
      refine wp_iload_n hX (dk DX1_cornered 4 rfl) rfl ?_
      refine wp_iconst (v := 5) hX (dk DX1_cornered 5 rfl) (by decide) ?_
      refine wp_icmp_ge (tgt := 26) hX (dk DX1_cornered 6 rfl) (by decide) (fun _ => ?_) (fun h_ => absurd ((by decide)) h_)
      refine wp_iconst (v := 1) hX (dk DX1_cornered 17 rfl) (by decide) ?_
      refine wp_istore_n hX (dk DX1_cornered 18 rfl) rfl rfl hN (Nat.le_of_ble_eq_true rfl) ?_
      show WP _ _ _ 28 [_, _, _] [] _
      exact lp2 4 u (by omega) (by rw [jcor, ← e]; rfl)
    | succ n ih =>
      intro u hn e
      refine wp_iload_n hX (dk DX1_cornered 4 rfl) rfl ?_
      refine wp_iconst (v := 5) hX (dk DX1_cornered 5 rfl) (by decide) ?_
      refine wp_icmp_ge (tgt := 26) hX (dk DX1_cornered 6 rfl) (by decide) (fun h_ => absurd h_ ((nI_ge (a := 5 - (n + 1)) (b := 5) (by omega) (by omega)))) (fun _ => ?_)
      refine wp_iload_n hX (dk DX1_cornered 7 rfl) rfl ?_
      refine wp_bipush (v := 31) hX (dk DX1_cornered 8 rfl) (by decide) ?_
      refine wp_iand hX (dk DX1_cornered 9 rfl) ?_
      refine wp_if_ne (tgt := 26) hX (dk DX1_cornered 10 rfl) (by decide) (fun h => ?_) (fun h => ?_)
      · refine wp_iconst (v := 1) hX (dk DX1_cornered 17 rfl) (by decide) ?_
        refine wp_istore_n hX (dk DX1_cornered 18 rfl) rfl rfl hN (Nat.le_of_ble_eq_true rfl) ?_
        show WP _ _ _ 28 [_, _, _] [] _
        rw [jup, if_neg h] at e
        exact lp2 4 u (by omega) (by rw [jcor, ← e])
      · refine wp_iload_n hX (dk DX1_cornered 11 rfl) rfl ?_
        refine wp_iconst (v := 5) hX (dk DX1_cornered 12 rfl) (by decide) ?_
        refine wp_ishr hX (dk DX1_cornered 13 rfl) ?_
        refine wp_istore_n hX (dk DX1_cornered 14 rfl) rfl rfl hN (Nat.le_of_ble_eq_true rfl) ?_
        show WP _ _ _ 20 [_, _, _] [] _
        refine wp_iinc hX (dk DX1_cornered 15 rfl) rfl (nI_inc _) rfl hN ?_
        show WP _ _ _ 23 [_, _, _] [] _
        refine wp_goto (tgt := 4) hX (dk DX1_cornered 16 rfl) (by decide) ?_
        -- to 4
        rw [jup, if_pos h] at e
        have := ih _ (by omega) e
        rw [show 5 - n = 5 - (n + 1) + 1 by omega] at this
        exact this
  exact lp1 4 s (by omega) rfl
/-- turned once -/
def jti (s : Int32) (y : Nat) (u : Int32) : Nat → Int32
  | 0 => u
  | x + 1 => if (s >>> ((5 * nI y + nI x) &&& 31)) &&& 1 = 1 then jti s y u x ||| ((1 : Int32) <<< ((5 * nI x + 5 - 1 - nI y) &&& 31)) else jti s y u x
def jto (s : Int32) : Nat → Int32
  | 0 => 0
  | y + 1 => jti s y (jto s y) 5
theorem k_turnedOnce (d : Nat) (s : Int32) (M : mM) : CT d 0 0 iX1_turnedOnce [.int s] M (QR (some (.int (jto s 5))) M) := by
  refine CT.of rfl (Nat.le_of_ble_eq_true rfl) (fun X hX hR hN _ => ?_)
  have hX : Good X RX1 cX1_turnedOnce d 0 0 := hX
  have hN : x_nl X = 4 := hN
  show WP X 0 0 0 [_, _, _, _] [] _
  refine wp_iconst (v := 0) hX (dk DX1_turnedOnce 0 rfl) (by decide) ?_
  refine wp_istore_n hX (dk DX1_turnedOnce 1 rfl) rfl rfl hN (Nat.le_of_ble_eq_true rfl) ?_
  show WP _ _ _ 2 [_, _, _, _] [] _
  have lo : ∀ (n y : Nat) (z : Option Value), y + n = 5 → WP X 0 0 4 [some (.int s), some (.int (jto s y)), some (.int (nI y)), z] [] M := by
    intro n
    induction n with
    | zero =>
      intro y z hy
      obtain rfl : y = 5 := by omega
      refine wp_iload_n hX (dk DX1_turnedOnce 4 rfl) rfl ?_
      refine wp_iconst (v := 5) hX (dk DX1_turnedOnce 5 rfl) (by decide) ?_
      refine wp_icmp_ge (tgt := 55) hX (dk DX1_turnedOnce 6 rfl) (by decide) (fun _ => ?_) (fun h_ => absurd ((by decide)) h_)
      refine wp_iload_n hX (dk DX1_turnedOnce 41 rfl) rfl ?_
      exact wp_ireturn hX hR (dk DX1_turnedOnce 42 rfl) rfl (Nat.le_refl _) (Nat.le_refl _) (⟨rfl, rfl⟩)
    | succ n ih =>
      intro y z hy
      refine wp_iload_n hX (dk DX1_turnedOnce 4 rfl) rfl ?_
      refine wp_iconst (v := 5) hX (dk DX1_turnedOnce 5 rfl) (by decide) ?_
      refine wp_icmp_ge (tgt := 55) hX (dk DX1_turnedOnce 6 rfl) (by decide) (fun h_ => absurd h_ ((nI_ge (a := y) (b := 5) (by omega) (by omega)))) (fun _ => ?_)
      refine wp_iconst (v := 0) hX (dk DX1_turnedOnce 7 rfl) (by decide) ?_
      refine wp_istore_n hX (dk DX1_turnedOnce 8 rfl) rfl rfl hN (Nat.le_of_ble_eq_true rfl) ?_
      show WP _ _ _ 11 [_, _, _, _] [] _
      have li : ∀ (m x : Nat), x + m = 5 → WP X 0 0 11 [some (.int s), some (.int (jti s y (jto s y) x)), some (.int (nI y)), some (.int (nI x))] [] M := by
        intro m
        induction m with
        | zero =>
          intro x hx
          obtain rfl : x = 5 := by omega
          refine wp_iload_n hX (dk DX1_turnedOnce 9 rfl) rfl ?_
          refine wp_iconst (v := 5) hX (dk DX1_turnedOnce 10 rfl) (by decide) ?_
          refine wp_icmp_ge (tgt := 49) hX (dk DX1_turnedOnce 11 rfl) (by decide) (fun _ => ?_) (fun h_ => absurd ((by decide)) h_)
          refine wp_iinc hX (dk DX1_turnedOnce 39 rfl) rfl (nI_inc _) rfl hN ?_
          show WP _ _ _ 52 [_, _, _, _] [] _
          refine wp_goto (tgt := 4) hX (dk DX1_turnedOnce 40 rfl) (by decide) ?_
          -- to 4
          exact ih (y + 1) _ (by omega)
        | succ m ihm =>
          intro x hx
          refine wp_iload_n hX (dk DX1_turnedOnce 9 rfl) rfl ?_
          refine wp_iconst (v := 5) hX (dk DX1_turnedOnce 10 rfl) (by decide) ?_
          refine wp_icmp_ge (tgt := 49) hX (dk DX1_turnedOnce 11 rfl) (by decide) (fun h_ => absurd h_ ((nI_ge (a := x) (b := 5) (by omega) (by omega)))) (fun _ => ?_)
          refine wp_iload_n hX (dk DX1_turnedOnce 12 rfl) rfl ?_
          refine wp_iconst (v := 5) hX (dk DX1_turnedOnce 13 rfl) (by decide) ?_
          refine wp_iload_n hX (dk DX1_turnedOnce 14 rfl) rfl ?_
          refine wp_imul hX (dk DX1_turnedOnce 15 rfl) ?_
          refine wp_iload_n hX (dk DX1_turnedOnce 16 rfl) rfl ?_
          refine wp_iadd hX (dk DX1_turnedOnce 17 rfl) ?_
          refine wp_ishr hX (dk DX1_turnedOnce 18 rfl) ?_
          refine wp_iconst (v := 1) hX (dk DX1_turnedOnce 19 rfl) (by decide) ?_
          refine wp_iand hX (dk DX1_turnedOnce 20 rfl) ?_
          refine wp_iconst (v := 1) hX (dk DX1_turnedOnce 21 rfl) (by decide) ?_
          refine wp_icmp_ne (tgt := 43) hX (dk DX1_turnedOnce 22 rfl) (by decide) (fun h => ?_) (fun h => ?_)
          · refine wp_iinc hX (dk DX1_turnedOnce 37 rfl) rfl (nI_inc _) rfl hN ?_
            show WP _ _ _ 46 [_, _, _, _] [] _
            refine wp_goto (tgt := 11) hX (dk DX1_turnedOnce 38 rfl) (by decide) ?_
            -- to 11
            have := ihm (x + 1) (by omega)
            rw [jti, if_neg h] at this
            exact this
          · refine wp_iload_n hX (dk DX1_turnedOnce 23 rfl) rfl ?_
            refine wp_iconst (v := 1) hX (dk DX1_turnedOnce 24 rfl) (by decide) ?_
            refine wp_iconst (v := 5) hX (dk DX1_turnedOnce 25 rfl) (by decide) ?_
            refine wp_iload_n hX (dk DX1_turnedOnce 26 rfl) rfl ?_
            refine wp_imul hX (dk DX1_turnedOnce 27 rfl) ?_
            refine wp_iconst (v := 5) hX (dk DX1_turnedOnce 28 rfl) (by decide) ?_
            refine wp_iadd hX (dk DX1_turnedOnce 29 rfl) ?_
            refine wp_iconst (v := 1) hX (dk DX1_turnedOnce 30 rfl) (by decide) ?_
            refine wp_isub hX (dk DX1_turnedOnce 31 rfl) ?_
            refine wp_iload_n hX (dk DX1_turnedOnce 32 rfl) rfl ?_
            refine wp_isub hX (dk DX1_turnedOnce 33 rfl) ?_
            refine wp_ishl hX (dk DX1_turnedOnce 34 rfl) ?_
            refine wp_ior hX (dk DX1_turnedOnce 35 rfl) ?_
            refine wp_istore_n hX (dk DX1_turnedOnce 36 rfl) rfl rfl hN (Nat.le_of_ble_eq_true rfl) ?_
            show WP _ _ _ 43 [_, _, _, _] [] _
            refine wp_iinc hX (dk DX1_turnedOnce 37 rfl) rfl (nI_inc _) rfl hN ?_
            show WP _ _ _ 46 [_, _, _, _] [] _
            refine wp_goto (tgt := 11) hX (dk DX1_turnedOnce 38 rfl) (by decide) ?_
            -- to 11
            have := ihm (x + 1) (by omega)
            rw [jti, if_pos h] at this
            exact this
      exact li 5 0 rfl
  refine wp_iconst (v := 0) hX (dk DX1_turnedOnce 2 rfl) (by decide) ?_
  refine wp_istore_n hX (dk DX1_turnedOnce 3 rfl) rfl rfl hN (Nat.le_of_ble_eq_true rfl) ?_
  show WP _ _ _ 4 [_, _, _, _] [] _
  exact lo 5 0 none rfl
end
section
/-! FORM, second part -/
theorem i_inc (x : Int32) : x + Int32.ofInt 1 = x + 1 := rfl
/-- how many of the first k places are within x -/
def jcnt (p : Nat → Int32) (x : Int32) : Nat → Int32
  | 0 => 0
  | k + 1 => if p k &&& (x ^^^ (-1)) = 0 then jcnt p x k + 1 else jcnt p x k
theorem k_countWays (d : Nat) (sw : Bool) (f : Nat → Nat → Int32) (g : Nat → Nat → Int64) (a k : Nat) (x : Int32) (ha : isF a) (hp : f a 5 = nI k) (hk : k ≤ 100) : CT d 0 0 iX1_countWays [.ref a, .int x] (S sw f g) (QR (some (.int (jcnt (f (a + 2)) x k))) (S sw f g)) := by
  refine CT.of rfl (Nat.le_of_ble_eq_true rfl) (fun X hX hR hN _ => ?_)
  have hX : Good X RX1 cX1_countWays d 0 0 := hX
  have hN : x_nl X = 4 := hN
  show WP X 0 0 0 [_, _, _, _] [] _
  refine wp_iconst (v := 0) hX (dk DX1_countWays 0 rfl) (by decide) ?_
  refine wp_istore_n hX (dk DX1_countWays 1 rfl) rfl rfl hN (Nat.le_of_ble_eq_true rfl) ?_
  show WP _ _ _ 2 [_, _, _, _] [] _
  refine wp_iconst (v := 0) hX (dk DX1_countWays 2 rfl) (by decide) ?_
  refine wp_istore_n hX (dk DX1_countWays 3 rfl) rfl rfl hN (Nat.le_of_ble_eq_true rfl) ?_
  show WP _ _ _ 4 [_, _, _, _] [] _
  have loop : ∀ (n j : Nat), j + n = k → WP X 0 0 4 [some (.ref a), some (.int x), some (.int (jcnt (f (a + 2)) x j)), some (.int (nI j))] [] (S sw f g) := by
    intro n
    induction n with
    | zero =>
      intro j hj
      obtain rfl : j = k := by omega
      refine wp_iload_n hX (dk DX1_countWays 4 rfl) rfl ?_
      refine wp_aload_n hX (dk DX1_countWays 5 rfl) rfl ?_
      refine w_geti hX flX1_34 (dk DX1_countWays 6 rfl) (by decide) ha.1 ?_
      refine wp_icmp_ge (tgt := 34) hX (dk DX1_countWays 7 rfl) (by decide) (fun _ => ?_) (fun h_ => absurd ((by rw [hp]; exact nI_le (by omega) (by omega))) h_)
      refine wp_iload_n hX (dk DX1_countWays 20 rfl) rfl ?_
      exact wp_ireturn hX hR (dk DX1_countWays 21 rfl) rfl (Nat.le_refl _) (Nat.le_refl _) (⟨rfl, rfl⟩)
    | succ n ih =>
      intro j hj
      refine wp_iload_n hX (dk DX1_countWays 4 rfl) rfl ?_
      refine wp_aload_n hX (dk DX1_countWays 5 rfl) rfl ?_
      refine w_geti hX flX1_34 (dk DX1_countWays 6 rfl) (by decide) ha.1 ?_
      refine wp_icmp_ge (tgt := 34) hX (dk DX1_countWays 7 rfl) (by decide) (fun h_ => absurd h_ ((by rw [hp]; exact nI_ge (by omega) (by omega)))) (fun _ => ?_)
      refine wp_aload_n hX (dk DX1_countWays 8 rfl) rfl ?_
      refine w_getr hX flX1_15 (dk DX1_countWays 9 rfl) ha.1 (ha.2.1 sw).2.1 ?_
      refine wp_iload_n hX (dk DX1_countWays 10 rfl) rfl ?_
      refine w_iald (j := _) hX (dk DX1_countWays 11 rfl) ha.2.2.2.1 rfl (by rw [ha.2.2.2.2.2.2.1]; omega) ?_
      refine wp_iload_n hX (dk DX1_countWays 12 rfl) rfl ?_
      refine wp_iconst (v := -1) hX (dk DX1_countWays 13 rfl) (by decide) ?_
      refine wp_ixor hX (dk DX1_countWays 14 rfl) ?_
      refine wp_iand hX (dk DX1_countWays 15 rfl) ?_
      refine wp_if_ne (tgt := 28) hX (dk DX1_countWays 16 rfl) (by decide) (fun h => ?_) (fun h => ?_)
      · refine wp_iinc hX (dk DX1_countWays 18 rfl) rfl (nI_inc _) rfl hN ?_
        show WP _ _ _ 31 [_, _, _, _] [] _
        refine wp_goto (tgt := 4) hX (dk DX1_countWays 19 rfl) (by decide) ?_
        -- to 4
        have := ih (j + 1) (by omega)
        rw [jcnt, if_neg h] at this
        exact this
      · refine wp_iinc hX (dk DX1_countWays 17 rfl) rfl (i_inc _) rfl hN ?_
        show WP _ _ _ 28 [_, _, _, _] [] _
        refine wp_iinc hX (dk DX1_countWays 18 rfl) rfl (nI_inc _) rfl hN ?_
        show WP _ _ _ 31 [_, _, _, _] [] _
        refine wp_goto (tgt := 4) hX (dk DX1_countWays 19 rfl) (by decide) ?_
        -- to 4
        have := ih (j + 1) (by omega)
        rw [jcnt, if_pos h] at this
        exact this
  exact loop k 0 (by omega)
theorem k_wayAt (d : Nat) (sw : Bool) (f : Nat → Nat → Int32) (g : Nat → Nat → Int64) (a k j : Nat) (ha : isF a) (hp : f a 5 = nI k) (hk : k ≤ 100) (hj : j < k) : CT d 0 0 iX1_wayAt [.ref a, .int (nI j)] (S sw f g) (QR (some (.int (f (a + 3) j))) (S sw f g)) := by
  refine CT.of rfl (Nat.le_of_ble_eq_true rfl) (fun X hX hR hN _ => ?_)
  have hX : Good X RX1 cX1_wayAt d 0 0 := hX
  have hN : x_nl X = 2 := hN
  show WP X 0 0 0 [_, _] [] _
  refine wp_iload_n hX (dk DX1_wayAt 0 rfl) rfl ?_
  refine wp_if_lt (tgt := 21) hX (dk DX1_wayAt 1 rfl) (by decide) (fun h_ => absurd h_ ((nI_pos (by omega)))) (fun _ => ?_)
  refine wp_iload_n hX (dk DX1_wayAt 2 rfl) rfl ?_
  refine wp_aload_n hX (dk DX1_wayAt 3 rfl) rfl ?_
  refine w_geti hX flX1_34 (dk DX1_wayAt 4 rfl) (by decide) ha.1 ?_
  refine wp_icmp_ge (tgt := 21) hX (dk DX1_wayAt 5 rfl) (by decide) (fun h_ => absurd h_ ((by rw [hp]; exact nI_ge hj (by omega)))) (fun _ => ?_)
  refine wp_aload_n hX (dk DX1_wayAt 6 rfl) rfl ?_
  refine w_getr hX flX1_18 (dk DX1_wayAt 7 rfl) ha.1 (ha.2.1 sw).2.2 ?_
  refine wp_iload_n hX (dk DX1_wayAt 8 rfl) rfl ?_
  refine w_iald (j := _) hX (dk DX1_wayAt 9 rfl) ha.2.2.2.2.1 rfl (by rw [ha.2.2.2.2.2.2.2]; omega) ?_
  refine wp_goto (tgt := 23) hX (dk DX1_wayAt 10 rfl) (by decide) ?_
  -- to 23
  exact wp_ireturn hX hR (dk DX1_wayAt 12 rfl) rfl (Nat.le_refl _) (Nat.le_refl _) (⟨rfl, rfl⟩)
theorem k_shapeAt (d : Nat) (sw : Bool) (f : Nat → Nat → Int32) (g : Nat → Nat → Int64) (a k j : Nat) (ha : isF a) (hp : f a 5 = nI k) (hk : k ≤ 100) (hj : j < k) : CT d 0 0 iX1_shapeAt [.ref a, .int (nI j)] (S sw f g) (QR (some (.int (f (a + 2) j))) (S sw f g)) := by
  refine CT.of rfl (Nat.le_of_ble_eq_true rfl) (fun X hX hR hN _ => ?_)
  have hX : Good X RX1 cX1_shapeAt d 0 0 := hX
  have hN : x_nl X = 2 := hN
  show WP X 0 0 0 [_, _] [] _
  refine wp_iload_n hX (dk DX1_shapeAt 0 rfl) rfl ?_
  refine wp_if_lt (tgt := 21) hX (dk DX1_shapeAt 1 rfl) (by decide) (fun h_ => absurd h_ ((nI_pos (by omega)))) (fun _ => ?_)
  refine wp_iload_n hX (dk DX1_shapeAt 2 rfl) rfl ?_
  refine wp_aload_n hX (dk DX1_shapeAt 3 rfl) rfl ?_
  refine w_geti hX flX1_34 (dk DX1_shapeAt 4 rfl) (by decide) ha.1 ?_
  refine wp_icmp_ge (tgt := 21) hX (dk DX1_shapeAt 5 rfl) (by decide) (fun h_ => absurd h_ ((by rw [hp]; exact nI_ge hj (by omega)))) (fun _ => ?_)
  refine wp_aload_n hX (dk DX1_shapeAt 6 rfl) rfl ?_
  refine w_getr hX flX1_15 (dk DX1_shapeAt 7 rfl) ha.1 (ha.2.1 sw).2.1 ?_
  refine wp_iload_n hX (dk DX1_shapeAt 8 rfl) rfl ?_
  refine w_iald (j := _) hX (dk DX1_shapeAt 9 rfl) ha.2.2.2.1 rfl (by rw [ha.2.2.2.2.2.2.1]; omega) ?_
  refine wp_goto (tgt := 25) hX (dk DX1_shapeAt 10 rfl) (by decide) ?_
  -- to 25
  exact wp_ireturn hX hR (dk DX1_shapeAt 13 rfl) rfl (Nat.le_refl _) (Nat.le_refl _) (⟨rfl, rfl⟩)
/-- can be cut out -/
def jcan (p : Nat → Int32) (k : Nat) (c x : Int32) : Int32 := if c < jpc x ∧ ¬ jfirst p x k 0 = -2 then 1 else 0
theorem k_canBeCutOf (d : Nat) (sw : Bool) (f : Nat → Nat → Int32) (g : Nat → Nat → Int64) (a k : Nat) (x : Int32) (ha : isF a) (hp : f a 5 = nI k) (hk : k ≤ 100) : CT (d + 1) 0 0 iX1_canBeCutOf [.ref a, .int x] (S sw f g) (QR (some (.int (jcan (f (a + 2)) k (f a 4) x))) (S sw f g)) := by
  refine CT.of rfl (Nat.le_of_ble_eq_true rfl) (fun X hX hR hN _ => ?_)
  have hX : Good X RX1 cX1_canBeCutOf (d + 1) 0 0 := hX
  have hN : x_nl X = 2 := hN
  show WP X 0 0 0 [_, _] [] _
  refine wp_aload_n hX (dk DX1_canBeCutOf 0 rfl) rfl ?_
  refine w_geti hX flX1_31 (dk DX1_canBeCutOf 1 rfl) (by decide) ha.1 ?_
  refine wp_iload_n hX (dk DX1_canBeCutOf 2 rfl) rfl ?_
  refine w_callS (As := [_]) lkX1_25 hX (dk DX1_canBeCutOf 3 rfl) rfl (by simp [Value.category]) (k_bitCount d x _) ?_
  show WP _ _ _ 8 [_, _] [_, _] _
  refine wp_icmp_ge (tgt := 25) hX (dk DX1_canBeCutOf 4 rfl) (by decide) (fun h => ?_) (fun h => ?_)
  · refine wp_iconst (v := 0) hX (dk DX1_canBeCutOf 12 rfl) (by decide) ?_
    exact wp_ireturn hX hR (dk DX1_canBeCutOf 13 rfl) rfl (Nat.le_refl _) (Nat.le_refl _) (⟨by rw [jcan, if_neg (fun q => Int32.not_lt.mpr h q.1)], rfl⟩)
  · refine wp_aload_n hX (dk DX1_canBeCutOf 5 rfl) rfl ?_
    refine wp_iload_n hX (dk DX1_canBeCutOf 6 rfl) rfl ?_
    refine w_callV (As := [_]) lkX1_47 hX (dk DX1_canBeCutOf 7 rfl) ha.1 rfl (by decide) hN (k_firstPlace d sw f g a k x ha hp hk) ?_
    show WP _ _ _ 16 [_, _] [_] _
    refine wp_bipush (v := -2) hX (dk DX1_canBeCutOf 8 rfl) (by decide) ?_
    refine wp_icmp_eq (tgt := 25) hX (dk DX1_canBeCutOf 9 rfl) (by decide) (fun h2 => ?_) (fun h2 => ?_)
    · refine wp_iconst (v := 0) hX (dk DX1_canBeCutOf 12 rfl) (by decide) ?_
      exact wp_ireturn hX hR (dk DX1_canBeCutOf 13 rfl) rfl (Nat.le_refl _) (Nat.le_refl _) (⟨by rw [jcan, if_neg (fun q => q.2 h2)], rfl⟩)
    · refine wp_iconst (v := 1) hX (dk DX1_canBeCutOf 10 rfl) (by decide) ?_
      refine wp_goto (tgt := 26) hX (dk DX1_canBeCutOf 11 rfl) (by decide) ?_
      -- to 26
      exact wp_ireturn hX hR (dk DX1_canBeCutOf 13 rfl) rfl (Nat.le_refl _) (Nat.le_refl _) (⟨by rw [jcan, if_pos ⟨Int32.not_le.mp h, h2⟩], rfl⟩)
/-- how many unlike places -/
def junl (t : Nat → Int32) (k : Int32) : Int32 := if t 1 = t 0 then k / 4 else if t 2 = t 0 then k / 2 else k
theorem k_unlikePlaces (d : Nat) (sw : Bool) (f : Nat → Nat → Int32) (g : Nat → Nat → Int64) (a : Nat) (ha : isF a) : CT d 0 0 iX1_unlikePlaces [.ref a] (S sw f g) (QR (some (.int (junl (f (a + 1)) (f a 5)))) (S sw f g)) := by
  refine CT.of rfl (Nat.le_of_ble_eq_true rfl) (fun X hX hR hN _ => ?_)
  have hX : Good X RX1 cX1_unlikePlaces d 0 0 := hX
  have hN : x_nl X = 1 := hN
  show WP X 0 0 0 [_] [] _
  refine wp_aload_n hX (dk DX1_unlikePlaces 0 rfl) rfl ?_
  refine w_getr hX flX1_11 (dk DX1_unlikePlaces 1 rfl) ha.1 (ha.2.1 sw).1 ?_
  refine wp_iconst (v := 1) hX (dk DX1_unlikePlaces 2 rfl) (by decide) ?_
  refine w_iald (j := 1) hX (dk DX1_unlikePlaces 3 rfl) ha.2.2.1 rfl (by rw [ha.2.2.2.2.2.1]; omega) ?_
  refine wp_aload_n hX (dk DX1_unlikePlaces 4 rfl) rfl ?_
  refine w_getr hX flX1_11 (dk DX1_unlikePlaces 5 rfl) ha.1 (ha.2.1 sw).1 ?_
  refine wp_iconst (v := 0) hX (dk DX1_unlikePlaces 6 rfl) (by decide) ?_
  refine w_iald (j := 0) hX (dk DX1_unlikePlaces 7 rfl) ha.2.2.1 rfl (by rw [ha.2.2.2.2.2.1]; omega) ?_
  refine wp_icmp_ne (tgt := 22) hX (dk DX1_unlikePlaces 8 rfl) (by decide) (fun h => ?_) (fun h => ?_)
  · refine wp_aload_n hX (dk DX1_unlikePlaces 14 rfl) rfl ?_
    refine w_getr hX flX1_11 (dk DX1_unlikePlaces 15 rfl) ha.1 (ha.2.1 sw).1 ?_
    refine wp_iconst (v := 2) hX (dk DX1_unlikePlaces 16 rfl) (by decide) ?_
    refine w_iald (j := 2) hX (dk DX1_unlikePlaces 17 rfl) ha.2.2.1 rfl (by rw [ha.2.2.2.2.2.1]; omega) ?_
    refine wp_aload_n hX (dk DX1_unlikePlaces 18 rfl) rfl ?_
    refine w_getr hX flX1_11 (dk DX1_unlikePlaces 19 rfl) ha.1 (ha.2.1 sw).1 ?_
    refine wp_iconst (v := 0) hX (dk DX1_unlikePlaces 20 rfl) (by decide) ?_
    refine w_iald (j := 0) hX (dk DX1_unlikePlaces 21 rfl) ha.2.2.1 rfl (by rw [ha.2.2.2.2.2.1]; omega) ?_
    refine wp_icmp_ne (tgt := 46) hX (dk DX1_unlikePlaces 22 rfl) (by decide) (fun h2 => ?_) (fun h2 => ?_)
    · refine wp_aload_n hX (dk DX1_unlikePlaces 28 rfl) rfl ?_
      refine w_geti hX flX1_34 (dk DX1_unlikePlaces 29 rfl) (by decide) ha.1 ?_
      exact wp_ireturn hX hR (dk DX1_unlikePlaces 30 rfl) rfl (Nat.le_refl _) (Nat.le_refl _) (⟨by rw [junl, if_neg h, if_neg h2], rfl⟩)
    · refine wp_aload_n hX (dk DX1_unlikePlaces 23 rfl) rfl ?_
      refine w_geti hX flX1_34 (dk DX1_unlikePlaces 24 rfl) (by decide) ha.1 ?_
      refine wp_iconst (v := 2) hX (dk DX1_unlikePlaces 25 rfl) (by decide) ?_
      refine wp_idiv hX (dk DX1_unlikePlaces 26 rfl) (by decide) ?_
      refine wp_goto (tgt := 50) hX (dk DX1_unlikePlaces 27 rfl) (by decide) ?_
      -- to 50
      exact wp_ireturn hX hR (dk DX1_unlikePlaces 30 rfl) rfl (Nat.le_refl _) (Nat.le_refl _) (⟨by rw [junl, if_neg h, if_pos h2], rfl⟩)
  · refine wp_aload_n hX (dk DX1_unlikePlaces 9 rfl) rfl ?_
    refine w_geti hX flX1_34 (dk DX1_unlikePlaces 10 rfl) (by decide) ha.1 ?_
    refine wp_iconst (v := 4) hX (dk DX1_unlikePlaces 11 rfl) (by decide) ?_
    refine wp_idiv hX (dk DX1_unlikePlaces 12 rfl) (by decide) ?_
    exact wp_ireturn hX hR (dk DX1_unlikePlaces 13 rfl) rfl (Nat.le_refl _) (Nat.le_refl _) (⟨by rw [junl, if_pos h], rfl⟩)
theorem jwide_in (s : Int32) : ∀ k, k ≤ 4 → ∃ w, 1 ≤ w ∧ w ≤ k + 1 ∧ jwide s k = nI w
  | 0, _ => ⟨1, by omega, by omega, rfl⟩
  | k + 1, h => by
    rw [jwide]
    split
    · obtain ⟨w, h1, h2, h3⟩ := jwide_in s k (by omega)
      exact ⟨w, h1, by omega, h3⟩
    · exact ⟨k + 2, by omega, by omega, nI_1 (k + 1)⟩
theorem jtall_in (s : Int32) : ∀ k, k ≤ 4 → ∃ w, 1 ≤ w ∧ w ≤ k + 1 ∧ jtall s k = nI w
  | 0, _ => ⟨1, by omega, by omega, rfl⟩
  | k + 1, h => by
    rw [jtall]
    split
    · obtain ⟨w, h1, h2, h3⟩ := jtall_in s k (by omega)
      exact ⟨w, h1, by omega, h3⟩
    · exact ⟨k + 2, by omega, by omega, nI_1 (k + 1)⟩
/-- how far a form may go right, down -/
def jr (s : Int32) : Nat := 5 - (jwide s 4).toNatClampNeg
def jdn (s : Int32) : Nat := 5 - (jtall s 4).toNatClampNeg
theorem jr_eq (s : Int32) : (5 : Int32) - jwide s 4 = nI (jr s) ∧ jr s ≤ 4 := by
  obtain ⟨w, h1, h2, h3⟩ := jwide_in s 4 (by omega)
  unfold jr
  rw [h3, nI_clamp (by omega)]
  exact ⟨pk_sub (a := 5) h2, by omega⟩
theorem jdn_eq (s : Int32) : (5 : Int32) - jtall s 4 = nI (jdn s) ∧ jdn s ≤ 4 := by
  obtain ⟨w, h1, h2, h3⟩ := jtall_in s 4 (by omega)
  unfold jdn
  rw [h3, nI_clamp (by omega)]
  exact ⟨pk_sub (a := 5) h2, by omega⟩
/-- a place and its way -/
def jit (fm : Int32) (t dy dx : Nat) : Int32 × Int32 := (fm <<< ((5 * nI dy + nI dx) &&& 31), 100 * nI t + 10 * nI dy + nI dx)
def jrow (fm : Int32) (t dy n : Nat) : List (Int32 × Int32) := (List.range n).map (jit fm t dy)
def jtrn (fm : Int32) (t n : Nat) : List (Int32 × Int32) := (List.range n).flatMap (fun dy => jrow fm t dy (jr fm + 1))
theorem jrow_len (fm : Int32) (t dy n : Nat) : (jrow fm t dy n).length = n := by simp [jrow]
theorem jtrn_len (fm : Int32) (t : Nat) : ∀ n, (jtrn fm t n).length = n * (jr fm + 1)
  | 0 => by simp [jtrn]
  | n + 1 => by
    have h := jtrn_len fm t n
    unfold jtrn at h ⊢
    rw [List.range_succ, List.flatMap_append, List.length_append, h]
    simp [jrow_len, Nat.succ_mul]
theorem jrow_succ (fm : Int32) (t dy n : Nat) : jrow fm t dy (n + 1) = jrow fm t dy n ++ [jit fm t dy n] := by simp [jrow, List.range_succ]
theorem jtrn_succ (fm : Int32) (t n : Nat) : jtrn fm t (n + 1) = jtrn fm t n ++ jrow fm t n (jr fm + 1) := by simp [jtrn, List.range_succ]
/-- the Form at a holds the places l -/
def hasP (f : Nat → Nat → Int32) (a : Nat) (l : List (Int32 × Int32)) : Prop := f a 5 = nI l.length ∧ l.length ≤ 100 ∧ ∀ (j : Nat) (q : Int32 × Int32), l[j]? = some q → f (a + 2) j = q.1 ∧ f (a + 3) j = q.2
/-- only the places of the Form at a have changed -/
def sameP (f f2 : Nat → Nat → Int32) (a : Nat) : Prop := (∀ b, b ≠ a → b ≠ a + 2 → b ≠ a + 3 → f2 b = f b) ∧ ∀ i, i ≠ 5 → f2 a i = f a i
theorem hasP.add {f : Nat → Nat → Int32} {a : Nat} {l : List (Int32 × Int32)} (h : hasP f a l) (hl : l.length < 100) (q : Int32 × Int32) : hasP (u2 (u2 (u2 f (a + 2) l.length q.1) (a + 3) l.length q.2) a 5 (nI l.length + 1)) a (l ++ [q]) := by
  refine ⟨?_, by simp; omega, fun j p hp => ?_⟩
  · simp [u2, nI_1]
  · by_cases hj : j < l.length
    · rw [List.getElem?_append_left hj] at hp
      obtain ⟨h1, h2⟩ := h.2.2 j p hp
      have : j ≠ l.length := by omega
      simp [u2, this, h1, h2]
    · rw [List.getElem?_append_right (by omega)] at hp
      have : j - l.length = 0 := by
        have := (List.getElem?_eq_some_iff.mp hp).1
        simp at this
        omega
      rw [this] at hp
      cases hp
      have : j = l.length := by omega
      simp [u2, this]
theorem sameP.rf {f : Nat → Nat → Int32} {a : Nat} : sameP f f a := ⟨fun _ _ _ _ => rfl, fun _ _ => rfl⟩
theorem sameP.add {f f2 : Nat → Nat → Int32} {a n : Nat} {v w z : Int32} (h : sameP f f2 a) : sameP f (u2 (u2 (u2 f2 (a + 2) n v) (a + 3) n w) a 5 z) a := by
  refine ⟨fun b h1 h2 h3 => ?_, fun i hi => ?_⟩
  · rw [u2_ne _ _ _ h1, u2_ne _ _ _ h3, u2_ne _ _ _ h2]
    exact h.1 b h1 h2 h3
  · simp [u2, hi]
    exact h.2 i hi
theorem sameP.trans {f f2 f3 : Nat → Nat → Int32} {a : Nat} (h : sameP f f2 a) (h2 : sameP f2 f3 a) : sameP f f3 a :=
  ⟨fun b g1 g2 g3 => (h2.1 b g1 g2 g3).trans (h.1 b g1 g2 g3), fun i hi => (h2.2 i hi).trans (h.2 i hi)⟩
theorem k_addPlaces (d : Nat) (sw : Bool) (f : Nat → Nat → Int32) (g : Nat → Nat → Int64) (a t : Nat) (l : List (Int32 × Int32)) (ha : isF a) (ht : t < 4) (hl : hasP f a l) (hlt : l.length ≤ 25 * t) : CT (d + 1) 0 0 iX1_addPlaces [.ref a, .int (nI t)] (S sw f g) (QS (fun r sw2 f2 g2 => r = none ∧ sw2 = sw ∧ g2 = g ∧ sameP f f2 a ∧ hasP f2 a (l ++ jtrn (f (a + 1) t) t (jdn (f (a + 1) t) + 1)))) := by
  refine CT.of rfl (Nat.le_of_ble_eq_true rfl) (fun X hX hR hN _ => ?_)
  have hX : Good X RX1 cX1_addPlaces (d + 1) 0 0 := hX
  have hN : x_nl X = 7 := hN
  show WP X 0 0 0 [_, _, _, _, _, _, _] [] _
  refine wp_aload_n hX (dk DX1_addPlaces 0 rfl) rfl ?_
  refine w_getr hX flX1_11 (dk DX1_addPlaces 1 rfl) ha.1 (ha.2.1 sw).1 ?_
  refine wp_iload_n hX (dk DX1_addPlaces 2 rfl) rfl ?_
  refine w_iald (j := _) hX (dk DX1_addPlaces 3 rfl) ha.2.2.1 rfl (by rw [ha.2.2.2.2.2.1]; omega) ?_
  refine wp_istore_n hX (dk DX1_addPlaces 4 rfl) rfl rfl hN (Nat.le_of_ble_eq_true rfl) ?_
  show WP _ _ _ 7 [_, _, _, _, _, _, _] [] _
  obtain ⟨fm, hfm⟩ : ∃ z, z = f (a + 1) t := ⟨_, rfl⟩
  rw [← hfm]
  obtain ⟨er, hr4⟩ := jr_eq fm
  obtain ⟨ed, hd4⟩ := jdn_eq fm
  refine wp_iconst (v := 5) hX (dk DX1_addPlaces 5 rfl) (by decide) ?_
  refine wp_iload_n hX (dk DX1_addPlaces 6 rfl) rfl ?_
  refine w_callS (As := [_]) lkX1_56 hX (dk DX1_addPlaces 7 rfl) rfl (by simp [Value.category]) (k_wide d fm _) ?_
  show WP _ _ _ 12 [_, _, _, _, _, _, _] [_, _] _
  refine wp_isub hX (dk DX1_addPlaces 8 rfl) ?_
  rw [er]
  refine wp_istore_n hX (dk DX1_addPlaces 9 rfl) rfl rfl hN (Nat.le_of_ble_eq_true rfl) ?_
  show WP _ _ _ 14 [_, _, _, _, _, _, _] [] _
  refine wp_iconst (v := 5) hX (dk DX1_addPlaces 10 rfl) (by decide) ?_
  refine wp_iload_n hX (dk DX1_addPlaces 11 rfl) rfl ?_
  refine w_callS (As := [_]) lkX1_59 hX (dk DX1_addPlaces 12 rfl) rfl (by simp [Value.category]) (k_tall d fm _) ?_
  show WP _ _ _ 19 [_, _, _, _, _, _, _] [_, _] _
  refine wp_isub hX (dk DX1_addPlaces 13 rfl) ?_
  rw [ed]
  refine wp_istore hX (dk DX1_addPlaces 14 rfl) rfl hN (Nat.le_of_ble_eq_true rfl) ?_
  show WP _ _ _ 22 [_, _, _, _, _, _, _] [] _
  have lo : ∀ (n dy : Nat) (f2 : Nat → Nat → Int32) (z : Option Value), dy + n = jdn fm + 1 → sameP f f2 a → hasP f2 a (l ++ jtrn fm t dy) → WP X 0 0 25 [some (.ref a), some (.int (nI t)), some (.int fm), some (.int (nI (jr fm))), some (.int (nI (jdn fm))), some (.int (nI dy)), z] [] (S sw f2 g) := by
    intro n
    induction n with
    | zero =>
      intro dy f2 z hn hs hp
      obtain rfl : dy = jdn fm + 1 := by omega
      refine wp_iload hX (dk DX1_addPlaces 17 rfl) rfl ?_
      refine wp_iload hX (dk DX1_addPlaces 18 rfl) rfl ?_
      refine wp_icmp_gt (tgt := 112) hX (dk DX1_addPlaces 19 rfl) (by decide) (fun _ => ?_) (fun h_ => absurd ((nI_lt (by omega) (by omega))) h_)
      exact wp_return hX hR (dk DX1_addPlaces_1 5 rfl) (Nat.le_refl _) (Nat.le_refl _) (⟨sw, f2, g, rfl, rfl, rfl, rfl, hs, by rw [← hfm]; exact hp⟩)
    | succ n ih =>
      intro dy f2 z hn hs hp
      refine wp_iload hX (dk DX1_addPlaces 17 rfl) rfl ?_
      refine wp_iload hX (dk DX1_addPlaces 18 rfl) rfl ?_
      refine wp_icmp_gt (tgt := 112) hX (dk DX1_addPlaces 19 rfl) (by decide) (fun h_ => absurd h_ ((nI_nlt (by omega) (by omega)))) (fun _ => ?_)
      refine wp_iconst (v := 0) hX (dk DX1_addPlaces 20 rfl) (by decide) ?_
      refine wp_istore hX (dk DX1_addPlaces 21 rfl) rfl hN (Nat.le_of_ble_eq_true rfl) ?_
      show WP _ _ _ 35 [_, _, _, _, _, _, _] [] _
      have li : ∀ (m dx : Nat) (f3 : Nat → Nat → Int32), dx + m = jr fm + 1 → sameP f f3 a → hasP f3 a (l ++ jtrn fm t dy ++ jrow fm t dy dx) → WP X 0 0 35 [some (.ref a), some (.int (nI t)), some (.int fm), some (.int (nI (jr fm))), some (.int (nI (jdn fm))), some (.int (nI dy)), some (.int (nI dx))] [] (S sw f3 g) := by
        intro m
        induction m with
        | zero =>
          intro dx f3 hm hs hp
          obtain rfl : dx = jr fm + 1 := by omega
          refine wp_iload hX (dk DX1_addPlaces 22 rfl) rfl ?_
          refine wp_iload_n hX (dk DX1_addPlaces 23 rfl) rfl ?_
          refine wp_icmp_gt (tgt := 106) hX (dk DX1_addPlaces 24 rfl) (by decide) (fun _ => ?_) (fun h_ => absurd ((nI_lt (by omega) (by omega))) h_)
          refine wp_iinc hX (dk DX1_addPlaces_1 3 rfl) rfl (nI_inc _) rfl hN ?_
          show WP _ _ _ 109 [_, _, _, _, _, _, _] [] _
          refine wp_goto (tgt := 25) hX (dk DX1_addPlaces_1 4 rfl) (by decide) ?_
          -- to 25
          refine ih (dy + 1) f3 _ (by omega) hs ?_
          rw [jtrn_succ, ← List.append_assoc]
          exact hp
        | succ m ihm =>
          intro dx f3 hm hs hp
          have hlen : (l ++ jtrn fm t dy ++ jrow fm t dy dx).length < 100 := by
            simp only [List.length_append, jtrn_len, jrow_len]
            have : dy * (jr fm + 1) ≤ 4 * (jr fm + 1) := Nat.mul_le_mul_right _ (by omega)
            omega
          refine wp_iload hX (dk DX1_addPlaces 22 rfl) rfl ?_
          refine wp_iload_n hX (dk DX1_addPlaces 23 rfl) rfl ?_
          refine wp_icmp_gt (tgt := 106) hX (dk DX1_addPlaces 24 rfl) (by decide) (fun h_ => absurd h_ ((nI_nlt (by omega) (by omega)))) (fun _ => ?_)
          refine wp_aload_n hX (dk DX1_addPlaces 25 rfl) rfl ?_
          refine w_geti hX flX1_34 (dk DX1_addPlaces 26 rfl) (by decide) ha.1 ?_
          refine wp_bipush (v := 100) hX (dk DX1_addPlaces 27 rfl) (by decide) ?_
          refine wp_icmp_ge (tgt := 106) hX (dk DX1_addPlaces 28 rfl) (by decide) (fun h_ => absurd h_ ((by rw [hp.1]; exact nI_ge (b := 100) hlen (by omega)))) (fun _ => ?_)
          refine wp_aload_n hX (dk DX1_addPlaces 29 rfl) rfl ?_
          refine w_getr hX flX1_15 (dk DX1_addPlaces 30 rfl) ha.1 (ha.2.1 sw).2.1 ?_
          refine wp_aload_n hX (dk DX1_addPlaces 31 rfl) rfl ?_
          refine w_geti hX flX1_34 (dk DX1_addPlaces 32 rfl) (by decide) ha.1 ?_
          refine wp_iload_n hX (dk DX1_addPlaces 33 rfl) rfl ?_
          refine wp_iconst (v := 5) hX (dk DX1_addPlaces 34 rfl) (by decide) ?_
          refine wp_iload hX (dk DX1_addPlaces 35 rfl) rfl ?_
          refine wp_imul hX (dk DX1_addPlaces 36 rfl) ?_
          refine wp_iload hX (dk DX1_addPlaces 37 rfl) rfl ?_
          refine wp_iadd hX (dk DX1_addPlaces 38 rfl) ?_
          refine wp_ishl hX (dk DX1_addPlaces 39 rfl) ?_
          rw [hp.1]
          refine w_iast (j := _) hX (dk DX1_addPlaces 40 rfl) ha.2.2.2.1 rfl (by rw [ha.2.2.2.2.2.2.1]; omega) ?_
          refine wp_aload_n hX (dk DX1_addPlaces 41 rfl) rfl ?_
          refine w_getr hX flX1_18 (dk DX1_addPlaces 42 rfl) ha.1 (ha.2.1 sw).2.2 ?_
          refine wp_aload_n hX (dk DX1_addPlaces 43 rfl) rfl ?_
          refine w_geti hX flX1_34 (dk DX1_addPlaces 44 rfl) (by decide) ha.1 ?_
          rw [show u2 f3 (a + 2) (l ++ jtrn fm t dy ++ jrow fm t dy dx).length (fm <<< (5 * nI dy + nI dx &&& 31)) a 5 = nI (l ++ jtrn fm t dy ++ jrow fm t dy dx).length by rw [u2_ne _ _ _ (by omega)]; exact hp.1]
          refine wp_bipush (v := 100) hX (dk DX1_addPlaces 45 rfl) (by decide) ?_
          refine wp_iload_n hX (dk DX1_addPlaces 46 rfl) rfl ?_
          refine wp_imul hX (dk DX1_addPlaces 47 rfl) ?_
          refine wp_bipush (v := 10) hX (dk DX1_addPlaces 48 rfl) (by decide) ?_
          refine wp_iload hX (dk DX1_addPlaces 49 rfl) rfl ?_
          refine wp_imul hX (dk DX1_addPlaces 50 rfl) ?_
          refine wp_iadd hX (dk DX1_addPlaces 51 rfl) ?_
          refine wp_iload hX (dk DX1_addPlaces 52 rfl) rfl ?_
          refine wp_iadd hX (dk DX1_addPlaces 53 rfl) ?_
          refine w_iast (j := _) hX (dk DX1_addPlaces 54 rfl) ha.2.2.2.2.1 rfl (by rw [ha.2.2.2.2.2.2.2]; omega) ?_
          refine wp_aload_n hX (dk DX1_addPlaces 55 rfl) rfl ?_
          refine wp_dup hX (dk DX1_addPlaces 56 rfl) rfl ?_
          refine w_geti hX flX1_34 (dk DX1_addPlaces 57 rfl) (by decide) ha.1 ?_
          rw [show u2 (u2 f3 (a + 2) (l ++ jtrn fm t dy ++ jrow fm t dy dx).length (fm <<< (5 * nI dy + nI dx &&& 31))) (a + 3) (l ++ jtrn fm t dy ++ jrow fm t dy dx).length (100 * nI t + 10 * nI dy + nI dx) a 5 = nI (l ++ jtrn fm t dy ++ jrow fm t dy dx).length by rw [u2_ne _ _ _ (by omega), u2_ne _ _ _ (by omega)]; exact hp.1]
          refine wp_iconst (v := 1) hX (dk DX1_addPlaces 58 rfl) (by decide) ?_
          refine wp_iadd hX (dk DX1_addPlaces 59 rfl) ?_
          refine w_puti hX fpX1_34 (dk DX1_addPlaces_1 0 rfl) ha.1 ?_
          refine wp_iinc hX (dk DX1_addPlaces_1 1 rfl) rfl (nI_inc _) rfl hN ?_
          show WP _ _ _ 103 [_, _, _, _, _, _, _] [] _
          refine wp_goto (tgt := 35) hX (dk DX1_addPlaces_1 2 rfl) (by decide) ?_
          -- to 35
          refine ihm (dx + 1) _ (by omega) hs.add ?_
          rw [jrow_succ, ← List.append_assoc]
          exact hp.add hlen (jit fm t dy dx)
      exact li (jr fm + 1) 0 f2 (by omega) hs (by simpa [jrow] using hp)
  refine wp_iconst (v := 0) hX (dk DX1_addPlaces 15 rfl) (by decide) ?_
  refine wp_istore hX (dk DX1_addPlaces 16 rfl) rfl hN (Nat.le_of_ble_eq_true rfl) ?_
  show WP _ _ _ 25 [_, _, _, _, _, _, _] [] _
  exact lo (jdn fm + 1) 0 f none (by omega) sameP.rf (by simpa [jtrn] using hl)
end
section
/-! FORM.take, leastWith -/
theorem u2_at {α : Type} (f : Nat → Nat → α) (a k : Nat) (v : α) : u2 f a k v a k = v := by simp [u2]
theorem u2_off {α : Type} (f : Nat → Nat → α) (a : Nat) {k j : Nat} (v : α) (h : j ≠ k) : u2 f a k v a j = f a j := by simp [u2, h]
def jrot (s : Int32) : Nat → Int32
  | 0 => s
  | t + 1 => jto (jrot s t) 5
def jturn (s : Int32) (t : Nat) : Int32 := jcor (jrot s t)
def jpl (s : Int32) (n : Nat) : List (Int32 × Int32) := (List.range n).flatMap (fun t => jtrn (jturn s t) t (jdn (jturn s t) + 1))
theorem jpl_succ (s : Int32) (n : Nat) : jpl s (n + 1) = jpl s n ++ jtrn (jturn s n) n (jdn (jturn s n) + 1) := by simp [jpl, List.range_succ]
theorem jpl_len (s : Int32) : ∀ n, (jpl s n).length ≤ 25 * n
  | 0 => by simp [jpl]
  | n + 1 => by
    have h := jpl_len s n
    rw [jpl_succ, List.length_append, jtrn_len]
    have h1 := (jr_eq (jturn s n)).2
    have h2 := (jdn_eq (jturn s n)).2
    have : (jdn (jturn s n) + 1) * (jr (jturn s n) + 1) ≤ 5 * 5 := Nat.mul_le_mul (by omega) (by omega)
    omega
/-- the Form at a is that of the shape s -/
def fOk (f : Nat → Nat → Int32) (a : Nat) (s : Int32) : Prop := f a 3 = s ∧ f a 4 = jpc s ∧ (∀ t, t < 4 → f (a + 1) t = jturn s t) ∧ hasP f a (jpl s 4)
/-- nothing but the Form at a has changed -/
def sameF (f f2 : Nat → Nat → Int32) (a : Nat) : Prop := ∀ b, b ≠ a → b ≠ a + 1 → b ≠ a + 2 → b ≠ a + 3 → f2 b = f b
theorem k_take (d : Nat) (sw : Bool) (f : Nat → Nat → Int32) (g : Nat → Nat → Int64) (a : Nat) (s : Int32) (ha : isF a) : CT (d + 2) 0 0 iX1_take [.ref a, .int s] (S sw f g) (QS (fun r sw2 f2 g2 => r = none ∧ sw2 = sw ∧ g2 = g ∧ sameF f f2 a ∧ fOk f2 a s)) := by
  refine CT.of rfl (Nat.le_of_ble_eq_true rfl) (fun X hX hR hN _ => ?_)
  have hX : Good X RX1 cX1_take (d + 2) 0 0 := hX
  have hN : x_nl X = 4 := hN
  show WP X 0 0 0 [_, _, _, _] [] _
  refine wp_aload_n hX (dk DX1_take 0 rfl) rfl ?_
  refine wp_iload_n hX (dk DX1_take 1 rfl) rfl ?_
  refine w_puti hX fpX1_21 (dk DX1_take 2 rfl) ha.1 ?_
  refine wp_aload_n hX (dk DX1_take 3 rfl) rfl ?_
  refine wp_iload_n hX (dk DX1_take 4 rfl) rfl ?_
  refine w_callS (As := [_]) lkX1_25 hX (dk DX1_take 5 rfl) rfl (by simp [Value.category]) (k_bitCount (d + 1) s _) ?_
  show WP _ _ _ 10 [_, _, _, _] [_, _] _
  refine w_puti hX fpX1_31 (dk DX1_take 6 rfl) ha.1 ?_
  refine wp_aload_n hX (dk DX1_take 7 rfl) rfl ?_
  refine wp_iconst (v := 0) hX (dk DX1_take 8 rfl) (by decide) ?_
  refine w_puti hX fpX1_34 (dk DX1_take 9 rfl) ha.1 ?_
  refine wp_iload_n hX (dk DX1_take 10 rfl) rfl ?_
  refine wp_istore_n hX (dk DX1_take 11 rfl) rfl rfl hN (Nat.le_of_ble_eq_true rfl) ?_
  show WP _ _ _ 20 [_, _, _, _] [] _
  have lo : ∀ (n t : Nat) (f2 : Nat → Nat → Int32), t + n = 4 → sameF f f2 a → f2 a 3 = s → f2 a 4 = jpc s → (∀ i, i < t → f2 (a + 1) i = jturn s i) → hasP f2 a (jpl s t) → WP X 0 0 22 [some (.ref a), some (.int s), some (.int (jrot s t)), some (.int (nI t))] [] (S sw f2 g) := by
    intro n
    induction n with
    | zero =>
      intro t f2 hn hs h3 h4 ht hp
      obtain rfl : t = 4 := by omega
      refine wp_iload_n hX (dk DX1_take 14 rfl) rfl ?_
      refine wp_iconst (v := 4) hX (dk DX1_take 15 rfl) (by decide) ?_
      refine wp_icmp_ge (tgt := 53) hX (dk DX1_take 16 rfl) (by decide) (fun _ => ?_) (fun h_ => absurd ((by decide)) h_)
      exact wp_return hX hR (dk DX1_take 31 rfl) (Nat.le_refl _) (Nat.le_refl _) (⟨sw, f2, g, rfl, rfl, rfl, rfl, hs, h3, h4, ht, hp⟩)
    | succ n ih =>
      intro t f2 hn hs h3 h4 ht hp
      have hp1 : hasP (u2 f2 (a + 1) t (jcor (jrot s t))) a (jpl s t) := by
        refine ⟨by rw [u2_ne _ _ _ (by omega)]; exact hp.1, hp.2.1, fun j q hq => ?_⟩
        rw [u2_ne _ _ _ (by omega), u2_ne _ _ _ (by omega)]
        exact hp.2.2 j q hq
      have e1 : u2 f2 (a + 1) t (jcor (jrot s t)) (a + 1) t = jturn s t := by rw [u2_row]; simp [jturn]
      refine wp_iload_n hX (dk DX1_take 14 rfl) rfl ?_
      refine wp_iconst (v := 4) hX (dk DX1_take 15 rfl) (by decide) ?_
      refine wp_icmp_ge (tgt := 53) hX (dk DX1_take 16 rfl) (by decide) (fun h_ => absurd h_ ((nI_ge (a := t) (b := 4) (by omega) (by omega)))) (fun _ => ?_)
      refine wp_aload_n hX (dk DX1_take 17 rfl) rfl ?_
      refine w_getr hX flX1_11 (dk DX1_take 18 rfl) ha.1 (ha.2.1 sw).1 ?_
      refine wp_iload_n hX (dk DX1_take 19 rfl) rfl ?_
      refine wp_iload_n hX (dk DX1_take 20 rfl) rfl ?_
      refine w_callS (As := [_]) lkX1_37 hX (dk DX1_take 21 rfl) rfl (by simp [Value.category]) (k_cornered (d + 1) (jrot s t) _) ?_
      show WP _ _ _ 36 [_, _, _, _] [_, _, _] _
      refine w_iast (j := _) hX (dk DX1_take 22 rfl) ha.2.2.1 rfl (by rw [ha.2.2.2.2.2.1]; omega) ?_
      refine wp_aload_n hX (dk DX1_take 23 rfl) rfl ?_
      refine wp_iload_n hX (dk DX1_take 24 rfl) rfl ?_
      refine w_callVQ (As := [_]) lkX1_40 hX (dk DX1_take 25 rfl) ha.1 rfl (by decide) hN (k_addPlaces d sw (u2 f2 (a + 1) t (jcor (jrot s t))) g a t (jpl s t) ha (by omega) hp1 (jpl_len s t)) (fun v_ sw_ f_ g_ hq_ => ?_)
      obtain ⟨rfl, rfl, rfl, hsp, hp2⟩ := hq_
      show WP _ _ _ 42 [_, _, _, _] [] _
      rw [e1, ← jpl_succ] at hp2
      refine wp_iload_n hX (dk DX1_take 26 rfl) rfl ?_
      refine w_callS (As := [_]) lkX1_44 hX (dk DX1_take 27 rfl) rfl (by decide) (k_turnedOnce (d + 1) (jrot s t) _) ?_
      show WP _ _ _ 46 [_, _, _, _] [_] _
      refine wp_istore_n hX (dk DX1_take 28 rfl) rfl rfl hN (Nat.le_of_ble_eq_true rfl) ?_
      show WP _ _ _ 47 [_, _, _, _] [] _
      refine wp_iinc hX (dk DX1_take 29 rfl) rfl (nI_inc _) rfl hN ?_
      show WP _ _ _ 50 [_, _, _, _] [] _
      refine wp_goto (tgt := 22) hX (dk DX1_take 30 rfl) (by decide) ?_
      -- to 22
      refine ih (t + 1) f_ (by omega) ?_ ?_ ?_ ?_ hp2
      · intro b g1 g2 g3 g4
        rw [hsp.1 b g1 g3 g4, u2_ne _ _ _ g2]
        exact hs b g1 g2 g3 g4
      · rw [hsp.2 3 (by decide), u2_ne _ _ _ (by omega)]
        exact h3
      · rw [hsp.2 4 (by decide), u2_ne _ _ _ (by omega)]
        exact h4
      · intro i hi
        rw [hsp.1 (a + 1) (by omega) (by omega) (by omega)]
        by_cases hit : i = t
        · subst hit; exact e1
        · rw [u2_off _ _ _ hit]
          exact ht i (by omega)
  refine wp_iconst (v := 0) hX (dk DX1_take 12 rfl) (by decide) ?_
  refine wp_istore_n hX (dk DX1_take 13 rfl) rfl rfl hN (Nat.le_of_ble_eq_true rfl) ?_
  show WP _ _ _ 22 [_, _, _, _] [] _
  refine lo 4 0 _ (by omega) ?_ ?_ ?_ (fun i hi => absurd hi (by omega)) ?_
  · intro b g1 g2 g3 g4
    rw [u2_ne _ _ _ g1, u2_ne _ _ _ g1, u2_ne _ _ _ g1]
  · simp [u2]
  · simp [u2]
  · refine ⟨by simp [u2, jpl, nI_0], by simp [jpl], fun j q hq => by simp [jpl] at hq⟩
/-- the places of a shape: how many, each, its way -/
def jn (s : Int32) : Nat := (jpl s 4).length
def jP (s : Int32) (j : Nat) : Int32 := ((jpl s 4).getD j (0, 0)).1
def jW (s : Int32) (j : Nat) : Int32 := ((jpl s 4).getD j (0, 0)).2
theorem jn_le (s : Int32) : jn s ≤ 100 := jpl_len s 4
theorem fOk.n {f : Nat → Nat → Int32} {a : Nat} {s : Int32} (h : fOk f a s) : f a 5 = nI (jn s) := h.2.2.2.1
theorem fOk.P {f : Nat → Nat → Int32} {a : Nat} {s : Int32} (h : fOk f a s) {j : Nat} (hj : j < jn s) : f (a + 2) j = jP s j ∧ f (a + 3) j = jW s j := by
  have h1 : (jpl s 4)[j]? = some ((jpl s 4)[j]'hj) := List.getElem?_eq_getElem hj
  have h2 := h.2.2.2.2.2 j _ h1
  unfold jP jW
  rw [List.getD_eq_getElem?_getD, h1]
  exact h2
theorem jfirst_cong {p q : Nat → Int32} {x : Int32} : ∀ (k j : Nat), (∀ i, i < j + k → p i = q i) → jfirst p x k j = jfirst q x k j
  | 0, _, _ => rfl
  | k + 1, j, h => by
    rw [jfirst, jfirst, h j (by omega), jfirst_cong k (j + 1) (fun i hi => h i (by omega))]
theorem jcnt_cong {p q : Nat → Int32} {x : Int32} : ∀ (k : Nat), (∀ i, i < k → p i = q i) → jcnt p x k = jcnt q x k
  | 0, _ => rfl
  | k + 1, h => by
    rw [jcnt, jcnt, h k (by omega), jcnt_cong k (fun i hi => h i (by omega))]
/-- the first place of s within x; can s be cut out of x -/
def jfp (s x : Int32) : Int32 := jfirst (jP s) x (jn s) 0
def jct (s x : Int32) : Int32 := jcan (jP s) (jn s) (jpc s) x
theorem k_first (d : Nat) (sw : Bool) (f : Nat → Nat → Int32) (g : Nat → Nat → Int64) (a : Nat) (s x : Int32) (ha : isF a) (h : fOk f a s) : CT d 0 0 iX1_firstPlace [.ref a, .int x] (S sw f g) (QR (some (.int (jfp s x))) (S sw f g)) := by
  have := k_firstPlace d sw f g a (jn s) x ha h.n (jn_le s)
  rw [jfirst_cong (q := jP s) _ _ (fun i hi => (h.P (by omega)).1)] at this
  exact this
theorem k_count (d : Nat) (sw : Bool) (f : Nat → Nat → Int32) (g : Nat → Nat → Int64) (a : Nat) (s x : Int32) (ha : isF a) (h : fOk f a s) : CT d 0 0 iX1_countWays [.ref a, .int x] (S sw f g) (QR (some (.int (jcnt (jP s) x (jn s)))) (S sw f g)) := by
  have := k_countWays d sw f g a (jn s) x ha h.n (jn_le s)
  rw [jcnt_cong (q := jP s) _ (fun i hi => (h.P (by omega)).1)] at this
  exact this
theorem k_can (d : Nat) (sw : Bool) (f : Nat → Nat → Int32) (g : Nat → Nat → Int64) (a : Nat) (s x : Int32) (ha : isF a) (h : fOk f a s) : CT (d + 1) 0 0 iX1_canBeCutOf [.ref a, .int x] (S sw f g) (QR (some (.int (jct s x))) (S sw f g)) := by
  have := k_canBeCutOf d sw f g a (jn s) x ha h.n (jn_le s)
  rw [jcan, jfirst_cong (q := jP s) _ _ (fun i hi => (h.P (by omega)).1), h.2.1] at this
  exact this
/-- the least shape with both: p of k, q of m places; best, fewest -/
def jli (p : Int32) (q : Nat → Int32) : Nat → Nat → Int32 × Int32 → Int32 × Int32
  | 0, _, b => b
  | m + 1, j, b => jli p q m (j + 1) (if jpc (p ||| q j) < b.2 ∨ (jpc (p ||| q j) = b.2 ∧ (p ||| q j) < b.1) then (p ||| q j, jpc (p ||| q j)) else b)
def jlo (p q : Nat → Int32) (m : Nat) : Nat → Nat → Int32 × Int32 → Int32 × Int32
  | 0, _, b => b
  | k + 1, i, b => jlo p q m k (i + 1) (jli (p i) q m 0 b)
theorem k_leastWith (d : Nat) (sw : Bool) (f : Nat → Nat → Int32) (g : Nat → Nat → Int64) (a c k m : Nat) (ha : isF a) (hc : isF c) (hk : junl (f (a + 1)) (f a 5) = nI k) (hm : junl (f (c + 1)) (f c 5) = nI m) (hk1 : k ≤ 100) (hm1 : m ≤ 100) : CT (d + 1) 0 0 iX1_leastWith [.ref a, .ref c] (S sw f g) (QR (some (.int (jlo (f (a + 2)) (f (c + 2)) m k 0 (33554431, 25)).1)) (S sw f g)) := by
  refine CT.of rfl (Nat.le_of_ble_eq_true rfl) (fun X hX hR hN _ => ?_)
  have hX : Good X RX1 cX1_leastWith (d + 1) 0 0 := hX
  have hN : x_nl X = 10 := hN
  show WP X 0 0 0 [_, _, _, _, _, _, _, _, _, _] [] _
  refine wp_ldc hX (dk DX1_leastWith 0 rfl) kcX1_50 ?_
  refine wp_istore_n hX (dk DX1_leastWith 1 rfl) rfl rfl hN (Nat.le_of_ble_eq_true rfl) ?_
  show WP _ _ _ 3 [_, _, _, _, _, _, _, _, _, _] [] _
  refine wp_bipush (v := 25) hX (dk DX1_leastWith 2 rfl) (by decide) ?_
  refine wp_istore_n hX (dk DX1_leastWith 3 rfl) rfl rfl hN (Nat.le_of_ble_eq_true rfl) ?_
  show WP _ _ _ 6 [_, _, _, _, _, _, _, _, _, _] [] _
  refine wp_aload_n hX (dk DX1_leastWith 4 rfl) rfl ?_
  refine w_callV (As := []) lkX1_51 hX (dk DX1_leastWith 5 rfl) ha.1 rfl (by decide) hN (k_unlikePlaces d sw f g a ha) ?_
  show WP _ _ _ 10 [_, _, _, _, _, _, _, _, _, _] [_] _
  rw [hk]
  refine wp_istore hX (dk DX1_leastWith 6 rfl) rfl hN (Nat.le_of_ble_eq_true rfl) ?_
  show WP _ _ _ 12 [_, _, _, _, _, _, _, _, _, _] [] _
  refine wp_aload_n hX (dk DX1_leastWith 7 rfl) rfl ?_
  refine w_callV (As := []) lkX1_51 hX (dk DX1_leastWith 8 rfl) hc.1 rfl (by decide) hN (k_unlikePlaces d sw f g c hc) ?_
  show WP _ _ _ 16 [_, _, _, _, _, _, _, _, _, _] [_] _
  rw [hm]
  refine wp_istore hX (dk DX1_leastWith 9 rfl) rfl hN (Nat.le_of_ble_eq_true rfl) ?_
  show WP _ _ _ 18 [_, _, _, _, _, _, _, _, _, _] [] _
  refine wp_iconst (v := 0) hX (dk DX1_leastWith 10 rfl) (by decide) ?_
  refine wp_istore hX (dk DX1_leastWith 11 rfl) rfl hN (Nat.le_of_ble_eq_true rfl) ?_
  show WP _ _ _ 21 [_, _, _, _, _, _, _, _, _, _] [] _
  have lo : ∀ (n i : Nat) (b : Int32 × Int32) (z1 z2 z3 : Option Value), i + n = k → jlo (f (a + 2)) (f (c + 2)) m k 0 (33554431, 25) = jlo (f (a + 2)) (f (c + 2)) m n i b → WP X 0 0 21 [some (.ref a), some (.ref c), some (.int b.1), some (.int b.2), some (.int (nI k)), some (.int (nI m)), some (.int (nI i)), z1, z2, z3] [] (S sw f g) := by
    intro n
    induction n with
    | zero =>
      intro i b z1 z2 z3 hi e
      refine wp_iload hX (dk DX1_leastWith 12 rfl) rfl ?_
      refine wp_iload hX (dk DX1_leastWith 13 rfl) rfl ?_
      refine wp_icmp_ge (tgt := 98) hX (dk DX1_leastWith 14 rfl) (by decide) (fun _ => ?_) (fun h_ => absurd ((nI_le (by omega) (by omega))) h_)
      refine wp_iload_n hX (dk DX1_leastWith 50 rfl) rfl ?_
      exact wp_ireturn hX hR (dk DX1_leastWith 51 rfl) rfl (Nat.le_refl _) (Nat.le_refl _) (⟨by rw [e]; rfl, rfl⟩)
    | succ n ih =>
      intro i b z1 z2 z3 hi e
      refine wp_iload hX (dk DX1_leastWith 12 rfl) rfl ?_
      refine wp_iload hX (dk DX1_leastWith 13 rfl) rfl ?_
      refine wp_icmp_ge (tgt := 98) hX (dk DX1_leastWith 14 rfl) (by decide) (fun h_ => absurd h_ ((nI_ge (by omega) (by omega)))) (fun _ => ?_)
      refine wp_iconst (v := 0) hX (dk DX1_leastWith 15 rfl) (by decide) ?_
      refine wp_istore hX (dk DX1_leastWith 16 rfl) rfl hN (Nat.le_of_ble_eq_true rfl) ?_
      show WP _ _ _ 31 [_, _, _, _, _, _, _, _, _, _] [] _
      rw [jlo] at e
      have li : ∀ (r j : Nat) (b2 : Int32 × Int32) (y2 y3 : Option Value), j + r = m → jli (f (a + 2) i) (f (c + 2)) m 0 b = jli (f (a + 2) i) (f (c + 2)) r j b2 → WP X 0 0 31 [some (.ref a), some (.ref c), some (.int b2.1), some (.int b2.2), some (.int (nI k)), some (.int (nI m)), some (.int (nI i)), some (.int (nI j)), y2, y3] [] (S sw f g) := by
        intro r
        induction r with
        | zero =>
          intro j b2 y2 y3 hj e2
          refine wp_iload hX (dk DX1_leastWith 17 rfl) rfl ?_
          refine wp_iload hX (dk DX1_leastWith 18 rfl) rfl ?_
          refine wp_icmp_ge (tgt := 92) hX (dk DX1_leastWith 19 rfl) (by decide) (fun _ => ?_) (fun h_ => absurd ((nI_le (by omega) (by omega))) h_)
          refine wp_iinc hX (dk DX1_leastWith 48 rfl) rfl (nI_inc _) rfl hN ?_
          show WP _ _ _ 95 [_, _, _, _, _, _, _, _, _, _] [] _
          refine wp_goto (tgt := 21) hX (dk DX1_leastWith 49 rfl) (by decide) ?_
          -- to 21
          rw [e2] at e
          exact ih (i + 1) b2 _ _ _ (by omega) e
        | succ r ihr =>
          intro j b2 y2 y3 hj e2
          refine wp_iload hX (dk DX1_leastWith 17 rfl) rfl ?_
          refine wp_iload hX (dk DX1_leastWith 18 rfl) rfl ?_
          refine wp_icmp_ge (tgt := 92) hX (dk DX1_leastWith 19 rfl) (by decide) (fun h_ => absurd h_ ((nI_ge (by omega) (by omega)))) (fun _ => ?_)
          refine wp_aload_n hX (dk DX1_leastWith 20 rfl) rfl ?_
          refine w_getr hX flX1_15 (dk DX1_leastWith 21 rfl) ha.1 (ha.2.1 sw).2.1 ?_
          refine wp_iload hX (dk DX1_leastWith 22 rfl) rfl ?_
          refine w_iald (j := _) hX (dk DX1_leastWith 23 rfl) ha.2.2.2.1 rfl (by rw [ha.2.2.2.2.2.2.1]; omega) ?_
          refine wp_aload_n hX (dk DX1_leastWith 24 rfl) rfl ?_
          refine w_getr hX flX1_15 (dk DX1_leastWith 25 rfl) hc.1 (hc.2.1 sw).2.1 ?_
          refine wp_iload hX (dk DX1_leastWith 26 rfl) rfl ?_
          refine w_iald (j := _) hX (dk DX1_leastWith 27 rfl) hc.2.2.2.1 rfl (by rw [hc.2.2.2.2.2.2.1]; omega) ?_
          refine wp_ior hX (dk DX1_leastWith 28 rfl) ?_
          refine wp_istore hX (dk DX1_leastWith 29 rfl) rfl hN (Nat.le_of_ble_eq_true rfl) ?_
          show WP _ _ _ 55 [_, _, _, _, _, _, _, _, _, _] [] _
          refine wp_iload hX (dk DX1_leastWith 30 rfl) rfl ?_
          refine w_callS (As := [_]) lkX1_25 hX (dk DX1_leastWith 31 rfl) rfl (by decide) (k_bitCount d (f (a + 2) i ||| f (c + 2) j) _) ?_
          show WP _ _ _ 60 [_, _, _, _, _, _, _, _, _, _] [_] _
          refine wp_istore hX (dk DX1_leastWith 32 rfl) rfl hN (Nat.le_of_ble_eq_true rfl) ?_
          show WP _ _ _ 62 [_, _, _, _, _, _, _, _, _, _] [] _
          refine wp_iload hX (dk DX1_leastWith 33 rfl) rfl ?_
          refine wp_iload_n hX (dk DX1_leastWith 34 rfl) rfl ?_
          rw [jli] at e2
          refine wp_icmp_lt (tgt := 80) hX (dk DX1_leastWith 35 rfl) (by decide) (fun h => ?_) (fun h => ?_)
          · refine wp_iload hX (dk DX1_leastWith 42 rfl) rfl ?_
            refine wp_istore_n hX (dk DX1_leastWith 43 rfl) rfl rfl hN (Nat.le_of_ble_eq_true rfl) ?_
            show WP _ _ _ 83 [_, _, _, _, _, _, _, _, _, _] [] _
            refine wp_iload hX (dk DX1_leastWith 44 rfl) rfl ?_
            refine wp_istore_n hX (dk DX1_leastWith 45 rfl) rfl rfl hN (Nat.le_of_ble_eq_true rfl) ?_
            show WP _ _ _ 86 [_, _, _, _, _, _, _, _, _, _] [] _
            refine wp_iinc hX (dk DX1_leastWith 46 rfl) rfl (nI_inc _) rfl hN ?_
            show WP _ _ _ 89 [_, _, _, _, _, _, _, _, _, _] [] _
            refine wp_goto (tgt := 31) hX (dk DX1_leastWith 47 rfl) (by decide) ?_
            -- to 31
            rw [if_pos (Or.inl h)] at e2
            exact ihr (j + 1) _ _ _ (by omega) e2
          · refine wp_iload hX (dk DX1_leastWith 36 rfl) rfl ?_
            refine wp_iload_n hX (dk DX1_leastWith 37 rfl) rfl ?_
            refine wp_icmp_ne (tgt := 86) hX (dk DX1_leastWith 38 rfl) (by decide) (fun h2 => ?_) (fun h2 => ?_)
            · refine wp_iinc hX (dk DX1_leastWith 46 rfl) rfl (nI_inc _) rfl hN ?_
              show WP _ _ _ 89 [_, _, _, _, _, _, _, _, _, _] [] _
              refine wp_goto (tgt := 31) hX (dk DX1_leastWith 47 rfl) (by decide) ?_
              -- to 31
              rw [if_neg (fun q => q.elim h (fun q => h2 q.1))] at e2
              exact ihr (j + 1) _ _ _ (by omega) e2
            · refine wp_iload hX (dk DX1_leastWith 39 rfl) rfl ?_
              refine wp_iload_n hX (dk DX1_leastWith 40 rfl) rfl ?_
              refine wp_icmp_ge (tgt := 86) hX (dk DX1_leastWith 41 rfl) (by decide) (fun h3 => ?_) (fun h3 => ?_)
              · refine wp_iinc hX (dk DX1_leastWith 46 rfl) rfl (nI_inc _) rfl hN ?_
                show WP _ _ _ 89 [_, _, _, _, _, _, _, _, _, _] [] _
                refine wp_goto (tgt := 31) hX (dk DX1_leastWith 47 rfl) (by decide) ?_
                -- to 31
                rw [if_neg (fun q => q.elim h (fun q => Int32.not_lt.mpr h3 q.2))] at e2
                exact ihr (j + 1) _ _ _ (by omega) e2
              · refine wp_iload hX (dk DX1_leastWith 42 rfl) rfl ?_
                refine wp_istore_n hX (dk DX1_leastWith 43 rfl) rfl rfl hN (Nat.le_of_ble_eq_true rfl) ?_
                show WP _ _ _ 83 [_, _, _, _, _, _, _, _, _, _] [] _
                refine wp_iload hX (dk DX1_leastWith 44 rfl) rfl ?_
                refine wp_istore_n hX (dk DX1_leastWith 45 rfl) rfl rfl hN (Nat.le_of_ble_eq_true rfl) ?_
                show WP _ _ _ 86 [_, _, _, _, _, _, _, _, _, _] [] _
                refine wp_iinc hX (dk DX1_leastWith 46 rfl) rfl (nI_inc _) rfl hN ?_
                show WP _ _ _ 89 [_, _, _, _, _, _, _, _, _, _] [] _
                refine wp_goto (tgt := 31) hX (dk DX1_leastWith 47 rfl) (by decide) ?_
                -- to 31
                rw [if_pos (Or.inr ⟨h2, Int32.not_le.mp h3⟩)] at e2
                exact ihr (j + 1) _ _ _ (by omega) e2
      exact li m 0 b _ _ (by omega) rfl
  exact lo k 0 (33554431, 25) none none none (by omega) rfl
end
section
/-! STOCK -/
/-- forms of the stock -/
theorem isF_st : ∀ i, i < 10 → isF (6 + 4 * i) := by
  intro i hi
  have h : ∀ i, i < 10 → (kd0 (6 + 4 * i) = 1 ∧ (rf0 true (6 + 4 * i) 0 = some (6 + 4 * i + 1) ∧ rf0 true (6 + 4 * i) 1 = some (6 + 4 * i + 2) ∧ rf0 true (6 + 4 * i) 2 = some (6 + 4 * i + 3)) ∧ (rf0 false (6 + 4 * i) 0 = some (6 + 4 * i + 1) ∧ rf0 false (6 + 4 * i) 1 = some (6 + 4 * i + 2) ∧ rf0 false (6 + 4 * i) 2 = some (6 + 4 * i + 3)) ∧ kd0 (6 + 4 * i + 1) = 12 ∧ kd0 (6 + 4 * i + 2) = 12 ∧ kd0 (6 + 4 * i + 3) = 12 ∧ ln0 (6 + 4 * i + 1) = 4 ∧ ln0 (6 + 4 * i + 2) = 100 ∧ ln0 (6 + 4 * i + 3) = 100) := by decide +kernel
  obtain ⟨h1, h2, h3, h4⟩ := h i hi
  exact ⟨h1, fun sw => by cases sw <;> assumption, h4⟩
theorem isF_gu : isF 77 := ⟨rfl, fun sw => by cases sw <;> exact ⟨rfl, rfl, rfl⟩, rfl, rfl, rfl, rfl, rfl, rfl⟩
theorem rf_form (sw : Bool) : ∀ i, i < 10 → rf0 sw 2 i = some (6 + 4 * i) := by cases sw <;> decide +kernel
/-- n figures of shapes sh, and their Forms -/
def stF (f : Nat → Nat → Int32) (n : Nat) (sh : Nat → Int32) : Prop := f 1 4 = nI n ∧ n ≤ 10 ∧ ∀ i, i < n → fOk f (6 + 4 * i) (sh i)
/-- the set of those i < n of which q holds -/
def jbs (q : Nat → Int32) : Nat → Int32
  | 0 => 0
  | k + 1 => if q k = 0 then jbs q k else jbs q k ||| ((1 : Int32) <<< (nI k &&& 31))
theorem k_came (d : Nat) (sw : Bool) (f : Nat → Nat → Int32) (g : Nat → Nat → Int64) : CT d 0 0 iX5_came [.ref 1] (S sw f g) (QR (some (.int (f 1 4))) (S sw f g)) := by
  refine CT.of rfl (Nat.le_of_ble_eq_true rfl) (fun X hX hR hN _ => ?_)
  have hX : Good X RX5 cX5_came d 0 0 := hX
  have hN : x_nl X = 1 := hN
  show WP X 0 0 0 [_] [] _
  refine wp_aload_n hX (dk DX5_came 0 rfl) rfl ?_
  refine w_geti hX flX5_28 (dk DX5_came 1 rfl) (by decide) rfl ?_
  exact wp_ireturn hX hR (dk DX5_came 2 rfl) rfl (Nat.le_refl _) (Nat.le_refl _) (⟨rfl, rfl⟩)
/-- 0 ≤ x < n -/
def jin (x n : Int32) : Int32 := if ¬ x < 0 ∧ x < n then 1 else 0
theorem k_has (d : Nat) (sw : Bool) (f : Nat → Nat → Int32) (g : Nat → Nat → Int64) (x : Int32) : CT d 0 0 iX5_has [.ref 1, .int x] (S sw f g) (QR (some (.int (jin x (f 1 4)))) (S sw f g)) := by
  refine CT.of rfl (Nat.le_of_ble_eq_true rfl) (fun X hX hR hN _ => ?_)
  have hX : Good X RX5 cX5_has d 0 0 := hX
  have hN : x_nl X = 2 := hN
  show WP X 0 0 0 [_, _] [] _
  refine wp_iload_n hX (dk DX5_has 0 rfl) rfl ?_
  refine wp_if_lt (tgt := 16) hX (dk DX5_has 1 rfl) (by decide) (fun h => ?_) (fun h => ?_)
  · refine wp_iconst (v := 0) hX (dk DX5_has 8 rfl) (by decide) ?_
    exact wp_ireturn hX hR (dk DX5_has 9 rfl) rfl (Nat.le_refl _) (Nat.le_refl _) (⟨by rw [jin, if_neg (fun q => q.1 h)], rfl⟩)
  · refine wp_iload_n hX (dk DX5_has 2 rfl) rfl ?_
    refine wp_aload_n hX (dk DX5_has 3 rfl) rfl ?_
    refine w_geti hX flX5_28 (dk DX5_has 4 rfl) (by decide) rfl ?_
    refine wp_icmp_ge (tgt := 16) hX (dk DX5_has 5 rfl) (by decide) (fun h2 => ?_) (fun h2 => ?_)
    · refine wp_iconst (v := 0) hX (dk DX5_has 8 rfl) (by decide) ?_
      exact wp_ireturn hX hR (dk DX5_has 9 rfl) rfl (Nat.le_refl _) (Nat.le_refl _) (⟨by rw [jin, if_neg (fun q => Int32.not_lt.mpr h2 q.2)], rfl⟩)
    · refine wp_iconst (v := 1) hX (dk DX5_has 6 rfl) (by decide) ?_
      refine wp_goto (tgt := 17) hX (dk DX5_has 7 rfl) (by decide) ?_
      -- to 17
      exact wp_ireturn hX hR (dk DX5_has 9 rfl) rfl (Nat.le_refl _) (Nat.le_refl _) (⟨by rw [jin, if_pos ⟨h, Int32.not_le.mp h2⟩], rfl⟩)
def jall (n : Int32) : Int32 := ((1 : Int32) <<< (n &&& 31)) - 1
theorem k_all (d : Nat) (sw : Bool) (f : Nat → Nat → Int32) (g : Nat → Nat → Int64) : CT d 0 0 iX5_all [.ref 1] (S sw f g) (QR (some (.int (jall (f 1 4)))) (S sw f g)) := by
  refine CT.of rfl (Nat.le_of_ble_eq_true rfl) (fun X hX hR hN _ => ?_)
  have hX : Good X RX5 cX5_all d 0 0 := hX
  have hN : x_nl X = 1 := hN
  show WP X 0 0 0 [_] [] _
  refine wp_iconst (v := 1) hX (dk DX5_all 0 rfl) (by decide) ?_
  refine wp_aload_n hX (dk DX5_all 1 rfl) rfl ?_
  refine w_geti hX flX5_28 (dk DX5_all 2 rfl) (by decide) rfl ?_
  refine wp_ishl hX (dk DX5_all 3 rfl) ?_
  refine wp_iconst (v := 1) hX (dk DX5_all 4 rfl) (by decide) ?_
  refine wp_isub hX (dk DX5_all 5 rfl) ?_
  exact wp_ireturn hX hR (dk DX5_all 6 rfl) rfl (Nat.le_refl _) (Nat.le_refl _) (⟨rfl, rfl⟩)
theorem k_formOf (d : Nat) (sw : Bool) (f : Nat → Nat → Int32) (g : Nat → Nat → Int64) (i : Nat) (hi : i < 10) : CT d 0 0 iX5_formOf [.ref 1, .int (nI i)] (S sw f g) (QR (some (.ref (6 + 4 * i))) (S sw f g)) := by
  refine CT.of rfl (Nat.le_of_ble_eq_true rfl) (fun X hX hR hN _ => ?_)
  have hX : Good X RX5 cX5_formOf d 0 0 := hX
  have hN : x_nl X = 2 := hN
  show WP X 0 0 0 [_, _] [] _
  refine wp_aload_n hX (dk DX5_formOf 0 rfl) rfl ?_
  refine w_getr hX flX5_11 (dk DX5_formOf 1 rfl) rfl rfl ?_
  refine wp_iload_n hX (dk DX5_formOf 2 rfl) rfl ?_
  refine w_aald (j := _) hX (dk DX5_formOf 3 rfl) rfl rfl (show _ < 10 by omega) (rf_form sw i hi) ?_
  exact wp_areturn hX hR (dk DX5_formOf 4 rfl) (Or.inl ⟨_, rfl⟩) (Nat.le_refl _) (Nat.le_refl _) (⟨rfl, rfl⟩)
theorem ix3 (a b : Nat) : nI a * 3 + nI b = nI (a * 3 + b) := by rw [show (3 : Int32) = nI 3 from rfl, pk_mul, nI_add]
theorem k_traitOf (d : Nat) (sw : Bool) (f : Nat → Nat → Int32) (g : Nat → Nat → Int64) (i w : Nat) (hi : i < 10) (hw : w < 3) : CT d 0 0 iX5_traitOf [.ref 1, .int (nI i), .int (nI w)] (S sw f g) (QR (some (.int (f 3 (i * 3 + w)))) (S sw f g)) := by
  refine CT.of rfl (Nat.le_of_ble_eq_true rfl) (fun X hX hR hN _ => ?_)
  have hX : Good X RX5 cX5_traitOf d 0 0 := hX
  have hN : x_nl X = 3 := hN
  show WP X 0 0 0 [_, _, _] [] _
  refine wp_aload_n hX (dk DX5_traitOf 0 rfl) rfl ?_
  refine w_getr hX flX5_17 (dk DX5_traitOf 1 rfl) rfl rfl ?_
  refine wp_iload_n hX (dk DX5_traitOf 2 rfl) rfl ?_
  refine wp_iconst (v := 3) hX (dk DX5_traitOf 3 rfl) (by decide) ?_
  refine wp_imul hX (dk DX5_traitOf 4 rfl) ?_
  refine wp_iload_n hX (dk DX5_traitOf 5 rfl) rfl ?_
  refine wp_iadd hX (dk DX5_traitOf 6 rfl) ?_
  refine w_iald (j := (i * 3 + w)) hX (dk DX5_traitOf 7 rfl) rfl (ix3 i w) (show _ < 30 by omega) ?_
  exact wp_ireturn hX hR (dk DX5_traitOf 8 rfl) rfl (Nat.le_refl _) (Nat.le_refl _) (⟨rfl, rfl⟩)
theorem k_setTrait (d : Nat) (sw : Bool) (f : Nat → Nat → Int32) (g : Nat → Nat → Int64) (i w : Nat) (v : Int32) (hi : i < 10) (hw : w < 3) : CT d 0 0 iX5_setTrait [.ref 1, .int (nI i), .int (nI w), .int v] (S sw f g) (QR none (S sw (u2 f 3 (i * 3 + w) v) g)) := by
  refine CT.of rfl (Nat.le_of_ble_eq_true rfl) (fun X hX hR hN _ => ?_)
  have hX : Good X RX5 cX5_setTrait d 0 0 := hX
  have hN : x_nl X = 4 := hN
  show WP X 0 0 0 [_, _, _, _] [] _
  refine wp_aload_n hX (dk DX5_setTrait 0 rfl) rfl ?_
  refine w_getr hX flX5_17 (dk DX5_setTrait 1 rfl) rfl rfl ?_
  refine wp_iload_n hX (dk DX5_setTrait 2 rfl) rfl ?_
  refine wp_iconst (v := 3) hX (dk DX5_setTrait 3 rfl) (by decide) ?_
  refine wp_imul hX (dk DX5_setTrait 4 rfl) ?_
  refine wp_iload_n hX (dk DX5_setTrait 5 rfl) rfl ?_
  refine wp_iadd hX (dk DX5_setTrait 6 rfl) ?_
  refine wp_iload_n hX (dk DX5_setTrait 7 rfl) rfl ?_
  refine w_iast (j := (i * 3 + w)) hX (dk DX5_setTrait 8 rfl) rfl (ix3 i w) (show _ < 30 by omega) ?_
  exact wp_return hX hR (dk DX5_setTrait 9 rfl) (Nat.le_refl _) (Nat.le_refl _) (⟨rfl, rfl⟩)
theorem k_outOf (d : Nat) (sw : Bool) (f : Nat → Nat → Int32) (g : Nat → Nat → Int64) (i : Nat) (hi : i < 10) : CT d 0 0 iX5_outOf [.ref 1, .int (nI i)] (S sw f g) (QR (some (.int (f 4 i))) (S sw f g)) := by
  refine CT.of rfl (Nat.le_of_ble_eq_true rfl) (fun X hX hR hN _ => ?_)
  have hX : Good X RX5 cX5_outOf d 0 0 := hX
  have hN : x_nl X = 2 := hN
  show WP X 0 0 0 [_, _] [] _
  refine wp_aload_n hX (dk DX5_outOf 0 rfl) rfl ?_
  refine w_getr hX flX5_21 (dk DX5_outOf 1 rfl) rfl rfl ?_
  refine wp_iload_n hX (dk DX5_outOf 2 rfl) rfl ?_
  refine w_iald (j := _) hX (dk DX5_outOf 3 rfl) rfl rfl (show _ < 10 by omega) ?_
  exact wp_ireturn hX hR (dk DX5_outOf 4 rfl) rfl (Nat.le_refl _) (Nat.le_refl _) (⟨rfl, rfl⟩)
theorem k_bySize (d : Nat) (sw : Bool) (f : Nat → Nat → Int32) (g : Nat → Nat → Int64) (i : Nat) (hi : i < 10) : CT d 0 0 iX5_bySize [.ref 1, .int (nI i)] (S sw f g) (QR (some (.int (f 5 i))) (S sw f g)) := by
  refine CT.of rfl (Nat.le_of_ble_eq_true rfl) (fun X hX hR hN _ => ?_)
  have hX : Good X RX5 cX5_bySize d 0 0 := hX
  have hN : x_nl X = 2 := hN
  show WP X 0 0 0 [_, _] [] _
  refine wp_aload_n hX (dk DX5_bySize 0 rfl) rfl ?_
  refine w_getr hX flX5_24 (dk DX5_bySize 1 rfl) rfl rfl ?_
  refine wp_iload_n hX (dk DX5_bySize 2 rfl) rfl ?_
  refine w_iald (j := _) hX (dk DX5_bySize 3 rfl) rfl rfl (show _ < 10 by omega) ?_
  exact wp_ireturn hX hR (dk DX5_bySize 4 rfl) rfl (Nat.le_refl _) (Nat.le_refl _) (⟨rfl, rfl⟩)
theorem k_cuttableOf (d : Nat) (sw : Bool) (f : Nat → Nat → Int32) (g : Nat → Nat → Int64) (n : Nat) (sh : Nat → Int32) (x : Int32) (hst : stF f n sh) : CT (d + 2) 0 0 iX5_cuttableOf [.ref 1, .int x] (S sw f g) (QR (some (.int (jbs (fun i => jct (sh i) x) n))) (S sw f g)) := by
  obtain ⟨hn, hn10, hok⟩ := hst
  refine CT.of rfl (Nat.le_of_ble_eq_true rfl) (fun X hX hR hN _ => ?_)
  have hX : Good X RX5 cX5_cuttableOf (d + 2) 0 0 := hX
  have hN : x_nl X = 4 := hN
  show WP X 0 0 0 [_, _, _, _] [] _
  refine wp_iconst (v := 0) hX (dk DX5_cuttableOf 0 rfl) (by decide) ?_
  refine wp_istore_n hX (dk DX5_cuttableOf 1 rfl) rfl rfl hN (Nat.le_of_ble_eq_true rfl) ?_
  show WP _ _ _ 2 [_, _, _, _] [] _
  refine wp_iconst (v := 0) hX (dk DX5_cuttableOf 2 rfl) (by decide) ?_
  refine wp_istore_n hX (dk DX5_cuttableOf 3 rfl) rfl rfl hN (Nat.le_of_ble_eq_true rfl) ?_
  show WP _ _ _ 4 [_, _, _, _] [] _
  have lo : ∀ (m i : Nat), i + m = n → WP X 0 0 4 [some (.ref 1), some (.int x), some (.int (jbs (fun i => jct (sh i) x) i)), some (.int (nI i))] [] (S sw f g) := by
    intro m
    induction m with
    | zero =>
      intro i hi
      obtain rfl : i = n := by omega
      refine wp_iload_n hX (dk DX5_cuttableOf 4 rfl) rfl ?_
      refine wp_aload_n hX (dk DX5_cuttableOf 5 rfl) rfl ?_
      refine w_geti hX flX5_28 (dk DX5_cuttableOf 6 rfl) (by decide) rfl ?_
      refine wp_icmp_ge (tgt := 37) hX (dk DX5_cuttableOf 7 rfl) (by decide) (fun _ => ?_) (fun h_ => absurd ((by rw [hn]; exact nI_le (by omega) (by omega))) h_)
      refine wp_iload_n hX (dk DX5_cuttableOf 23 rfl) rfl ?_
      exact wp_ireturn hX hR (dk DX5_cuttableOf 24 rfl) rfl (Nat.le_refl _) (Nat.le_refl _) (⟨rfl, rfl⟩)
    | succ m ih =>
      intro i hi
      refine wp_iload_n hX (dk DX5_cuttableOf 4 rfl) rfl ?_
      refine wp_aload_n hX (dk DX5_cuttableOf 5 rfl) rfl ?_
      refine w_geti hX flX5_28 (dk DX5_cuttableOf 6 rfl) (by decide) rfl ?_
      refine wp_icmp_ge (tgt := 37) hX (dk DX5_cuttableOf 7 rfl) (by decide) (fun h_ => absurd h_ ((by rw [hn]; exact nI_ge (by omega) (by omega)))) (fun _ => ?_)
      refine wp_aload_n hX (dk DX5_cuttableOf 8 rfl) rfl ?_
      refine w_getr hX flX5_11 (dk DX5_cuttableOf 9 rfl) rfl rfl ?_
      refine wp_iload_n hX (dk DX5_cuttableOf 10 rfl) rfl ?_
      refine w_aald (j := _) hX (dk DX5_cuttableOf 11 rfl) rfl rfl (show _ < 10 by omega) (rf_form sw i (by omega)) ?_
      refine wp_iload_n hX (dk DX5_cuttableOf 12 rfl) rfl ?_
      refine w_callV (As := [_]) lkX5_46 hX (dk DX5_cuttableOf 13 rfl) (isF_st i (by omega)).1 rfl (by decide) hN (k_can d sw f g (6 + 4 * i) (sh i) x (isF_st i (by omega)) (hok i (by omega))) ?_
      show WP _ _ _ 22 [_, _, _, _] [_] _
      refine wp_if_eq (tgt := 31) hX (dk DX5_cuttableOf 14 rfl) (by decide) (fun h => ?_) (fun h => ?_)
      · refine wp_iinc hX (dk DX5_cuttableOf 21 rfl) rfl (nI_inc _) rfl hN ?_
        show WP _ _ _ 34 [_, _, _, _] [] _
        refine wp_goto (tgt := 4) hX (dk DX5_cuttableOf 22 rfl) (by decide) ?_
        -- to 4
        have := ih (i + 1) (by omega)
        rw [jbs, if_pos h] at this
        exact this
      · refine wp_iload_n hX (dk DX5_cuttableOf 15 rfl) rfl ?_
        refine wp_iconst (v := 1) hX (dk DX5_cuttableOf 16 rfl) (by decide) ?_
        refine wp_iload_n hX (dk DX5_cuttableOf 17 rfl) rfl ?_
        refine wp_ishl hX (dk DX5_cuttableOf 18 rfl) ?_
        refine wp_ior hX (dk DX5_cuttableOf 19 rfl) ?_
        refine wp_istore_n hX (dk DX5_cuttableOf 20 rfl) rfl rfl hN (Nat.le_of_ble_eq_true rfl) ?_
        show WP _ _ _ 31 [_, _, _, _] [] _
        refine wp_iinc hX (dk DX5_cuttableOf 21 rfl) rfl (nI_inc _) rfl hN ?_
        show WP _ _ _ 34 [_, _, _, _] [] _
        refine wp_goto (tgt := 4) hX (dk DX5_cuttableOf 22 rfl) (by decide) ?_
        -- to 4
        have := ih (i + 1) (by omega)
        rw [jbs, if_neg h] at this
        exact this
  exact lo n 0 (by omega)
theorem k_above (d : Nat) (sw : Bool) (f : Nat → Nat → Int32) (g : Nat → Nat → Int64) (n : Nat) (x : Int32) (hn : f 1 4 = nI n) (hn10 : n ≤ 10) : CT (d + 1) 0 0 iX5_above [.ref 1, .int x] (S sw f g) (QR (some (.int (jbs (fun i => jbit (f 4 i) x) n))) (S sw f g)) := by
  refine CT.of rfl (Nat.le_of_ble_eq_true rfl) (fun X hX hR hN _ => ?_)
  have hX : Good X RX5 cX5_above (d + 1) 0 0 := hX
  have hN : x_nl X = 4 := hN
  show WP X 0 0 0 [_, _, _, _] [] _
  refine wp_iconst (v := 0) hX (dk DX5_above 0 rfl) (by decide) ?_
  refine wp_istore_n hX (dk DX5_above 1 rfl) rfl rfl hN (Nat.le_of_ble_eq_true rfl) ?_
  show WP _ _ _ 2 [_, _, _, _] [] _
  refine wp_iconst (v := 0) hX (dk DX5_above 2 rfl) (by decide) ?_
  refine wp_istore_n hX (dk DX5_above 3 rfl) rfl rfl hN (Nat.le_of_ble_eq_true rfl) ?_
  show WP _ _ _ 4 [_, _, _, _] [] _
  have lo : ∀ (m i : Nat), i + m = n → WP X 0 0 4 [some (.ref 1), some (.int x), some (.int (jbs (fun i => jbit (f 4 i) x) i)), some (.int (nI i))] [] (S sw f g) := by
    intro m
    induction m with
    | zero =>
      intro i hi
      obtain rfl : i = n := by omega
      refine wp_iload_n hX (dk DX5_above 4 rfl) rfl ?_
      refine wp_aload_n hX (dk DX5_above 5 rfl) rfl ?_
      refine w_geti hX flX5_28 (dk DX5_above 6 rfl) (by decide) rfl ?_
      refine wp_icmp_ge (tgt := 37) hX (dk DX5_above 7 rfl) (by decide) (fun _ => ?_) (fun h_ => absurd ((by rw [hn]; exact nI_le (by omega) (by omega))) h_)
      refine wp_iload_n hX (dk DX5_above 23 rfl) rfl ?_
      exact wp_ireturn hX hR (dk DX5_above 24 rfl) rfl (Nat.le_refl _) (Nat.le_refl _) (⟨rfl, rfl⟩)
    | succ m ih =>
      intro i hi
      refine wp_iload_n hX (dk DX5_above 4 rfl) rfl ?_
      refine wp_aload_n hX (dk DX5_above 5 rfl) rfl ?_
      refine w_geti hX flX5_28 (dk DX5_above 6 rfl) (by decide) rfl ?_
      refine wp_icmp_ge (tgt := 37) hX (dk DX5_above 7 rfl) (by decide) (fun h_ => absurd h_ ((by rw [hn]; exact nI_ge (by omega) (by omega)))) (fun _ => ?_)
      refine wp_aload_n hX (dk DX5_above 8 rfl) rfl ?_
      refine w_getr hX flX5_21 (dk DX5_above 9 rfl) rfl rfl ?_
      refine wp_iload_n hX (dk DX5_above 10 rfl) rfl ?_
      refine w_iald (j := _) hX (dk DX5_above 11 rfl) rfl rfl (show _ < 10 by omega) ?_
      refine wp_iload_n hX (dk DX5_above 12 rfl) rfl ?_
      refine w_callS (As := [_, _]) lkX5_50 hX (dk DX5_above 13 rfl) rfl (by decide) (k_holds d (f 4 i) x _) ?_
      show WP _ _ _ 22 [_, _, _, _] [_] _
      refine wp_if_eq (tgt := 31) hX (dk DX5_above 14 rfl) (by decide) (fun h => ?_) (fun h => ?_)
      · refine wp_iinc hX (dk DX5_above 21 rfl) rfl (nI_inc _) rfl hN ?_
        show WP _ _ _ 34 [_, _, _, _] [] _
        refine wp_goto (tgt := 4) hX (dk DX5_above 22 rfl) (by decide) ?_
        -- to 4
        have := ih (i + 1) (by omega)
        rw [jbs, if_pos h] at this
        exact this
      · refine wp_iload_n hX (dk DX5_above 15 rfl) rfl ?_
        refine wp_iconst (v := 1) hX (dk DX5_above 16 rfl) (by decide) ?_
        refine wp_iload_n hX (dk DX5_above 17 rfl) rfl ?_
        refine wp_ishl hX (dk DX5_above 18 rfl) ?_
        refine wp_ior hX (dk DX5_above 19 rfl) ?_
        refine wp_istore_n hX (dk DX5_above 20 rfl) rfl rfl hN (Nat.le_of_ble_eq_true rfl) ?_
        show WP _ _ _ 31 [_, _, _, _] [] _
        refine wp_iinc hX (dk DX5_above 21 rfl) rfl (nI_inc _) rfl hN ?_
        show WP _ _ _ 34 [_, _, _, _] [] _
        refine wp_goto (tgt := 4) hX (dk DX5_above 22 rfl) (by decide) ?_
        -- to 4
        have := ih (i + 1) (by omega)
        rw [jbs, if_neg h] at this
        exact this
  exact lo n 0 (by omega)
/-- what is in some of the sets -/
def jany (b : Nat → Int32) (x : Int32) : Nat → Int32
  | 0 => 0
  | k + 1 => if jbit x (nI k) = 0 then jany b x k else jany b x k ||| b k
theorem k_outOfAny (d : Nat) (sw : Bool) (f : Nat → Nat → Int32) (g : Nat → Nat → Int64) (n : Nat) (x : Int32) (hn : f 1 4 = nI n) (hn10 : n ≤ 10) : CT (d + 1) 0 0 iX5_outOfAny [.ref 1, .int x] (S sw f g) (QR (some (.int (jany (f 4) x n))) (S sw f g)) := by
  refine CT.of rfl (Nat.le_of_ble_eq_true rfl) (fun X hX hR hN _ => ?_)
  have hX : Good X RX5 cX5_outOfAny (d + 1) 0 0 := hX
  have hN : x_nl X = 4 := hN
  show WP X 0 0 0 [_, _, _, _] [] _
  refine wp_iconst (v := 0) hX (dk DX5_outOfAny 0 rfl) (by decide) ?_
  refine wp_istore_n hX (dk DX5_outOfAny 1 rfl) rfl rfl hN (Nat.le_of_ble_eq_true rfl) ?_
  show WP _ _ _ 2 [_, _, _, _] [] _
  refine wp_iconst (v := 0) hX (dk DX5_outOfAny 2 rfl) (by decide) ?_
  refine wp_istore_n hX (dk DX5_outOfAny 3 rfl) rfl rfl hN (Nat.le_of_ble_eq_true rfl) ?_
  show WP _ _ _ 4 [_, _, _, _] [] _
  have lo : ∀ (m i : Nat), i + m = n → WP X 0 0 4 [some (.ref 1), some (.int x), some (.int (jany (f 4) x i)), some (.int (nI i))] [] (S sw f g) := by
    intro m
    induction m with
    | zero =>
      intro i hi
      obtain rfl : i = n := by omega
      refine wp_iload_n hX (dk DX5_outOfAny 4 rfl) rfl ?_
      refine wp_aload_n hX (dk DX5_outOfAny 5 rfl) rfl ?_
      refine w_geti hX flX5_28 (dk DX5_outOfAny 6 rfl) (by decide) rfl ?_
      refine wp_icmp_ge (tgt := 35) hX (dk DX5_outOfAny 7 rfl) (by decide) (fun _ => ?_) (fun h_ => absurd ((by rw [hn]; exact nI_le (by omega) (by omega))) h_)
      refine wp_iload_n hX (dk DX5_outOfAny 21 rfl) rfl ?_
      exact wp_ireturn hX hR (dk DX5_outOfAny 22 rfl) rfl (Nat.le_refl _) (Nat.le_refl _) (⟨rfl, rfl⟩)
    | succ m ih =>
      intro i hi
      refine wp_iload_n hX (dk DX5_outOfAny 4 rfl) rfl ?_
      refine wp_aload_n hX (dk DX5_outOfAny 5 rfl) rfl ?_
      refine w_geti hX flX5_28 (dk DX5_outOfAny 6 rfl) (by decide) rfl ?_
      refine wp_icmp_ge (tgt := 35) hX (dk DX5_outOfAny 7 rfl) (by decide) (fun h_ => absurd h_ ((by rw [hn]; exact nI_ge (by omega) (by omega)))) (fun _ => ?_)
      refine wp_iload_n hX (dk DX5_outOfAny 8 rfl) rfl ?_
      refine wp_iload_n hX (dk DX5_outOfAny 9 rfl) rfl ?_
      refine w_callS (As := [_, _]) lkX5_50 hX (dk DX5_outOfAny 10 rfl) rfl (by decide) (k_holds d x (nI i) _) ?_
      show WP _ _ _ 17 [_, _, _, _] [_] _
      refine wp_if_eq (tgt := 29) hX (dk DX5_outOfAny 11 rfl) (by decide) (fun h => ?_) (fun h => ?_)
      · refine wp_iinc hX (dk DX5_outOfAny 19 rfl) rfl (nI_inc _) rfl hN ?_
        show WP _ _ _ 32 [_, _, _, _] [] _
        refine wp_goto (tgt := 4) hX (dk DX5_outOfAny 20 rfl) (by decide) ?_
        -- to 4
        have := ih (i + 1) (by omega)
        rw [jany, if_pos h] at this
        exact this
      · refine wp_iload_n hX (dk DX5_outOfAny 12 rfl) rfl ?_
        refine wp_aload_n hX (dk DX5_outOfAny 13 rfl) rfl ?_
        refine w_getr hX flX5_21 (dk DX5_outOfAny 14 rfl) rfl rfl ?_
        refine wp_iload_n hX (dk DX5_outOfAny 15 rfl) rfl ?_
        refine w_iald (j := _) hX (dk DX5_outOfAny 16 rfl) rfl rfl (show _ < 10 by omega) ?_
        refine wp_ior hX (dk DX5_outOfAny 17 rfl) ?_
        refine wp_istore_n hX (dk DX5_outOfAny 18 rfl) rfl rfl hN (Nat.le_of_ble_eq_true rfl) ?_
        show WP _ _ _ 29 [_, _, _, _] [] _
        refine wp_iinc hX (dk DX5_outOfAny 19 rfl) rfl (nI_inc _) rfl hN ?_
        show WP _ _ _ 32 [_, _, _, _] [] _
        refine wp_goto (tgt := 4) hX (dk DX5_outOfAny 20 rfl) (by decide) ?_
        -- to 4
        have := ih (i + 1) (by omega)
        rw [jany, if_neg h] at this
        exact this
  exact lo n 0 (by omega)
/-- which can be cut out of which -/
def blw (f : Nat → Nat → Int32) (n m : Nat) (sh : Nat → Int32) : Prop := ∀ i, i < n → f 4 i = jbs (fun j => jct (sh j) (sh i)) m
theorem stF.put {f : Nat → Nat → Int32} {n b k : Nat} {v : Int32} {sh : Nat → Int32} (h : stF f n sh) (hb : b = 3 ∨ b = 4 ∨ b = 5) : stF (u2 f b k v) n sh := by
  refine ⟨by rw [u2_ne _ _ _ (by omega)]; exact h.1, h.2.1, fun i hi => ?_⟩
  obtain ⟨h1, h2, h3, h4⟩ := h.2.2 i hi
  refine ⟨by rw [u2_ne _ _ _ (by omega)]; exact h1, by rw [u2_ne _ _ _ (by omega)]; exact h2, fun t ht => by rw [u2_ne _ _ _ (by omega)]; exact h3 t ht, by rw [u2_ne _ _ _ (by omega)]; exact h4.1, h4.2.1, fun j q hq => ?_⟩
  rw [u2_ne _ _ _ (by omega), u2_ne _ _ _ (by omega)]
  exact h4.2.2 j q hq
theorem k_relate (d : Nat) (sw : Bool) (f : Nat → Nat → Int32) (g : Nat → Nat → Int64) (n : Nat) (sh : Nat → Int32) (hst : stF f (n + 1) sh) (hb : blw f n n sh) : CT (d + 3) 0 0 iX5_relate [.ref 1, .int (nI n)] (S sw f g) (QS (fun r sw2 f2 g2 => r = none ∧ sw2 = sw ∧ g2 = g ∧ (∀ b, b ≠ 4 → f2 b = f b) ∧ blw f2 (n + 1) (n + 1) sh)) := by
  have hn10 := hst.2.1
  have hfr := hst.2.2 n (by omega)
  refine CT.of rfl (Nat.le_of_ble_eq_true rfl) (fun X hX hR hN _ => ?_)
  have hX : Good X RX5 cX5_relate (d + 3) 0 0 := hX
  have hN : x_nl X = 3 := hN
  show WP X 0 0 0 [_, _, _] [] _
  refine wp_aload_n hX (dk DX5_relate 0 rfl) rfl ?_
  refine w_getr hX flX5_21 (dk DX5_relate 1 rfl) rfl rfl ?_
  refine wp_iload_n hX (dk DX5_relate 2 rfl) rfl ?_
  refine wp_aload_n hX (dk DX5_relate 3 rfl) rfl ?_
  refine wp_aload_n hX (dk DX5_relate 4 rfl) rfl ?_
  refine w_getr hX flX5_11 (dk DX5_relate 5 rfl) rfl rfl ?_
  refine wp_iload_n hX (dk DX5_relate 6 rfl) rfl ?_
  refine w_aald (j := _) hX (dk DX5_relate 7 rfl) rfl rfl (show _ < 10 by omega) (rf_form sw n (by omega)) ?_
  refine w_geti hX flX5_54 (dk DX5_relate 8 rfl) (by decide) (isF_st n (by omega)).1 ?_
  rw [hfr.1]
  refine w_callV (As := [_]) lkX5_57 hX (dk DX5_relate 9 rfl) rfl rfl (by simp [Value.category]) hN (k_cuttableOf d sw f g (n + 1) sh (sh n) hst) ?_
  show WP _ _ _ 18 [_, _, _] [_, _, _] _
  refine w_iast (j := n) hX (dk DX5_relate 10 rfl) rfl rfl (show _ < 10 by omega) ?_
  refine wp_iconst (v := 0) hX (dk DX5_relate 11 rfl) (by decide) ?_
  refine wp_istore_n hX (dk DX5_relate 12 rfl) rfl rfl hN (Nat.le_of_ble_eq_true rfl) ?_
  show WP _ _ _ 21 [_, _, _] [] _
  have lo : ∀ (m i : Nat) (f2 : Nat → Nat → Int32), i + m = n → (∀ b, b ≠ 4 → f2 b = f b) → stF f2 (n + 1) sh → (∀ j, j < i → f2 4 j = jbs (fun k => jct (sh k) (sh j)) (n + 1)) → (∀ j, i ≤ j → j < n → f2 4 j = jbs (fun k => jct (sh k) (sh j)) n) → f2 4 n = jbs (fun k => jct (sh k) (sh n)) (n + 1) → WP X 0 0 21 [some (.ref 1), some (.int (nI n)), some (.int (nI i))] [] (S sw f2 g) := by
    intro m
    induction m with
    | zero =>
      intro i f2 hi hs hst2 h1 h2 h3
      obtain rfl : i = n := by omega
      refine wp_iload_n hX (dk DX5_relate 13 rfl) rfl ?_
      refine wp_iload_n hX (dk DX5_relate 14 rfl) rfl ?_
      refine wp_icmp_ge (tgt := 65) hX (dk DX5_relate 15 rfl) (by decide) (fun _ => ?_) (fun h_ => absurd ((nI_le (by omega) (by omega))) h_)
      refine wp_return hX hR (dk DX5_relate 39 rfl) (Nat.le_refl _) (Nat.le_refl _) ⟨sw, f2, g, rfl, rfl, rfl, rfl, hs, fun j hj => ?_⟩
      by_cases e : j = i
      · subst e; exact h3
      · exact h1 j (by omega)
    | succ m ih =>
      intro i f2 hi hs hst2 h1 h2 h3
      refine wp_iload_n hX (dk DX5_relate 13 rfl) rfl ?_
      refine wp_iload_n hX (dk DX5_relate 14 rfl) rfl ?_
      refine wp_icmp_ge (tgt := 65) hX (dk DX5_relate 15 rfl) (by decide) (fun h_ => absurd h_ ((nI_ge (by omega) (by omega)))) (fun _ => ?_)
      refine wp_aload_n hX (dk DX5_relate 16 rfl) rfl ?_
      refine w_getr hX flX5_11 (dk DX5_relate 17 rfl) rfl rfl ?_
      refine wp_iload_n hX (dk DX5_relate 18 rfl) rfl ?_
      refine w_aald (j := _) hX (dk DX5_relate 19 rfl) rfl rfl (show _ < 10 by omega) (rf_form sw n (by omega)) ?_
      refine wp_aload_n hX (dk DX5_relate 20 rfl) rfl ?_
      refine w_getr hX flX5_11 (dk DX5_relate 21 rfl) rfl rfl ?_
      refine wp_iload_n hX (dk DX5_relate 22 rfl) rfl ?_
      refine w_aald (j := _) hX (dk DX5_relate 23 rfl) rfl rfl (show _ < 10 by omega) (rf_form sw i (by omega)) ?_
      refine w_geti hX flX5_54 (dk DX5_relate 24 rfl) (by decide) (isF_st i (by omega)).1 ?_
      rw [(hst2.2.2 i (by omega)).1]
      refine w_callV (As := [_]) lkX5_46 hX (dk DX5_relate 25 rfl) (isF_st n (by omega)).1 rfl (by decide) hN (k_can (d + 1) sw f2 g (6 + 4 * n) (sh n) (sh i) (isF_st n (by omega)) (hst2.2.2 n (by omega))) ?_
      show WP _ _ _ 44 [_, _, _] [_] _
      refine wp_if_eq (tgt := 59) hX (dk DX5_relate 26 rfl) (by decide) (fun h => ?_) (fun h => ?_)
      · refine wp_iinc hX (dk DX5_relate 37 rfl) rfl (nI_inc _) rfl hN ?_
        show WP _ _ _ 62 [_, _, _] [] _
        refine wp_goto (tgt := 21) hX (dk DX5_relate 38 rfl) (by decide) ?_
        -- to 21
        refine ih (i + 1) f2 (by omega) hs hst2 (fun j hj => ?_) (fun j hj hj2 => h2 j (by omega) hj2) h3
        by_cases e : j = i
        · subst e
          rw [h2 j (by omega) (by omega), jbs, if_pos h]
        · exact h1 j (by omega)
      · refine wp_aload_n hX (dk DX5_relate 27 rfl) rfl ?_
        refine w_getr hX flX5_21 (dk DX5_relate 28 rfl) rfl rfl ?_
        refine wp_iload_n hX (dk DX5_relate 29 rfl) rfl ?_
        refine wp_dup2 hX (dk DX5_relate 30 rfl) rfl rfl ?_
        refine w_iald (j := _) hX (dk DX5_relate 31 rfl) rfl rfl (show _ < 10 by omega) ?_
        refine wp_iconst (v := 1) hX (dk DX5_relate 32 rfl) (by decide) ?_
        refine wp_iload_n hX (dk DX5_relate 33 rfl) rfl ?_
        refine wp_ishl hX (dk DX5_relate 34 rfl) ?_
        refine wp_ior hX (dk DX5_relate 35 rfl) ?_
        refine w_iast (j := _) hX (dk DX5_relate 36 rfl) rfl rfl (show _ < 10 by omega) ?_
        refine wp_iinc hX (dk DX5_relate 37 rfl) rfl (nI_inc _) rfl hN ?_
        show WP _ _ _ 62 [_, _, _] [] _
        refine wp_goto (tgt := 21) hX (dk DX5_relate 38 rfl) (by decide) ?_
        -- to 21
        refine ih (i + 1) _ (by omega) (fun b hb => by rw [u2_ne _ _ _ hb]; exact hs b hb) (hst2.put (Or.inr (Or.inl rfl))) (fun j hj => ?_) (fun j hj hj2 => ?_) ?_
        · by_cases e : j = i
          · subst e
            rw [u2_at, h2 j (by omega) (by omega), jbs, if_neg h]
          · rw [u2_off _ _ _ e]
            exact h1 j (by omega)
        · rw [u2_off _ _ _ (by omega)]
          exact h2 j (by omega) hj2
        · rw [u2_off _ _ _ (by omega)]
          exact h3
  refine lo n 0 _ (by omega) (fun b hb => u2_ne _ _ _ hb) (hst.put (Or.inr (Or.inl rfl))) (fun j hj => absurd hj (by omega)) (fun j _ hj => ?_) ?_
  · rw [u2_off _ _ _ (by omega)]
    exact hb j hj
  · rw [u2_at]
end
section
/-! STOCK: sortIn, add -/
/-- byCells: all figures, those of fewer cells first -/
def srtP (f : Nat → Nat → Int32) (n : Nat) (sh : Nat → Int32) (π : Nat → Nat) : Prop := (∀ i, i < n → f 5 i = nI (π i) ∧ π i < n) ∧ (∀ k, k < n → ∃ i, i < n ∧ π i = k) ∧ ∀ i j, i < j → j < n → jpc (sh (π i)) ≤ jpc (sh (π j))
def srt (f : Nat → Nat → Int32) (n : Nat) (sh : Nat → Int32) : Prop := ∃ π, srtP f n sh π
theorem nI_dec (t : Nat) : nI (t + 1) + Int32.ofInt (-1) = nI t := pk_m1 t
theorem k_sortIn (d : Nat) (sw : Bool) (f : Nat → Nat → Int32) (g : Nat → Nat → Int64) (n : Nat) (sh : Nat → Int32) (hst : stF f (n + 1) sh) (hs : srt f n sh) : CT d 0 0 iX5_sortIn [.ref 1, .int (nI n)] (S sw f g) (QS (fun r sw2 f2 g2 => r = none ∧ sw2 = sw ∧ g2 = g ∧ (∀ b, b ≠ 5 → f2 b = f b) ∧ srt f2 (n + 1) sh)) := by
  have hn10 := hst.2.1
  obtain ⟨π, h1, h2, h3⟩ := hs
  refine CT.of rfl (Nat.le_of_ble_eq_true rfl) (fun X hX hR hN _ => ?_)
  have hX : Good X RX5 cX5_sortIn d 0 0 := hX
  have hN : x_nl X = 3 := hN
  show WP X 0 0 0 [_, _, _] [] _
  refine wp_iload_n hX (dk DX5_sortIn 0 rfl) rfl ?_
  refine wp_istore_n hX (dk DX5_sortIn 1 rfl) rfl rfl hN (Nat.le_of_ble_eq_true rfl) ?_
  show WP _ _ _ 2 [_, _, _] [] _
  -- the end: n is put at t
  have fin : ∀ (t : Nat) (f2 : Nat → Nat → Int32), t ≤ n → (∀ b, b ≠ 5 → f2 b = f b) → (∀ i, i < t → f2 5 i = nI (π i)) → (∀ i, t ≤ i → i < n → f2 5 (i + 1) = nI (π i)) → (∀ i, t ≤ i → i < n → jpc (sh n) ≤ jpc (sh (π i))) → (∀ i, i < t → jpc (sh (π i)) ≤ jpc (sh n)) → WP X 0 0 54 [some (.ref 1), some (.int (nI n)), some (.int (nI t))] [] (S sw f2 g) := by
    intro t f2 ht hf lo hi cb ca
    refine wp_aload_n hX (dk DX5_sortIn 32 rfl) rfl ?_
    refine w_getr hX flX5_24 (dk DX5_sortIn 33 rfl) rfl rfl ?_
    refine wp_iload_n hX (dk DX5_sortIn 34 rfl) rfl ?_
    refine wp_iload_n hX (dk DX5_sortIn 35 rfl) rfl ?_
    refine w_iast (j := _) hX (dk DX5_sortIn 36 rfl) rfl rfl (show _ < 10 by omega) ?_
    refine wp_return hX hR (dk DX5_sortIn 37 rfl) (Nat.le_refl _) (Nat.le_refl _) ⟨sw, _, g, rfl, rfl, rfl, rfl, fun b hb => by rw [u2_ne _ _ _ hb]; exact hf b hb, fun i => if i < t then π i else if i = t then n else π (i - 1), ?_, ?_, ?_⟩
    · intro i hi1
      dsimp only
      by_cases c1 : i < t
      · rw [if_pos c1, u2_off _ _ _ (by omega)]
        exact ⟨lo i c1, by have := (h1 i (by omega)).2; omega⟩
      · rw [if_neg c1]
        by_cases c2 : i = t
        · rw [if_pos c2, c2, u2_at]
          exact ⟨rfl, by omega⟩
        · rw [if_neg c2, u2_off _ _ _ c2]
          have e := hi (i - 1) (by omega) (by omega)
          rw [show i - 1 + 1 = i by omega] at e
          exact ⟨e, by have := (h1 (i - 1) (by omega)).2; omega⟩
    · intro k hk
      by_cases c1 : k = n
      · exact ⟨t, by omega, by dsimp only; rw [if_neg (by omega), if_pos rfl, c1]⟩
      · obtain ⟨i, hi1, hi2⟩ := h2 k (by omega)
        by_cases c2 : i < t
        · exact ⟨i, by omega, by dsimp only; rw [if_pos c2, hi2]⟩
        · exact ⟨i + 1, by omega, by dsimp only; rw [if_neg (by omega), if_neg (by omega)]; exact hi2⟩
    · intro i j hij hj
      dsimp only
      by_cases c1 : i < t
      · rw [if_pos c1]
        by_cases c3 : j < t
        · rw [if_pos c3]; exact h3 i j hij (by omega)
        · rw [if_neg c3]
          by_cases c4 : j = t
          · rw [if_pos c4]; exact ca i c1
          · rw [if_neg c4]; exact h3 i (j - 1) (by omega) (by omega)
      · rw [if_neg c1, if_neg (show ¬ j < t by omega), if_neg (show ¬ j = t by omega)]
        by_cases c2 : i = t
        · rw [if_pos c2]; exact cb (j - 1) (by omega) (by omega)
        · rw [if_neg c2]; exact h3 (i - 1) (j - 1) (by omega) (by omega)
  have lp : ∀ (t : Nat) (f2 : Nat → Nat → Int32), t ≤ n → stF f2 (n + 1) sh → (∀ b, b ≠ 5 → f2 b = f b) → (∀ i, i < t → f2 5 i = nI (π i)) → (∀ i, t ≤ i → i < n → f2 5 (i + 1) = nI (π i)) → (∀ i, t ≤ i → i < n → jpc (sh n) ≤ jpc (sh (π i))) → WP X 0 0 2 [some (.ref 1), some (.int (nI n)), some (.int (nI t))] [] (S sw f2 g) := by
    intro t
    induction t with
    | zero =>
      intro f2 ht hst2 hf lo hi cb
      refine wp_iload_n hX (dk DX5_sortIn 2 rfl) rfl ?_
      refine wp_if_le (tgt := 54) hX (dk DX5_sortIn 3 rfl) (by decide) (fun _ => ?_) (fun h_ => absurd ((by decide)) h_)
      exact fin 0 f2 ht hf lo hi cb (fun i hi => absurd hi (by omega))
    | succ t ih =>
      intro f2 ht hst2 hf lo hi cb
      have hpt := (h1 t (by omega)).2
      refine wp_iload_n hX (dk DX5_sortIn 2 rfl) rfl ?_
      refine wp_if_le (tgt := 54) hX (dk DX5_sortIn 3 rfl) (by decide) (fun h_ => absurd h_ ((nI_nle (by omega) (by omega)))) (fun _ => ?_)
      refine wp_aload_n hX (dk DX5_sortIn 4 rfl) rfl ?_
      refine w_getr hX flX5_11 (dk DX5_sortIn 5 rfl) rfl rfl ?_
      refine wp_aload_n hX (dk DX5_sortIn 6 rfl) rfl ?_
      refine w_getr hX flX5_24 (dk DX5_sortIn 7 rfl) rfl rfl ?_
      refine wp_iload_n hX (dk DX5_sortIn 8 rfl) rfl ?_
      refine wp_iconst (v := 1) hX (dk DX5_sortIn 9 rfl) (by decide) ?_
      refine wp_isub hX (dk DX5_sortIn 10 rfl) ?_
      refine w_iald (j := t) hX (dk DX5_sortIn 11 rfl) rfl (nI_pred t) (show _ < 10 by omega) ?_
      rw [lo t (by omega)]
      refine w_aald (j := _) hX (dk DX5_sortIn 12 rfl) rfl rfl (show _ < 10 by omega) (rf_form sw _ (by omega)) ?_
      refine w_geti hX flX5_61 (dk DX5_sortIn 13 rfl) (by decide) (isF_st _ (by omega)).1 ?_
      refine wp_aload_n hX (dk DX5_sortIn 14 rfl) rfl ?_
      refine w_getr hX flX5_11 (dk DX5_sortIn 15 rfl) rfl rfl ?_
      refine wp_iload_n hX (dk DX5_sortIn 16 rfl) rfl ?_
      refine w_aald (j := _) hX (dk DX5_sortIn 17 rfl) rfl rfl (show _ < 10 by omega) (rf_form sw n (by omega)) ?_
      refine w_geti hX flX5_61 (dk DX5_sortIn 18 rfl) (by decide) (isF_st n (by omega)).1 ?_
      rw [(hst2.2.2 (π t) (by omega)).2.1, (hst2.2.2 n (by omega)).2.1]
      refine wp_icmp_le (tgt := 54) hX (dk DX5_sortIn 19 rfl) (by decide) (fun h => ?_) (fun h => ?_)
      · refine fin (t + 1) f2 ht hf lo hi cb (fun i hi1 => ?_)
        by_cases c : i = t
        · subst c; exact h
        · exact Int32.le_trans (h3 i t (by omega) (by omega)) h
      · refine wp_aload_n hX (dk DX5_sortIn 20 rfl) rfl ?_
        refine w_getr hX flX5_24 (dk DX5_sortIn 21 rfl) rfl rfl ?_
        refine wp_iload_n hX (dk DX5_sortIn 22 rfl) rfl ?_
        refine wp_aload_n hX (dk DX5_sortIn 23 rfl) rfl ?_
        refine w_getr hX flX5_24 (dk DX5_sortIn 24 rfl) rfl rfl ?_
        refine wp_iload_n hX (dk DX5_sortIn 25 rfl) rfl ?_
        refine wp_iconst (v := 1) hX (dk DX5_sortIn 26 rfl) (by decide) ?_
        refine wp_isub hX (dk DX5_sortIn 27 rfl) ?_
        refine w_iald (j := t) hX (dk DX5_sortIn 28 rfl) rfl (nI_pred t) (show _ < 10 by omega) ?_
        rw [lo t (by omega)]
        refine w_iast (j := _) hX (dk DX5_sortIn 29 rfl) rfl rfl (show _ < 10 by omega) ?_
        refine wp_iinc hX (dk DX5_sortIn 30 rfl) rfl (nI_dec t) rfl hN ?_
        show WP _ _ _ 51 [_, _, _] [] _
        refine wp_goto (tgt := 2) hX (dk DX5_sortIn 31 rfl) (by decide) ?_
        -- to 2
        refine ih _ (by omega) (hst2.put (Or.inr (Or.inr rfl))) (fun b hb => by rw [u2_ne _ _ _ hb]; exact hf b hb) (fun i hi1 => ?_) (fun i hi1 hi2 => ?_) (fun i hi1 hi2 => ?_)
        · rw [u2_off _ _ _ (by omega)]; exact lo i (by omega)
        · by_cases c : i = t
          · subst c; rw [u2_at]
          · rw [u2_off _ _ _ (by omega)]; exact hi i (by omega) hi2
        · by_cases c : i = t
          · subst c; exact Int32.le_of_lt (Int32.not_le.mp h)
          · exact cb i (by omega) hi2
  exact lp n f (by omega) hst (fun _ _ => rfl) (fun i hi => (h1 i hi).1) (fun i h1 h2 => absurd h1 (by omega)) (fun i h1 h2 => absurd h1 (by omega))
/-- the whole stock: n figures of shapes sh -/
def stk (f : Nat → Nat → Int32) (n : Nat) (sh : Nat → Int32) : Prop := stF f n sh ∧ blw f n n sh ∧ srt f n sh
/-- cells of the stock -/
def inSt (b : Nat) : Prop := 1 ≤ b ∧ b ≤ 45
theorem fOk.same {f f2 : Nat → Nat → Int32} {a : Nat} {s : Int32} (h : fOk f a s) (h1 : f2 a = f a) (h2 : f2 (a + 1) = f (a + 1)) (h3 : f2 (a + 2) = f (a + 2)) (h4 : f2 (a + 3) = f (a + 3)) : fOk f2 a s := by
  unfold fOk hasP at *
  rw [h1, h2, h3, h4]
  exact h
theorem stk.same {f f2 : Nat → Nat → Int32} {n : Nat} {sh : Nat → Int32} (h : stk f n sh) (he : ∀ b, inSt b → b ≠ 3 → f2 b = f b) : stk f2 n sh := by
  obtain ⟨⟨h1, h2, h3⟩, h4, π, h5, h6⟩ := h
  refine ⟨⟨by rw [he 1 (by unfold inSt; omega) (by omega)]; exact h1, h2, fun i hi => (h3 i hi).same (he _ (by unfold inSt; omega) (by omega)) (he _ (by unfold inSt; omega) (by omega)) (he _ (by unfold inSt; omega) (by omega)) (he _ (by unfold inSt; omega) (by omega))⟩, fun i hi => by rw [he 4 (by unfold inSt; omega) (by omega)]; exact h4 i hi, π, fun i hi => by rw [he 5 (by unfold inSt; omega) (by omega)]; exact h5 i hi, h6⟩
theorem jbs_cong {q r : Nat → Int32} : ∀ (n : Nat), (∀ k, k < n → q k = r k) → jbs q n = jbs r n
  | 0, _ => rfl
  | n + 1, h => by rw [jbs, jbs, h n (by omega), jbs_cong n (fun k hk => h k (by omega))]
theorem k_add_full (d : Nat) (sw : Bool) (f : Nat → Nat → Int32) (g : Nat → Nat → Int64) (x w : Int32) (h : f 1 4 = nI 10) : CT d 0 0 iX5_add [.ref 1, .int x, .int w] (S sw f g) (QR (some (.int (-3))) (S sw f g)) := by
  refine CT.of rfl (Nat.le_of_ble_eq_true rfl) (fun X hX hR hN _ => ?_)
  have hX : Good X RX5 cX5_add d 0 0 := hX
  have hN : x_nl X = 4 := hN
  show WP X 0 0 0 [_, _, _, _] [] _
  refine wp_aload_n hX (dk DX5_add 0 rfl) rfl ?_
  refine w_geti hX flX5_28 (dk DX5_add 1 rfl) (by decide) rfl ?_
  refine wp_bipush (v := 10) hX (dk DX5_add 2 rfl) (by decide) ?_
  rw [h]
  refine wp_icmp_lt (tgt := 12) hX (dk DX5_add 3 rfl) (by decide) (fun h_ => absurd h_ ((by decide))) (fun _ => ?_)
  refine wp_bipush (v := -3) hX (dk DX5_add 4 rfl) (by decide) ?_
  exact wp_ireturn hX hR (dk DX5_add 5 rfl) rfl (Nat.le_refl _) (Nat.le_refl _) (⟨rfl, rfl⟩)
theorem k_add (d : Nat) (sw : Bool) (f : Nat → Nat → Int32) (g : Nat → Nat → Int64) (n : Nat) (sh : Nat → Int32) (x w : Int32) (hn : n < 10) (hs : stk f n sh) : CT (d + 4) 0 0 iX5_add [.ref 1, .int x, .int w] (S sw f g) (QS (fun r sw2 f2 g2 => r = some (.int (nI n)) ∧ sw2 = sw ∧ g2 = g ∧ (∀ b, ¬ inSt b → f2 b = f b) ∧ (∀ i, f2 3 i = if i = n * 3 then w else f 3 i) ∧ stk f2 (n + 1) (fun i => if i = n then x else sh i))) := by
  obtain ⟨⟨hs1, hs2, hs3⟩, hs4, hs5⟩ := hs
  refine CT.of rfl (Nat.le_of_ble_eq_true rfl) (fun X hX hR hN _ => ?_)
  have hX : Good X RX5 cX5_add (d + 4) 0 0 := hX
  have hN : x_nl X = 4 := hN
  show WP X 0 0 0 [_, _, _, _] [] _
  refine wp_aload_n hX (dk DX5_add 0 rfl) rfl ?_
  refine w_geti hX flX5_28 (dk DX5_add 1 rfl) (by decide) rfl ?_
  refine wp_bipush (v := 10) hX (dk DX5_add 2 rfl) (by decide) ?_
  rw [hs1]
  refine wp_icmp_lt (tgt := 12) hX (dk DX5_add 3 rfl) (by decide) (fun _ => ?_) (fun h_ => absurd ((nI_lt (b := 10) hn (by omega))) h_)
  refine wp_aload_n hX (dk DX5_add 6 rfl) rfl ?_
  refine w_geti hX flX5_28 (dk DX5_add 7 rfl) (by decide) rfl ?_
  rw [hs1]
  refine wp_istore_n hX (dk DX5_add 8 rfl) rfl rfl hN (Nat.le_of_ble_eq_true rfl) ?_
  show WP _ _ _ 17 [_, _, _, _] [] _
  refine wp_aload_n hX (dk DX5_add 9 rfl) rfl ?_
  refine w_getr hX flX5_11 (dk DX5_add 10 rfl) rfl rfl ?_
  refine wp_iload_n hX (dk DX5_add 11 rfl) rfl ?_
  refine w_aald (j := _) hX (dk DX5_add 12 rfl) rfl rfl (show _ < 10 by omega) (rf_form sw n hn) ?_
  refine wp_iload_n hX (dk DX5_add 13 rfl) rfl ?_
  refine w_callVQ (As := [_]) lkX5_32 hX (dk DX5_add 14 rfl) (isF_st n hn).1 rfl (by decide) hN (k_take (d + 1) sw f g (6 + 4 * n) x (isF_st n hn)) (fun v_ sw_ f_ g_ hq_ => ?_)
  obtain ⟨rfl, rfl, rfl, hsf, hfo⟩ := hq_
  show WP _ _ _ 27 [_, _, _, _] [] _
  refine wp_aload_n hX (dk DX5_add 15 rfl) rfl ?_
  refine wp_iload_n hX (dk DX5_add 16 rfl) rfl ?_
  refine wp_iconst (v := 0) hX (dk DX5_add 17 rfl) (by decide) ?_
  refine wp_iload_n hX (dk DX5_add 18 rfl) rfl ?_
  refine w_callV (As := [_, _, _]) lkX5_36 hX (dk DX5_add 19 rfl) rfl rfl (by decide) hN (k_setTrait (d + 3) sw_ f_ g_ n 0 w hn (by omega)) ?_
  show WP _ _ _ 34 [_, _, _, _] [] _
  refine wp_aload_n hX (dk DX5_add 20 rfl) rfl ?_
  refine wp_dup hX (dk DX5_add 21 rfl) rfl ?_
  have e0 : ∀ b, b ≠ 3 → (b < 6 + 4 * n ∨ 6 + 4 * n + 3 < b) → u2 f_ 3 (n * 3 + 0) w b = f b := fun b h1 h2 => by
    rw [u2_ne _ _ _ h1]
    exact hsf b (by omega) (by omega) (by omega) (by omega)
  refine w_geti hX flX5_28 (dk DX5_add 22 rfl) (by decide) rfl ?_
  rw [e0 1 (by omega) (by omega), hs1]
  refine wp_iconst (v := 1) hX (dk DX5_add 23 rfl) (by decide) ?_
  refine wp_iadd hX (dk DX5_add 24 rfl) ?_
  refine w_puti hX fpX5_28 (dk DX5_add 25 rfl) rfl ?_
  obtain ⟨f3, hf3⟩ : ∃ z, z = u2 (u2 f_ 3 (n * 3 + 0) w) 1 4 (nI n + 1) := ⟨_, rfl⟩
  rw [← hf3]
  have e1 : ∀ b, b ≠ 3 → b ≠ 1 → (b < 6 + 4 * n ∨ 6 + 4 * n + 3 < b) → f3 b = f b := fun b h1 h2 h3 => by
    rw [hf3, u2_ne _ _ _ h2]
    exact e0 b h1 h3
  have hst3 : stF f3 (n + 1) (fun i => if i = n then x else sh i) := by
    refine ⟨by rw [hf3, u2_at, nI_1], by omega, fun i hi => ?_⟩
    dsimp only
    by_cases c : i = n
    · rw [if_pos c, c]
      refine hfo.same ?_ ?_ ?_ ?_ <;> rw [hf3, u2_ne _ _ _ (by omega), u2_ne _ _ _ (by omega)]
    · rw [if_neg c]
      refine (hs3 i (by omega)).same ?_ ?_ ?_ ?_ <;> exact e1 _ (by omega) (by omega) (by omega)
  have hb3 : blw f3 n n (fun i => if i = n then x else sh i) := by
    intro i hi
    rw [e1 4 (by omega) (by omega) (by omega), hs4 i hi]
    refine jbs_cong n (fun j hj => ?_)
    show jct (sh j) (sh i) = jct (if j = n then x else sh j) (if i = n then x else sh i)
    rw [if_neg (show ¬ j = n by omega), if_neg (show ¬ i = n by omega)]
  have hs3' : srt f3 n (fun i => if i = n then x else sh i) := by
    obtain ⟨π, p1, p2, p3⟩ := hs5
    refine ⟨π, fun i hi => by rw [e1 5 (by omega) (by omega) (by omega)]; exact p1 i hi, p2, fun i j hij hj => ?_⟩
    have c1 := (p1 i (by omega)).2
    have c2 := (p1 j hj).2
    show jpc (if π i = n then x else sh (π i)) ≤ jpc (if π j = n then x else sh (π j))
    rw [if_neg (show ¬ π i = n by omega), if_neg (show ¬ π j = n by omega)]
    exact p3 i j hij hj
  refine wp_aload_n hX (dk DX5_add 26 rfl) rfl ?_
  refine wp_iload_n hX (dk DX5_add 27 rfl) rfl ?_
  refine w_callVQ (As := [_]) lkX5_40 hX (dk DX5_add 28 rfl) rfl rfl (by decide) hN (k_relate d sw_ f3 g_ n _ hst3 hb3) (fun v_ sw_ f_ g_ hq_ => ?_)
  obtain ⟨rfl, rfl, rfl, hf4, hb4⟩ := hq_
  show WP _ _ _ 49 [_, _, _, _] [] _
  have hst4 : stF f_ (n + 1) (fun i => if i = n then x else sh i) := ⟨by rw [hf4 1 (by omega)]; exact hst3.1, hst3.2.1, fun i hi => (hst3.2.2 i hi).same (hf4 _ (by omega)) (hf4 _ (by omega)) (hf4 _ (by omega)) (hf4 _ (by omega))⟩
  have hs4' : srt f_ n (fun i => if i = n then x else sh i) := by
    obtain ⟨π, p1, p2, p3⟩ := hs3'
    exact ⟨π, fun i hi => by rw [hf4 5 (by omega)]; exact p1 i hi, p2, p3⟩
  refine wp_aload_n hX (dk DX5_add 29 rfl) rfl ?_
  refine wp_iload_n hX (dk DX5_add 30 rfl) rfl ?_
  refine w_callVQ (As := [_]) lkX5_43 hX (dk DX5_add 31 rfl) rfl rfl (by decide) hN (k_sortIn (d + 3) sw_ f_ g_ n _ hst4 hs4') (fun v_ sw_ f_ g_ hq_ => ?_)
  obtain ⟨rfl, rfl, rfl, hf5, hs5'⟩ := hq_
  show WP _ _ _ 54 [_, _, _, _] [] _
  refine wp_iload_n hX (dk DX5_add 32 rfl) rfl ?_
  refine wp_ireturn hX hR (dk DX5_add 33 rfl) rfl (Nat.le_refl _) (Nat.le_refl _) ⟨_, _, _, rfl, rfl, rfl, rfl, fun b hb => ?_, fun i => ?_, ⟨?_, ?_, hs5'⟩⟩
  · unfold inSt at hb
    rw [hf5 b (by omega), hf4 b (by omega)]
    exact e1 b (by omega) (by omega) (by omega)
  · rw [hf5 3 (by omega), hf4 3 (by omega), hf3, u2_ne _ _ _ (by omega)]
    by_cases c : i = n * 3
    · rw [if_pos c, c]; exact u2_at _ _ _ _
    · rw [if_neg c, u2_off _ _ _ (by omega), hsf 3 (by omega) (by omega) (by omega) (by omega)]
  · exact ⟨by rw [hf5 1 (by omega)]; exact hst4.1, hst4.2.1, fun i hi => (hst4.2.2 i hi).same (hf5 _ (by omega)) (hf5 _ (by omega)) (hf5 _ (by omega)) (hf5 _ (by omega))⟩
  · intro i hi
    rw [hf5 4 (by omega)]
    exact hb4 i hi
end
section
/-! YARD -/
theorem k_blocks (d : Nat) (sw : Bool) (f : Nat → Nat → Int32) (g : Nat → Nat → Int64) : CT d 0 0 iX9_blocks [.ref 61] (S sw f g) (QR (some (.int (f 61 6))) (S sw f g)) := by
  refine CT.of rfl (Nat.le_of_ble_eq_true rfl) (fun X hX hR hN _ => ?_)
  have hX : Good X RX9 cX9_blocks d 0 0 := hX
  have hN : x_nl X = 1 := hN
  show WP X 0 0 0 [_] [] _
  refine wp_aload_n hX (dk DX9_blocks 0 rfl) rfl ?_
  refine w_geti hX flX9_30 (dk DX9_blocks 1 rfl) (by decide) rfl ?_
  exact wp_ireturn hX hR (dk DX9_blocks 2 rfl) rfl (Nat.le_refl _) (Nat.le_refl _) (⟨rfl, rfl⟩)
theorem k_yhas (d : Nat) (sw : Bool) (f : Nat → Nat → Int32) (g : Nat → Nat → Int64) (x : Int32) : CT d 0 0 iX9_has [.ref 61, .int x] (S sw f g) (QR (some (.int (jin x (f 61 6)))) (S sw f g)) := by
  refine CT.of rfl (Nat.le_of_ble_eq_true rfl) (fun X hX hR hN _ => ?_)
  have hX : Good X RX9 cX9_has d 0 0 := hX
  have hN : x_nl X = 2 := hN
  show WP X 0 0 0 [_, _] [] _
  refine wp_iload_n hX (dk DX9_has 0 rfl) rfl ?_
  refine wp_if_lt (tgt := 16) hX (dk DX9_has 1 rfl) (by decide) (fun h => ?_) (fun h => ?_)
  · refine wp_iconst (v := 0) hX (dk DX9_has 8 rfl) (by decide) ?_
    exact wp_ireturn hX hR (dk DX9_has 9 rfl) rfl (Nat.le_refl _) (Nat.le_refl _) (⟨by rw [jin, if_neg (fun q => q.1 h)], rfl⟩)
  · refine wp_iload_n hX (dk DX9_has 2 rfl) rfl ?_
    refine wp_aload_n hX (dk DX9_has 3 rfl) rfl ?_
    refine w_geti hX flX9_30 (dk DX9_has 4 rfl) (by decide) rfl ?_
    refine wp_icmp_ge (tgt := 16) hX (dk DX9_has 5 rfl) (by decide) (fun h2 => ?_) (fun h2 => ?_)
    · refine wp_iconst (v := 0) hX (dk DX9_has 8 rfl) (by decide) ?_
      exact wp_ireturn hX hR (dk DX9_has 9 rfl) rfl (Nat.le_refl _) (Nat.le_refl _) (⟨by rw [jin, if_neg (fun q => Int32.not_lt.mpr h2 q.2)], rfl⟩)
    · refine wp_iconst (v := 1) hX (dk DX9_has 6 rfl) (by decide) ?_
      refine wp_goto (tgt := 17) hX (dk DX9_has 7 rfl) (by decide) ?_
      -- to 17
      exact wp_ireturn hX hR (dk DX9_has 9 rfl) rfl (Nat.le_refl _) (Nat.le_refl _) (⟨by rw [jin, if_pos ⟨h, Int32.not_le.mp h2⟩], rfl⟩)
theorem k_yadd_full (d : Nat) (sw : Bool) (f : Nat → Nat → Int32) (g : Nat → Nat → Int64) (x : Int32) (h : f 61 6 = nI 6) : CT d 0 0 iX9_add [.ref 61, .int x] (S sw f g) (QR (some (.int (-3))) (S sw f g)) := by
  refine CT.of rfl (Nat.le_of_ble_eq_true rfl) (fun X hX hR hN _ => ?_)
  have hX : Good X RX9 cX9_add d 0 0 := hX
  have hN : x_nl X = 2 := hN
  show WP X 0 0 0 [_, _] [] _
  refine wp_aload_n hX (dk DX9_add 0 rfl) rfl ?_
  refine w_geti hX flX9_30 (dk DX9_add 1 rfl) (by decide) rfl ?_
  refine wp_bipush (v := 6) hX (dk DX9_add 2 rfl) (by decide) ?_
  rw [h]
  refine wp_icmp_lt (tgt := 12) hX (dk DX9_add 3 rfl) (by decide) (fun h_ => absurd h_ ((by decide))) (fun _ => ?_)
  refine wp_bipush (v := -3) hX (dk DX9_add 4 rfl) (by decide) ?_
  exact wp_ireturn hX hR (dk DX9_add 5 rfl) rfl (Nat.le_refl _) (Nat.le_refl _) (⟨rfl, rfl⟩)
theorem k_yadd (d : Nat) (sw : Bool) (f : Nat → Nat → Int32) (g : Nat → Nat → Int64) (n : Nat) (x : Int32) (hn : n < 6) (h : f 61 6 = nI n) : CT d 0 0 iX9_add [.ref 61, .int x] (S sw f g) (QR (some (.int (nI n))) (S sw (u2 (u2 f 62 n x) 61 6 (nI (n + 1))) g)) := by
  refine CT.of rfl (Nat.le_of_ble_eq_true rfl) (fun X hX hR hN _ => ?_)
  have hX : Good X RX9 cX9_add d 0 0 := hX
  have hN : x_nl X = 2 := hN
  show WP X 0 0 0 [_, _] [] _
  refine wp_aload_n hX (dk DX9_add 0 rfl) rfl ?_
  refine w_geti hX flX9_30 (dk DX9_add 1 rfl) (by decide) rfl ?_
  refine wp_bipush (v := 6) hX (dk DX9_add 2 rfl) (by decide) ?_
  rw [h]
  refine wp_icmp_lt (tgt := 12) hX (dk DX9_add 3 rfl) (by decide) (fun _ => ?_) (fun h_ => absurd ((nI_lt (b := 6) hn (by omega))) h_)
  refine wp_aload_n hX (dk DX9_add 6 rfl) rfl ?_
  refine w_getr hX flX9_11 (dk DX9_add 7 rfl) rfl rfl ?_
  refine wp_aload_n hX (dk DX9_add 8 rfl) rfl ?_
  refine w_geti hX flX9_30 (dk DX9_add 9 rfl) (by decide) rfl ?_
  rw [h]
  refine wp_iload_n hX (dk DX9_add 10 rfl) rfl ?_
  refine w_iast (j := _) hX (dk DX9_add 11 rfl) rfl rfl (show _ < 6 by omega) ?_
  refine wp_aload_n hX (dk DX9_add 12 rfl) rfl ?_
  refine wp_dup hX (dk DX9_add 13 rfl) rfl ?_
  refine w_geti hX flX9_30 (dk DX9_add 14 rfl) (by decide) rfl ?_
  rw [show u2 f 62 n x 61 6 = nI n by rw [u2_ne _ _ _ (by omega)]; exact h]
  refine wp_iconst (v := 1) hX (dk DX9_add 15 rfl) (by decide) ?_
  refine wp_iadd hX (dk DX9_add 16 rfl) ?_
  rw [nI_1]
  refine w_puti hX fpX9_30 (dk DX9_add 17 rfl) rfl ?_
  refine wp_aload_n hX (dk DX9_add 18 rfl) rfl ?_
  refine w_geti hX flX9_30 (dk DX9_add 19 rfl) (by decide) rfl ?_
  rw [u2_at]
  refine wp_iconst (v := 1) hX (dk DX9_add 20 rfl) (by decide) ?_
  refine wp_isub hX (dk DX9_add 21 rfl) ?_
  rw [nI_pred]
  exact wp_ireturn hX hR (dk DX9_add 22 rfl) rfl (Nat.le_refl _) (Nat.le_refl _) (⟨rfl, rfl⟩)
theorem k_leftOf (d : Nat) (sw : Bool) (f : Nat → Nat → Int32) (g : Nat → Nat → Int64) (b : Nat) (hb : b < 6) : CT d 0 0 iX9_leftOf [.ref 61, .int (nI b)] (S sw f g) (QR (some (.int (f 62 b))) (S sw f g)) := by
  refine CT.of rfl (Nat.le_of_ble_eq_true rfl) (fun X hX hR hN _ => ?_)
  have hX : Good X RX9 cX9_leftOf d 0 0 := hX
  have hN : x_nl X = 2 := hN
  show WP X 0 0 0 [_, _] [] _
  refine wp_aload_n hX (dk DX9_leftOf 0 rfl) rfl ?_
  refine w_getr hX flX9_11 (dk DX9_leftOf 1 rfl) rfl rfl ?_
  refine wp_iload_n hX (dk DX9_leftOf 2 rfl) rfl ?_
  refine w_iald (j := _) hX (dk DX9_leftOf 3 rfl) rfl rfl (show _ < 6 by omega) ?_
  exact wp_ireturn hX hR (dk DX9_leftOf 4 rfl) rfl (Nat.le_refl _) (Nat.le_refl _) (⟨rfl, rfl⟩)
theorem k_cutsOf (d : Nat) (sw : Bool) (f : Nat → Nat → Int32) (g : Nat → Nat → Int64) (b : Nat) (hb : b < 6) : CT d 0 0 iX9_cutsOf [.ref 61, .int (nI b)] (S sw f g) (QR (some (.int (f 63 b))) (S sw f g)) := by
  refine CT.of rfl (Nat.le_of_ble_eq_true rfl) (fun X hX hR hN _ => ?_)
  have hX : Good X RX9 cX9_cutsOf d 0 0 := hX
  have hN : x_nl X = 2 := hN
  show WP X 0 0 0 [_, _] [] _
  refine wp_aload_n hX (dk DX9_cutsOf 0 rfl) rfl ?_
  refine w_getr hX flX9_15 (dk DX9_cutsOf 1 rfl) rfl rfl ?_
  refine wp_iload_n hX (dk DX9_cutsOf 2 rfl) rfl ?_
  refine w_iald (j := _) hX (dk DX9_cutsOf 3 rfl) rfl rfl (show _ < 6 by omega) ?_
  exact wp_ireturn hX hR (dk DX9_cutsOf 4 rfl) rfl (Nat.le_refl _) (Nat.le_refl _) (⟨rfl, rfl⟩)
theorem k_ledger (d : Nat) (sw : Bool) (f : Nat → Nat → Int32) (g : Nat → Nat → Int64) (b : Nat) (hb : b < 4) : CT d 0 0 iX9_ledger [.ref 61, .int (nI b)] (S sw f g) (QR (some (.int (f 64 b))) (S sw f g)) := by
  refine CT.of rfl (Nat.le_of_ble_eq_true rfl) (fun X hX hR hN _ => ?_)
  have hX : Good X RX9 cX9_ledger d 0 0 := hX
  have hN : x_nl X = 2 := hN
  show WP X 0 0 0 [_, _] [] _
  refine wp_aload_n hX (dk DX9_ledger 0 rfl) rfl ?_
  refine w_getr hX flX9_18 (dk DX9_ledger 1 rfl) rfl rfl ?_
  refine wp_iload_n hX (dk DX9_ledger 2 rfl) rfl ?_
  refine w_iald (j := _) hX (dk DX9_ledger 3 rfl) rfl rfl (show _ < 4 by omega) ?_
  exact wp_ireturn hX hR (dk DX9_ledger 4 rfl) rfl (Nat.le_refl _) (Nat.le_refl _) (⟨rfl, rfl⟩)
/-- what a cut does to the yard -/
def jyt (f : Nat → Nat → Int32) (b : Nat) (s br : Int32) : Nat → Nat → Int32 :=
  let f1 := u2 f 64 0 (f 64 0 + 1)
  let f2 := u2 f1 64 1 (f1 64 1 + (jpc (f1 62 b) - jpc s))
  let f3 := u2 f2 64 2 (f2 64 2 + br)
  let f4 := u2 f3 62 b s
  u2 f4 63 b (f4 63 b + 1)
theorem k_ytake (d : Nat) (sw : Bool) (f : Nat → Nat → Int32) (g : Nat → Nat → Int64) (b : Nat) (s br : Int32) (hb : b < 6) : CT (d + 1) 0 0 iX9_take [.ref 61, .int (nI b), .int s, .int br] (S sw f g) (QR none (S sw (jyt f b s br) g)) := by
  refine CT.of rfl (Nat.le_of_ble_eq_true rfl) (fun X hX hR hN _ => ?_)
  have hX : Good X RX9 cX9_take (d + 1) 0 0 := hX
  have hN : x_nl X = 4 := hN
  show WP X 0 0 0 [_, _, _, _] [] _
  refine wp_aload_n hX (dk DX9_take 0 rfl) rfl ?_
  refine w_getr hX flX9_18 (dk DX9_take 1 rfl) rfl rfl ?_
  refine wp_iconst (v := 0) hX (dk DX9_take 2 rfl) (by decide) ?_
  refine wp_dup2 hX (dk DX9_take 3 rfl) rfl rfl ?_
  refine w_iald (j := 0) hX (dk DX9_take 4 rfl) rfl rfl (by decide) ?_
  refine wp_iconst (v := 1) hX (dk DX9_take 5 rfl) (by decide) ?_
  refine wp_iadd hX (dk DX9_take 6 rfl) ?_
  refine w_iast (j := 0) hX (dk DX9_take 7 rfl) rfl rfl (by decide) ?_
  refine wp_aload_n hX (dk DX9_take 8 rfl) rfl ?_
  refine w_getr hX flX9_18 (dk DX9_take 9 rfl) rfl rfl ?_
  refine wp_iconst (v := 1) hX (dk DX9_take 10 rfl) (by decide) ?_
  refine wp_dup2 hX (dk DX9_take 11 rfl) rfl rfl ?_
  refine w_iald (j := 1) hX (dk DX9_take 12 rfl) rfl rfl (by decide) ?_
  refine wp_aload_n hX (dk DX9_take 13 rfl) rfl ?_
  refine w_getr hX flX9_11 (dk DX9_take 14 rfl) rfl rfl ?_
  refine wp_iload_n hX (dk DX9_take 15 rfl) rfl ?_
  refine w_iald (j := _) hX (dk DX9_take 16 rfl) rfl rfl (show _ < 6 by omega) ?_
  refine w_callS (As := [_]) lkX9_34 hX (dk DX9_take 17 rfl) rfl (by simp [Value.category]) (k_bitCount d _ _) ?_
  show WP _ _ _ 26 [_, _, _, _] [_, _, _, _] _
  refine wp_iload_n hX (dk DX9_take 18 rfl) rfl ?_
  refine w_callS (As := [_]) lkX9_34 hX (dk DX9_take 19 rfl) rfl (by simp [Value.category]) (k_bitCount d s _) ?_
  show WP _ _ _ 30 [_, _, _, _] [_, _, _, _, _] _
  refine wp_isub hX (dk DX9_take 20 rfl) ?_
  refine wp_iadd hX (dk DX9_take 21 rfl) ?_
  refine w_iast (j := 1) hX (dk DX9_take 22 rfl) rfl rfl (by decide) ?_
  refine wp_aload_n hX (dk DX9_take 23 rfl) rfl ?_
  refine w_getr hX flX9_18 (dk DX9_take 24 rfl) rfl rfl ?_
  refine wp_iconst (v := 2) hX (dk DX9_take 25 rfl) (by decide) ?_
  refine wp_dup2 hX (dk DX9_take 26 rfl) rfl rfl ?_
  refine w_iald (j := 2) hX (dk DX9_take 27 rfl) rfl rfl (by decide) ?_
  refine wp_iload_n hX (dk DX9_take 28 rfl) rfl ?_
  refine wp_iadd hX (dk DX9_take 29 rfl) ?_
  refine w_iast (j := 2) hX (dk DX9_take 30 rfl) rfl rfl (by decide) ?_
  refine wp_aload_n hX (dk DX9_take 31 rfl) rfl ?_
  refine w_getr hX flX9_11 (dk DX9_take 32 rfl) rfl rfl ?_
  refine wp_iload_n hX (dk DX9_take 33 rfl) rfl ?_
  refine wp_iload_n hX (dk DX9_take 34 rfl) rfl ?_
  refine w_iast (j := _) hX (dk DX9_take 35 rfl) rfl rfl (show _ < 6 by omega) ?_
  refine wp_aload_n hX (dk DX9_take 36 rfl) rfl ?_
  refine w_getr hX flX9_15 (dk DX9_take 37 rfl) rfl rfl ?_
  refine wp_iload_n hX (dk DX9_take 38 rfl) rfl ?_
  refine wp_dup2 hX (dk DX9_take 39 rfl) rfl rfl ?_
  refine w_iald (j := _) hX (dk DX9_take 40 rfl) rfl rfl (show _ < 6 by omega) ?_
  refine wp_iconst (v := 1) hX (dk DX9_take 41 rfl) (by decide) ?_
  refine wp_iadd hX (dk DX9_take 42 rfl) ?_
  refine w_iast (j := _) hX (dk DX9_take 43 rfl) rfl rfl (show _ < 6 by omega) ?_
  exact wp_return hX hR (dk DX9_take 44 rfl) (Nat.le_refl _) (Nat.le_refl _) (⟨rfl, rfl⟩)
theorem k_letPass (d : Nat) (sw : Bool) (f : Nat → Nat → Int32) (g : Nat → Nat → Int64) (n : Int32) : CT d 0 0 iX9_letPass [.ref 61, .int n] (S sw f g) (QR (some (.int (if f 64 3 + n ≤ 99 then f 64 3 + n else -5))) (S sw (if f 64 3 + n ≤ 99 then u2 f 64 3 (f 64 3 + n) else f) g)) := by
  refine CT.of rfl (Nat.le_of_ble_eq_true rfl) (fun X hX hR hN _ => ?_)
  have hX : Good X RX9 cX9_letPass d 0 0 := hX
  have hN : x_nl X = 2 := hN
  show WP X 0 0 0 [_, _] [] _
  refine wp_aload_n hX (dk DX9_letPass 0 rfl) rfl ?_
  refine w_getr hX flX9_18 (dk DX9_letPass 1 rfl) rfl rfl ?_
  refine wp_iconst (v := 3) hX (dk DX9_letPass 2 rfl) (by decide) ?_
  refine w_iald (j := 3) hX (dk DX9_letPass 3 rfl) rfl rfl (by decide) ?_
  refine wp_iload_n hX (dk DX9_letPass 4 rfl) rfl ?_
  refine wp_iadd hX (dk DX9_letPass 5 rfl) ?_
  refine wp_bipush (v := 99) hX (dk DX9_letPass 6 rfl) (by decide) ?_
  refine wp_icmp_le (tgt := 16) hX (dk DX9_letPass 7 rfl) (by decide) (fun h => ?_) (fun h => ?_)
  · refine wp_aload_n hX (dk DX9_letPass 10 rfl) rfl ?_
    refine w_getr hX flX9_18 (dk DX9_letPass 11 rfl) rfl rfl ?_
    refine wp_iconst (v := 3) hX (dk DX9_letPass 12 rfl) (by decide) ?_
    refine wp_dup2 hX (dk DX9_letPass 13 rfl) rfl rfl ?_
    refine w_iald (j := 3) hX (dk DX9_letPass 14 rfl) rfl rfl (by decide) ?_
    refine wp_iload_n hX (dk DX9_letPass 15 rfl) rfl ?_
    refine wp_iadd hX (dk DX9_letPass 16 rfl) ?_
    refine w_iast (j := 3) hX (dk DX9_letPass 17 rfl) rfl rfl (by decide) ?_
    refine wp_aload_n hX (dk DX9_letPass 18 rfl) rfl ?_
    refine w_getr hX flX9_18 (dk DX9_letPass 19 rfl) rfl rfl ?_
    refine wp_iconst (v := 3) hX (dk DX9_letPass 20 rfl) (by decide) ?_
    refine w_iald (j := 3) hX (dk DX9_letPass 21 rfl) rfl rfl (by decide) ?_
    rw [u2_at]
    exact wp_ireturn hX hR (dk DX9_letPass 22 rfl) rfl (Nat.le_refl _) (Nat.le_refl _) (⟨by rw [if_pos h], by rw [if_pos h]⟩)
  · refine wp_bipush (v := -5) hX (dk DX9_letPass 8 rfl) (by decide) ?_
    exact wp_ireturn hX hR (dk DX9_letPass 9 rfl) rfl (Nat.le_refl _) (Nat.le_refl _) (⟨by rw [if_neg h], by rw [if_neg h]⟩)
/-- what the image takes -/
def jyst (f : Nat → Nat → Int32) (n : Nat) : Nat → Nat → Int32 :=
  let f1 := u1 f 65 (va_cpy (f 62) (f 65) 0 0 n)
  let f2 := u1 f1 66 (va_cpy (f1 63) (f1 66) 0 0 n)
  let f3 := u1 f2 67 (va_cpy (f2 64) (f2 67) 0 0 4)
  u2 (u2 f3 61 7 (f3 61 6)) 61 8 1
theorem k_store (d : Nat) (sw : Bool) (f : Nat → Nat → Int32) (g : Nat → Nat → Int64) (n : Nat) (hn : n ≤ 6) (h : f 61 6 = nI n) : CT (d + 1) 0 0 iX9_store [.ref 61] (S sw f g) (QR none (S sw (jyst f n) g)) := by
  refine CT.of rfl (Nat.le_of_ble_eq_true rfl) (fun X hX hR hN _ => ?_)
  have hX : Good X RX9 cX9_store (d + 1) 0 0 := hX
  have hN : x_nl X = 1 := hN
  show WP X 0 0 0 [_] [] _
  refine wp_aload_n hX (dk DX9_store 0 rfl) rfl ?_
  refine w_getr hX flX9_11 (dk DX9_store 1 rfl) rfl rfl ?_
  refine wp_iconst (v := 0) hX (dk DX9_store 2 rfl) (by decide) ?_
  refine wp_aload_n hX (dk DX9_store 3 rfl) rfl ?_
  refine w_getr hX flX9_21 (dk DX9_store 4 rfl) rfl rfl ?_
  refine wp_iconst (v := 0) hX (dk DX9_store 5 rfl) (by decide) ?_
  refine wp_aload_n hX (dk DX9_store 6 rfl) rfl ?_
  refine w_geti hX flX9_30 (dk DX9_store 7 rfl) (by decide) rfl ?_
  rw [h]
  refine w_copyi (sp := 0) (dp := 0) (n := n) hX lkX9_40 (dk DX9_store 8 rfl) (by decide) rfl rfl rfl rfl rfl (show 0 + n ≤ 6 by omega) (show 0 + n ≤ 6 by omega) ?_
  refine wp_aload_n hX (dk DX9_store 9 rfl) rfl ?_
  refine w_getr hX flX9_15 (dk DX9_store 10 rfl) rfl rfl ?_
  refine wp_iconst (v := 0) hX (dk DX9_store 11 rfl) (by decide) ?_
  refine wp_aload_n hX (dk DX9_store 12 rfl) rfl ?_
  refine w_getr hX flX9_24 (dk DX9_store 13 rfl) rfl rfl ?_
  refine wp_iconst (v := 0) hX (dk DX9_store 14 rfl) (by decide) ?_
  refine wp_aload_n hX (dk DX9_store 15 rfl) rfl ?_
  refine w_geti hX flX9_30 (dk DX9_store 16 rfl) (by decide) rfl ?_
  rw [show u1 f 65 (va_cpy (f 62) (f 65) 0 0 n) 61 6 = nI n from h]
  refine w_copyi (sp := 0) (dp := 0) (n := n) hX lkX9_40 (dk DX9_store 17 rfl) (by decide) rfl rfl rfl rfl rfl (show 0 + n ≤ 6 by omega) (show 0 + n ≤ 6 by omega) ?_
  refine wp_aload_n hX (dk DX9_store 18 rfl) rfl ?_
  refine w_getr hX flX9_18 (dk DX9_store 19 rfl) rfl rfl ?_
  refine wp_iconst (v := 0) hX (dk DX9_store 20 rfl) (by decide) ?_
  refine wp_aload_n hX (dk DX9_store 21 rfl) rfl ?_
  refine w_getr hX flX9_27 (dk DX9_store 22 rfl) rfl rfl ?_
  refine wp_iconst (v := 0) hX (dk DX9_store 23 rfl) (by decide) ?_
  refine wp_iconst (v := 4) hX (dk DX9_store 24 rfl) (by decide) ?_
  refine w_copyi (sp := 0) (dp := 0) (n := 4) hX lkX9_40 (dk DX9_store 25 rfl) (by decide) rfl rfl rfl rfl rfl (by decide) (by decide) ?_
  refine wp_aload_n hX (dk DX9_store 26 rfl) rfl ?_
  refine wp_aload_n hX (dk DX9_store 27 rfl) rfl ?_
  refine w_geti hX flX9_30 (dk DX9_store 28 rfl) (by decide) rfl ?_
  refine w_puti hX fpX9_46 (dk DX9_store 29 rfl) rfl ?_
  refine wp_aload_n hX (dk DX9_store 30 rfl) rfl ?_
  refine wp_iconst (v := 1) hX (dk DX9_store 31 rfl) (by decide) ?_
  refine w_putz hX fpX9_49 (dk DX9_store 32 rfl) (by decide) rfl ?_
  exact wp_return hX hR (dk DX9_store 33 rfl) (Nat.le_refl _) (Nat.le_refl _) (⟨rfl, rfl⟩)
def jyre (f : Nat → Nat → Int32) (n : Nat) : Nat → Nat → Int32 :=
  let f1 := u1 f 62 (va_cpy (f 65) (f 62) 0 0 n)
  let f2 := u1 f1 63 (va_cpy (f1 66) (f1 63) 0 0 n)
  u1 f2 64 (va_cpy (f2 67) (f2 64) 0 0 4)
theorem k_restore0 (d : Nat) (sw : Bool) (f : Nat → Nat → Int32) (g : Nat → Nat → Int64) (h : f 61 8 = 0) : CT (d + 1) 0 0 iX9_restore [.ref 61] (S sw f g) (QR (some (.int 0)) (S sw f g)) := by
  refine CT.of rfl (Nat.le_of_ble_eq_true rfl) (fun X hX hR hN _ => ?_)
  have hX : Good X RX9 cX9_restore (d + 1) 0 0 := hX
  have hN : x_nl X = 1 := hN
  show WP X 0 0 0 [_] [] _
  refine wp_aload_n hX (dk DX9_restore 0 rfl) rfl ?_
  refine w_geti hX flX9_49 (dk DX9_restore 1 rfl) (by decide) rfl ?_
  refine wp_if_ne (tgt := 9) hX (dk DX9_restore 2 rfl) (by decide) (fun h_ => absurd (h) h_) (fun _ => ?_)
  refine wp_iconst (v := 0) hX (dk DX9_restore 3 rfl) (by decide) ?_
  exact wp_ireturn hX hR (dk DX9_restore 4 rfl) rfl (Nat.le_refl _) (Nat.le_refl _) (⟨rfl, rfl⟩)
theorem k_restore (d : Nat) (sw : Bool) (f : Nat → Nat → Int32) (g : Nat → Nat → Int64) (n : Nat) (hn : n ≤ 6) (h : ¬ f 61 8 = 0) (h7 : f 61 7 = nI n) : CT (d + 1) 0 0 iX9_restore [.ref 61] (S sw f g) (QR (some (.int 1)) (S sw (jyre f n) g)) := by
  refine CT.of rfl (Nat.le_of_ble_eq_true rfl) (fun X hX hR hN _ => ?_)
  have hX : Good X RX9 cX9_restore (d + 1) 0 0 := hX
  have hN : x_nl X = 1 := hN
  show WP X 0 0 0 [_] [] _
  refine wp_aload_n hX (dk DX9_restore 0 rfl) rfl ?_
  refine w_geti hX flX9_49 (dk DX9_restore 1 rfl) (by decide) rfl ?_
  refine wp_if_ne (tgt := 9) hX (dk DX9_restore 2 rfl) (by decide) (fun _ => ?_) (fun h_ => absurd h_ (h))
  refine wp_aload_n hX (dk DX9_restore 5 rfl) rfl ?_
  refine w_getr hX flX9_21 (dk DX9_restore 6 rfl) rfl rfl ?_
  refine wp_iconst (v := 0) hX (dk DX9_restore 7 rfl) (by decide) ?_
  refine wp_aload_n hX (dk DX9_restore 8 rfl) rfl ?_
  refine w_getr hX flX9_11 (dk DX9_restore 9 rfl) rfl rfl ?_
  refine wp_iconst (v := 0) hX (dk DX9_restore 10 rfl) (by decide) ?_
  refine wp_aload_n hX (dk DX9_restore 11 rfl) rfl ?_
  refine w_geti hX flX9_46 (dk DX9_restore 12 rfl) (by decide) rfl ?_
  rw [h7]
  refine w_copyi (sp := 0) (dp := 0) (n := n) hX lkX9_40 (dk DX9_restore 13 rfl) (by decide) rfl rfl rfl rfl rfl (show 0 + n ≤ 6 by omega) (show 0 + n ≤ 6 by omega) ?_
  refine wp_aload_n hX (dk DX9_restore 14 rfl) rfl ?_
  refine w_getr hX flX9_24 (dk DX9_restore 15 rfl) rfl rfl ?_
  refine wp_iconst (v := 0) hX (dk DX9_restore 16 rfl) (by decide) ?_
  refine wp_aload_n hX (dk DX9_restore 17 rfl) rfl ?_
  refine w_getr hX flX9_15 (dk DX9_restore 18 rfl) rfl rfl ?_
  refine wp_iconst (v := 0) hX (dk DX9_restore 19 rfl) (by decide) ?_
  refine wp_aload_n hX (dk DX9_restore 20 rfl) rfl ?_
  refine w_geti hX flX9_46 (dk DX9_restore 21 rfl) (by decide) rfl ?_
  rw [show u1 f 62 (va_cpy (f 65) (f 62) 0 0 n) 61 7 = nI n from h7]
  refine w_copyi (sp := 0) (dp := 0) (n := n) hX lkX9_40 (dk DX9_restore 22 rfl) (by decide) rfl rfl rfl rfl rfl (show 0 + n ≤ 6 by omega) (show 0 + n ≤ 6 by omega) ?_
  refine wp_aload_n hX (dk DX9_restore 23 rfl) rfl ?_
  refine w_getr hX flX9_27 (dk DX9_restore 24 rfl) rfl rfl ?_
  refine wp_iconst (v := 0) hX (dk DX9_restore 25 rfl) (by decide) ?_
  refine wp_aload_n hX (dk DX9_restore 26 rfl) rfl ?_
  refine w_getr hX flX9_18 (dk DX9_restore 27 rfl) rfl rfl ?_
  refine wp_iconst (v := 0) hX (dk DX9_restore 28 rfl) (by decide) ?_
  refine wp_iconst (v := 4) hX (dk DX9_restore 29 rfl) (by decide) ?_
  refine w_copyi (sp := 0) (dp := 0) (n := 4) hX lkX9_40 (dk DX9_restore 30 rfl) (by decide) rfl rfl rfl rfl rfl (by decide) (by decide) ?_
  refine wp_iconst (v := 1) hX (dk DX9_restore 31 rfl) (by decide) ?_
  exact wp_ireturn hX hR (dk DX9_restore 32 rfl) rfl (Nat.le_refl _) (Nat.le_refl _) (⟨rfl, rfl⟩)
end
section
/-! CHANGES, SHELVES -/
theorem k_done (d : Nat) (sw : Bool) (f : Nat → Nat → Int32) (g : Nat → Nat → Int64) : CT d 0 0 iX0_done [.ref 68] (S sw f g) (QR (some (.int (f 68 1))) (S sw f g)) := by
  refine CT.of rfl (Nat.le_of_ble_eq_true rfl) (fun X hX hR hN _ => ?_)
  have hX : Good X RX0 cX0_done d 0 0 := hX
  have hN : x_nl X = 1 := hN
  show WP X 0 0 0 [_] [] _
  refine wp_aload_n hX (dk DX0_done 0 rfl) rfl ?_
  refine w_geti hX flX0_15 (dk DX0_done 1 rfl) (by decide) rfl ?_
  exact wp_ireturn hX hR (dk DX0_done 2 rfl) rfl (Nat.le_refl _) (Nat.le_refl _) (⟨rfl, rfl⟩)
/-- a change is written behind the n that are done -/
def jchp (f : Nat → Nat → Int32) (n : Nat) (x y z u : Int32) : Nat → Nat → Int32 := u2 (u2 (u2 (u2 (u2 (u2 f 69 (n * 4) x) 69 (n * 4 + 1) y) 69 (n * 4 + 2) z) 69 (n * 4 + 3) u) 68 1 (nI (n + 1))) 68 2 0
theorem ix4 (a : Nat) : nI a * 4 = nI (a * 4) := pk_mul a 4
theorem k_chadd0 (d : Nat) (sw : Bool) (f : Nat → Nat → Int32) (g : Nat → Nat → Int64) (n : Nat) (x y z u : Int32) (hn : n < 40) (h : f 68 1 = nI n) : CT (d + 1) 0 0 iX0_add [.ref 68, .int x, .int y, .int z, .int u] (S sw f g) (QR none (S sw (jchp f n x y z u) g)) := by
  refine CT.of rfl (Nat.le_of_ble_eq_true rfl) (fun X hX hR hN _ => ?_)
  have hX : Good X RX0 cX0_add (d + 1) 0 0 := hX
  have hN : x_nl X = 6 := hN
  show WP X 0 0 0 [_, _, _, _, _, _] [] _
  refine wp_aload_n hX (dk DX0_add 0 rfl) rfl ?_
  refine w_geti hX flX0_15 (dk DX0_add 1 rfl) (by decide) rfl ?_
  refine wp_bipush (v := 40) hX (dk DX0_add 2 rfl) (by decide) ?_
  rw [h]
  refine wp_icmp_lt (tgt := 31) hX (dk DX0_add 3 rfl) (by decide) (fun _ => ?_) (fun h_ => absurd ((nI_lt (b := 40) hn (by omega))) h_)
  refine wp_aload_n hX (dk DX0_add 15 rfl) rfl ?_
  refine w_geti hX flX0_15 (dk DX0_add 16 rfl) (by decide) rfl ?_
  rw [h]
  refine wp_iconst (v := 4) hX (dk DX0_add 17 rfl) (by decide) ?_
  refine wp_imul hX (dk DX0_add 18 rfl) ?_
  rw [ix4]
  refine wp_istore hX (dk DX0_add 19 rfl) rfl hN (Nat.le_of_ble_eq_true rfl) ?_
  show WP _ _ _ 39 [_, _, _, _, _, _] [] _
  refine wp_aload_n hX (dk DX0_add 20 rfl) rfl ?_
  refine w_getr hX flX0_11 (dk DX0_add 21 rfl) rfl rfl ?_
  refine wp_iload hX (dk DX0_add 22 rfl) rfl ?_
  refine wp_iload_n hX (dk DX0_add 23 rfl) rfl ?_
  refine w_iast (j := (n * 4)) hX (dk DX0_add 24 rfl) rfl rfl (show _ < 160 by omega) ?_
  refine wp_aload_n hX (dk DX0_add 25 rfl) rfl ?_
  refine w_getr hX flX0_11 (dk DX0_add 26 rfl) rfl rfl ?_
  refine wp_iload hX (dk DX0_add 27 rfl) rfl ?_
  refine wp_iconst (v := 1) hX (dk DX0_add 28 rfl) (by decide) ?_
  refine wp_iadd hX (dk DX0_add 29 rfl) ?_
  refine wp_iload_n hX (dk DX0_add 30 rfl) rfl ?_
  refine w_iast (j := (n * 4 + 1)) hX (dk DX0_add 31 rfl) rfl (nI_add (n * 4) 1) (show _ < 160 by omega) ?_
  refine wp_aload_n hX (dk DX0_add 32 rfl) rfl ?_
  refine w_getr hX flX0_11 (dk DX0_add 33 rfl) rfl rfl ?_
  refine wp_iload hX (dk DX0_add 34 rfl) rfl ?_
  refine wp_iconst (v := 2) hX (dk DX0_add 35 rfl) (by decide) ?_
  refine wp_iadd hX (dk DX0_add 36 rfl) ?_
  refine wp_iload_n hX (dk DX0_add 37 rfl) rfl ?_
  refine w_iast (j := (n * 4 + 2)) hX (dk DX0_add 38 rfl) rfl (nI_add (n * 4) 2) (show _ < 160 by omega) ?_
  refine wp_aload_n hX (dk DX0_add 39 rfl) rfl ?_
  refine w_getr hX flX0_11 (dk DX0_add 40 rfl) rfl rfl ?_
  refine wp_iload hX (dk DX0_add 41 rfl) rfl ?_
  refine wp_iconst (v := 3) hX (dk DX0_add 42 rfl) (by decide) ?_
  refine wp_iadd hX (dk DX0_add 43 rfl) ?_
  refine wp_iload hX (dk DX0_add 44 rfl) rfl ?_
  refine w_iast (j := (n * 4 + 3)) hX (dk DX0_add 45 rfl) rfl (nI_add (n * 4) 3) (show _ < 160 by omega) ?_
  refine wp_aload_n hX (dk DX0_add 46 rfl) rfl ?_
  refine wp_dup hX (dk DX0_add 47 rfl) rfl ?_
  refine w_geti hX flX0_15 (dk DX0_add 48 rfl) (by decide) rfl ?_
  rw [show u2 (u2 (u2 (u2 f 69 (n * 4) x) 69 (n * 4 + 1) y) 69 (n * 4 + 2) z) 69 (n * 4 + 3) u 68 1 = nI n from h]
  refine wp_iconst (v := 1) hX (dk DX0_add 49 rfl) (by decide) ?_
  refine wp_iadd hX (dk DX0_add 50 rfl) ?_
  rw [nI_1]
  refine w_puti hX fpX0_15 (dk DX0_add 51 rfl) rfl ?_
  refine wp_aload_n hX (dk DX0_add 52 rfl) rfl ?_
  refine wp_iconst (v := 0) hX (dk DX0_add 53 rfl) (by decide) ?_
  refine w_puti hX fpX0_25 (dk DX0_add 54 rfl) rfl ?_
  exact wp_return hX hR (dk DX0_add 55 rfl) (Nat.le_refl _) (Nat.le_refl _) (⟨rfl, rfl⟩)
theorem k_chadd1 (d : Nat) (sw : Bool) (f : Nat → Nat → Int32) (g : Nat → Nat → Int64) (x y z u : Int32) (h : f 68 1 = nI 40) : CT (d + 1) 0 0 iX0_add [.ref 68, .int x, .int y, .int z, .int u] (S sw f g) (QR none (S sw (jchp (u2 (u1 f 69 (va_cpy (f 69) (f 69) 4 0 156)) 68 1 39) 39 x y z u) g)) := by
  refine CT.of rfl (Nat.le_of_ble_eq_true rfl) (fun X hX hR hN _ => ?_)
  have hX : Good X RX0 cX0_add (d + 1) 0 0 := hX
  have hN : x_nl X = 6 := hN
  show WP X 0 0 0 [_, _, _, _, _, _] [] _
  refine wp_aload_n hX (dk DX0_add 0 rfl) rfl ?_
  refine w_geti hX flX0_15 (dk DX0_add 1 rfl) (by decide) rfl ?_
  refine wp_bipush (v := 40) hX (dk DX0_add 2 rfl) (by decide) ?_
  rw [h]
  refine wp_icmp_lt (tgt := 31) hX (dk DX0_add 3 rfl) (by decide) (fun h_ => absurd h_ ((by decide))) (fun _ => ?_)
  refine wp_aload_n hX (dk DX0_add 4 rfl) rfl ?_
  refine w_getr hX flX0_11 (dk DX0_add 5 rfl) rfl rfl ?_
  refine wp_iconst (v := 4) hX (dk DX0_add 6 rfl) (by decide) ?_
  refine wp_aload_n hX (dk DX0_add 7 rfl) rfl ?_
  refine w_getr hX flX0_11 (dk DX0_add 8 rfl) rfl rfl ?_
  refine wp_iconst (v := 0) hX (dk DX0_add 9 rfl) (by decide) ?_
  refine wp_sipush (v := 156) hX (dk DX0_add 10 rfl) (by decide) ?_
  refine w_copyi (sp := 4) (dp := 0) (n := 156) hX lkX0_19 (dk DX0_add 11 rfl) (by decide) rfl rfl rfl rfl rfl (by decide) (by decide) ?_
  refine wp_aload_n hX (dk DX0_add 12 rfl) rfl ?_
  refine wp_bipush (v := 39) hX (dk DX0_add 13 rfl) (by decide) ?_
  refine w_puti hX fpX0_15 (dk DX0_add 14 rfl) rfl ?_
  refine wp_aload_n hX (dk DX0_add 15 rfl) rfl ?_
  refine w_geti hX flX0_15 (dk DX0_add 16 rfl) (by decide) rfl ?_
  rw [u2_at]
  refine wp_iconst (v := 4) hX (dk DX0_add 17 rfl) (by decide) ?_
  refine wp_imul hX (dk DX0_add 18 rfl) ?_
  rw [show (39 : Int32) * 4 = nI (39 * 4) from rfl]
  refine wp_istore hX (dk DX0_add 19 rfl) rfl hN (Nat.le_of_ble_eq_true rfl) ?_
  show WP _ _ _ 39 [_, _, _, _, _, _] [] _
  refine wp_aload_n hX (dk DX0_add 20 rfl) rfl ?_
  refine w_getr hX flX0_11 (dk DX0_add 21 rfl) rfl rfl ?_
  refine wp_iload hX (dk DX0_add 22 rfl) rfl ?_
  refine wp_iload_n hX (dk DX0_add 23 rfl) rfl ?_
  refine w_iast (j := (39 * 4)) hX (dk DX0_add 24 rfl) rfl rfl (by decide) ?_
  refine wp_aload_n hX (dk DX0_add 25 rfl) rfl ?_
  refine w_getr hX flX0_11 (dk DX0_add 26 rfl) rfl rfl ?_
  refine wp_iload hX (dk DX0_add 27 rfl) rfl ?_
  refine wp_iconst (v := 1) hX (dk DX0_add 28 rfl) (by decide) ?_
  refine wp_iadd hX (dk DX0_add 29 rfl) ?_
  refine wp_iload_n hX (dk DX0_add 30 rfl) rfl ?_
  refine w_iast (j := (39 * 4 + 1)) hX (dk DX0_add 31 rfl) rfl (nI_add (39 * 4) 1) (by decide) ?_
  refine wp_aload_n hX (dk DX0_add 32 rfl) rfl ?_
  refine w_getr hX flX0_11 (dk DX0_add 33 rfl) rfl rfl ?_
  refine wp_iload hX (dk DX0_add 34 rfl) rfl ?_
  refine wp_iconst (v := 2) hX (dk DX0_add 35 rfl) (by decide) ?_
  refine wp_iadd hX (dk DX0_add 36 rfl) ?_
  refine wp_iload_n hX (dk DX0_add 37 rfl) rfl ?_
  refine w_iast (j := (39 * 4 + 2)) hX (dk DX0_add 38 rfl) rfl (nI_add (39 * 4) 2) (by decide) ?_
  refine wp_aload_n hX (dk DX0_add 39 rfl) rfl ?_
  refine w_getr hX flX0_11 (dk DX0_add 40 rfl) rfl rfl ?_
  refine wp_iload hX (dk DX0_add 41 rfl) rfl ?_
  refine wp_iconst (v := 3) hX (dk DX0_add 42 rfl) (by decide) ?_
  refine wp_iadd hX (dk DX0_add 43 rfl) ?_
  refine wp_iload hX (dk DX0_add 44 rfl) rfl ?_
  refine w_iast (j := (39 * 4 + 3)) hX (dk DX0_add 45 rfl) rfl (nI_add (39 * 4) 3) (by decide) ?_
  refine wp_aload_n hX (dk DX0_add 46 rfl) rfl ?_
  refine wp_dup hX (dk DX0_add 47 rfl) rfl ?_
  refine w_geti hX flX0_15 (dk DX0_add 48 rfl) (by decide) rfl ?_
  rw [show u2 (u2 (u2 (u2 (u2 (u1 f 69 (va_cpy (f 69) (f 69) 4 0 156)) 68 1 39) 69 (39 * 4) x) 69 (39 * 4 + 1) y) 69 (39 * 4 + 2) z) 69 (39 * 4 + 3) u 68 1 = nI 39 from rfl]
  refine wp_iconst (v := 1) hX (dk DX0_add 49 rfl) (by decide) ?_
  refine wp_iadd hX (dk DX0_add 50 rfl) ?_
  rw [nI_1]
  refine w_puti hX fpX0_15 (dk DX0_add 51 rfl) rfl ?_
  refine wp_aload_n hX (dk DX0_add 52 rfl) rfl ?_
  refine wp_iconst (v := 0) hX (dk DX0_add 53 rfl) (by decide) ?_
  refine w_puti hX fpX0_25 (dk DX0_add 54 rfl) rfl ?_
  exact wp_return hX hR (dk DX0_add 55 rfl) (Nat.le_refl _) (Nat.le_refl _) (⟨rfl, rfl⟩)
theorem k_takeBack0 (d : Nat) (sw : Bool) (f : Nat → Nat → Int32) (g : Nat → Nat → Int64) (h : f 68 1 = nI 0) : CT (d + 1) 0 0 iX0_takeBack [.ref 68, .ref 1] (S sw f g) (QR (some (.int (-5))) (S sw f g)) := by
  refine CT.of rfl (Nat.le_of_ble_eq_true rfl) (fun X hX hR hN _ => ?_)
  have hX : Good X RX0 cX0_takeBack (d + 1) 0 0 := hX
  have hN : x_nl X = 3 := hN
  show WP X 0 0 0 [_, _, _] [] _
  refine wp_aload_n hX (dk DX0_takeBack 0 rfl) rfl ?_
  refine w_geti hX flX0_15 (dk DX0_takeBack 1 rfl) (by decide) rfl ?_
  refine wp_if_ne (tgt := 10) hX (dk DX0_takeBack 2 rfl) (by decide) (fun h_ => absurd (h) h_) (fun _ => ?_)
  refine wp_bipush (v := -5) hX (dk DX0_takeBack 3 rfl) (by decide) ?_
  exact wp_ireturn hX hR (dk DX0_takeBack 4 rfl) rfl (Nat.le_refl _) (Nat.le_refl _) (⟨rfl, rfl⟩)
theorem k_takeBack (d : Nat) (sw : Bool) (f : Nat → Nat → Int32) (g : Nat → Nat → Int64) (n i w : Nat) (hn : n < 40) (h : f 68 1 = nI (n + 1)) (hi : f 69 (n * 4) = nI i) (hw : f 69 (n * 4 + 1) = nI w) (hi10 : i < 10) (hw3 : w < 3) : CT (d + 1) 0 0 iX0_takeBack [.ref 68, .ref 1] (S sw f g) (QR (some (.int (nI n))) (S sw (u2 (u2 (u2 f 68 1 (nI n)) 68 2 (f 68 2 + 1)) 3 (i * 3 + w) (f 69 (n * 4 + 2))) g)) := by
  refine CT.of rfl (Nat.le_of_ble_eq_true rfl) (fun X hX hR hN _ => ?_)
  have hX : Good X RX0 cX0_takeBack (d + 1) 0 0 := hX
  have hN : x_nl X = 3 := hN
  show WP X 0 0 0 [_, _, _] [] _
  refine wp_aload_n hX (dk DX0_takeBack 0 rfl) rfl ?_
  refine w_geti hX flX0_15 (dk DX0_takeBack 1 rfl) (by decide) rfl ?_
  refine wp_if_ne (tgt := 10) hX (dk DX0_takeBack 2 rfl) (by decide) (fun _ => ?_) (fun h_ => absurd h_ ((by rw [h]; exact nI_ne0 (by omega) (by omega))))
  refine wp_aload_n hX (dk DX0_takeBack 5 rfl) rfl ?_
  refine wp_dup hX (dk DX0_takeBack 6 rfl) rfl ?_
  refine w_geti hX flX0_15 (dk DX0_takeBack 7 rfl) (by decide) rfl ?_
  rw [h]
  refine wp_iconst (v := 1) hX (dk DX0_takeBack 8 rfl) (by decide) ?_
  refine wp_isub hX (dk DX0_takeBack 9 rfl) ?_
  rw [nI_pred]
  refine w_puti hX fpX0_15 (dk DX0_takeBack 10 rfl) rfl ?_
  refine wp_aload_n hX (dk DX0_takeBack 11 rfl) rfl ?_
  refine wp_dup hX (dk DX0_takeBack 12 rfl) rfl ?_
  refine w_geti hX flX0_25 (dk DX0_takeBack 13 rfl) (by decide) rfl ?_
  rw [show u2 f 68 1 (nI n) 68 2 = f 68 2 from u2_off _ _ _ (by decide)]
  refine wp_iconst (v := 1) hX (dk DX0_takeBack 14 rfl) (by decide) ?_
  refine wp_iadd hX (dk DX0_takeBack 15 rfl) ?_
  refine w_puti hX fpX0_25 (dk DX0_takeBack 16 rfl) rfl ?_
  refine wp_aload_n hX (dk DX0_takeBack 17 rfl) rfl ?_
  refine w_geti hX flX0_15 (dk DX0_takeBack 18 rfl) (by decide) rfl ?_
  rw [show u2 (u2 f 68 1 (nI n)) 68 2 (f 68 2 + 1) 68 1 = nI n by rw [u2_off _ _ _ (by decide), u2_at]]
  refine wp_iconst (v := 4) hX (dk DX0_takeBack 19 rfl) (by decide) ?_
  refine wp_imul hX (dk DX0_takeBack 20 rfl) ?_
  rw [ix4]
  refine wp_istore_n hX (dk DX0_takeBack 21 rfl) rfl rfl hN (Nat.le_of_ble_eq_true rfl) ?_
  show WP _ _ _ 37 [_, _, _] [] _
  refine wp_aload_n hX (dk DX0_takeBack 22 rfl) rfl ?_
  refine wp_aload_n hX (dk DX0_takeBack 23 rfl) rfl ?_
  refine w_getr hX flX0_11 (dk DX0_takeBack 24 rfl) rfl rfl ?_
  refine wp_iload_n hX (dk DX0_takeBack 25 rfl) rfl ?_
  refine w_iald (j := (n * 4)) hX (dk DX0_takeBack 26 rfl) rfl rfl (show _ < 160 by omega) ?_
  rw [show u2 (u2 f 68 1 (nI n)) 68 2 (f 68 2 + 1) 69 (n * 4) = nI i from hi]
  refine wp_aload_n hX (dk DX0_takeBack 27 rfl) rfl ?_
  refine w_getr hX flX0_11 (dk DX0_takeBack 28 rfl) rfl rfl ?_
  refine wp_iload_n hX (dk DX0_takeBack 29 rfl) rfl ?_
  refine wp_iconst (v := 1) hX (dk DX0_takeBack 30 rfl) (by decide) ?_
  refine wp_iadd hX (dk DX0_takeBack 31 rfl) ?_
  refine w_iald (j := (n * 4 + 1)) hX (dk DX0_takeBack 32 rfl) rfl (nI_add (n * 4) 1) (show _ < 160 by omega) ?_
  rw [show u2 (u2 f 68 1 (nI n)) 68 2 (f 68 2 + 1) 69 (n * 4 + 1) = nI w from hw]
  refine wp_aload_n hX (dk DX0_takeBack 33 rfl) rfl ?_
  refine w_getr hX flX0_11 (dk DX0_takeBack 34 rfl) rfl rfl ?_
  refine wp_iload_n hX (dk DX0_takeBack 35 rfl) rfl ?_
  refine wp_iconst (v := 2) hX (dk DX0_takeBack 36 rfl) (by decide) ?_
  refine wp_iadd hX (dk DX0_takeBack 37 rfl) ?_
  refine w_iald (j := (n * 4 + 2)) hX (dk DX0_takeBack 38 rfl) rfl (nI_add (n * 4) 2) (show _ < 160 by omega) ?_
  refine w_callV (As := [_, _, _]) lkX0_28 hX (dk DX0_takeBack 39 rfl) rfl rfl (by decide) hN (k_setTrait d sw _ g i w _ hi10 hw3) ?_
  show WP _ _ _ 63 [_, _, _] [] _
  refine wp_aload_n hX (dk DX0_takeBack 40 rfl) rfl ?_
  refine w_geti hX flX0_15 (dk DX0_takeBack 41 rfl) (by decide) rfl ?_
  rw [show u2 (u2 (u2 f 68 1 (nI n)) 68 2 (f 68 2 + 1)) 3 (i * 3 + w) (u2 (u2 f 68 1 (nI n)) 68 2 (f 68 2 + 1) 69 (n * 4 + 2)) 68 1 = nI n by rw [u2_ne _ _ _ (by decide), u2_off _ _ _ (by decide), u2_at]]
  exact wp_ireturn hX hR (dk DX0_takeBack 42 rfl) rfl (Nat.le_refl _) (Nat.le_refl _) (⟨rfl, rfl⟩)
theorem k_doAgain0 (d : Nat) (sw : Bool) (f : Nat → Nat → Int32) (g : Nat → Nat → Int64) (h : f 68 2 = nI 0) : CT (d + 1) 0 0 iX0_doAgain [.ref 68, .ref 1] (S sw f g) (QR (some (.int (-5))) (S sw f g)) := by
  refine CT.of rfl (Nat.le_of_ble_eq_true rfl) (fun X hX hR hN _ => ?_)
  have hX : Good X RX0 cX0_doAgain (d + 1) 0 0 := hX
  have hN : x_nl X = 3 := hN
  show WP X 0 0 0 [_, _, _] [] _
  refine wp_aload_n hX (dk DX0_doAgain 0 rfl) rfl ?_
  refine w_geti hX flX0_25 (dk DX0_doAgain 1 rfl) (by decide) rfl ?_
  refine wp_if_ne (tgt := 10) hX (dk DX0_doAgain 2 rfl) (by decide) (fun h_ => absurd (h) h_) (fun _ => ?_)
  refine wp_bipush (v := -5) hX (dk DX0_doAgain 3 rfl) (by decide) ?_
  exact wp_ireturn hX hR (dk DX0_doAgain 4 rfl) rfl (Nat.le_refl _) (Nat.le_refl _) (⟨rfl, rfl⟩)
theorem k_doAgain (d : Nat) (sw : Bool) (f : Nat → Nat → Int32) (g : Nat → Nat → Int64) (n m i w : Nat) (hn : n < 40) (hm : m < 40) (h : f 68 1 = nI n) (h2 : f 68 2 = nI (m + 1)) (hi : f 69 (n * 4) = nI i) (hw : f 69 (n * 4 + 1) = nI w) (hi10 : i < 10) (hw3 : w < 3) : CT (d + 1) 0 0 iX0_doAgain [.ref 68, .ref 1] (S sw f g) (QR (some (.int (nI m))) (S sw (u2 (u2 (u2 f 3 (i * 3 + w) (f 69 (n * 4 + 3))) 68 1 (nI (n + 1))) 68 2 (nI m)) g)) := by
  refine CT.of rfl (Nat.le_of_ble_eq_true rfl) (fun X hX hR hN _ => ?_)
  have hX : Good X RX0 cX0_doAgain (d + 1) 0 0 := hX
  have hN : x_nl X = 3 := hN
  show WP X 0 0 0 [_, _, _] [] _
  refine wp_aload_n hX (dk DX0_doAgain 0 rfl) rfl ?_
  refine w_geti hX flX0_25 (dk DX0_doAgain 1 rfl) (by decide) rfl ?_
  refine wp_if_ne (tgt := 10) hX (dk DX0_doAgain 2 rfl) (by decide) (fun _ => ?_) (fun h_ => absurd h_ ((by rw [h2]; exact nI_ne0 (by omega) (by omega))))
  refine wp_aload_n hX (dk DX0_doAgain 5 rfl) rfl ?_
  refine w_geti hX flX0_15 (dk DX0_doAgain 6 rfl) (by decide) rfl ?_
  rw [h]
  refine wp_iconst (v := 4) hX (dk DX0_doAgain 7 rfl) (by decide) ?_
  refine wp_imul hX (dk DX0_doAgain 8 rfl) ?_
  rw [ix4]
  refine wp_istore_n hX (dk DX0_doAgain 9 rfl) rfl rfl hN (Nat.le_of_ble_eq_true rfl) ?_
  show WP _ _ _ 17 [_, _, _] [] _
  refine wp_aload_n hX (dk DX0_doAgain 10 rfl) rfl ?_
  refine wp_aload_n hX (dk DX0_doAgain 11 rfl) rfl ?_
  refine w_getr hX flX0_11 (dk DX0_doAgain 12 rfl) rfl rfl ?_
  refine wp_iload_n hX (dk DX0_doAgain 13 rfl) rfl ?_
  refine w_iald (j := (n * 4)) hX (dk DX0_doAgain 14 rfl) rfl rfl (show _ < 160 by omega) ?_
  rw [hi]
  refine wp_aload_n hX (dk DX0_doAgain 15 rfl) rfl ?_
  refine w_getr hX flX0_11 (dk DX0_doAgain 16 rfl) rfl rfl ?_
  refine wp_iload_n hX (dk DX0_doAgain 17 rfl) rfl ?_
  refine wp_iconst (v := 1) hX (dk DX0_doAgain 18 rfl) (by decide) ?_
  refine wp_iadd hX (dk DX0_doAgain 19 rfl) ?_
  refine w_iald (j := (n * 4 + 1)) hX (dk DX0_doAgain 20 rfl) rfl (nI_add (n * 4) 1) (show _ < 160 by omega) ?_
  rw [hw]
  refine wp_aload_n hX (dk DX0_doAgain 21 rfl) rfl ?_
  refine w_getr hX flX0_11 (dk DX0_doAgain 22 rfl) rfl rfl ?_
  refine wp_iload_n hX (dk DX0_doAgain 23 rfl) rfl ?_
  refine wp_iconst (v := 3) hX (dk DX0_doAgain 24 rfl) (by decide) ?_
  refine wp_iadd hX (dk DX0_doAgain 25 rfl) ?_
  refine w_iald (j := (n * 4 + 3)) hX (dk DX0_doAgain 26 rfl) rfl (nI_add (n * 4) 3) (show _ < 160 by omega) ?_
  refine w_callV (As := [_, _, _]) lkX0_28 hX (dk DX0_doAgain 27 rfl) rfl rfl (by decide) hN (k_setTrait d sw _ g i w _ hi10 hw3) ?_
  show WP _ _ _ 43 [_, _, _] [] _
  refine wp_aload_n hX (dk DX0_doAgain 28 rfl) rfl ?_
  refine wp_dup hX (dk DX0_doAgain 29 rfl) rfl ?_
  refine w_geti hX flX0_15 (dk DX0_doAgain 30 rfl) (by decide) rfl ?_
  rw [show u2 f 3 (i * 3 + w) (f 69 (n * 4 + 3)) 68 1 = nI n from h]
  refine wp_iconst (v := 1) hX (dk DX0_doAgain 31 rfl) (by decide) ?_
  refine wp_iadd hX (dk DX0_doAgain 32 rfl) ?_
  rw [nI_1]
  refine w_puti hX fpX0_15 (dk DX0_doAgain 33 rfl) rfl ?_
  refine wp_aload_n hX (dk DX0_doAgain 34 rfl) rfl ?_
  refine wp_dup hX (dk DX0_doAgain 35 rfl) rfl ?_
  refine w_geti hX flX0_25 (dk DX0_doAgain 36 rfl) (by decide) rfl ?_
  rw [show u2 (u2 f 3 (i * 3 + w) (f 69 (n * 4 + 3))) 68 1 (nI (n + 1)) 68 2 = nI (m + 1) from (u2_off _ _ _ (by decide)).trans h2]
  refine wp_iconst (v := 1) hX (dk DX0_doAgain 37 rfl) (by decide) ?_
  refine wp_isub hX (dk DX0_doAgain 38 rfl) ?_
  rw [nI_pred]
  refine w_puti hX fpX0_25 (dk DX0_doAgain 39 rfl) rfl ?_
  refine wp_aload_n hX (dk DX0_doAgain 40 rfl) rfl ?_
  refine w_geti hX flX0_25 (dk DX0_doAgain 41 rfl) (by decide) rfl ?_
  rw [u2_at]
  exact wp_ireturn hX hR (dk DX0_doAgain 42 rfl) rfl (Nat.le_refl _) (Nat.le_refl _) (⟨rfl, rfl⟩)
theorem k_shas (d : Nat) (sw : Bool) (f : Nat → Nat → Int32) (g : Nat → Nat → Int64) (x : Int32) : CT d 0 0 iX4_has [.ref 73, .int x] (S sw f g) (QR (some (.int (jin x 6))) (S sw f g)) := by
  refine CT.of rfl (Nat.le_of_ble_eq_true rfl) (fun X hX hR hN _ => ?_)
  have hX : Good X RX4 cX4_has d 0 0 := hX
  have hN : x_nl X = 2 := hN
  show WP X 0 0 0 [_, _] [] _
  refine wp_iload_n hX (dk DX4_has 0 rfl) rfl ?_
  refine wp_if_lt (tgt := 14) hX (dk DX4_has 1 rfl) (by decide) (fun h => ?_) (fun h => ?_)
  · refine wp_iconst (v := 0) hX (dk DX4_has 7 rfl) (by decide) ?_
    exact wp_ireturn hX hR (dk DX4_has 8 rfl) rfl (Nat.le_refl _) (Nat.le_refl _) (⟨by rw [jin, if_neg (fun q => q.1 h)], rfl⟩)
  · refine wp_iload_n hX (dk DX4_has 2 rfl) rfl ?_
    refine wp_bipush (v := 6) hX (dk DX4_has 3 rfl) (by decide) ?_
    refine wp_icmp_ge (tgt := 14) hX (dk DX4_has 4 rfl) (by decide) (fun h2 => ?_) (fun h2 => ?_)
    · refine wp_iconst (v := 0) hX (dk DX4_has 7 rfl) (by decide) ?_
      exact wp_ireturn hX hR (dk DX4_has 8 rfl) rfl (Nat.le_refl _) (Nat.le_refl _) (⟨by rw [jin, if_neg (fun q => Int32.not_lt.mpr h2 q.2)], rfl⟩)
    · refine wp_iconst (v := 1) hX (dk DX4_has 5 rfl) (by decide) ?_
      refine wp_goto (tgt := 15) hX (dk DX4_has 6 rfl) (by decide) ?_
      -- to 15
      exact wp_ireturn hX hR (dk DX4_has 8 rfl) rfl (Nat.le_refl _) (Nat.le_refl _) (⟨by rw [jin, if_pos ⟨h, Int32.not_le.mp h2⟩], rfl⟩)
theorem k_sortOf (d : Nat) (sw : Bool) (f : Nat → Nat → Int32) (g : Nat → Nat → Int64) (b : Nat) (hb : b < 6) : CT d 0 0 iX4_sortOf [.ref 73, .int (nI b)] (S sw f g) (QR (some (.int (f 74 b))) (S sw f g)) := by
  refine CT.of rfl (Nat.le_of_ble_eq_true rfl) (fun X hX hR hN _ => ?_)
  have hX : Good X RX4 cX4_sortOf d 0 0 := hX
  have hN : x_nl X = 2 := hN
  show WP X 0 0 0 [_, _] [] _
  refine wp_aload_n hX (dk DX4_sortOf 0 rfl) rfl ?_
  refine w_getr hX flX4_9 (dk DX4_sortOf 1 rfl) rfl rfl ?_
  refine wp_iload_n hX (dk DX4_sortOf 2 rfl) rfl ?_
  refine w_iald (j := _) hX (dk DX4_sortOf 3 rfl) rfl rfl (show _ < 6 by omega) ?_
  exact wp_ireturn hX hR (dk DX4_sortOf 4 rfl) rfl (Nat.le_refl _) (Nat.le_refl _) (⟨rfl, rfl⟩)
theorem k_isRow (d : Nat) (sw : Bool) (f : Nat → Nat → Int32) (g : Nat → Nat → Int64) (b : Nat) (hb : b < 6) : CT d 0 0 iX4_isRow [.ref 73, .int (nI b)] (S sw f g) (QR (some (.int (jin (f 74 b) 5))) (S sw f g)) := by
  refine CT.of rfl (Nat.le_of_ble_eq_true rfl) (fun X hX hR hN _ => ?_)
  have hX : Good X RX4 cX4_isRow d 0 0 := hX
  have hN : x_nl X = 2 := hN
  show WP X 0 0 0 [_, _] [] _
  refine wp_aload_n hX (dk DX4_isRow 0 rfl) rfl ?_
  refine w_getr hX flX4_9 (dk DX4_isRow 1 rfl) rfl rfl ?_
  refine wp_iload_n hX (dk DX4_isRow 2 rfl) rfl ?_
  refine w_iald (j := _) hX (dk DX4_isRow 3 rfl) rfl rfl (show _ < 6 by omega) ?_
  refine wp_if_lt (tgt := 23) hX (dk DX4_isRow 4 rfl) (by decide) (fun h => ?_) (fun h => ?_)
  · refine wp_iconst (v := 0) hX (dk DX4_isRow 13 rfl) (by decide) ?_
    exact wp_ireturn hX hR (dk DX4_isRow 14 rfl) rfl (Nat.le_refl _) (Nat.le_refl _) (⟨by rw [jin, if_neg (fun q => q.1 h)], rfl⟩)
  · refine wp_aload_n hX (dk DX4_isRow 5 rfl) rfl ?_
    refine w_getr hX flX4_9 (dk DX4_isRow 6 rfl) rfl rfl ?_
    refine wp_iload_n hX (dk DX4_isRow 7 rfl) rfl ?_
    refine w_iald (j := _) hX (dk DX4_isRow 8 rfl) rfl rfl (show _ < 6 by omega) ?_
    refine wp_iconst (v := 5) hX (dk DX4_isRow 9 rfl) (by decide) ?_
    refine wp_icmp_ge (tgt := 23) hX (dk DX4_isRow 10 rfl) (by decide) (fun h2 => ?_) (fun h2 => ?_)
    · refine wp_iconst (v := 0) hX (dk DX4_isRow 13 rfl) (by decide) ?_
      exact wp_ireturn hX hR (dk DX4_isRow 14 rfl) rfl (Nat.le_refl _) (Nat.le_refl _) (⟨by rw [jin, if_neg (fun q => Int32.not_lt.mpr h2 q.2)], rfl⟩)
    · refine wp_iconst (v := 1) hX (dk DX4_isRow 11 rfl) (by decide) ?_
      refine wp_goto (tgt := 24) hX (dk DX4_isRow 12 rfl) (by decide) ?_
      -- to 24
      exact wp_ireturn hX hR (dk DX4_isRow 14 rfl) rfl (Nat.le_refl _) (Nat.le_refl _) (⟨by rw [jin, if_pos ⟨h, Int32.not_le.mp h2⟩], rfl⟩)
theorem k_sizeOf (d : Nat) (sw : Bool) (f : Nat → Nat → Int32) (g : Nat → Nat → Int64) (b : Nat) (hb : b < 6) : CT d 0 0 iX4_sizeOf [.ref 73, .int (nI b)] (S sw f g) (QR (some (.int (f 75 b))) (S sw f g)) := by
  refine CT.of rfl (Nat.le_of_ble_eq_true rfl) (fun X hX hR hN _ => ?_)
  have hX : Good X RX4 cX4_sizeOf d 0 0 := hX
  have hN : x_nl X = 2 := hN
  show WP X 0 0 0 [_, _] [] _
  refine wp_aload_n hX (dk DX4_sizeOf 0 rfl) rfl ?_
  refine w_getr hX flX4_13 (dk DX4_sizeOf 1 rfl) rfl rfl ?_
  refine wp_iload_n hX (dk DX4_sizeOf 2 rfl) rfl ?_
  refine w_iald (j := _) hX (dk DX4_sizeOf 3 rfl) rfl rfl (show _ < 6 by omega) ?_
  exact wp_ireturn hX hR (dk DX4_sizeOf 4 rfl) rfl (Nat.le_refl _) (Nat.le_refl _) (⟨rfl, rfl⟩)
theorem k_set (d : Nat) (sw : Bool) (f : Nat → Nat → Int32) (g : Nat → Nat → Int64) (b : Nat) (x y : Int32) (hb : b < 6) : CT d 0 0 iX4_set [.ref 73, .int (nI b), .int x, .int y] (S sw f g) (QR none (S sw (u2 (u2 f 74 b x) 75 b y) g)) := by
  refine CT.of rfl (Nat.le_of_ble_eq_true rfl) (fun X hX hR hN _ => ?_)
  have hX : Good X RX4 cX4_set d 0 0 := hX
  have hN : x_nl X = 4 := hN
  show WP X 0 0 0 [_, _, _, _] [] _
  refine wp_aload_n hX (dk DX4_set 0 rfl) rfl ?_
  refine w_getr hX flX4_9 (dk DX4_set 1 rfl) rfl rfl ?_
  refine wp_iload_n hX (dk DX4_set 2 rfl) rfl ?_
  refine wp_iload_n hX (dk DX4_set 3 rfl) rfl ?_
  refine w_iast (j := _) hX (dk DX4_set 4 rfl) rfl rfl (show _ < 6 by omega) ?_
  refine wp_aload_n hX (dk DX4_set 5 rfl) rfl ?_
  refine w_getr hX flX4_13 (dk DX4_set 6 rfl) rfl rfl ?_
  refine wp_iload_n hX (dk DX4_set 7 rfl) rfl ?_
  refine wp_iload_n hX (dk DX4_set 8 rfl) rfl ?_
  refine w_iast (j := _) hX (dk DX4_set 9 rfl) rfl rfl (show _ < 6 by omega) ?_
  exact wp_return hX hR (dk DX4_set 10 rfl) (Nat.le_refl _) (Nat.le_refl _) (⟨rfl, rfl⟩)
theorem ix60 (a b : Nat) : nI a * 60 + nI b = nI (a * 60 + b) := by rw [show (60 : Int32) = nI 60 from rfl, pk_mul, nI_add]
/-- the first k elements of a shelf's stretch become 0 -/
def jemp (r : Nat → Int64) (b k : Nat) : Nat → Int64 := fun j => if b * 60 ≤ j ∧ j < b * 60 + k then 0 else r j
theorem k_empty (d : Nat) (sw : Bool) (f : Nat → Nat → Int32) (g : Nat → Nat → Int64) (b : Nat) (hb : b < 6) : CT d 0 0 iX4_empty [.ref 73, .int (nI b)] (S sw f g) (QR none (S sw f (u1 g 76 (jemp (g 76) b 60)))) := by
  refine CT.of rfl (Nat.le_of_ble_eq_true rfl) (fun X hX hR hN _ => ?_)
  have hX : Good X RX4 cX4_empty d 0 0 := hX
  have hN : x_nl X = 3 := hN
  show WP X 0 0 0 [_, _, _] [] _
  refine wp_iconst (v := 0) hX (dk DX4_empty 0 rfl) (by decide) ?_
  refine wp_istore_n hX (dk DX4_empty 1 rfl) rfl rfl hN (Nat.le_of_ble_eq_true rfl) ?_
  show WP _ _ _ 2 [_, _, _] [] _
  have lo : ∀ (m i : Nat), i + m = 60 → WP X 0 0 2 [some (.ref 73), some (.int (nI b)), some (.int (nI i))] [] (S sw f (u1 g 76 (jemp (g 76) b i))) := by
    intro m
    induction m with
    | zero =>
      intro i hi
      obtain rfl : i = 60 := by omega
      refine wp_iload_n hX (dk DX4_empty 2 rfl) rfl ?_
      refine wp_bipush (v := 60) hX (dk DX4_empty 3 rfl) (by decide) ?_
      refine wp_icmp_ge (tgt := 26) hX (dk DX4_empty 4 rfl) (by decide) (fun _ => ?_) (fun h_ => absurd ((by decide)) h_)
      exact wp_return hX hR (dk DX4_empty 16 rfl) (Nat.le_refl _) (Nat.le_refl _) (⟨rfl, rfl⟩)
    | succ m ih =>
      intro i hi
      refine wp_iload_n hX (dk DX4_empty 2 rfl) rfl ?_
      refine wp_bipush (v := 60) hX (dk DX4_empty 3 rfl) (by decide) ?_
      refine wp_icmp_ge (tgt := 26) hX (dk DX4_empty 4 rfl) (by decide) (fun h_ => absurd h_ ((nI_ge (b := 60) (by omega) (by omega)))) (fun _ => ?_)
      refine wp_aload_n hX (dk DX4_empty 5 rfl) rfl ?_
      refine w_getr hX flX4_16 (dk DX4_empty 6 rfl) rfl rfl ?_
      refine wp_iload_n hX (dk DX4_empty 7 rfl) rfl ?_
      refine wp_bipush (v := 60) hX (dk DX4_empty 8 rfl) (by decide) ?_
      refine wp_imul hX (dk DX4_empty 9 rfl) ?_
      refine wp_iload_n hX (dk DX4_empty 10 rfl) rfl ?_
      refine wp_iadd hX (dk DX4_empty 11 rfl) ?_
      refine wp_lconst (v := 0) hX (dk DX4_empty 12 rfl) (by decide) ?_
      refine w_last (j := (b * 60 + i)) hX (dk DX4_empty 13 rfl) rfl (ix60 b i) (show _ < 360 by omega) ?_
      refine wp_iinc hX (dk DX4_empty 14 rfl) rfl (nI_inc _) rfl hN ?_
      show WP _ _ _ 23 [_, _, _] [] _
      refine wp_goto (tgt := 2) hX (dk DX4_empty 15 rfl) (by decide) ?_
      -- to 2
      have e : u2 (u1 g 76 (jemp (g 76) b i)) 76 (b * 60 + i) 0 = u1 g 76 (jemp (g 76) b (i + 1)) := by
        funext c j
        unfold u2 u1 jemp
        by_cases hc : c = 76
        · subst hc
          simp only [if_true]
          by_cases hj : j = b * 60 + i
          · rw [if_pos hj, if_pos (by omega)]
          · rw [if_neg hj]
            by_cases h3 : b * 60 ≤ j ∧ j < b * 60 + i
            · rw [if_pos h3, if_pos (by omega)]
            · rw [if_neg h3, if_neg (by omega)]
        · simp only [if_neg hc]
      have := ih (i + 1) (by omega)
      rw [← e] at this
      exact this
  have e0 : u1 g 76 (jemp (g 76) b 0) = g := by
    funext c
    unfold u1 jemp
    by_cases hc : c = 76
    · subst hc
      rw [if_pos rfl]
      funext j
      rw [if_neg (by omega)]
    · rw [if_neg hc]
  have := lo 60 0 rfl
  rw [e0] at this
  exact this
/-- a stretch of n from i on lies in a row of sz -/
def jstr (sz i n : Int32) : Int32 := if ¬ i < 0 ∧ ¬ n < 0 ∧ ¬ sz < n ∧ ¬ sz - n < i then 1 else 0
theorem k_hasStretch (d : Nat) (sw : Bool) (f : Nat → Nat → Int32) (g : Nat → Nat → Int64) (b : Nat) (i n : Int32) (hb : b < 6) : CT d 0 0 iX4_hasStretch [.ref 73, .int (nI b), .int i, .int n] (S sw f g) (QR (some (.int (jstr (f 75 b) i n))) (S sw f g)) := by
  refine CT.of rfl (Nat.le_of_ble_eq_true rfl) (fun X hX hR hN _ => ?_)
  have hX : Good X RX4 cX4_hasStretch d 0 0 := hX
  have hN : x_nl X = 4 := hN
  show WP X 0 0 0 [_, _, _, _] [] _
  refine wp_iload_n hX (dk DX4_hasStretch 0 rfl) rfl ?_
  refine wp_if_lt (tgt := 34) hX (dk DX4_hasStretch 1 rfl) (by decide) (fun h1 => ?_) (fun h1 => ?_)
  · refine wp_iconst (v := 0) hX (dk DX4_hasStretch 20 rfl) (by decide) ?_
    exact wp_ireturn hX hR (dk DX4_hasStretch 21 rfl) rfl (Nat.le_refl _) (Nat.le_refl _) (⟨by rw [jstr, if_neg (fun q => q.1 h1)], rfl⟩)
  · refine wp_iload_n hX (dk DX4_hasStretch 2 rfl) rfl ?_
    refine wp_if_lt (tgt := 34) hX (dk DX4_hasStretch 3 rfl) (by decide) (fun h2 => ?_) (fun h2 => ?_)
    · refine wp_iconst (v := 0) hX (dk DX4_hasStretch 20 rfl) (by decide) ?_
      exact wp_ireturn hX hR (dk DX4_hasStretch 21 rfl) rfl (Nat.le_refl _) (Nat.le_refl _) (⟨by rw [jstr, if_neg (fun q => q.2.1 h2)], rfl⟩)
    · refine wp_iload_n hX (dk DX4_hasStretch 4 rfl) rfl ?_
      refine wp_aload_n hX (dk DX4_hasStretch 5 rfl) rfl ?_
      refine w_getr hX flX4_13 (dk DX4_hasStretch 6 rfl) rfl rfl ?_
      refine wp_iload_n hX (dk DX4_hasStretch 7 rfl) rfl ?_
      refine w_iald (j := _) hX (dk DX4_hasStretch 8 rfl) rfl rfl (show _ < 6 by omega) ?_
      refine wp_icmp_gt (tgt := 34) hX (dk DX4_hasStretch 9 rfl) (by decide) (fun h3 => ?_) (fun h3 => ?_)
      · refine wp_iconst (v := 0) hX (dk DX4_hasStretch 20 rfl) (by decide) ?_
        exact wp_ireturn hX hR (dk DX4_hasStretch 21 rfl) rfl (Nat.le_refl _) (Nat.le_refl _) (⟨by rw [jstr, if_neg (fun q => q.2.2.1 h3)], rfl⟩)
      · refine wp_iload_n hX (dk DX4_hasStretch 10 rfl) rfl ?_
        refine wp_aload_n hX (dk DX4_hasStretch 11 rfl) rfl ?_
        refine w_getr hX flX4_13 (dk DX4_hasStretch 12 rfl) rfl rfl ?_
        refine wp_iload_n hX (dk DX4_hasStretch 13 rfl) rfl ?_
        refine w_iald (j := _) hX (dk DX4_hasStretch 14 rfl) rfl rfl (show _ < 6 by omega) ?_
        refine wp_iload_n hX (dk DX4_hasStretch 15 rfl) rfl ?_
        refine wp_isub hX (dk DX4_hasStretch 16 rfl) ?_
        refine wp_icmp_gt (tgt := 34) hX (dk DX4_hasStretch 17 rfl) (by decide) (fun h4 => ?_) (fun h4 => ?_)
        · refine wp_iconst (v := 0) hX (dk DX4_hasStretch 20 rfl) (by decide) ?_
          exact wp_ireturn hX hR (dk DX4_hasStretch 21 rfl) rfl (Nat.le_refl _) (Nat.le_refl _) (⟨by rw [jstr, if_neg (fun q => q.2.2.2 h4)], rfl⟩)
        · refine wp_iconst (v := 1) hX (dk DX4_hasStretch 18 rfl) (by decide) ?_
          refine wp_goto (tgt := 35) hX (dk DX4_hasStretch 19 rfl) (by decide) ?_
          -- to 35
          exact wp_ireturn hX hR (dk DX4_hasStretch 21 rfl) rfl (Nat.le_refl _) (Nat.le_refl _) (⟨by rw [jstr, if_pos ⟨h1, h2, h3, h4⟩], rfl⟩)
theorem k_at (d : Nat) (sw : Bool) (f : Nat → Nat → Int32) (g : Nat → Nat → Int64) (b i : Nat) (hb : b < 6) (hi : i < 60) : CT d 0 0 iX4_at [.ref 73, .int (nI b), .int (nI i)] (S sw f g) (QR (some (.long (g 76 (b * 60 + i)))) (S sw f g)) := by
  refine CT.of rfl (Nat.le_of_ble_eq_true rfl) (fun X hX hR hN _ => ?_)
  have hX : Good X RX4 cX4_at d 0 0 := hX
  have hN : x_nl X = 3 := hN
  show WP X 0 0 0 [_, _, _] [] _
  refine wp_aload_n hX (dk DX4_at 0 rfl) rfl ?_
  refine w_getr hX flX4_16 (dk DX4_at 1 rfl) rfl rfl ?_
  refine wp_iload_n hX (dk DX4_at 2 rfl) rfl ?_
  refine wp_bipush (v := 60) hX (dk DX4_at 3 rfl) (by decide) ?_
  refine wp_imul hX (dk DX4_at 4 rfl) ?_
  refine wp_iload_n hX (dk DX4_at 5 rfl) rfl ?_
  refine wp_iadd hX (dk DX4_at 6 rfl) ?_
  refine w_lald (j := (b * 60 + i)) hX (dk DX4_at 7 rfl) rfl (ix60 b i) (show _ < 360 by omega) ?_
  exact wp_lreturn hX hR (dk DX4_at 8 rfl) (Nat.le_refl _) (Nat.le_refl _) (⟨rfl, rfl⟩)
/-- what is put in keeps its lowest bits -/
def jnar (k : Nat) (v : Int64) : Int64 := match k with
  | 0 => v.toInt32.toInt8.toInt32.toInt64
  | 1 => v.toInt32.toInt16.toInt32.toInt64
  | 2 => v.toInt32.toInt64
  | 4 => if v = 0 then 0 else 1
  | _ => v
theorem k_narrowed (d : Nat) (sw : Bool) (f : Nat → Nat → Int32) (g : Nat → Nat → Int64) (k : Nat) (v : Int64) (hk : k < 5) : CT d 0 0 iX4_narrowed [.int (nI k), .long v] (S sw f g) (QR (some (.long (jnar k v))) (S sw f g)) := by
  refine CT.of rfl (Nat.le_of_ble_eq_true rfl) (fun X hX hR hN _ => ?_)
  have hX : Good X RX4 cX4_narrowed d 0 0 := hX
  have hN : x_nl X = 3 := hN
  show WP X 0 0 0 [_, _, _] [] _
  refine wp_iload_n hX (dk DX4_narrowed 0 rfl) rfl ?_
  rcases (show k = 0 ∨ k = 1 ∨ k = 2 ∨ k = 3 ∨ k = 4 by omega) with rfl | rfl | rfl | rfl | rfl
  · refine wp_tabIn (off := 35) (tgt := 36) hX (dk DX4_narrowed 1 rfl) (by decide) (by decide) (by decide) (by decide) ?_
    refine wp_lload_n hX (dk DX4_narrowed 2 rfl) rfl ?_
    refine wp_l2i hX (dk DX4_narrowed 3 rfl) ?_
    refine wp_i2b hX (dk DX4_narrowed 4 rfl) ?_
    refine wp_i2l hX (dk DX4_narrowed 5 rfl) ?_
    exact wp_lreturn hX hR (dk DX4_narrowed 6 rfl) (Nat.le_refl _) (Nat.le_refl _) (⟨rfl, rfl⟩)
  · refine wp_tabIn (off := 40) (tgt := 41) hX (dk DX4_narrowed 1 rfl) (by decide) (by decide) (by decide) (by decide) ?_
    refine wp_lload_n hX (dk DX4_narrowed 7 rfl) rfl ?_
    refine wp_l2i hX (dk DX4_narrowed 8 rfl) ?_
    refine wp_i2s hX (dk DX4_narrowed 9 rfl) ?_
    refine wp_i2l hX (dk DX4_narrowed 10 rfl) ?_
    exact wp_lreturn hX hR (dk DX4_narrowed 11 rfl) (Nat.le_refl _) (Nat.le_refl _) (⟨rfl, rfl⟩)
  · refine wp_tabIn (off := 45) (tgt := 46) hX (dk DX4_narrowed 1 rfl) (by decide) (by decide) (by decide) (by decide) ?_
    refine wp_lload_n hX (dk DX4_narrowed 12 rfl) rfl ?_
    refine wp_l2i hX (dk DX4_narrowed 13 rfl) ?_
    refine wp_i2l hX (dk DX4_narrowed 14 rfl) ?_
    exact wp_lreturn hX hR (dk DX4_narrowed 15 rfl) (Nat.le_refl _) (Nat.le_refl _) (⟨rfl, rfl⟩)
  · refine wp_tabIn (off := 61) (tgt := 62) hX (dk DX4_narrowed 1 rfl) (by decide) (by decide) (by decide) (by decide) ?_
    refine wp_lload_n hX (dk DX4_narrowed 24 rfl) rfl ?_
    exact wp_lreturn hX hR (dk DX4_narrowed 25 rfl) (Nat.le_refl _) (Nat.le_refl _) (⟨rfl, rfl⟩)
  · refine wp_tabIn (off := 49) (tgt := 50) hX (dk DX4_narrowed 1 rfl) (by decide) (by decide) (by decide) (by decide) ?_
    refine wp_lload_n hX (dk DX4_narrowed 16 rfl) rfl ?_
    refine wp_lconst (v := 0) hX (dk DX4_narrowed 17 rfl) (by decide) ?_
    refine wp_lcmp hX (dk DX4_narrowed 18 rfl) ?_
    refine wp_if_eq (tgt := 60) hX (dk DX4_narrowed 19 rfl) (by decide) (fun h => ?_) (fun h => ?_)
    · refine wp_lconst (v := 0) hX (dk DX4_narrowed 22 rfl) (by decide) ?_
      exact wp_lreturn hX hR (dk DX4_narrowed 23 rfl) (Nat.le_refl _) (Nat.le_refl _) (⟨by rw [show jnar 4 v = if v = 0 then 0 else 1 from rfl, if_pos ((lg_cmp_eq v 0).mp h)], rfl⟩)
    · refine wp_lconst (v := 1) hX (dk DX4_narrowed 20 rfl) (by decide) ?_
      refine wp_goto (tgt := 61) hX (dk DX4_narrowed 21 rfl) (by decide) ?_
      -- to 61
      exact wp_lreturn hX hR (dk DX4_narrowed 23 rfl) (Nat.le_refl _) (Nat.le_refl _) (⟨by rw [show jnar 4 v = if v = 0 then 0 else 1 from rfl, if_neg (fun q => h ((lg_cmp_eq v 0).mpr q))], rfl⟩)
theorem k_write (d : Nat) (sw : Bool) (f : Nat → Nat → Int32) (g : Nat → Nat → Int64) (b i k : Nat) (v : Int64) (hb : b < 6) (hi : i < 60) (hk : f 74 b = nI k) (hk5 : k < 5) : CT (d + 1) 0 0 iX4_write [.ref 73, .int (nI b), .int (nI i), .long v] (S sw f g) (QR none (S sw f (u2 g 76 (b * 60 + i) (jnar k v)))) := by
  refine CT.of rfl (Nat.le_of_ble_eq_true rfl) (fun X hX hR hN _ => ?_)
  have hX : Good X RX4 cX4_write (d + 1) 0 0 := hX
  have hN : x_nl X = 5 := hN
  show WP X 0 0 0 [_, _, _, _, _] [] _
  refine wp_aload_n hX (dk DX4_write 0 rfl) rfl ?_
  refine w_getr hX flX4_16 (dk DX4_write 1 rfl) rfl rfl ?_
  refine wp_iload_n hX (dk DX4_write 2 rfl) rfl ?_
  refine wp_bipush (v := 60) hX (dk DX4_write 3 rfl) (by decide) ?_
  refine wp_imul hX (dk DX4_write 4 rfl) ?_
  refine wp_iload_n hX (dk DX4_write 5 rfl) rfl ?_
  refine wp_iadd hX (dk DX4_write 6 rfl) ?_
  refine wp_aload_n hX (dk DX4_write 7 rfl) rfl ?_
  refine w_getr hX flX4_9 (dk DX4_write 8 rfl) rfl rfl ?_
  refine wp_iload_n hX (dk DX4_write 9 rfl) rfl ?_
  refine w_iald (j := _) hX (dk DX4_write 10 rfl) rfl rfl (show _ < 6 by omega) ?_
  rw [hk]
  refine wp_lload_n hX (dk DX4_write 11 rfl) rfl ?_
  refine w_callS (As := [_, _]) lkX4_20 hX (dk DX4_write 12 rfl) rfl (by simp [Value.category]) (k_narrowed d sw f g k v hk5) ?_
  show WP _ _ _ 20 [_, _, _, _, _] [_, _, _] _
  refine w_last (j := (b * 60 + i)) hX (dk DX4_write 13 rfl) rfl (ix60 b i) (show _ < 360 by omega) ?_
  exact wp_return hX hR (dk DX4_write 14 rfl) (Nat.le_refl _) (Nat.le_refl _) (⟨rfl, rfl⟩)
theorem k_copy (d : Nat) (sw : Bool) (f : Nat → Nat → Int32) (g : Nat → Nat → Int64) (b i c j n : Nat) (hb : b < 6) (hc : c < 6) (hi : i + n ≤ 60) (hj : j + n ≤ 60) : CT (d + 1) 0 0 iX4_copy [.ref 73, .int (nI b), .int (nI i), .int (nI c), .int (nI j), .int (nI n)] (S sw f g) (QR none (S sw f (u1 g 76 (va_cpy (g 76) (g 76) (b * 60 + i) (c * 60 + j) n)))) := by
  refine CT.of rfl (Nat.le_of_ble_eq_true rfl) (fun X hX hR hN _ => ?_)
  have hX : Good X RX4 cX4_copy (d + 1) 0 0 := hX
  have hN : x_nl X = 6 := hN
  show WP X 0 0 0 [_, _, _, _, _, _] [] _
  refine wp_aload_n hX (dk DX4_copy 0 rfl) rfl ?_
  refine w_getr hX flX4_16 (dk DX4_copy 1 rfl) rfl rfl ?_
  refine wp_iload_n hX (dk DX4_copy 2 rfl) rfl ?_
  refine wp_bipush (v := 60) hX (dk DX4_copy 3 rfl) (by decide) ?_
  refine wp_imul hX (dk DX4_copy 4 rfl) ?_
  refine wp_iload_n hX (dk DX4_copy 5 rfl) rfl ?_
  refine wp_iadd hX (dk DX4_copy 6 rfl) ?_
  refine wp_aload_n hX (dk DX4_copy 7 rfl) rfl ?_
  refine w_getr hX flX4_16 (dk DX4_copy 8 rfl) rfl rfl ?_
  refine wp_iload_n hX (dk DX4_copy 9 rfl) rfl ?_
  refine wp_bipush (v := 60) hX (dk DX4_copy 10 rfl) (by decide) ?_
  refine wp_imul hX (dk DX4_copy 11 rfl) ?_
  refine wp_iload hX (dk DX4_copy 12 rfl) rfl ?_
  refine wp_iadd hX (dk DX4_copy 13 rfl) ?_
  refine wp_iload hX (dk DX4_copy 14 rfl) rfl ?_
  refine w_copyj (sp := (b * 60 + i)) (dp := (c * 60 + j)) (n := n) hX lkX4_24 (dk DX4_copy 15 rfl) (by decide) rfl rfl (ix60 b i) (ix60 c j) rfl (show _ ≤ 360 by omega) (show _ ≤ 360 by omega) ?_
  exact wp_return hX hR (dk DX4_copy 16 rfl) (Nat.le_refl _) (Nat.le_refl _) (⟨rfl, rfl⟩)
end
section
/-! STONES -/
theorem k_kept (d : Nat) (sw : Bool) (f : Nat → Nat → Int32) (g : Nat → Nat → Int64) : CT d 0 0 iX6_kept [.ref 70] (S sw f g) (QR (some (.int (f 70 2))) (S sw f g)) := by
  refine CT.of rfl (Nat.le_of_ble_eq_true rfl) (fun X hX hR hN _ => ?_)
  have hX : Good X RX6 cX6_kept d 0 0 := hX
  have hN : x_nl X = 1 := hN
  show WP X 0 0 0 [_] [] _
  refine wp_aload_n hX (dk DX6_kept 0 rfl) rfl ?_
  refine w_geti hX flX6_18 (dk DX6_kept 1 rfl) (by decide) rfl ?_
  exact wp_ireturn hX hR (dk DX6_kept 2 rfl) rfl (Nat.le_refl _) (Nat.le_refl _) (⟨rfl, rfl⟩)
theorem k_ran (d : Nat) (sw : Bool) (f : Nat → Nat → Int32) (g : Nat → Nat → Int64) : CT d 0 0 iX6_ran [.ref 70] (S sw f g) (QR (some (.int (f 70 3))) (S sw f g)) := by
  refine CT.of rfl (Nat.le_of_ble_eq_true rfl) (fun X hX hR hN _ => ?_)
  have hX : Good X RX6 cX6_ran d 0 0 := hX
  have hN : x_nl X = 1 := hN
  show WP X 0 0 0 [_] [] _
  refine wp_aload_n hX (dk DX6_ran 0 rfl) rfl ?_
  refine w_geti hX flX6_22 (dk DX6_ran 1 rfl) (by decide) rfl ?_
  exact wp_ireturn hX hR (dk DX6_ran 2 rfl) rfl (Nat.le_refl _) (Nat.le_refl _) (⟨rfl, rfl⟩)
theorem k_sthas (d : Nat) (sw : Bool) (f : Nat → Nat → Int32) (g : Nat → Nat → Int64) (x : Int32) : CT d 0 0 iX6_has [.ref 70, .int x] (S sw f g) (QR (some (.int (jin x (f 70 2)))) (S sw f g)) := by
  refine CT.of rfl (Nat.le_of_ble_eq_true rfl) (fun X hX hR hN _ => ?_)
  have hX : Good X RX6 cX6_has d 0 0 := hX
  have hN : x_nl X = 2 := hN
  show WP X 0 0 0 [_, _] [] _
  refine wp_iload_n hX (dk DX6_has 0 rfl) rfl ?_
  refine wp_if_lt (tgt := 16) hX (dk DX6_has 1 rfl) (by decide) (fun h => ?_) (fun h => ?_)
  · refine wp_iconst (v := 0) hX (dk DX6_has 8 rfl) (by decide) ?_
    exact wp_ireturn hX hR (dk DX6_has 9 rfl) rfl (Nat.le_refl _) (Nat.le_refl _) (⟨by rw [jin, if_neg (fun q => q.1 h)], rfl⟩)
  · refine wp_iload_n hX (dk DX6_has 2 rfl) rfl ?_
    refine wp_aload_n hX (dk DX6_has 3 rfl) rfl ?_
    refine w_geti hX flX6_18 (dk DX6_has 4 rfl) (by decide) rfl ?_
    refine wp_icmp_ge (tgt := 16) hX (dk DX6_has 5 rfl) (by decide) (fun h2 => ?_) (fun h2 => ?_)
    · refine wp_iconst (v := 0) hX (dk DX6_has 8 rfl) (by decide) ?_
      exact wp_ireturn hX hR (dk DX6_has 9 rfl) rfl (Nat.le_refl _) (Nat.le_refl _) (⟨by rw [jin, if_neg (fun q => Int32.not_lt.mpr h2 q.2)], rfl⟩)
    · refine wp_iconst (v := 1) hX (dk DX6_has 6 rfl) (by decide) ?_
      refine wp_goto (tgt := 17) hX (dk DX6_has 7 rfl) (by decide) ?_
      -- to 17
      exact wp_ireturn hX hR (dk DX6_has 9 rfl) rfl (Nat.le_refl _) (Nat.le_refl _) (⟨by rw [jin, if_pos ⟨h, Int32.not_le.mp h2⟩], rfl⟩)
theorem k_kindOf (d : Nat) (sw : Bool) (f : Nat → Nat → Int32) (g : Nat → Nat → Int64) (b : Nat) (hb : b < 50) : CT d 0 0 iX6_kindOf [.ref 70, .int (nI b)] (S sw f g) (QR (some (.int (f 71 b))) (S sw f g)) := by
  refine CT.of rfl (Nat.le_of_ble_eq_true rfl) (fun X hX hR hN _ => ?_)
  have hX : Good X RX6 cX6_kindOf d 0 0 := hX
  have hN : x_nl X = 2 := hN
  show WP X 0 0 0 [_, _] [] _
  refine wp_aload_n hX (dk DX6_kindOf 0 rfl) rfl ?_
  refine w_getr hX flX6_11 (dk DX6_kindOf 1 rfl) rfl rfl ?_
  refine wp_iload_n hX (dk DX6_kindOf 2 rfl) rfl ?_
  refine w_iald (j := _) hX (dk DX6_kindOf 3 rfl) rfl rfl (show _ < 50 by omega) ?_
  exact wp_ireturn hX hR (dk DX6_kindOf 4 rfl) rfl (Nat.le_refl _) (Nat.le_refl _) (⟨rfl, rfl⟩)
theorem k_stadd_full (d : Nat) (sw : Bool) (f : Nat → Nat → Int32) (g : Nat → Nat → Int64) (x : Int32) (h : f 70 2 = nI 50) : CT d 0 0 iX6_add [.ref 70, .int x] (S sw f g) (QR (some (.int (-3))) (S sw f g)) := by
  refine CT.of rfl (Nat.le_of_ble_eq_true rfl) (fun X hX hR hN _ => ?_)
  have hX : Good X RX6 cX6_add d 0 0 := hX
  have hN : x_nl X = 2 := hN
  show WP X 0 0 0 [_, _] [] _
  refine wp_aload_n hX (dk DX6_add 0 rfl) rfl ?_
  refine w_geti hX flX6_18 (dk DX6_add 1 rfl) (by decide) rfl ?_
  refine wp_bipush (v := 50) hX (dk DX6_add 2 rfl) (by decide) ?_
  rw [h]
  refine wp_icmp_lt (tgt := 12) hX (dk DX6_add 3 rfl) (by decide) (fun h_ => absurd h_ ((by decide))) (fun _ => ?_)
  refine wp_bipush (v := -3) hX (dk DX6_add 4 rfl) (by decide) ?_
  exact wp_ireturn hX hR (dk DX6_add 5 rfl) rfl (Nat.le_refl _) (Nat.le_refl _) (⟨rfl, rfl⟩)
theorem k_stadd (d : Nat) (sw : Bool) (f : Nat → Nat → Int32) (g : Nat → Nat → Int64) (n : Nat) (x : Int32) (hn : n < 50) (h : f 70 2 = nI n) : CT d 0 0 iX6_add [.ref 70, .int x] (S sw f g) (QR (some (.int (nI n))) (S sw (u2 (u2 f 71 n x) 70 2 (nI (n + 1))) g)) := by
  refine CT.of rfl (Nat.le_of_ble_eq_true rfl) (fun X hX hR hN _ => ?_)
  have hX : Good X RX6 cX6_add d 0 0 := hX
  have hN : x_nl X = 2 := hN
  show WP X 0 0 0 [_, _] [] _
  refine wp_aload_n hX (dk DX6_add 0 rfl) rfl ?_
  refine w_geti hX flX6_18 (dk DX6_add 1 rfl) (by decide) rfl ?_
  refine wp_bipush (v := 50) hX (dk DX6_add 2 rfl) (by decide) ?_
  rw [h]
  refine wp_icmp_lt (tgt := 12) hX (dk DX6_add 3 rfl) (by decide) (fun _ => ?_) (fun h_ => absurd ((nI_lt (b := 50) hn (by omega))) h_)
  refine wp_aload_n hX (dk DX6_add 6 rfl) rfl ?_
  refine w_getr hX flX6_11 (dk DX6_add 7 rfl) rfl rfl ?_
  refine wp_aload_n hX (dk DX6_add 8 rfl) rfl ?_
  refine w_geti hX flX6_18 (dk DX6_add 9 rfl) (by decide) rfl ?_
  rw [h]
  refine wp_iload_n hX (dk DX6_add 10 rfl) rfl ?_
  refine w_iast (j := _) hX (dk DX6_add 11 rfl) rfl rfl (show _ < 50 by omega) ?_
  refine wp_aload_n hX (dk DX6_add 12 rfl) rfl ?_
  refine wp_dup hX (dk DX6_add 13 rfl) rfl ?_
  refine w_geti hX flX6_18 (dk DX6_add 14 rfl) (by decide) rfl ?_
  rw [show u2 f 71 n x 70 2 = nI n by rw [u2_ne _ _ _ (by omega)]; exact h]
  refine wp_iconst (v := 1) hX (dk DX6_add 15 rfl) (by decide) ?_
  refine wp_iadd hX (dk DX6_add 16 rfl) ?_
  rw [nI_1]
  refine w_puti hX fpX6_18 (dk DX6_add 17 rfl) rfl ?_
  refine wp_aload_n hX (dk DX6_add 18 rfl) rfl ?_
  refine w_geti hX flX6_18 (dk DX6_add 19 rfl) (by decide) rfl ?_
  rw [u2_at]
  refine wp_iconst (v := 1) hX (dk DX6_add 20 rfl) (by decide) ?_
  refine wp_isub hX (dk DX6_add 21 rfl) ?_
  rw [nI_pred]
  exact wp_ireturn hX hR (dk DX6_add 22 rfl) rfl (Nat.le_refl _) (Nat.le_refl _) (⟨rfl, rfl⟩)
/-- THE TRACE: t as it is kept -/
def trOk (f : Nat → Nat → Int32) (t : List Int32) : Prop := f 70 3 = nI t.length ∧ t.length ≤ 1000 ∧ ∀ (j : Nat) (q : Int32), j < 24 → t[j]? = some q → f 72 j = q
def trSm (f f2 : Nat → Nat → Int32) : Prop := (∀ b, b ≠ 70 → b ≠ 72 → f2 b = f b) ∧ ∀ i, i ≠ 3 → f2 70 i = f 70 i
theorem trSm.trans {f f2 f3 : Nat → Nat → Int32} (h : trSm f f2) (h2 : trSm f2 f3) : trSm f f3 := ⟨fun b g1 g2 => (h2.1 b g1 g2).trans (h.1 b g1 g2), fun i hi => (h2.2 i hi).trans (h.2 i hi)⟩
theorem k_traced (d : Nat) (sw : Bool) (f : Nat → Nat → Int32) (g : Nat → Nat → Int64) (t : List Int32) (x : Int32) (ht : trOk f t) : CT (d + 1) 0 0 iX6_traced [.ref 70, .int x] (S sw f g) (QR (some (.int (if ¬ x < 0 ∧ x < nI (min t.length 24) then t.getD x.toNatClampNeg 0 else -1))) (S sw f g)) := by
  refine CT.of rfl (Nat.le_of_ble_eq_true rfl) (fun X hX hR hN _ => ?_)
  have hX : Good X RX6 cX6_traced (d + 1) 0 0 := hX
  have hN : x_nl X = 2 := hN
  show WP X 0 0 0 [_, _] [] _
  refine wp_iload_n hX (dk DX6_traced 0 rfl) rfl ?_
  refine wp_if_lt (tgt := 26) hX (dk DX6_traced 1 rfl) (by decide) (fun h => ?_) (fun h => ?_)
  · refine wp_iconst (v := -1) hX (dk DX6_traced 13 rfl) (by decide) ?_
    exact wp_ireturn hX hR (dk DX6_traced 14 rfl) rfl (Nat.le_refl _) (Nat.le_refl _) (⟨by rw [if_neg (fun q => q.1 h)], rfl⟩)
  · refine wp_iload_n hX (dk DX6_traced 2 rfl) rfl ?_
    refine wp_aload_n hX (dk DX6_traced 3 rfl) rfl ?_
    refine w_geti hX flX6_22 (dk DX6_traced 4 rfl) (by decide) rfl ?_
    refine wp_bipush (v := 24) hX (dk DX6_traced 5 rfl) (by decide) ?_
    refine w_min hX lkX6_25 (dk DX6_traced 6 rfl) (by simp [Value.category]) ?_
    have hlen := ht.2.1
    have e : (if (24 : Int32) < f 70 3 then (24 : Int32) else f 70 3) = nI (min t.length 24) := by
      rw [ht.1]
      by_cases c : 24 < t.length
      · rw [if_pos (show (24 : Int32) < nI t.length from nI_lt (a := 24) c (by omega)), show min t.length 24 = 24 by omega]
        rfl
      · rw [if_neg (show ¬ (24 : Int32) < nI t.length from nI_nlt (a := 24) (by omega) (by omega)), show min t.length 24 = t.length by omega]
    rw [e]
    refine wp_icmp_ge (tgt := 26) hX (dk DX6_traced 7 rfl) (by decide) (fun h2 => ?_) (fun h2 => ?_)
    · refine wp_iconst (v := -1) hX (dk DX6_traced 13 rfl) (by decide) ?_
      exact wp_ireturn hX hR (dk DX6_traced 14 rfl) rfl (Nat.le_refl _) (Nat.le_refl _) (⟨by rw [if_neg (fun q => Int32.not_lt.mpr h2 q.2)], rfl⟩)
    · obtain ⟨j, hj1, rfl⟩ := nI_of h
      have hj2 : j < min t.length 24 := by
        by_cases c : j < min t.length 24
        · exact c
        · exact absurd (nI_le (show min t.length 24 ≤ j by omega) (by omega)) h2
      refine wp_aload_n hX (dk DX6_traced 8 rfl) rfl ?_
      refine w_getr hX flX6_15 (dk DX6_traced 9 rfl) rfl rfl ?_
      refine wp_iload_n hX (dk DX6_traced 10 rfl) rfl ?_
      refine w_iald (j := _) hX (dk DX6_traced 11 rfl) rfl rfl (show _ < 24 by omega) ?_
      refine wp_goto (tgt := 27) hX (dk DX6_traced 12 rfl) (by decide) ?_
      -- to 27
      have hq : f 72 j = t.getD j 0 := by
        have h9 : t[j]? = some (t[j]'(by omega)) := List.getElem?_eq_getElem (by omega)
        rw [List.getD_eq_getElem?_getD, h9]
        exact ht.2.2 j _ (by omega) h9
      exact wp_ireturn hX hR (dk DX6_traced 14 rfl) rfl (Nat.le_refl _) (Nat.le_refl _) (⟨by rw [if_pos ⟨h, Int32.not_le.mp h2⟩, nI_clamp (by omega), hq], rfl⟩)
/-- is a kind under another one -/
def abN (k : Nat) : Nat := [0, 0, 0, 2, 1, 3, 0, 4].getD k 0
def htN (k : Nat) : Nat := [0, 1, 1, 2, 2, 3, 1, 3].getD k 0
def junder : Nat → Nat → Int32 → Int32
  | 0, k, t => if nI k = t then 1 else 0
  | m + 1, k, t => if nI k = t then 1 else if k = 0 then 0 else junder m (abN k) t
theorem ab_ok : ∀ k, k < 8 → (k ≠ 0 → x_abov k = nI (abN k) ∧ abN k < 8 ∧ htN (abN k) + 1 = htN k) ∧ (k = 0 → x_abov k = -1 ∧ htN k = 0) ∧ htN k ≤ 3 := by decide +kernel
theorem k_isUnder (d : Nat) (sw : Bool) (f : Nat → Nat → Int32) (g : Nat → Nat → Int64) (k : Nat) (t : Int32) (hk : k < 8) : CT d 0 0 iX6_isUnder [.int (nI k), .int t] (S sw f g) (QR (some (.int (junder 3 k t))) (S sw f g)) := by
  refine CT.of rfl (Nat.le_of_ble_eq_true rfl) (fun X hX hR hN _ => ?_)
  have hX : Good X RX6 cX6_isUnder d 0 0 := hX
  have hN : x_nl X = 4 := hN
  show WP X 0 0 0 [_, _, _, _] [] _
  refine wp_iload_n hX (dk DX6_isUnder 0 rfl) rfl ?_
  refine wp_istore_n hX (dk DX6_isUnder 1 rfl) rfl rfl hN (Nat.le_of_ble_eq_true rfl) ?_
  show WP _ _ _ 2 [_, _, _, _] [] _
  refine wp_iconst (v := 0) hX (dk DX6_isUnder 2 rfl) (by decide) ?_
  refine wp_istore_n hX (dk DX6_isUnder 3 rfl) rfl rfl hN (Nat.le_of_ble_eq_true rfl) ?_
  show WP _ _ _ 4 [_, _, _, _] [] _
  have stop : ∀ (u : Nat) (z : Int32), u ≤ 7 → z < 0 → junder 3 k t = 0 → WP X 0 0 4 [some (.int (nI k)), some (.int t), some (.int z), some (.int (nI u))] [] (S sw f g) := by
    intro u z hu hz e
    refine wp_iload_n hX (dk DX6_isUnder 4 rfl) rfl ?_
    refine wp_bipush (v := 8) hX (dk DX6_isUnder 5 rfl) (by decide) ?_
    refine wp_icmp_ge (tgt := 33) hX (dk DX6_isUnder 6 rfl) (by decide) (fun h_ => absurd h_ ((nI_ge (b := 8) (by omega) (by omega)))) (fun _ => ?_)
    refine wp_iload_n hX (dk DX6_isUnder 7 rfl) rfl ?_
    refine wp_if_lt (tgt := 33) hX (dk DX6_isUnder 8 rfl) (by decide) (fun _ => ?_) (fun h_ => absurd (hz) h_)
    refine wp_iconst (v := 0) hX (dk DX6_isUnder 20 rfl) (by decide) ?_
    exact wp_ireturn hX hR (dk DX6_isUnder 21 rfl) rfl (Nat.le_refl _) (Nat.le_refl _) (⟨by rw [e], rfl⟩)
  have lp : ∀ (h q u : Nat), q < 8 → htN q ≤ h → u + h ≤ 6 → junder 3 k t = junder h q t → WP X 0 0 4 [some (.int (nI k)), some (.int t), some (.int (nI q)), some (.int (nI u))] [] (S sw f g) := by
    intro h
    induction h with
    | zero =>
      intro q u hq hh hu e
      obtain ⟨a1, a2, a3⟩ := ab_ok q hq
      have hq0 : q = 0 := by
        by_cases c : q = 0
        · exact c
        · have := (a1 c).2.2; omega
      refine wp_iload_n hX (dk DX6_isUnder 4 rfl) rfl ?_
      refine wp_bipush (v := 8) hX (dk DX6_isUnder 5 rfl) (by decide) ?_
      refine wp_icmp_ge (tgt := 33) hX (dk DX6_isUnder 6 rfl) (by decide) (fun h_ => absurd h_ ((nI_ge (b := 8) (by omega) (by omega)))) (fun _ => ?_)
      refine wp_iload_n hX (dk DX6_isUnder 7 rfl) rfl ?_
      refine wp_if_lt (tgt := 33) hX (dk DX6_isUnder 8 rfl) (by decide) (fun h_ => absurd h_ ((nI_pos (by omega)))) (fun _ => ?_)
      refine wp_iload_n hX (dk DX6_isUnder 9 rfl) rfl ?_
      refine wp_iload_n hX (dk DX6_isUnder 10 rfl) rfl ?_
      refine wp_icmp_ne (tgt := 21) hX (dk DX6_isUnder 11 rfl) (by decide) (fun hc => ?_) (fun hc => ?_)
      · refine wp_abov hX fsX6_31 (dk DX6_isUnder 14 rfl) ?_
        refine wp_iload_n hX (dk DX6_isUnder 15 rfl) rfl ?_
        refine wp_t2 hX (dk DX6_isUnder 16 rfl) (vp_in_nI (by omega) (by omega)) ?_
        refine wp_istore_n hX (dk DX6_isUnder 17 rfl) rfl rfl hN (Nat.le_of_ble_eq_true rfl) ?_
        show WP _ _ _ 27 [_, _, _, _] [] _
        refine wp_iinc hX (dk DX6_isUnder 18 rfl) rfl (nI_inc _) rfl hN ?_
        show WP _ _ _ 30 [_, _, _, _] [] _
        refine wp_goto (tgt := 4) hX (dk DX6_isUnder 19 rfl) (by decide) ?_
        -- to 4
        rw [nI_clamp (by omega), (a2 hq0).1]
        refine stop (u + 1) (-1) (by omega) (by decide) ?_
        rw [e, junder, if_neg hc]
      · refine wp_iconst (v := 1) hX (dk DX6_isUnder 12 rfl) (by decide) ?_
        exact wp_ireturn hX hR (dk DX6_isUnder 13 rfl) rfl (Nat.le_refl _) (Nat.le_refl _) (⟨by rw [e, junder, if_pos hc], rfl⟩)
    | succ h ih =>
      intro q u hq hh hu e
      obtain ⟨a1, a2, a3⟩ := ab_ok q hq
      refine wp_iload_n hX (dk DX6_isUnder 4 rfl) rfl ?_
      refine wp_bipush (v := 8) hX (dk DX6_isUnder 5 rfl) (by decide) ?_
      refine wp_icmp_ge (tgt := 33) hX (dk DX6_isUnder 6 rfl) (by decide) (fun h_ => absurd h_ ((nI_ge (b := 8) (by omega) (by omega)))) (fun _ => ?_)
      refine wp_iload_n hX (dk DX6_isUnder 7 rfl) rfl ?_
      refine wp_if_lt (tgt := 33) hX (dk DX6_isUnder 8 rfl) (by decide) (fun h_ => absurd h_ ((nI_pos (by omega)))) (fun _ => ?_)
      refine wp_iload_n hX (dk DX6_isUnder 9 rfl) rfl ?_
      refine wp_iload_n hX (dk DX6_isUnder 10 rfl) rfl ?_
      refine wp_icmp_ne (tgt := 21) hX (dk DX6_isUnder 11 rfl) (by decide) (fun hc => ?_) (fun hc => ?_)
      · refine wp_abov hX fsX6_31 (dk DX6_isUnder 14 rfl) ?_
        refine wp_iload_n hX (dk DX6_isUnder 15 rfl) rfl ?_
        refine wp_t2 hX (dk DX6_isUnder 16 rfl) (vp_in_nI (by omega) (by omega)) ?_
        refine wp_istore_n hX (dk DX6_isUnder 17 rfl) rfl rfl hN (Nat.le_of_ble_eq_true rfl) ?_
        show WP _ _ _ 27 [_, _, _, _] [] _
        refine wp_iinc hX (dk DX6_isUnder 18 rfl) rfl (nI_inc _) rfl hN ?_
        show WP _ _ _ 30 [_, _, _, _] [] _
        refine wp_goto (tgt := 4) hX (dk DX6_isUnder 19 rfl) (by decide) ?_
        -- to 4
        rw [nI_clamp (by omega)]
        rw [show junder (h + 1) q t = if nI q = t then 1 else if q = 0 then 0 else junder h (abN q) t from rfl, if_neg hc] at e
        by_cases c : q = 0
        · rw [(a2 c).1]
          rw [if_pos c] at e
          exact stop (u + 1) (-1) (by omega) (by decide) e
        · obtain ⟨b1, b2, b3⟩ := a1 c
          rw [b1]
          rw [if_neg c] at e
          exact ih (abN q) (u + 1) b2 (by omega) (by omega) e
      · refine wp_iconst (v := 1) hX (dk DX6_isUnder 12 rfl) (by decide) ?_
        exact wp_ireturn hX hR (dk DX6_isUnder 13 rfl) rfl (Nat.le_refl _) (Nat.le_refl _) (⟨by rw [e, junder, if_pos hc], rfl⟩)
  exact lp 3 k 0 hk (ab_ok k hk).2.2 (by omega) rfl
theorem k_note (d : Nat) (sw : Bool) (f : Nat → Nat → Int32) (g : Nat → Nat → Int64) (t : List Int32) (b : Int32) (ht : trOk f t) (hl : t.length < 1000) : CT d 0 0 iX6_note [.ref 70, .int b] (S sw f g) (QS (fun r sw2 f2 g2 => r = none ∧ sw2 = sw ∧ g2 = g ∧ trSm f f2 ∧ trOk f2 (t ++ [b]))) := by
  obtain ⟨h1, h2, h3⟩ := ht
  refine CT.of rfl (Nat.le_of_ble_eq_true rfl) (fun X hX hR hN _ => ?_)
  have hX : Good X RX6 cX6_note d 0 0 := hX
  have hN : x_nl X = 2 := hN
  show WP X 0 0 0 [_, _] [] _
  refine wp_aload_n hX (dk DX6_note 0 rfl) rfl ?_
  refine w_geti hX flX6_22 (dk DX6_note 1 rfl) (by decide) rfl ?_
  refine wp_bipush (v := 24) hX (dk DX6_note 2 rfl) (by decide) ?_
  rw [h1]
  refine wp_icmp_ge (tgt := 19) hX (dk DX6_note 3 rfl) (by decide) (fun h => ?_) (fun h => ?_)
  · refine wp_aload_n hX (dk DX6_note 10 rfl) rfl ?_
    refine wp_dup hX (dk DX6_note 11 rfl) rfl ?_
    refine w_geti hX flX6_22 (dk DX6_note 12 rfl) (by decide) rfl ?_
    rw [h1]
    refine wp_iconst (v := 1) hX (dk DX6_note 13 rfl) (by decide) ?_
    refine wp_iadd hX (dk DX6_note 14 rfl) ?_
    rw [nI_1]
    refine w_puti hX fpX6_22 (dk DX6_note 15 rfl) rfl ?_
    refine wp_return hX hR (dk DX6_note 16 rfl) (Nat.le_refl _) (Nat.le_refl _) ⟨sw, _, g, rfl, rfl, rfl, rfl, ⟨fun c g1 g2 => u2_ne _ _ _ g1, fun i hi => u2_off _ _ _ hi⟩, ?_, ?_, ?_⟩
    · rw [u2_at]; simp
    · simp; omega
    · intro j q hj hq
      have hlt : 24 ≤ t.length := by
        by_cases c : 24 ≤ t.length
        · exact c
        · exact absurd h (nI_ge (b := 24) (by omega) (by omega))
      rw [u2_ne _ _ _ (by decide)]
      rw [List.getElem?_append_left (by omega)] at hq
      exact h3 j q hj hq
  · have hlt : t.length < 24 := by
      by_cases c : t.length < 24
      · exact c
      · exact absurd (nI_le (a := 24) (by omega) (by omega)) h
    refine wp_aload_n hX (dk DX6_note 4 rfl) rfl ?_
    refine w_getr hX flX6_15 (dk DX6_note 5 rfl) rfl rfl ?_
    refine wp_aload_n hX (dk DX6_note 6 rfl) rfl ?_
    refine w_geti hX flX6_22 (dk DX6_note 7 rfl) (by decide) rfl ?_
    rw [h1]
    refine wp_iload_n hX (dk DX6_note 8 rfl) rfl ?_
    refine w_iast (j := _) hX (dk DX6_note 9 rfl) rfl rfl (show _ < 24 by omega) ?_
    refine wp_aload_n hX (dk DX6_note 10 rfl) rfl ?_
    refine wp_dup hX (dk DX6_note 11 rfl) rfl ?_
    refine w_geti hX flX6_22 (dk DX6_note 12 rfl) (by decide) rfl ?_
    rw [show u2 f 72 t.length b 70 3 = nI t.length from h1]
    refine wp_iconst (v := 1) hX (dk DX6_note 13 rfl) (by decide) ?_
    refine wp_iadd hX (dk DX6_note 14 rfl) ?_
    rw [nI_1]
    refine w_puti hX fpX6_22 (dk DX6_note 15 rfl) rfl ?_
    refine wp_return hX hR (dk DX6_note 16 rfl) (Nat.le_refl _) (Nat.le_refl _) ⟨sw, _, g, rfl, rfl, rfl, rfl, ⟨fun c g1 g2 => by rw [u2_ne _ _ _ g1, u2_ne _ _ _ g2], fun i hi => by rw [u2_off _ _ _ hi, u2_ne _ _ _ (by decide)]⟩, ?_, ?_, ?_⟩
    · rw [u2_at]; simp
    · simp; omega
    · intro j q hj hq
      rw [u2_ne _ _ _ (by decide)]
      by_cases c : j < t.length
      · rw [List.getElem?_append_left c] at hq
        rw [u2_off _ _ _ (by omega)]
        exact h3 j q hj hq
      · rw [List.getElem?_append_right (by omega)] at hq
        have : j - t.length = 0 := by
          have := (List.getElem?_eq_some_iff.mp hq).1
          simp at this
          omega
        rw [this] at hq
        cases hq
        rw [show j = t.length by omega, u2_at]
/-- the kind whose body answers -/
def rsv (a : Nat) : Nat → Nat → Nat
  | 0, k => k
  | m + 1, k => if x_bods (k * 4 + a) = 0 then rsv a m (abN k) else k
/-- the bodies that run: fuel, from which kind, which act -/
def jT (k0 : Nat) : Nat → Nat → Nat → List Int32
  | 0, _, _ => []
  | m + 1, fr, a => match rsv a 4 fr * 4 + a with
    | 0 => [1]
    | 1 => [10] ++ jT k0 m k0 0
    | 2 => [11]
    | 3 => [2] ++ jT k0 m k0 1 ++ jT k0 m k0 2
    | 4 => [20] ++ jT k0 m 0 0
    | 9 => [30] ++ jT k0 m 0 1
    | 13 => [41] ++ jT k0 m 2 1
    | 14 => [40] ++ jT k0 m 2 2
    | 18 => [50] ++ jT k0 m 1 2 ++ jT k0 m k0 0
    | 23 => [60] ++ jT k0 m 3 3
    | 24 => [70] ++ jT k0 m 0 0
    | 29 => [80] ++ jT k0 m 4 1 ++ jT k0 m k0 2
    | 31 => [81] ++ jT k0 m 4 3
    | _ => []
/-- the answer of stone n of kind k0 -/
def jV (k0 : Nat) (n : Int32) : Nat → Nat → Nat → Int32 → Int32
  | 0, _, _, _ => 0
  | m + 1, fr, a, x => match rsv a 4 fr * 4 + a with
    | 0 => x + n
    | 1 => jV k0 n m k0 0 x * 2
    | 2 => x ^^^ n
    | 3 => jV k0 n m k0 1 x - jV k0 n m k0 2 1
    | 4 => jV k0 n m 0 0 x + 3
    | 9 => -jV k0 n m 0 1 x
    | 13 => jV k0 n m 2 1 (x + 1)
    | 14 => jV k0 n m 2 2 x * 3
    | 18 => jV k0 n m 1 2 x - jV k0 n m k0 0 2
    | 23 => jV k0 n m 3 3 x ^^^ 5
    | 24 => jV k0 n m 0 0 x * 2
    | 29 => jV k0 n m 4 1 x + jV k0 n m k0 2 2
    | 31 => jV k0 n m 4 3 x - 1
    | _ => 0
theorem rs_ok : ∀ fr, fr < 8 → ∀ a, a < 4 → rsv a 4 fr < 8 ∧ (rsv a 4 fr * 4 + a) ∈ [0, 1, 2, 3, 4, 9, 13, 14, 18, 23, 24, 29, 31] := by decide +kernel
theorem rs_st : ∀ k, k < 8 → ∀ a, a < 4 → (x_bods (k * 4 + a) = 0 → k ≠ 0) := by decide +kernel
theorem rs_f3 : ∀ k, k < 8 → ∀ a, a < 4 → rsv a 3 k = rsv a 4 k := by decide +kernel
theorem rs_f4 : ∀ k, k < 8 → ∀ a, a < 4 → (x_bods (k * 4 + a) = 0 ∨ rsv a 4 k = k) := by decide +kernel
theorem ixA (a b : Nat) : nI a * 4 + nI b = nI (a * 4 + b) := by rw [show (4 : Int32) = nI 4 from rfl, pk_mul, nI_add]
/-- one step of a contract of answer -/
def aCT (D m : Nat) (sw : Bool) (g : Nat → Nat → Int64) : Prop := ∀ (f : Nat → Nat → Int32) (t : List Int32) (n k0 fr a : Nat) (x : Int32), n < 50 → k0 < 8 → fr < 8 → a < 4 → f 71 n = nI k0 → trOk f t → t.length + (jT k0 m fr a).length ≤ 1000 → CT D 0 0 iX6_answer [.ref 70, .int (nI n), .int (nI fr), .int (nI a), .int x, .int (nI (40 - m))] (S sw f g) (QS (fun r sw2 f2 g2 => r = some (.int (jV k0 (nI n) m fr a x)) ∧ sw2 = sw ∧ g2 = g ∧ trSm f f2 ∧ trOk f2 (t ++ jT k0 m fr a)))
def oCT (D m : Nat) (sw : Bool) (g : Nat → Nat → Int64) : Prop := ∀ (f : Nat → Nat → Int32) (t : List Int32) (n k0 a : Nat) (x : Int32), n < 50 → k0 < 8 → a < 4 → f 71 n = nI k0 → trOk f t → t.length + (jT k0 m k0 a).length ≤ 1000 → CT D 0 0 iX6_own [.ref 70, .int (nI n), .int (nI a), .int x, .int (nI (40 - m))] (S sw f g) (QS (fun r sw2 f2 g2 => r = some (.int (jV k0 (nI n) m k0 a x)) ∧ sw2 = sw ∧ g2 = g ∧ trSm f f2 ∧ trOk f2 (t ++ jT k0 m k0 a)))
theorem k_own (D m : Nat) (sw : Bool) (g : Nat → Nat → Int64) (h : aCT D m sw g) : oCT (D + 1) m sw g := by
  intro f t n k0 a x hn hk ha hf ht hl
  refine CT.of rfl (Nat.le_of_ble_eq_true rfl) (fun X hX hR hN _ => ?_)
  have hX : Good X RX6 cX6_own (D + 1) 0 0 := hX
  have hN : x_nl X = 5 := hN
  show WP X 0 0 0 [_, _, _, _, _] [] _
  refine wp_aload_n hX (dk DX6_own 0 rfl) rfl ?_
  refine wp_iload_n hX (dk DX6_own 1 rfl) rfl ?_
  refine wp_aload_n hX (dk DX6_own 2 rfl) rfl ?_
  refine w_getr hX flX6_11 (dk DX6_own 3 rfl) rfl rfl ?_
  refine wp_iload_n hX (dk DX6_own 4 rfl) rfl ?_
  refine w_iald (j := _) hX (dk DX6_own 5 rfl) rfl rfl (show _ < 50 by omega) ?_
  rw [hf]
  refine wp_iload_n hX (dk DX6_own 6 rfl) rfl ?_
  refine wp_iload_n hX (dk DX6_own 7 rfl) rfl ?_
  refine wp_iload hX (dk DX6_own 8 rfl) rfl ?_
  refine w_callVQ (As := [_, _, _, _, _]) lkX6_42 hX (dk DX6_own 9 rfl) rfl rfl (by decide) hN (h f t n k0 k0 a x hn hk hk ha hf ht hl) (fun v_ sw_ f_ g_ hq_ => ?_)
  obtain ⟨rfl, rfl, rfl, h4, h5⟩ := hq_
  show WP _ _ _ 15 [_, _, _, _, _] [_] _
  exact wp_ireturn hX hR (dk DX6_own 10 rfl) rfl (Nat.le_refl _) (Nat.le_refl _) (⟨_, _, _, rfl, rfl, rfl, rfl, h4, h5⟩)
theorem k_ans0 (D : Nat) (sw : Bool) (g : Nat → Nat → Int64) : aCT D 0 sw g := by
  intro f t n k0 fr a x hn hk hfr ha hf ht hl
  refine CT.of rfl (Nat.le_of_ble_eq_true rfl) (fun X hX hR hN _ => ?_)
  have hX : Good X RX6 cX6_answer D 0 0 := hX
  have hN : x_nl X = 10 := hN
  show WP X 0 0 0 [_, _, _, _, _, _, _, _, _, _] [] _
  refine wp_iload_n hX (dk DX6_answer 0 rfl) rfl ?_
  refine wp_istore hX (dk DX6_answer 1 rfl) rfl hN (Nat.le_of_ble_eq_true rfl) ?_
  show WP _ _ _ 3 [_, _, _, _, _, _, _, _, _, _] [] _
  refine wp_iconst (v := 0) hX (dk DX6_answer 2 rfl) (by decide) ?_
  refine wp_istore hX (dk DX6_answer 3 rfl) rfl hN (Nat.le_of_ble_eq_true rfl) ?_
  show WP _ _ _ 6 [_, _, _, _, _, _, _, _, _, _] [] _
  have fin : ∀ (z : Int32) (u : Option Value), WP X 0 0 45 [some (.ref 70), some (.int (nI n)), some (.int (nI fr)), some (.int (nI a)), some (.int x), some (.int (nI (40 - 0))), some (.int z), u, none, none] [] (S sw f g) := by
    intro z u
    have e : WP X 0 0 57 [some (.ref 70), some (.int (nI n)), some (.int (nI fr)), some (.int (nI a)), some (.int x), some (.int (nI (40 - 0))), some (.int z), u, none, none] [] (S sw f g) := by
      refine wp_iconst (v := 0) hX (dk DX6_answer 28 rfl) (by decide) ?_
      exact wp_ireturn hX hR (dk DX6_answer 29 rfl) rfl (Nat.le_refl _) (Nat.le_refl _) (⟨sw, f, g, rfl, rfl, rfl, rfl, ⟨fun _ _ _ => rfl, fun _ _ => rfl⟩, by simpa [jT] using ht⟩)
    refine wp_iload hX (dk DX6_answer 23 rfl) rfl ?_
    refine wp_if_lt (tgt := 57) hX (dk DX6_answer 24 rfl) (by decide) (fun h => ?_) (fun h => ?_)
    · exact e
    · refine wp_iload hX (dk DX6_answer 25 rfl) rfl ?_
      refine wp_bipush (v := 40) hX (dk DX6_answer 26 rfl) (by decide) ?_
      refine wp_icmp_lt (tgt := 59) hX (dk DX6_answer 27 rfl) (by decide) (fun h_ => absurd h_ ((by decide))) (fun _ => ?_)
      exact e
  have lp : ∀ (h k u : Nat), k < 8 → htN k ≤ h → u + h ≤ 6 → WP X 0 0 6 [some (.ref 70), some (.int (nI n)), some (.int (nI fr)), some (.int (nI a)), some (.int x), some (.int (nI (40 - 0))), some (.int (nI k)), some (.int (nI u)), none, none] [] (S sw f g) := by
    intro h
    induction h with
    | zero =>
      intro k u hk1 hh hu
      refine wp_iload hX (dk DX6_answer 4 rfl) rfl ?_
      refine wp_bipush (v := 8) hX (dk DX6_answer 5 rfl) (by decide) ?_
      refine wp_icmp_ge (tgt := 45) hX (dk DX6_answer 6 rfl) (by decide) (fun h_ => absurd h_ ((nI_ge (b := 8) (by omega) (by omega)))) (fun _ => ?_)
      refine wp_iload hX (dk DX6_answer 7 rfl) rfl ?_
      refine wp_if_lt (tgt := 45) hX (dk DX6_answer 8 rfl) (by decide) (fun h_ => absurd h_ ((nI_pos (by omega)))) (fun _ => ?_)
      refine wp_bods hX fsX6_46 (dk DX6_answer 9 rfl) ?_
      refine wp_iload hX (dk DX6_answer 10 rfl) rfl ?_
      refine wp_iconst (v := 4) hX (dk DX6_answer 11 rfl) (by decide) ?_
      refine wp_imul hX (dk DX6_answer 12 rfl) ?_
      refine wp_iload_n hX (dk DX6_answer 13 rfl) rfl ?_
      refine wp_iadd hX (dk DX6_answer 14 rfl) ?_
      rw [ixA]
      refine wp_t3 hX (dk DX6_answer 15 rfl) (vp_in_nI (by omega) (by omega)) ?_
      rw [nI_clamp (by omega)]
      refine wp_if_ne (tgt := 45) hX (dk DX6_answer 16 rfl) (by decide) (fun hc => ?_) (fun hc => ?_)
      · exact fin _ _
      · exfalso
        have := rs_st k hk1 a ha hc
        have h9 := ((ab_ok k hk1).1 this).2.2
        omega
    | succ h ih =>
      intro k u hk1 hh hu
      refine wp_iload hX (dk DX6_answer 4 rfl) rfl ?_
      refine wp_bipush (v := 8) hX (dk DX6_answer 5 rfl) (by decide) ?_
      refine wp_icmp_ge (tgt := 45) hX (dk DX6_answer 6 rfl) (by decide) (fun h_ => absurd h_ ((nI_ge (b := 8) (by omega) (by omega)))) (fun _ => ?_)
      refine wp_iload hX (dk DX6_answer 7 rfl) rfl ?_
      refine wp_if_lt (tgt := 45) hX (dk DX6_answer 8 rfl) (by decide) (fun h_ => absurd h_ ((nI_pos (by omega)))) (fun _ => ?_)
      refine wp_bods hX fsX6_46 (dk DX6_answer 9 rfl) ?_
      refine wp_iload hX (dk DX6_answer 10 rfl) rfl ?_
      refine wp_iconst (v := 4) hX (dk DX6_answer 11 rfl) (by decide) ?_
      refine wp_imul hX (dk DX6_answer 12 rfl) ?_
      refine wp_iload_n hX (dk DX6_answer 13 rfl) rfl ?_
      refine wp_iadd hX (dk DX6_answer 14 rfl) ?_
      rw [ixA]
      refine wp_t3 hX (dk DX6_answer 15 rfl) (vp_in_nI (by omega) (by omega)) ?_
      rw [nI_clamp (by omega)]
      refine wp_if_ne (tgt := 45) hX (dk DX6_answer 16 rfl) (by decide) (fun hc => ?_) (fun hc => ?_)
      · exact fin _ _
      · obtain ⟨b1, b2, b3⟩ := (ab_ok k hk1).1 (rs_st k hk1 a ha hc)
        refine wp_abov hX fsX6_31 (dk DX6_answer 17 rfl) ?_
        refine wp_iload hX (dk DX6_answer 18 rfl) rfl ?_
        refine wp_t2 hX (dk DX6_answer 19 rfl) (vp_in_nI (by omega) (by omega)) ?_
        rw [nI_clamp (by omega), b1]
        refine wp_istore hX (dk DX6_answer 20 rfl) rfl hN (Nat.le_of_ble_eq_true rfl) ?_
        show WP _ _ _ 39 [_, _, _, _, _, _, _, _, _, _] [] _
        refine wp_iinc hX (dk DX6_answer 21 rfl) rfl (nI_inc _) rfl hN ?_
        show WP _ _ _ 42 [_, _, _, _, _, _, _, _, _, _] [] _
        refine wp_goto (tgt := 6) hX (dk DX6_answer 22 rfl) (by decide) ?_
        -- to 6
        exact ih (abN k) (u + 1) b2 (by omega) (by omega)
  exact lp 3 fr 0 hfr (ab_ok fr hfr).2.2 (by omega)
theorem k_ansS (D m : Nat) (sw : Bool) (g : Nat → Nat → Int64) (hm : m < 40) (hA : aCT (D + 1) m sw g) (hO : oCT (D + 1) m sw g) : aCT (D + 2) (m + 1) sw g := by
  intro f t n k0 fr a x hn hk hfr ha hf ht hl
  refine CT.of rfl (Nat.le_of_ble_eq_true rfl) (fun X hX hR hN _ => ?_)
  have hX : Good X RX6 cX6_answer (D + 2) 0 0 := hX
  have hN : x_nl X = 10 := hN
  show WP X 0 0 0 [_, _, _, _, _, _, _, _, _, _] [] _
  refine wp_iload_n hX (dk DX6_answer 0 rfl) rfl ?_
  refine wp_istore hX (dk DX6_answer 1 rfl) rfl hN (Nat.le_of_ble_eq_true rfl) ?_
  show WP _ _ _ 3 [_, _, _, _, _, _, _, _, _, _] [] _
  refine wp_iconst (v := 0) hX (dk DX6_answer 2 rfl) (by decide) ?_
  refine wp_istore hX (dk DX6_answer 3 rfl) rfl hN (Nat.le_of_ble_eq_true rfl) ?_
  show WP _ _ _ 6 [_, _, _, _, _, _, _, _, _, _] [] _
  obtain ⟨hr8, hrl⟩ := rs_ok fr hfr a ha
  obtain ⟨r, hr⟩ : ∃ r, r = rsv a 4 fr := ⟨_, rfl⟩
  rw [← hr] at hr8 hrl
  -- behind the search
  have fin : ∀ (u : Option Value), WP X 0 0 45 [some (.ref 70), some (.int (nI n)), some (.int (nI fr)), some (.int (nI a)), some (.int x), some (.int (nI (40 - (m + 1)))), some (.int (nI r)), u, none, none] [] (S sw f g) := by
    intro u
    have h1 : t.length < 1000 := by
      have : 1 ≤ (jT k0 (m + 1) fr a).length := by
        rw [jT, ← hr]
        simp only [List.mem_cons, List.not_mem_nil, or_false] at hrl
        rcases hrl with e | e | e | e | e | e | e | e | e | e | e | e | e <;> rw [e] <;> simp <;> omega
      omega
    refine wp_iload hX (dk DX6_answer 23 rfl) rfl ?_
    refine wp_if_lt (tgt := 57) hX (dk DX6_answer 24 rfl) (by decide) (fun h_ => absurd h_ ((nI_pos (by omega)))) (fun _ => ?_)
    refine wp_iload hX (dk DX6_answer 25 rfl) rfl ?_
    refine wp_bipush (v := 40) hX (dk DX6_answer 26 rfl) (by decide) ?_
    refine wp_icmp_lt (tgt := 59) hX (dk DX6_answer 27 rfl) (by decide) (fun _ => ?_) (fun h_ => absurd ((nI_lt (b := 40) (by omega) (by omega))) h_)
    refine wp_bods hX fsX6_46 (dk DX6_answer 30 rfl) ?_
    refine wp_iload hX (dk DX6_answer 31 rfl) rfl ?_
    refine wp_iconst (v := 4) hX (dk DX6_answer 32 rfl) (by decide) ?_
    refine wp_imul hX (dk DX6_answer 33 rfl) ?_
    refine wp_iload_n hX (dk DX6_answer 34 rfl) rfl ?_
    refine wp_iadd hX (dk DX6_answer 35 rfl) ?_
    rw [ixA]
    refine wp_t3 hX (dk DX6_answer 36 rfl) (vp_in_nI (by omega) (by omega)) ?_
    rw [nI_clamp (by omega)]
    refine wp_istore hX (dk DX6_answer 37 rfl) rfl hN (Nat.le_of_ble_eq_true rfl) ?_
    show WP _ _ _ 71 [_, _, _, _, _, _, _, _, _, _] [] _
    refine wp_aload_n hX (dk DX6_answer 38 rfl) rfl ?_
    refine wp_iload hX (dk DX6_answer 39 rfl) rfl ?_
    refine w_callVQ (As := [_]) lkX6_49 hX (dk DX6_answer 40 rfl) rfl rfl (by decide) hN (k_note (D + 1) sw f g t (x_bods (r * 4 + a)) ht h1) (fun v_ sw_ f_ g_ hq_ => ?_)
    obtain ⟨rfl, rfl, rfl, h4, h5⟩ := hq_
    show WP _ _ _ 77 [_, _, _, _, _, _, _, _, _, _] [] _
    have hf1 : f_ 71 n = nI k0 := by rw [h4.1 71 (by decide) (by decide)]; exact hf
    refine wp_iload hX (dk DX6_answer 41 rfl) rfl ?_
    refine wp_iconst (v := 1) hX (dk DX6_answer 42 rfl) (by decide) ?_
    refine wp_iadd hX (dk DX6_answer 43 rfl) ?_
    rw [nI_1, show 40 - (m + 1) + 1 = 40 - m by omega]
    refine wp_istore hX (dk DX6_answer 44 rfl) rfl hN (Nat.le_of_ble_eq_true rfl) ?_
    show WP _ _ _ 83 [_, _, _, _, _, _, _, _, _, _] [] _
    refine wp_abov hX fsX6_31 (dk DX6_answer 45 rfl) ?_
    refine wp_iload hX (dk DX6_answer 46 rfl) rfl ?_
    refine wp_t2 hX (dk DX6_answer 47 rfl) (vp_in_nI (by omega) (by omega)) ?_
    rw [nI_clamp (by omega)]
    refine wp_istore hX (dk DX6_answer 48 rfl) rfl hN (Nat.le_of_ble_eq_true rfl) ?_
    show WP _ _ _ 91 [_, _, _, _, _, _, _, _, _, _] [] _
    refine wp_iload hX (dk DX6_answer 49 rfl) rfl ?_
    rw [jT, ← hr] at hl
    rw [jT, jV, ← hr] at hR
    simp only [List.mem_cons, List.not_mem_nil, or_false] at hrl
    rcases hrl with e | e | e | e | e | e | e | e | e | e | e | e | e
    · obtain rfl : r = 0 := by omega
      obtain rfl : a = 0 := by omega
      rw [show x_bods (0 * 4 + 0) = 1 from rfl] at h5
      refine wp_lookup (off := 115) (tgt := 208) hX (dk DX6_answer 50 rfl) (by decide) (by decide) (by decide) ?_
      refine wp_iload hX (dk DX6_answer 51 rfl) rfl ?_
      refine wp_iload_n hX (dk DX6_answer 52 rfl) rfl ?_
      refine wp_iadd hX (dk DX6_answer 53 rfl) ?_
      exact wp_ireturn hX hR (dk DX6_answer 54 rfl) rfl (Nat.le_refl _) (Nat.le_refl _) (⟨_, _, _, rfl, rfl, rfl, rfl, h4, by simpa [List.append_assoc] using h5⟩)
    · obtain rfl : r = 0 := by omega
      obtain rfl : a = 1 := by omega
      rw [show x_bods (0 * 4 + 1) = 10 from rfl] at h5
      refine wp_lookup (off := 141) (tgt := 234) hX (dk DX6_answer 50 rfl) (by decide) (by decide) (by decide) ?_
      refine wp_aload_n hX (dk DX6_answer_1 9 rfl) rfl ?_
      refine wp_iload_n hX (dk DX6_answer_1 10 rfl) rfl ?_
      refine wp_iconst (v := 0) hX (dk DX6_answer_1 11 rfl) (by decide) ?_
      refine wp_iload hX (dk DX6_answer_1 12 rfl) rfl ?_
      refine wp_iload hX (dk DX6_answer_1 13 rfl) rfl ?_
      refine w_callVQ (As := [_, _, _, _]) lkX6_38 hX (dk DX6_answer_1 14 rfl) rfl rfl (by decide) hN (hO f_ _ n k0 0 x hn hk (by decide) hf1 h5 (by simp at hl ⊢; omega)) (fun v_1 sw_1 f_1 g_1 hq_1 => ?_)
      obtain ⟨rfl, rfl, rfl, k41, k51⟩ := hq_1
      have hf11 : f_1 71 n = nI k0 := by rw [k41.1 71 (by decide) (by decide)]; exact hf1
      show WP _ _ _ 244 [_, _, _, _, _, _, _, _, _, _] [_] _
      refine wp_iconst (v := 2) hX (dk DX6_answer_1 15 rfl) (by decide) ?_
      refine wp_imul hX (dk DX6_answer_1 16 rfl) ?_
      exact wp_ireturn hX hR (dk DX6_answer_1 17 rfl) rfl (Nat.le_refl _) (Nat.le_refl _) (⟨_, _, _, rfl, rfl, rfl, rfl, (h4).trans k41, by simpa [List.append_assoc] using k51⟩)
    · obtain rfl : r = 0 := by omega
      obtain rfl : a = 2 := by omega
      rw [show x_bods (0 * 4 + 2) = 11 from rfl] at h5
      refine wp_lookup (off := 154) (tgt := 247) hX (dk DX6_answer 50 rfl) (by decide) (by decide) (by decide) ?_
      refine wp_iload hX (dk DX6_answer_1 18 rfl) rfl ?_
      refine wp_iload_n hX (dk DX6_answer_1 19 rfl) rfl ?_
      refine wp_ixor hX (dk DX6_answer_1 20 rfl) ?_
      exact wp_ireturn hX hR (dk DX6_answer_1 21 rfl) rfl (Nat.le_refl _) (Nat.le_refl _) (⟨_, _, _, rfl, rfl, rfl, rfl, h4, by simpa [List.append_assoc] using h5⟩)
    · obtain rfl : r = 0 := by omega
      obtain rfl : a = 3 := by omega
      rw [show x_bods (0 * 4 + 3) = 2 from rfl] at h5
      refine wp_lookup (off := 120) (tgt := 213) hX (dk DX6_answer 50 rfl) (by decide) (by decide) (by decide) ?_
      refine wp_aload_n hX (dk DX6_answer 55 rfl) rfl ?_
      refine wp_iload_n hX (dk DX6_answer 56 rfl) rfl ?_
      refine wp_iconst (v := 1) hX (dk DX6_answer 57 rfl) (by decide) ?_
      refine wp_iload hX (dk DX6_answer 58 rfl) rfl ?_
      refine wp_iload hX (dk DX6_answer 59 rfl) rfl ?_
      refine w_callVQ (As := [_, _, _, _]) lkX6_38 hX (dk DX6_answer_1 0 rfl) rfl rfl (by decide) hN (hO f_ _ n k0 1 x hn hk (by decide) hf1 h5 (by simp at hl ⊢; omega)) (fun v_1 sw_1 f_1 g_1 hq_1 => ?_)
      obtain ⟨rfl, rfl, rfl, k41, k51⟩ := hq_1
      have hf11 : f_1 71 n = nI k0 := by rw [k41.1 71 (by decide) (by decide)]; exact hf1
      show WP _ _ _ 223 [_, _, _, _, _, _, _, _, _, _] [_] _
      refine wp_aload_n hX (dk DX6_answer_1 1 rfl) rfl ?_
      refine wp_iload_n hX (dk DX6_answer_1 2 rfl) rfl ?_
      refine wp_iconst (v := 2) hX (dk DX6_answer_1 3 rfl) (by decide) ?_
      refine wp_iconst (v := 1) hX (dk DX6_answer_1 4 rfl) (by decide) ?_
      refine wp_iload hX (dk DX6_answer_1 5 rfl) rfl ?_
      refine w_callVQ (As := [_, _, _, _]) lkX6_38 hX (dk DX6_answer_1 6 rfl) rfl rfl (by simp [Value.category]) hN (hO f_1 _ n k0 2 1 hn hk (by decide) hf11 k51 (by simp at hl ⊢; omega)) (fun v_2 sw_2 f_2 g_2 hq_2 => ?_)
      obtain ⟨rfl, rfl, rfl, k42, k52⟩ := hq_2
      have hf12 : f_2 71 n = nI k0 := by rw [k42.1 71 (by decide) (by decide)]; exact hf11
      show WP _ _ _ 232 [_, _, _, _, _, _, _, _, _, _] [_, _] _
      refine wp_isub hX (dk DX6_answer_1 7 rfl) ?_
      exact wp_ireturn hX hR (dk DX6_answer_1 8 rfl) rfl (Nat.le_refl _) (Nat.le_refl _) (⟨_, _, _, rfl, rfl, rfl, rfl, ((h4).trans k41).trans k42, by simpa [List.append_assoc] using k52⟩)
    · obtain rfl : r = 1 := by omega
      obtain rfl : a = 0 := by omega
      rw [show x_bods (1 * 4 + 0) = 20 from rfl] at h5
      refine wp_lookup (off := 159) (tgt := 252) hX (dk DX6_answer 50 rfl) (by decide) (by decide) (by decide) ?_
      refine wp_aload_n hX (dk DX6_answer_1 22 rfl) rfl ?_
      refine wp_iload_n hX (dk DX6_answer_1 23 rfl) rfl ?_
      refine wp_iload hX (dk DX6_answer_1 24 rfl) rfl ?_
      refine wp_iconst (v := 0) hX (dk DX6_answer_1 25 rfl) (by decide) ?_
      refine wp_iload hX (dk DX6_answer_1 26 rfl) rfl ?_
      refine wp_iload hX (dk DX6_answer_1 27 rfl) rfl ?_
      refine w_callVQ (As := [_, _, _, _, _]) lkX6_42 hX (dk DX6_answer_1 28 rfl) rfl rfl (by decide) hN (hA f_ _ n k0 0 0 x hn hk (by decide) (by decide) hf1 h5 (by simp at hl ⊢; omega)) (fun v_1 sw_1 f_1 g_1 hq_1 => ?_)
      obtain ⟨rfl, rfl, rfl, k41, k51⟩ := hq_1
      have hf11 : f_1 71 n = nI k0 := by rw [k41.1 71 (by decide) (by decide)]; exact hf1
      show WP _ _ _ 264 [_, _, _, _, _, _, _, _, _, _] [_] _
      refine wp_iconst (v := 3) hX (dk DX6_answer_1 29 rfl) (by decide) ?_
      refine wp_iadd hX (dk DX6_answer_1 30 rfl) ?_
      exact wp_ireturn hX hR (dk DX6_answer_1 31 rfl) rfl (Nat.le_refl _) (Nat.le_refl _) (⟨_, _, _, rfl, rfl, rfl, rfl, (h4).trans k41, by simpa [List.append_assoc] using k51⟩)
    · obtain rfl : r = 2 := by omega
      obtain rfl : a = 1 := by omega
      rw [show x_bods (2 * 4 + 1) = 30 from rfl] at h5
      refine wp_lookup (off := 174) (tgt := 267) hX (dk DX6_answer 50 rfl) (by decide) (by decide) (by decide) ?_
      refine wp_aload_n hX (dk DX6_answer_1 32 rfl) rfl ?_
      refine wp_iload_n hX (dk DX6_answer_1 33 rfl) rfl ?_
      refine wp_iload hX (dk DX6_answer_1 34 rfl) rfl ?_
      refine wp_iconst (v := 1) hX (dk DX6_answer_1 35 rfl) (by decide) ?_
      refine wp_iload hX (dk DX6_answer_1 36 rfl) rfl ?_
      refine wp_iload hX (dk DX6_answer_1 37 rfl) rfl ?_
      refine w_callVQ (As := [_, _, _, _, _]) lkX6_42 hX (dk DX6_answer_1 38 rfl) rfl rfl (by decide) hN (hA f_ _ n k0 0 1 x hn hk (by decide) (by decide) hf1 h5 (by simp at hl ⊢; omega)) (fun v_1 sw_1 f_1 g_1 hq_1 => ?_)
      obtain ⟨rfl, rfl, rfl, k41, k51⟩ := hq_1
      have hf11 : f_1 71 n = nI k0 := by rw [k41.1 71 (by decide) (by decide)]; exact hf1
      show WP _ _ _ 279 [_, _, _, _, _, _, _, _, _, _] [_] _
      refine wp_ineg hX (dk DX6_answer_1 39 rfl) ?_
      exact wp_ireturn hX hR (dk DX6_answer_1 40 rfl) rfl (Nat.le_refl _) (Nat.le_refl _) (⟨_, _, _, rfl, rfl, rfl, rfl, (h4).trans k41, by simpa [List.append_assoc] using k51⟩)
    · obtain rfl : r = 3 := by omega
      obtain rfl : a = 1 := by omega
      rw [show x_bods (3 * 4 + 1) = 41 from rfl] at h5
      refine wp_lookup (off := 203) (tgt := 296) hX (dk DX6_answer 50 rfl) (by decide) (by decide) (by decide) ?_
      refine wp_aload_n hX (dk DX6_answer_1 51 rfl) rfl ?_
      refine wp_iload_n hX (dk DX6_answer_1 52 rfl) rfl ?_
      refine wp_iload hX (dk DX6_answer_1 53 rfl) rfl ?_
      refine wp_iconst (v := 1) hX (dk DX6_answer_1 54 rfl) (by decide) ?_
      refine wp_iload hX (dk DX6_answer_1 55 rfl) rfl ?_
      refine wp_iconst (v := 1) hX (dk DX6_answer_1 56 rfl) (by decide) ?_
      refine wp_iadd hX (dk DX6_answer_1 57 rfl) ?_
      refine wp_iload hX (dk DX6_answer_1 58 rfl) rfl ?_
      refine w_callVQ (As := [_, _, _, _, _]) lkX6_42 hX (dk DX6_answer_1 59 rfl) rfl rfl (by decide) hN (hA f_ _ n k0 2 1 (x + 1) hn hk (by decide) (by decide) hf1 h5 (by simp at hl ⊢; omega)) (fun v_1 sw_1 f_1 g_1 hq_1 => ?_)
      obtain ⟨rfl, rfl, rfl, k41, k51⟩ := hq_1
      have hf11 : f_1 71 n = nI k0 := by rw [k41.1 71 (by decide) (by decide)]; exact hf1
      show WP _ _ _ 310 [_, _, _, _, _, _, _, _, _, _] [_] _
      exact wp_ireturn hX hR (dk DX6_answer_2 0 rfl) rfl (Nat.le_refl _) (Nat.le_refl _) (⟨_, _, _, rfl, rfl, rfl, rfl, (h4).trans k41, by simpa [List.append_assoc] using k51⟩)
    · obtain rfl : r = 3 := by omega
      obtain rfl : a = 2 := by omega
      rw [show x_bods (3 * 4 + 2) = 40 from rfl] at h5
      refine wp_lookup (off := 188) (tgt := 281) hX (dk DX6_answer 50 rfl) (by decide) (by decide) (by decide) ?_
      refine wp_aload_n hX (dk DX6_answer_1 41 rfl) rfl ?_
      refine wp_iload_n hX (dk DX6_answer_1 42 rfl) rfl ?_
      refine wp_iload hX (dk DX6_answer_1 43 rfl) rfl ?_
      refine wp_iconst (v := 2) hX (dk DX6_answer_1 44 rfl) (by decide) ?_
      refine wp_iload hX (dk DX6_answer_1 45 rfl) rfl ?_
      refine wp_iload hX (dk DX6_answer_1 46 rfl) rfl ?_
      refine w_callVQ (As := [_, _, _, _, _]) lkX6_42 hX (dk DX6_answer_1 47 rfl) rfl rfl (by decide) hN (hA f_ _ n k0 2 2 x hn hk (by decide) (by decide) hf1 h5 (by simp at hl ⊢; omega)) (fun v_1 sw_1 f_1 g_1 hq_1 => ?_)
      obtain ⟨rfl, rfl, rfl, k41, k51⟩ := hq_1
      have hf11 : f_1 71 n = nI k0 := by rw [k41.1 71 (by decide) (by decide)]; exact hf1
      show WP _ _ _ 293 [_, _, _, _, _, _, _, _, _, _] [_] _
      refine wp_iconst (v := 3) hX (dk DX6_answer_1 48 rfl) (by decide) ?_
      refine wp_imul hX (dk DX6_answer_1 49 rfl) ?_
      exact wp_ireturn hX hR (dk DX6_answer_1 50 rfl) rfl (Nat.le_refl _) (Nat.le_refl _) (⟨_, _, _, rfl, rfl, rfl, rfl, (h4).trans k41, by simpa [List.append_assoc] using k51⟩)
    · obtain rfl : r = 4 := by omega
      obtain rfl : a = 2 := by omega
      rw [show x_bods (4 * 4 + 2) = 50 from rfl] at h5
      refine wp_lookup (off := 218) (tgt := 311) hX (dk DX6_answer 50 rfl) (by decide) (by decide) (by decide) ?_
      refine wp_aload_n hX (dk DX6_answer_2 1 rfl) rfl ?_
      refine wp_iload_n hX (dk DX6_answer_2 2 rfl) rfl ?_
      refine wp_iload hX (dk DX6_answer_2 3 rfl) rfl ?_
      refine wp_iconst (v := 2) hX (dk DX6_answer_2 4 rfl) (by decide) ?_
      refine wp_iload hX (dk DX6_answer_2 5 rfl) rfl ?_
      refine wp_iload hX (dk DX6_answer_2 6 rfl) rfl ?_
      refine w_callVQ (As := [_, _, _, _, _]) lkX6_42 hX (dk DX6_answer_2 7 rfl) rfl rfl (by decide) hN (hA f_ _ n k0 1 2 x hn hk (by decide) (by decide) hf1 h5 (by simp at hl ⊢; omega)) (fun v_1 sw_1 f_1 g_1 hq_1 => ?_)
      obtain ⟨rfl, rfl, rfl, k41, k51⟩ := hq_1
      have hf11 : f_1 71 n = nI k0 := by rw [k41.1 71 (by decide) (by decide)]; exact hf1
      show WP _ _ _ 323 [_, _, _, _, _, _, _, _, _, _] [_] _
      refine wp_aload_n hX (dk DX6_answer_2 8 rfl) rfl ?_
      refine wp_iload_n hX (dk DX6_answer_2 9 rfl) rfl ?_
      refine wp_iconst (v := 0) hX (dk DX6_answer_2 10 rfl) (by decide) ?_
      refine wp_iconst (v := 2) hX (dk DX6_answer_2 11 rfl) (by decide) ?_
      refine wp_iload hX (dk DX6_answer_2 12 rfl) rfl ?_
      refine w_callVQ (As := [_, _, _, _]) lkX6_38 hX (dk DX6_answer_2 13 rfl) rfl rfl (by simp [Value.category]) hN (hO f_1 _ n k0 0 2 hn hk (by decide) hf11 k51 (by simp at hl ⊢; omega)) (fun v_2 sw_2 f_2 g_2 hq_2 => ?_)
      obtain ⟨rfl, rfl, rfl, k42, k52⟩ := hq_2
      have hf12 : f_2 71 n = nI k0 := by rw [k42.1 71 (by decide) (by decide)]; exact hf11
      show WP _ _ _ 332 [_, _, _, _, _, _, _, _, _, _] [_, _] _
      refine wp_isub hX (dk DX6_answer_2 14 rfl) ?_
      exact wp_ireturn hX hR (dk DX6_answer_2 15 rfl) rfl (Nat.le_refl _) (Nat.le_refl _) (⟨_, _, _, rfl, rfl, rfl, rfl, ((h4).trans k41).trans k42, by simpa [List.append_assoc] using k52⟩)
    · obtain rfl : r = 5 := by omega
      obtain rfl : a = 3 := by omega
      rw [show x_bods (5 * 4 + 3) = 60 from rfl] at h5
      refine wp_lookup (off := 241) (tgt := 334) hX (dk DX6_answer 50 rfl) (by decide) (by decide) (by decide) ?_
      refine wp_aload_n hX (dk DX6_answer_2 16 rfl) rfl ?_
      refine wp_iload_n hX (dk DX6_answer_2 17 rfl) rfl ?_
      refine wp_iload hX (dk DX6_answer_2 18 rfl) rfl ?_
      refine wp_iconst (v := 3) hX (dk DX6_answer_2 19 rfl) (by decide) ?_
      refine wp_iload hX (dk DX6_answer_2 20 rfl) rfl ?_
      refine wp_iload hX (dk DX6_answer_2 21 rfl) rfl ?_
      refine w_callVQ (As := [_, _, _, _, _]) lkX6_42 hX (dk DX6_answer_2 22 rfl) rfl rfl (by decide) hN (hA f_ _ n k0 3 3 x hn hk (by decide) (by decide) hf1 h5 (by simp at hl ⊢; omega)) (fun v_1 sw_1 f_1 g_1 hq_1 => ?_)
      obtain ⟨rfl, rfl, rfl, k41, k51⟩ := hq_1
      have hf11 : f_1 71 n = nI k0 := by rw [k41.1 71 (by decide) (by decide)]; exact hf1
      show WP _ _ _ 346 [_, _, _, _, _, _, _, _, _, _] [_] _
      refine wp_iconst (v := 5) hX (dk DX6_answer_2 23 rfl) (by decide) ?_
      refine wp_ixor hX (dk DX6_answer_2 24 rfl) ?_
      exact wp_ireturn hX hR (dk DX6_answer_2 25 rfl) rfl (Nat.le_refl _) (Nat.le_refl _) (⟨_, _, _, rfl, rfl, rfl, rfl, (h4).trans k41, by simpa [List.append_assoc] using k51⟩)
    · obtain rfl : r = 6 := by omega
      obtain rfl : a = 0 := by omega
      rw [show x_bods (6 * 4 + 0) = 70 from rfl] at h5
      refine wp_lookup (off := 256) (tgt := 349) hX (dk DX6_answer 50 rfl) (by decide) (by decide) (by decide) ?_
      refine wp_aload_n hX (dk DX6_answer_2 26 rfl) rfl ?_
      refine wp_iload_n hX (dk DX6_answer_2 27 rfl) rfl ?_
      refine wp_iload hX (dk DX6_answer_2 28 rfl) rfl ?_
      refine wp_iconst (v := 0) hX (dk DX6_answer_2 29 rfl) (by decide) ?_
      refine wp_iload hX (dk DX6_answer_2 30 rfl) rfl ?_
      refine wp_iload hX (dk DX6_answer_2 31 rfl) rfl ?_
      refine w_callVQ (As := [_, _, _, _, _]) lkX6_42 hX (dk DX6_answer_2 32 rfl) rfl rfl (by decide) hN (hA f_ _ n k0 0 0 x hn hk (by decide) (by decide) hf1 h5 (by simp at hl ⊢; omega)) (fun v_1 sw_1 f_1 g_1 hq_1 => ?_)
      obtain ⟨rfl, rfl, rfl, k41, k51⟩ := hq_1
      have hf11 : f_1 71 n = nI k0 := by rw [k41.1 71 (by decide) (by decide)]; exact hf1
      show WP _ _ _ 361 [_, _, _, _, _, _, _, _, _, _] [_] _
      refine wp_iconst (v := 2) hX (dk DX6_answer_2 33 rfl) (by decide) ?_
      refine wp_imul hX (dk DX6_answer_2 34 rfl) ?_
      exact wp_ireturn hX hR (dk DX6_answer_2 35 rfl) rfl (Nat.le_refl _) (Nat.le_refl _) (⟨_, _, _, rfl, rfl, rfl, rfl, (h4).trans k41, by simpa [List.append_assoc] using k51⟩)
    · obtain rfl : r = 7 := by omega
      obtain rfl : a = 1 := by omega
      rw [show x_bods (7 * 4 + 1) = 80 from rfl] at h5
      refine wp_lookup (off := 271) (tgt := 364) hX (dk DX6_answer 50 rfl) (by decide) (by decide) (by decide) ?_
      refine wp_aload_n hX (dk DX6_answer_2 36 rfl) rfl ?_
      refine wp_iload_n hX (dk DX6_answer_2 37 rfl) rfl ?_
      refine wp_iload hX (dk DX6_answer_2 38 rfl) rfl ?_
      refine wp_iconst (v := 1) hX (dk DX6_answer_2 39 rfl) (by decide) ?_
      refine wp_iload hX (dk DX6_answer_2 40 rfl) rfl ?_
      refine wp_iload hX (dk DX6_answer_2 41 rfl) rfl ?_
      refine w_callVQ (As := [_, _, _, _, _]) lkX6_42 hX (dk DX6_answer_2 42 rfl) rfl rfl (by decide) hN (hA f_ _ n k0 4 1 x hn hk (by decide) (by decide) hf1 h5 (by simp at hl ⊢; omega)) (fun v_1 sw_1 f_1 g_1 hq_1 => ?_)
      obtain ⟨rfl, rfl, rfl, k41, k51⟩ := hq_1
      have hf11 : f_1 71 n = nI k0 := by rw [k41.1 71 (by decide) (by decide)]; exact hf1
      show WP _ _ _ 376 [_, _, _, _, _, _, _, _, _, _] [_] _
      refine wp_aload_n hX (dk DX6_answer_2 43 rfl) rfl ?_
      refine wp_iload_n hX (dk DX6_answer_2 44 rfl) rfl ?_
      refine wp_iconst (v := 2) hX (dk DX6_answer_2 45 rfl) (by decide) ?_
      refine wp_iconst (v := 2) hX (dk DX6_answer_2 46 rfl) (by decide) ?_
      refine wp_iload hX (dk DX6_answer_2 47 rfl) rfl ?_
      refine w_callVQ (As := [_, _, _, _]) lkX6_38 hX (dk DX6_answer_2 48 rfl) rfl rfl (by simp [Value.category]) hN (hO f_1 _ n k0 2 2 hn hk (by decide) hf11 k51 (by simp at hl ⊢; omega)) (fun v_2 sw_2 f_2 g_2 hq_2 => ?_)
      obtain ⟨rfl, rfl, rfl, k42, k52⟩ := hq_2
      have hf12 : f_2 71 n = nI k0 := by rw [k42.1 71 (by decide) (by decide)]; exact hf11
      show WP _ _ _ 385 [_, _, _, _, _, _, _, _, _, _] [_, _] _
      refine wp_iadd hX (dk DX6_answer_2 49 rfl) ?_
      exact wp_ireturn hX hR (dk DX6_answer_2 50 rfl) rfl (Nat.le_refl _) (Nat.le_refl _) (⟨_, _, _, rfl, rfl, rfl, rfl, ((h4).trans k41).trans k42, by simpa [List.append_assoc] using k52⟩)
    · obtain rfl : r = 7 := by omega
      obtain rfl : a = 3 := by omega
      rw [show x_bods (7 * 4 + 3) = 81 from rfl] at h5
      refine wp_lookup (off := 294) (tgt := 387) hX (dk DX6_answer 50 rfl) (by decide) (by decide) (by decide) ?_
      refine wp_aload_n hX (dk DX6_answer_2 51 rfl) rfl ?_
      refine wp_iload_n hX (dk DX6_answer_2 52 rfl) rfl ?_
      refine wp_iload hX (dk DX6_answer_2 53 rfl) rfl ?_
      refine wp_iconst (v := 3) hX (dk DX6_answer_2 54 rfl) (by decide) ?_
      refine wp_iload hX (dk DX6_answer_2 55 rfl) rfl ?_
      refine wp_iload hX (dk DX6_answer_2 56 rfl) rfl ?_
      refine w_callVQ (As := [_, _, _, _, _]) lkX6_42 hX (dk DX6_answer_2 57 rfl) rfl rfl (by decide) hN (hA f_ _ n k0 4 3 x hn hk (by decide) (by decide) hf1 h5 (by simp at hl ⊢; omega)) (fun v_1 sw_1 f_1 g_1 hq_1 => ?_)
      obtain ⟨rfl, rfl, rfl, k41, k51⟩ := hq_1
      have hf11 : f_1 71 n = nI k0 := by rw [k41.1 71 (by decide) (by decide)]; exact hf1
      show WP _ _ _ 399 [_, _, _, _, _, _, _, _, _, _] [_] _
      refine wp_iconst (v := 1) hX (dk DX6_answer_2 58 rfl) (by decide) ?_
      refine wp_isub hX (dk DX6_answer_2 59 rfl) ?_
      exact wp_ireturn hX hR (dk DX6_answer_3 0 rfl) rfl (Nat.le_refl _) (Nat.le_refl _) (⟨_, _, _, rfl, rfl, rfl, rfl, (h4).trans k41, by simpa [List.append_assoc] using k51⟩)
  have lp : ∀ (h k u : Nat), k < 8 → htN k ≤ h → u + h ≤ 6 → rsv a 4 k = r → WP X 0 0 6 [some (.ref 70), some (.int (nI n)), some (.int (nI fr)), some (.int (nI a)), some (.int x), some (.int (nI (40 - (m + 1)))), some (.int (nI k)), some (.int (nI u)), none, none] [] (S sw f g) := by
    intro h
    induction h with
    | zero =>
      intro k u hk1 hh hu e
      refine wp_iload hX (dk DX6_answer 4 rfl) rfl ?_
      refine wp_bipush (v := 8) hX (dk DX6_answer 5 rfl) (by decide) ?_
      refine wp_icmp_ge (tgt := 45) hX (dk DX6_answer 6 rfl) (by decide) (fun h_ => absurd h_ ((nI_ge (b := 8) (by omega) (by omega)))) (fun _ => ?_)
      refine wp_iload hX (dk DX6_answer 7 rfl) rfl ?_
      refine wp_if_lt (tgt := 45) hX (dk DX6_answer 8 rfl) (by decide) (fun h_ => absurd h_ ((nI_pos (by omega)))) (fun _ => ?_)
      refine wp_bods hX fsX6_46 (dk DX6_answer 9 rfl) ?_
      refine wp_iload hX (dk DX6_answer 10 rfl) rfl ?_
      refine wp_iconst (v := 4) hX (dk DX6_answer 11 rfl) (by decide) ?_
      refine wp_imul hX (dk DX6_answer 12 rfl) ?_
      refine wp_iload_n hX (dk DX6_answer 13 rfl) rfl ?_
      refine wp_iadd hX (dk DX6_answer 14 rfl) ?_
      rw [ixA]
      refine wp_t3 hX (dk DX6_answer 15 rfl) (vp_in_nI (by omega) (by omega)) ?_
      rw [nI_clamp (by omega)]
      refine wp_if_ne (tgt := 45) hX (dk DX6_answer 16 rfl) (by decide) (fun hc => ?_) (fun hc => ?_)
      · rw [(rs_f4 k hk1 a ha).resolve_left hc] at e
        subst e
        exact fin _
      · exfalso
        have := rs_st k hk1 a ha hc
        have h9 := ((ab_ok k hk1).1 this).2.2
        omega
    | succ h ih =>
      intro k u hk1 hh hu e
      refine wp_iload hX (dk DX6_answer 4 rfl) rfl ?_
      refine wp_bipush (v := 8) hX (dk DX6_answer 5 rfl) (by decide) ?_
      refine wp_icmp_ge (tgt := 45) hX (dk DX6_answer 6 rfl) (by decide) (fun h_ => absurd h_ ((nI_ge (b := 8) (by omega) (by omega)))) (fun _ => ?_)
      refine wp_iload hX (dk DX6_answer 7 rfl) rfl ?_
      refine wp_if_lt (tgt := 45) hX (dk DX6_answer 8 rfl) (by decide) (fun h_ => absurd h_ ((nI_pos (by omega)))) (fun _ => ?_)
      refine wp_bods hX fsX6_46 (dk DX6_answer 9 rfl) ?_
      refine wp_iload hX (dk DX6_answer 10 rfl) rfl ?_
      refine wp_iconst (v := 4) hX (dk DX6_answer 11 rfl) (by decide) ?_
      refine wp_imul hX (dk DX6_answer 12 rfl) ?_
      refine wp_iload_n hX (dk DX6_answer 13 rfl) rfl ?_
      refine wp_iadd hX (dk DX6_answer 14 rfl) ?_
      rw [ixA]
      refine wp_t3 hX (dk DX6_answer 15 rfl) (vp_in_nI (by omega) (by omega)) ?_
      rw [nI_clamp (by omega)]
      refine wp_if_ne (tgt := 45) hX (dk DX6_answer 16 rfl) (by decide) (fun hc => ?_) (fun hc => ?_)
      · rw [(rs_f4 k hk1 a ha).resolve_left hc] at e
        subst e
        exact fin _
      · obtain ⟨b1, b2, b3⟩ := (ab_ok k hk1).1 (rs_st k hk1 a ha hc)
        refine wp_abov hX fsX6_31 (dk DX6_answer 17 rfl) ?_
        refine wp_iload hX (dk DX6_answer 18 rfl) rfl ?_
        refine wp_t2 hX (dk DX6_answer 19 rfl) (vp_in_nI (by omega) (by omega)) ?_
        rw [nI_clamp (by omega), b1]
        refine wp_istore hX (dk DX6_answer 20 rfl) rfl hN (Nat.le_of_ble_eq_true rfl) ?_
        show WP _ _ _ 39 [_, _, _, _, _, _, _, _, _, _] [] _
        refine wp_iinc hX (dk DX6_answer 21 rfl) rfl (nI_inc _) rfl hN ?_
        show WP _ _ _ 42 [_, _, _, _, _, _, _, _, _, _] [] _
        refine wp_goto (tgt := 6) hX (dk DX6_answer 22 rfl) (by decide) ?_
        -- to 6
        refine ih (abN k) (u + 1) b2 (by omega) (by omega) ?_
        rw [← e]
        have h3 := (ab_ok k hk1).2.2
        rw [← rs_f3 (abN k) b2 a ha]
        show _ = if x_bods (k * 4 + a) = 0 then rsv a 3 (abN k) else k
        rw [if_pos hc]
  exact lp 3 fr 0 hfr (ab_ok fr hfr).2.2 (by omega) hr.symm
theorem k_ans (sw : Bool) (g : Nat → Nat → Int64) : ∀ (m D : Nat), m ≤ 40 → aCT (D + 2 * m) m sw g
  | 0, D, _ => k_ans0 D sw g
  | m + 1, D, h => by
    have h1 := k_ans sw g m (D + 1) (by omega)
    have h2 := k_own _ m sw g (k_ans sw g m D (by omega))
    have h3 := k_ansS (D + 2 * m) m sw g (by omega) (by rw [show D + 2 * m + 1 = D + 1 + 2 * m by omega]; exact h1) h2
    rw [show D + 2 * (m + 1) = D + 2 * m + 2 by omega]
    exact h3
theorem jT_len : ∀ k, k < 8 → ∀ a, a < 4 → (jT k 40 k a).length ≤ 1000 := by decide +kernel
theorem k_start0 (d : Nat) (sw : Bool) (f : Nat → Nat → Int32) (g : Nat → Nat → Int64) (n a x : Int32) (h : ¬ (jin n (f 70 2) = 1 ∧ ¬ a < 0 ∧ a < 4)) : CT (d + 1) 0 0 iX6_start [.ref 70, .int n, .int a, .int x] (S sw f g) (QR (some (.int 0)) (S sw (u2 f 70 3 0) g)) := by
  refine CT.of rfl (Nat.le_of_ble_eq_true rfl) (fun X hX hR hN _ => ?_)
  have hX : Good X RX6 cX6_start (d + 1) 0 0 := hX
  have hN : x_nl X = 4 := hN
  show WP X 0 0 0 [_, _, _, _] [] _
  refine wp_aload_n hX (dk DX6_start 0 rfl) rfl ?_
  refine wp_iconst (v := 0) hX (dk DX6_start 1 rfl) (by decide) ?_
  refine w_puti hX fpX6_22 (dk DX6_start 2 rfl) rfl ?_
  refine wp_aload_n hX (dk DX6_start 3 rfl) rfl ?_
  refine wp_iload_n hX (dk DX6_start 4 rfl) rfl ?_
  refine w_callV (As := [_]) lkX6_34 hX (dk DX6_start 5 rfl) rfl rfl (by decide) hN (k_sthas d sw _ g n) ?_
  show WP _ _ _ 10 [_, _, _, _] [_] _
  rw [show u2 f 70 3 0 70 2 = f 70 2 from u2_off _ _ _ (by decide)]
  refine wp_if_eq (tgt := 22) hX (dk DX6_start 6 rfl) (by decide) (fun h1 => ?_) (fun h1 => ?_)
  · refine wp_iconst (v := 0) hX (dk DX6_start 12 rfl) (by decide) ?_
    exact wp_ireturn hX hR (dk DX6_start 13 rfl) rfl (Nat.le_refl _) (Nat.le_refl _) (⟨rfl, rfl⟩)
  · refine wp_iload_n hX (dk DX6_start 7 rfl) rfl ?_
    refine wp_if_lt (tgt := 22) hX (dk DX6_start 8 rfl) (by decide) (fun h2 => ?_) (fun h2 => ?_)
    · refine wp_iconst (v := 0) hX (dk DX6_start 12 rfl) (by decide) ?_
      exact wp_ireturn hX hR (dk DX6_start 13 rfl) rfl (Nat.le_refl _) (Nat.le_refl _) (⟨rfl, rfl⟩)
    · refine wp_iload_n hX (dk DX6_start 9 rfl) rfl ?_
      refine wp_iconst (v := 4) hX (dk DX6_start 10 rfl) (by decide) ?_
      refine wp_icmp_lt (tgt := 24) hX (dk DX6_start 11 rfl) (by decide) (fun h3 => ?_) (fun h3 => ?_)
      · exfalso
        refine h ⟨?_, h2, h3⟩
        unfold jin at h1 ⊢
        by_cases c : ¬ n < 0 ∧ n < f 70 2
        · rw [if_pos c]
        · rw [if_neg c] at h1
          exact absurd rfl h1
      · refine wp_iconst (v := 0) hX (dk DX6_start 12 rfl) (by decide) ?_
        exact wp_ireturn hX hR (dk DX6_start 13 rfl) rfl (Nat.le_refl _) (Nat.le_refl _) (⟨rfl, rfl⟩)
theorem k_start (d : Nat) (sw : Bool) (f : Nat → Nat → Int32) (g : Nat → Nat → Int64) (c n k0 a : Nat) (x : Int32) (hc : f 70 2 = nI c) (hc50 : c ≤ 50) (hn : n < c) (hk : k0 < 8) (ha : a < 4) (hf : f 71 n = nI k0) : CT (d + 82) 0 0 iX6_start [.ref 70, .int (nI n), .int (nI a), .int x] (S sw f g) (QS (fun r sw2 f2 g2 => r = some (.int (jV k0 (nI n) 40 k0 a x)) ∧ sw2 = sw ∧ g2 = g ∧ trSm f f2 ∧ trOk f2 (jT k0 40 k0 a))) := by
  refine CT.of rfl (Nat.le_of_ble_eq_true rfl) (fun X hX hR hN _ => ?_)
  have hX : Good X RX6 cX6_start (d + 82) 0 0 := hX
  have hN : x_nl X = 4 := hN
  show WP X 0 0 0 [_, _, _, _] [] _
  refine wp_aload_n hX (dk DX6_start 0 rfl) rfl ?_
  refine wp_iconst (v := 0) hX (dk DX6_start 1 rfl) (by decide) ?_
  refine w_puti hX fpX6_22 (dk DX6_start 2 rfl) rfl ?_
  refine wp_aload_n hX (dk DX6_start 3 rfl) rfl ?_
  refine wp_iload_n hX (dk DX6_start 4 rfl) rfl ?_
  refine w_callV (As := [_]) lkX6_34 hX (dk DX6_start 5 rfl) rfl rfl (by decide) hN (k_sthas (d + 81) sw _ g (nI n)) ?_
  show WP _ _ _ 10 [_, _, _, _] [_] _
  rw [show u2 f 70 3 0 70 2 = nI c from (u2_off _ _ _ (by decide)).trans hc]
  have h1 : jin (nI n) (nI c) = 1 := if_pos ⟨nI_pos (by omega), nI_lt hn (by omega)⟩
  rw [h1]
  refine wp_if_eq (tgt := 22) hX (dk DX6_start 6 rfl) (by decide) (fun h_ => absurd h_ ((by decide))) (fun _ => ?_)
  refine wp_iload_n hX (dk DX6_start 7 rfl) rfl ?_
  refine wp_if_lt (tgt := 22) hX (dk DX6_start 8 rfl) (by decide) (fun h_ => absurd h_ ((nI_pos (by omega)))) (fun _ => ?_)
  refine wp_iload_n hX (dk DX6_start 9 rfl) rfl ?_
  refine wp_iconst (v := 4) hX (dk DX6_start 10 rfl) (by decide) ?_
  refine wp_icmp_lt (tgt := 24) hX (dk DX6_start 11 rfl) (by decide) (fun _ => ?_) (fun h_ => absurd ((nI_lt (b := 4) ha (by omega))) h_)
  have ht0 : trOk (u2 f 70 3 0) [] := ⟨by rw [u2_at]; rfl, by simp, fun j q _ h => by simp at h⟩
  refine wp_aload_n hX (dk DX6_start 14 rfl) rfl ?_
  refine wp_iload_n hX (dk DX6_start 15 rfl) rfl ?_
  refine wp_iload_n hX (dk DX6_start 16 rfl) rfl ?_
  refine wp_iload_n hX (dk DX6_start 17 rfl) rfl ?_
  refine wp_iconst (v := 0) hX (dk DX6_start 18 rfl) (by decide) ?_
  refine w_callVQ (As := [_, _, _, _]) lkX6_38 hX (dk DX6_start 19 rfl) rfl rfl (by decide) hN (k_own _ 40 sw g (k_ans sw g 40 d (by omega)) (u2 f 70 3 0) [] n k0 a x (by omega) hk ha (by rw [u2_ne _ _ _ (by decide)]; exact hf) ht0 (by have := jT_len k0 hk a ha; simpa using this)) (fun v_ sw_ f_ g_ hq_ => ?_)
  obtain ⟨rfl, rfl, rfl, h4, h5⟩ := hq_
  show WP _ _ _ 32 [_, _, _, _] [_] _
  exact wp_ireturn hX hR (dk DX6_start 20 rfl) rfl (Nat.le_refl _) (Nat.le_refl _) (⟨_, _, _, rfl, rfl, rfl, rfl, ⟨fun b g1 g2 => by rw [h4.1 b g1 g2, u2_ne _ _ _ g1], fun i hi => by rw [h4.2 i hi, u2_off _ _ _ hi]⟩, by simpa using h5⟩)
end
section
/-! ROWS: what only reads -/
/-- is figure i in the set s -/
abbrev jb (s : Int32) (i : Nat) : Int32 := jbit s (nI i)
/-- the larger, the smaller, as Math has them -/
def imx (x y : Int32) : Int32 := if x < y then y else x
def imn (x y : Int32) : Int32 := if y < x then y else x
/-- the most of a row over a set -/
def jmx (r : Nat → Int32) (s : Int32) : Nat → Int32
  | 0 => 0
  | k + 1 => if jb s k = 0 then jmx r s k else imx (jmx r s k) (r k)
theorem k_longestOf (d : Nat) (sw : Bool) (f : Nat → Nat → Int32) (g : Nat → Nat → Int64) (n : Nat) (s : Int32) (hn : f 1 4 = nI n) (hn10 : n ≤ 10) : CT (d + 1) 0 0 iX2_longestOf [.ref 53, .int s] (S sw f g) (QR (some (.int (jmx (f 54) s n))) (S sw f g)) := by
  refine CT.of rfl (Nat.le_of_ble_eq_true rfl) (fun X hX hR hN _ => ?_)
  have hX : Good X RX2 cX2_longestOf (d + 1) 0 0 := hX
  have hN : x_nl X = 4 := hN
  show WP X 0 0 0 [_, _, _, _] [] _
  refine wp_iconst (v := 0) hX (dk DX2_longestOf 0 rfl) (by decide) ?_
  refine wp_istore_n hX (dk DX2_longestOf 1 rfl) rfl rfl hN (Nat.le_of_ble_eq_true rfl) ?_
  show WP _ _ _ 2 [_, _, _, _] [] _
  refine wp_iconst (v := 0) hX (dk DX2_longestOf 2 rfl) (by decide) ?_
  refine wp_istore_n hX (dk DX2_longestOf 3 rfl) rfl rfl hN (Nat.le_of_ble_eq_true rfl) ?_
  show WP _ _ _ 4 [_, _, _, _] [] _
  have lo : ∀ (m i : Nat), i + m = n → WP X 0 0 4 [some (.ref 53), some (.int s), some (.int (jmx (f 54) s i)), some (.int (nI i))] [] (S sw f g) := by
    intro m
    induction m with
    | zero =>
      intro i hi
      obtain rfl : i = n := by omega
      refine wp_iload_n hX (dk DX2_longestOf 4 rfl) rfl ?_
      refine wp_aload_n hX (dk DX2_longestOf 5 rfl) rfl ?_
      refine w_getr hX flX2_24 (dk DX2_longestOf 6 rfl) rfl rfl ?_
      refine w_callV (As := []) lkX2_32 hX (dk DX2_longestOf 7 rfl) rfl rfl (by simp [Value.category]) hN (k_came d sw f g) ?_
      show WP _ _ _ 12 [_, _, _, _] [_, _] _
      refine wp_icmp_ge (tgt := 40) hX (dk DX2_longestOf 8 rfl) (by decide) (fun _ => ?_) (fun h_ => absurd ((by rw [hn]; exact nI_le (by omega) (by omega))) h_)
      refine wp_iload_n hX (dk DX2_longestOf 22 rfl) rfl ?_
      exact wp_ireturn hX hR (dk DX2_longestOf 23 rfl) rfl (Nat.le_refl _) (Nat.le_refl _) (⟨rfl, rfl⟩)
    | succ m ih =>
      intro i hi
      refine wp_iload_n hX (dk DX2_longestOf 4 rfl) rfl ?_
      refine wp_aload_n hX (dk DX2_longestOf 5 rfl) rfl ?_
      refine w_getr hX flX2_24 (dk DX2_longestOf 6 rfl) rfl rfl ?_
      refine w_callV (As := []) lkX2_32 hX (dk DX2_longestOf 7 rfl) rfl rfl (by simp [Value.category]) hN (k_came d sw f g) ?_
      show WP _ _ _ 12 [_, _, _, _] [_, _] _
      refine wp_icmp_ge (tgt := 40) hX (dk DX2_longestOf 8 rfl) (by decide) (fun h_ => absurd h_ ((by rw [hn]; exact nI_ge (by omega) (by omega)))) (fun _ => ?_)
      refine wp_iload_n hX (dk DX2_longestOf 9 rfl) rfl ?_
      refine wp_iload_n hX (dk DX2_longestOf 10 rfl) rfl ?_
      refine w_callS (As := [_, _]) lkX2_42 hX (dk DX2_longestOf 11 rfl) rfl (by decide) (k_holds d s (nI i) _) ?_
      show WP _ _ _ 20 [_, _, _, _] [_] _
      refine wp_if_eq (tgt := 34) hX (dk DX2_longestOf 12 rfl) (by decide) (fun h => ?_) (fun h => ?_)
      · refine wp_iinc hX (dk DX2_longestOf 20 rfl) rfl (nI_inc _) rfl hN ?_
        show WP _ _ _ 37 [_, _, _, _] [] _
        refine wp_goto (tgt := 4) hX (dk DX2_longestOf 21 rfl) (by decide) ?_
        -- to 4
        have := ih (i + 1) (by omega)
        rw [jmx, if_pos h] at this
        exact this
      · refine wp_iload_n hX (dk DX2_longestOf 13 rfl) rfl ?_
        refine wp_aload_n hX (dk DX2_longestOf 14 rfl) rfl ?_
        refine w_getr hX flX2_9 (dk DX2_longestOf 15 rfl) rfl rfl ?_
        refine wp_iload_n hX (dk DX2_longestOf 16 rfl) rfl ?_
        refine w_iald (j := _) hX (dk DX2_longestOf 17 rfl) rfl rfl (show _ < 10 by omega) ?_
        refine w_max hX lkX2_52 (dk DX2_longestOf 18 rfl) (by decide) ?_
        refine wp_istore_n hX (dk DX2_longestOf 19 rfl) rfl rfl hN (Nat.le_of_ble_eq_true rfl) ?_
        show WP _ _ _ 34 [_, _, _, _] [] _
        refine wp_iinc hX (dk DX2_longestOf 20 rfl) rfl (nI_inc _) rfl hN ?_
        show WP _ _ _ 37 [_, _, _, _] [] _
        refine wp_goto (tgt := 4) hX (dk DX2_longestOf 21 rfl) (by decide) ?_
        -- to 4
        have := ih (i + 1) (by omega)
        rw [jmx, if_neg h] at this
        exact this
  exact lo n 0 (by omega)
/-- the first of a set and a length -/
def jfl (r : Nat → Int32) (s l : Int32) : Nat → Nat → Int32
  | 0, _ => -2
  | k + 1, i => if ¬ l ≤ 0 ∧ ¬ jb s i = 0 ∧ r i = l then nI i else jfl r s l k (i + 1)
theorem k_firstOfLength (d : Nat) (sw : Bool) (f : Nat → Nat → Int32) (g : Nat → Nat → Int64) (n : Nat) (s l : Int32) (hn : f 1 4 = nI n) (hn10 : n ≤ 10) : CT (d + 1) 0 0 iX2_firstOfLength [.ref 53, .int s, .int l] (S sw f g) (QR (some (.int (jfl (f 54) s l n 0))) (S sw f g)) := by
  refine CT.of rfl (Nat.le_of_ble_eq_true rfl) (fun X hX hR hN _ => ?_)
  have hX : Good X RX2 cX2_firstOfLength (d + 1) 0 0 := hX
  have hN : x_nl X = 4 := hN
  show WP X 0 0 0 [_, _, _, _] [] _
  refine wp_iconst (v := 0) hX (dk DX2_firstOfLength 0 rfl) (by decide) ?_
  refine wp_istore_n hX (dk DX2_firstOfLength 1 rfl) rfl rfl hN (Nat.le_of_ble_eq_true rfl) ?_
  show WP _ _ _ 2 [_, _, _, _] [] _
  have lo : ∀ (m i : Nat), i + m = n → jfl (f 54) s l n 0 = jfl (f 54) s l m i → WP X 0 0 2 [some (.ref 53), some (.int s), some (.int l), some (.int (nI i))] [] (S sw f g) := by
    intro m
    induction m with
    | zero =>
      intro i hi e
      refine wp_iload_n hX (dk DX2_firstOfLength 2 rfl) rfl ?_
      refine wp_aload_n hX (dk DX2_firstOfLength 3 rfl) rfl ?_
      refine w_getr hX flX2_24 (dk DX2_firstOfLength 4 rfl) rfl rfl ?_
      refine w_callV (As := []) lkX2_32 hX (dk DX2_firstOfLength 5 rfl) rfl rfl (by simp [Value.category]) hN (k_came d sw f g) ?_
      show WP _ _ _ 10 [_, _, _, _] [_, _] _
      refine wp_icmp_ge (tgt := 43) hX (dk DX2_firstOfLength 6 rfl) (by decide) (fun _ => ?_) (fun h_ => absurd ((by rw [hn]; exact nI_le (by omega) (by omega))) h_)
      refine wp_bipush (v := -2) hX (dk DX2_firstOfLength 23 rfl) (by decide) ?_
      exact wp_ireturn hX hR (dk DX2_firstOfLength 24 rfl) rfl (Nat.le_refl _) (Nat.le_refl _) (⟨by rw [e]; rfl, rfl⟩)
    | succ m ih =>
      intro i hi e
      rw [show jfl (f 54) s l (m + 1) i = if ¬ l ≤ 0 ∧ ¬ jb s i = 0 ∧ f 54 i = l then nI i else jfl (f 54) s l m (i + 1) from rfl] at e
      refine wp_iload_n hX (dk DX2_firstOfLength 2 rfl) rfl ?_
      refine wp_aload_n hX (dk DX2_firstOfLength 3 rfl) rfl ?_
      refine w_getr hX flX2_24 (dk DX2_firstOfLength 4 rfl) rfl rfl ?_
      refine w_callV (As := []) lkX2_32 hX (dk DX2_firstOfLength 5 rfl) rfl rfl (by simp [Value.category]) hN (k_came d sw f g) ?_
      show WP _ _ _ 10 [_, _, _, _] [_, _] _
      refine wp_icmp_ge (tgt := 43) hX (dk DX2_firstOfLength 6 rfl) (by decide) (fun h_ => absurd h_ ((by rw [hn]; exact nI_ge (by omega) (by omega)))) (fun _ => ?_)
      refine wp_iload_n hX (dk DX2_firstOfLength 7 rfl) rfl ?_
      refine wp_if_le (tgt := 37) hX (dk DX2_firstOfLength 8 rfl) (by decide) (fun h1 => ?_) (fun h1 => ?_)
      · refine wp_iinc hX (dk DX2_firstOfLength 21 rfl) rfl (nI_inc _) rfl hN ?_
        show WP _ _ _ 40 [_, _, _, _] [] _
        refine wp_goto (tgt := 2) hX (dk DX2_firstOfLength 22 rfl) (by decide) ?_
        -- to 2
        rw [if_neg (fun q => q.1 h1)] at e
        exact ih (i + 1) (by omega) e
      · refine wp_iload_n hX (dk DX2_firstOfLength 9 rfl) rfl ?_
        refine wp_iload_n hX (dk DX2_firstOfLength 10 rfl) rfl ?_
        refine w_callS (As := [_, _]) lkX2_42 hX (dk DX2_firstOfLength 11 rfl) rfl (by decide) (k_holds d s (nI i) _) ?_
        show WP _ _ _ 22 [_, _, _, _] [_] _
        refine wp_if_eq (tgt := 37) hX (dk DX2_firstOfLength 12 rfl) (by decide) (fun h2 => ?_) (fun h2 => ?_)
        · refine wp_iinc hX (dk DX2_firstOfLength 21 rfl) rfl (nI_inc _) rfl hN ?_
          show WP _ _ _ 40 [_, _, _, _] [] _
          refine wp_goto (tgt := 2) hX (dk DX2_firstOfLength 22 rfl) (by decide) ?_
          -- to 2
          rw [if_neg (fun q => q.2.1 h2)] at e
          exact ih (i + 1) (by omega) e
        · refine wp_aload_n hX (dk DX2_firstOfLength 13 rfl) rfl ?_
          refine w_getr hX flX2_9 (dk DX2_firstOfLength 14 rfl) rfl rfl ?_
          refine wp_iload_n hX (dk DX2_firstOfLength 15 rfl) rfl ?_
          refine w_iald (j := _) hX (dk DX2_firstOfLength 16 rfl) rfl rfl (show _ < 10 by omega) ?_
          refine wp_iload_n hX (dk DX2_firstOfLength 17 rfl) rfl ?_
          refine wp_icmp_ne (tgt := 37) hX (dk DX2_firstOfLength 18 rfl) (by decide) (fun h3 => ?_) (fun h3 => ?_)
          · refine wp_iinc hX (dk DX2_firstOfLength 21 rfl) rfl (nI_inc _) rfl hN ?_
            show WP _ _ _ 40 [_, _, _, _] [] _
            refine wp_goto (tgt := 2) hX (dk DX2_firstOfLength 22 rfl) (by decide) ?_
            -- to 2
            rw [if_neg (fun q => h3 q.2.2)] at e
            exact ih (i + 1) (by omega) e
          · refine wp_iload_n hX (dk DX2_firstOfLength 19 rfl) rfl ?_
            exact wp_ireturn hX hR (dk DX2_firstOfLength 20 rfl) rfl (Nat.le_refl _) (Nat.le_refl _) (⟨by rw [e, if_pos ⟨h1, h2, h3⟩], rfl⟩)
  exact lo n 0 (by omega) rfl
/-- the k-th of the longest row out of a set: fuel, place, set -/
def jil (r B : Nat → Int32) (n : Nat) (k : Int32) : Nat → Nat → Int32 → Int32
  | 0, _, _ => -2
  | m + 1, i, s => if jfl r s (jmx r s n) n 0 = -2 ∨ nI i = k then jfl r s (jmx r s n) n 0 else jil r B n k m (i + 1) (B (jfl r s (jmx r s n) n 0).toNatClampNeg)
theorem jfl_in {r : Nat → Int32} {s l : Int32} : ∀ (k i : Nat), jfl r s l k i = -2 ∨ ∃ j, i ≤ j ∧ j < i + k ∧ jfl r s l k i = nI j ∧ ¬ jb s j = 0 ∧ r j = l
  | 0, i => Or.inl rfl
  | k + 1, i => by
    rw [jfl]
    split
    · next h => exact Or.inr ⟨i, by omega, by omega, rfl, h.2.1, h.2.2⟩
    · rcases jfl_in (r := r) (s := s) (l := l) k (i + 1) with h | ⟨j, h1, h2, h3⟩
      · exact Or.inl h
      · exact Or.inr ⟨j, by omega, by omega, h3⟩
theorem k_inLongest (d : Nat) (sw : Bool) (f : Nat → Nat → Int32) (g : Nat → Nat → Int64) (n : Nat) (s k : Int32) (hn : f 1 4 = nI n) (hn10 : n ≤ 10) : CT (d + 2) 0 0 iX2_inLongest [.ref 53, .int s, .int k] (S sw f g) (QR (some (.int (jil (f 54) (f 4) n k 10 0 s))) (S sw f g)) := by
  refine CT.of rfl (Nat.le_of_ble_eq_true rfl) (fun X hX hR hN _ => ?_)
  have hX : Good X RX2 cX2_inLongest (d + 2) 0 0 := hX
  have hN : x_nl X = 6 := hN
  show WP X 0 0 0 [_, _, _, _, _, _] [] _
  refine wp_iload_n hX (dk DX2_inLongest 0 rfl) rfl ?_
  refine wp_istore_n hX (dk DX2_inLongest 1 rfl) rfl rfl hN (Nat.le_of_ble_eq_true rfl) ?_
  show WP _ _ _ 2 [_, _, _, _, _, _] [] _
  refine wp_iconst (v := 0) hX (dk DX2_inLongest 2 rfl) (by decide) ?_
  refine wp_istore hX (dk DX2_inLongest 3 rfl) rfl hN (Nat.le_of_ble_eq_true rfl) ?_
  show WP _ _ _ 5 [_, _, _, _, _, _] [] _
  have lo : ∀ (m i : Nat) (u : Int32) (z : Option Value), i + m = 10 → jil (f 54) (f 4) n k 10 0 s = jil (f 54) (f 4) n k m i u → WP X 0 0 5 [some (.ref 53), some (.int s), some (.int k), some (.int u), some (.int (nI i)), z] [] (S sw f g) := by
    intro m
    induction m with
    | zero =>
      intro i u z hi e
      refine wp_iload hX (dk DX2_inLongest 4 rfl) rfl ?_
      refine wp_bipush (v := 10) hX (dk DX2_inLongest 5 rfl) (by decide) ?_
      refine wp_icmp_ge (tgt := 56) hX (dk DX2_inLongest 6 rfl) (by decide) (fun _ => ?_) (fun h_ => absurd ((nI_le (a := 10) (by omega) (by omega))) h_)
      refine wp_bipush (v := -2) hX (dk DX2_inLongest 29 rfl) (by decide) ?_
      exact wp_ireturn hX hR (dk DX2_inLongest 30 rfl) rfl (Nat.le_refl _) (Nat.le_refl _) (⟨by rw [e]; rfl, rfl⟩)
    | succ m ih =>
      intro i u z hi e
      rw [show jil (f 54) (f 4) n k (m + 1) i u = if jfl (f 54) u (jmx (f 54) u n) n 0 = -2 ∨ nI i = k then jfl (f 54) u (jmx (f 54) u n) n 0 else jil (f 54) (f 4) n k m (i + 1) (f 4 (jfl (f 54) u (jmx (f 54) u n) n 0).toNatClampNeg) from rfl] at e
      refine wp_iload hX (dk DX2_inLongest 4 rfl) rfl ?_
      refine wp_bipush (v := 10) hX (dk DX2_inLongest 5 rfl) (by decide) ?_
      refine wp_icmp_ge (tgt := 56) hX (dk DX2_inLongest 6 rfl) (by decide) (fun h_ => absurd h_ ((nI_ge (b := 10) (by omega) (by omega)))) (fun _ => ?_)
      refine wp_aload_n hX (dk DX2_inLongest 7 rfl) rfl ?_
      refine wp_iload_n hX (dk DX2_inLongest 8 rfl) rfl ?_
      refine wp_aload_n hX (dk DX2_inLongest 9 rfl) rfl ?_
      refine wp_iload_n hX (dk DX2_inLongest 10 rfl) rfl ?_
      refine w_callV (As := [_]) lkX2_49 hX (dk DX2_inLongest 11 rfl) rfl rfl (by simp [Value.category]) hN (k_longestOf d sw f g n u hn hn10) ?_
      show WP _ _ _ 19 [_, _, _, _, _, _] [_, _, _] _
      refine w_callV (As := [_, _]) lkX2_58 hX (dk DX2_inLongest 12 rfl) rfl rfl (by decide) hN (k_firstOfLength d sw f g n u _ hn hn10) ?_
      show WP _ _ _ 22 [_, _, _, _, _, _] [_] _
      refine wp_istore hX (dk DX2_inLongest 13 rfl) rfl hN (Nat.le_of_ble_eq_true rfl) ?_
      show WP _ _ _ 24 [_, _, _, _, _, _] [] _
      refine wp_iload hX (dk DX2_inLongest 14 rfl) rfl ?_
      refine wp_bipush (v := -2) hX (dk DX2_inLongest 15 rfl) (by decide) ?_
      refine wp_icmp_eq (tgt := 37) hX (dk DX2_inLongest 16 rfl) (by decide) (fun h1 => ?_) (fun h1 => ?_)
      · refine wp_iload hX (dk DX2_inLongest 20 rfl) rfl ?_
        rw [if_pos (Or.inl h1)] at e
        exact wp_ireturn hX hR (dk DX2_inLongest 21 rfl) rfl (Nat.le_refl _) (Nat.le_refl _) (⟨by rw [e], rfl⟩)
      · refine wp_iload hX (dk DX2_inLongest 17 rfl) rfl ?_
        refine wp_iload_n hX (dk DX2_inLongest 18 rfl) rfl ?_
        refine wp_icmp_ne (tgt := 40) hX (dk DX2_inLongest 19 rfl) (by decide) (fun h2 => ?_) (fun h2 => ?_)
        · rw [if_neg (fun q => q.elim h1 h2)] at e
          obtain ⟨j, hj1, hj2, hj3, -⟩ := (jfl_in (r := f 54) (s := u) (l := jmx (f 54) u n) n 0).resolve_left h1
          rw [hj3] at e ⊢
          rw [nI_clamp (by omega)] at e
          refine wp_aload_n hX (dk DX2_inLongest 22 rfl) rfl ?_
          refine w_getr hX flX2_24 (dk DX2_inLongest 23 rfl) rfl rfl ?_
          refine wp_iload hX (dk DX2_inLongest 24 rfl) rfl ?_
          refine w_callV (As := [_]) lkX2_46 hX (dk DX2_inLongest 25 rfl) rfl rfl (by decide) hN (k_outOf (d + 1) sw f g j (by omega)) ?_
          show WP _ _ _ 49 [_, _, _, _, _, _] [_] _
          refine wp_istore_n hX (dk DX2_inLongest 26 rfl) rfl rfl hN (Nat.le_of_ble_eq_true rfl) ?_
          show WP _ _ _ 50 [_, _, _, _, _, _] [] _
          refine wp_iinc hX (dk DX2_inLongest 27 rfl) rfl (nI_inc _) rfl hN ?_
          show WP _ _ _ 53 [_, _, _, _, _, _] [] _
          refine wp_goto (tgt := 5) hX (dk DX2_inLongest 28 rfl) (by decide) ?_
          -- to 5
          exact ih (i + 1) _ _ (by omega) e
        · refine wp_iload hX (dk DX2_inLongest 20 rfl) rfl ?_
          rw [if_pos (Or.inr h2)] at e
          exact wp_ireturn hX hR (dk DX2_inLongest 21 rfl) rfl (Nat.le_refl _) (Nat.le_refl _) (⟨by rw [e], rfl⟩)
  exact lo 10 0 s none (by omega) rfl
/-- the first of a set -/
def jfw (s : Int32) : Nat → Nat → Int32
  | 0, _ => -2
  | k + 1, i => if jb s i = 0 then jfw s k (i + 1) else nI i
theorem k_firstWinning (d : Nat) (sw : Bool) (f : Nat → Nat → Int32) (g : Nat → Nat → Int64) (n : Nat) (s : Int32) (hn : f 1 4 = nI n) (hn10 : n ≤ 10) : CT (d + 1) 0 0 iX2_firstWinning [.ref 53, .int s] (S sw f g) (QR (some (.int (jfw (s &&& f 53 6) n 0))) (S sw f g)) := by
  refine CT.of rfl (Nat.le_of_ble_eq_true rfl) (fun X hX hR hN _ => ?_)
  have hX : Good X RX2 cX2_firstWinning (d + 1) 0 0 := hX
  have hN : x_nl X = 3 := hN
  show WP X 0 0 0 [_, _, _] [] _
  refine wp_iconst (v := 0) hX (dk DX2_firstWinning 0 rfl) (by decide) ?_
  refine wp_istore_n hX (dk DX2_firstWinning 1 rfl) rfl rfl hN (Nat.le_of_ble_eq_true rfl) ?_
  show WP _ _ _ 2 [_, _, _] [] _
  have lo : ∀ (m i : Nat), i + m = n → jfw (s &&& f 53 6) n 0 = jfw (s &&& f 53 6) m i → WP X 0 0 2 [some (.ref 53), some (.int s), some (.int (nI i))] [] (S sw f g) := by
    intro m
    induction m with
    | zero =>
      intro i hi e
      refine wp_iload_n hX (dk DX2_firstWinning 2 rfl) rfl ?_
      refine wp_aload_n hX (dk DX2_firstWinning 3 rfl) rfl ?_
      refine w_getr hX flX2_24 (dk DX2_firstWinning 4 rfl) rfl rfl ?_
      refine w_callV (As := []) lkX2_32 hX (dk DX2_firstWinning 5 rfl) rfl rfl (by simp [Value.category]) hN (k_came d sw f g) ?_
      show WP _ _ _ 10 [_, _, _] [_, _] _
      refine wp_icmp_ge (tgt := 34) hX (dk DX2_firstWinning 6 rfl) (by decide) (fun _ => ?_) (fun h_ => absurd ((by rw [hn]; exact nI_le (by omega) (by omega))) h_)
      refine wp_bipush (v := -2) hX (dk DX2_firstWinning 18 rfl) (by decide) ?_
      exact wp_ireturn hX hR (dk DX2_firstWinning 19 rfl) rfl (Nat.le_refl _) (Nat.le_refl _) (⟨by rw [e]; rfl, rfl⟩)
    | succ m ih =>
      intro i hi e
      rw [show jfw (s &&& f 53 6) (m + 1) i = if jb (s &&& f 53 6) i = 0 then jfw (s &&& f 53 6) m (i + 1) else nI i from rfl] at e
      refine wp_iload_n hX (dk DX2_firstWinning 2 rfl) rfl ?_
      refine wp_aload_n hX (dk DX2_firstWinning 3 rfl) rfl ?_
      refine w_getr hX flX2_24 (dk DX2_firstWinning 4 rfl) rfl rfl ?_
      refine w_callV (As := []) lkX2_32 hX (dk DX2_firstWinning 5 rfl) rfl rfl (by simp [Value.category]) hN (k_came d sw f g) ?_
      show WP _ _ _ 10 [_, _, _] [_, _] _
      refine wp_icmp_ge (tgt := 34) hX (dk DX2_firstWinning 6 rfl) (by decide) (fun h_ => absurd h_ ((by rw [hn]; exact nI_ge (by omega) (by omega)))) (fun _ => ?_)
      refine wp_iload_n hX (dk DX2_firstWinning 7 rfl) rfl ?_
      refine wp_aload_n hX (dk DX2_firstWinning 8 rfl) rfl ?_
      refine w_geti hX flX2_80 (dk DX2_firstWinning 9 rfl) (by decide) rfl ?_
      refine wp_iand hX (dk DX2_firstWinning 10 rfl) ?_
      refine wp_iload_n hX (dk DX2_firstWinning 11 rfl) rfl ?_
      refine w_callS (As := [_, _]) lkX2_42 hX (dk DX2_firstWinning 12 rfl) rfl (by decide) (k_holds d (s &&& f 53 6) (nI i) _) ?_
      show WP _ _ _ 23 [_, _, _] [_] _
      refine wp_if_eq (tgt := 28) hX (dk DX2_firstWinning 13 rfl) (by decide) (fun h => ?_) (fun h => ?_)
      · refine wp_iinc hX (dk DX2_firstWinning 16 rfl) rfl (nI_inc _) rfl hN ?_
        show WP _ _ _ 31 [_, _, _] [] _
        refine wp_goto (tgt := 2) hX (dk DX2_firstWinning 17 rfl) (by decide) ?_
        -- to 2
        rw [if_pos h] at e
        exact ih (i + 1) (by omega) e
      · refine wp_iload_n hX (dk DX2_firstWinning 14 rfl) rfl ?_
        rw [if_neg h] at e
        exact wp_ireturn hX hR (dk DX2_firstWinning 15 rfl) rfl (Nat.le_refl _) (Nat.le_refl _) (⟨by rw [e], rfl⟩)
  exact lo n 0 (by omega) rfl
/-- most, fewest over the cuts -/
def jcm (c : Nat → Int32) (s : Int32) : Nat → Int32
  | 0 => 0
  | k + 1 => if jb s k = 0 then jcm c s k else imx (jcm c s k) (1 + c k)
def jcf (c : Nat → Int32) (s : Int32) : Nat → Int32
  | 0 => 10
  | k + 1 => if jb s k = 0 then jcf c s k else imn (jcf c s k) (1 + c k)
def jcp (c : Nat → Int32) (s lo : Int32) (n : Nat) : Int32 := if s &&& lo = 0 then jcm c s n else jcf c (s &&& lo) n
theorem k_cutsPlayed (d : Nat) (sw : Bool) (f : Nat → Nat → Int32) (g : Nat → Nat → Int64) (n : Nat) (s : Int32) (hn : f 1 4 = nI n) (hn10 : n ≤ 10) : CT (d + 1) 0 0 iX2_cutsPlayed [.ref 53, .int s] (S sw f g) (QR (some (.int (jcp (f 57) s (f 53 6) n))) (S sw f g)) := by
  refine CT.of rfl (Nat.le_of_ble_eq_true rfl) (fun X hX hR hN _ => ?_)
  have hX : Good X RX2 cX2_cutsPlayed (d + 1) 0 0 := hX
  have hN : x_nl X = 6 := hN
  show WP X 0 0 0 [_, _, _, _, _, _] [] _
  have lo : ∀ (w : Int32), (if s &&& f 53 6 = 0 then (0 : Int32) else 1) = w → ∀ (m i : Nat), i + m = n → WP X 0 0 24 [some (.ref 53), some (.int s), some (.int w), some (.int (jcm (f 57) s i)), some (.int (jcf (f 57) (s &&& f 53 6) i)), some (.int (nI i))] [] (S sw f g) := by
    intro w hw m
    induction m with
    | zero =>
      intro i hi
      obtain rfl : i = n := by omega
      refine wp_iload hX (dk DX2_cutsPlayed 15 rfl) rfl ?_
      refine wp_aload_n hX (dk DX2_cutsPlayed 16 rfl) rfl ?_
      refine w_getr hX flX2_24 (dk DX2_cutsPlayed 17 rfl) rfl rfl ?_
      refine w_callV (As := []) lkX2_32 hX (dk DX2_cutsPlayed 18 rfl) rfl rfl (by simp [Value.category]) hN (k_came d sw f g) ?_
      show WP _ _ _ 33 [_, _, _, _, _, _] [_, _] _
      refine wp_icmp_ge (tgt := 95) hX (dk DX2_cutsPlayed 19 rfl) (by decide) (fun _ => ?_) (fun h_ => absurd ((by rw [hn]; exact nI_le (by omega) (by omega))) h_)
      refine wp_iload_n hX (dk DX2_cutsPlayed 51 rfl) rfl ?_
      by_cases c : s &&& f 53 6 = 0
      · rw [if_pos c] at hw
        subst hw
        refine wp_if_eq (tgt := 104) hX (dk DX2_cutsPlayed 52 rfl) (by decide) (fun _ => ?_) (fun h_ => absurd (rfl) h_)
        refine wp_iload_n hX (dk DX2_cutsPlayed 55 rfl) rfl ?_
        exact wp_ireturn hX hR (dk DX2_cutsPlayed 56 rfl) rfl (Nat.le_refl _) (Nat.le_refl _) (⟨by rw [jcp, if_pos c], rfl⟩)
      · rw [if_neg c] at hw
        subst hw
        refine wp_if_eq (tgt := 104) hX (dk DX2_cutsPlayed 52 rfl) (by decide) (fun h_ => absurd h_ ((by decide))) (fun _ => ?_)
        refine wp_iload hX (dk DX2_cutsPlayed 53 rfl) rfl ?_
        refine wp_goto (tgt := 105) hX (dk DX2_cutsPlayed 54 rfl) (by decide) ?_
        -- to 105
        exact wp_ireturn hX hR (dk DX2_cutsPlayed 56 rfl) rfl (Nat.le_refl _) (Nat.le_refl _) (⟨by rw [jcp, if_neg c], rfl⟩)
    | succ m ih =>
      intro i hi
      have ih := ih (i + 1) (by omega)
      rw [jcm, jcf] at ih
      -- the second half
      have two : ∀ z : Int32, (if jb s i = 0 then jcm (f 57) s i else imx (jcm (f 57) s i) (1 + f 57 i)) = z → WP X 0 0 59 [some (.ref 53), some (.int s), some (.int w), some (.int z), some (.int (jcf (f 57) (s &&& f 53 6) i)), some (.int (nI i))] [] (S sw f g) := by
        intro z hz
        rw [hz] at ih
        refine wp_iload_n hX (dk DX2_cutsPlayed 33 rfl) rfl ?_
        refine wp_aload_n hX (dk DX2_cutsPlayed 34 rfl) rfl ?_
        refine w_geti hX flX2_80 (dk DX2_cutsPlayed 35 rfl) (by decide) rfl ?_
        refine wp_iand hX (dk DX2_cutsPlayed 36 rfl) ?_
        refine wp_iload hX (dk DX2_cutsPlayed 37 rfl) rfl ?_
        refine w_callS (As := [_, _]) lkX2_42 hX (dk DX2_cutsPlayed 38 rfl) rfl (by decide) (k_holds d (s &&& f 53 6) (nI i) _) ?_
        show WP _ _ _ 70 [_, _, _, _, _, _] [_] _
        refine wp_if_eq (tgt := 89) hX (dk DX2_cutsPlayed 39 rfl) (by decide) (fun h => ?_) (fun h => ?_)
        · refine wp_iinc hX (dk DX2_cutsPlayed 49 rfl) rfl (nI_inc _) rfl hN ?_
          show WP _ _ _ 92 [_, _, _, _, _, _] [] _
          refine wp_goto (tgt := 24) hX (dk DX2_cutsPlayed 50 rfl) (by decide) ?_
          -- to 24
          rw [if_pos h] at ih
          exact ih
        · refine wp_iload hX (dk DX2_cutsPlayed 40 rfl) rfl ?_
          refine wp_iconst (v := 1) hX (dk DX2_cutsPlayed 41 rfl) (by decide) ?_
          refine wp_aload_n hX (dk DX2_cutsPlayed 42 rfl) rfl ?_
          refine w_getr hX flX2_21 (dk DX2_cutsPlayed 43 rfl) rfl rfl ?_
          refine wp_iload hX (dk DX2_cutsPlayed 44 rfl) rfl ?_
          refine w_iald (j := _) hX (dk DX2_cutsPlayed 45 rfl) rfl rfl (show _ < 10 by omega) ?_
          refine wp_iadd hX (dk DX2_cutsPlayed 46 rfl) ?_
          refine w_min hX lkX2_90 (dk DX2_cutsPlayed 47 rfl) (by decide) ?_
          refine wp_istore hX (dk DX2_cutsPlayed 48 rfl) rfl hN (Nat.le_of_ble_eq_true rfl) ?_
          show WP _ _ _ 89 [_, _, _, _, _, _] [] _
          refine wp_iinc hX (dk DX2_cutsPlayed 49 rfl) rfl (nI_inc _) rfl hN ?_
          show WP _ _ _ 92 [_, _, _, _, _, _] [] _
          refine wp_goto (tgt := 24) hX (dk DX2_cutsPlayed 50 rfl) (by decide) ?_
          -- to 24
          rw [if_neg h] at ih
          exact ih
      refine wp_iload hX (dk DX2_cutsPlayed 15 rfl) rfl ?_
      refine wp_aload_n hX (dk DX2_cutsPlayed 16 rfl) rfl ?_
      refine w_getr hX flX2_24 (dk DX2_cutsPlayed 17 rfl) rfl rfl ?_
      refine w_callV (As := []) lkX2_32 hX (dk DX2_cutsPlayed 18 rfl) rfl rfl (by simp [Value.category]) hN (k_came d sw f g) ?_
      show WP _ _ _ 33 [_, _, _, _, _, _] [_, _] _
      refine wp_icmp_ge (tgt := 95) hX (dk DX2_cutsPlayed 19 rfl) (by decide) (fun h_ => absurd h_ ((by rw [hn]; exact nI_ge (by omega) (by omega)))) (fun _ => ?_)
      refine wp_iload_n hX (dk DX2_cutsPlayed 20 rfl) rfl ?_
      refine wp_iload hX (dk DX2_cutsPlayed 21 rfl) rfl ?_
      refine w_callS (As := [_, _]) lkX2_42 hX (dk DX2_cutsPlayed 22 rfl) rfl (by decide) (k_holds d s (nI i) _) ?_
      show WP _ _ _ 42 [_, _, _, _, _, _] [_] _
      refine wp_if_eq (tgt := 59) hX (dk DX2_cutsPlayed 23 rfl) (by decide) (fun h => ?_) (fun h => ?_)
      · exact two _ (if_pos h)
      · refine wp_iload_n hX (dk DX2_cutsPlayed 24 rfl) rfl ?_
        refine wp_iconst (v := 1) hX (dk DX2_cutsPlayed 25 rfl) (by decide) ?_
        refine wp_aload_n hX (dk DX2_cutsPlayed 26 rfl) rfl ?_
        refine w_getr hX flX2_21 (dk DX2_cutsPlayed 27 rfl) rfl rfl ?_
        refine wp_iload hX (dk DX2_cutsPlayed 28 rfl) rfl ?_
        refine w_iald (j := _) hX (dk DX2_cutsPlayed 29 rfl) rfl rfl (show _ < 10 by omega) ?_
        refine wp_iadd hX (dk DX2_cutsPlayed 30 rfl) ?_
        refine w_max hX lkX2_52 (dk DX2_cutsPlayed 31 rfl) (by decide) ?_
        refine wp_istore_n hX (dk DX2_cutsPlayed 32 rfl) rfl rfl hN (Nat.le_of_ble_eq_true rfl) ?_
        show WP _ _ _ 59 [_, _, _, _, _, _] [] _
        exact two _ (if_neg h)
  refine wp_iload_n hX (dk DX2_cutsPlayed 0 rfl) rfl ?_
  refine wp_aload_n hX (dk DX2_cutsPlayed 1 rfl) rfl ?_
  refine w_geti hX flX2_80 (dk DX2_cutsPlayed 2 rfl) (by decide) rfl ?_
  refine wp_iand hX (dk DX2_cutsPlayed 3 rfl) ?_
  refine wp_if_eq (tgt := 13) hX (dk DX2_cutsPlayed 4 rfl) (by decide) (fun h => ?_) (fun h => ?_)
  · refine wp_iconst (v := 0) hX (dk DX2_cutsPlayed 7 rfl) (by decide) ?_
    refine wp_istore_n hX (dk DX2_cutsPlayed 8 rfl) rfl rfl hN (Nat.le_of_ble_eq_true rfl) ?_
    show WP _ _ _ 15 [_, _, _, _, _, _] [] _
    refine wp_iconst (v := 0) hX (dk DX2_cutsPlayed 9 rfl) (by decide) ?_
    refine wp_istore_n hX (dk DX2_cutsPlayed 10 rfl) rfl rfl hN (Nat.le_of_ble_eq_true rfl) ?_
    show WP _ _ _ 17 [_, _, _, _, _, _] [] _
    refine wp_bipush (v := 10) hX (dk DX2_cutsPlayed 11 rfl) (by decide) ?_
    refine wp_istore hX (dk DX2_cutsPlayed 12 rfl) rfl hN (Nat.le_of_ble_eq_true rfl) ?_
    show WP _ _ _ 21 [_, _, _, _, _, _] [] _
    refine wp_iconst (v := 0) hX (dk DX2_cutsPlayed 13 rfl) (by decide) ?_
    refine wp_istore hX (dk DX2_cutsPlayed 14 rfl) rfl hN (Nat.le_of_ble_eq_true rfl) ?_
    show WP _ _ _ 24 [_, _, _, _, _, _] [] _
    exact lo 0 (if_pos h) n 0 (by omega)
  · refine wp_iconst (v := 1) hX (dk DX2_cutsPlayed 5 rfl) (by decide) ?_
    refine wp_goto (tgt := 14) hX (dk DX2_cutsPlayed 6 rfl) (by decide) ?_
    -- to 14
    show WP _ _ _ 14 [_, _, _, _, _, _] [_] _
    refine wp_istore_n hX (dk DX2_cutsPlayed 8 rfl) rfl rfl hN (Nat.le_of_ble_eq_true rfl) ?_
    show WP _ _ _ 15 [_, _, _, _, _, _] [] _
    refine wp_iconst (v := 0) hX (dk DX2_cutsPlayed 9 rfl) (by decide) ?_
    refine wp_istore_n hX (dk DX2_cutsPlayed 10 rfl) rfl rfl hN (Nat.le_of_ble_eq_true rfl) ?_
    show WP _ _ _ 17 [_, _, _, _, _, _] [] _
    refine wp_bipush (v := 10) hX (dk DX2_cutsPlayed 11 rfl) (by decide) ?_
    refine wp_istore hX (dk DX2_cutsPlayed 12 rfl) rfl hN (Nat.le_of_ble_eq_true rfl) ?_
    show WP _ _ _ 21 [_, _, _, _, _, _] [] _
    refine wp_iconst (v := 0) hX (dk DX2_cutsPlayed 13 rfl) (by decide) ?_
    refine wp_istore hX (dk DX2_cutsPlayed 14 rfl) rfl hN (Nat.le_of_ble_eq_true rfl) ?_
    show WP _ _ _ 24 [_, _, _, _, _, _] [] _
    exact lo 1 (if_neg h) n 0 (by omega)
/-- the n-th of a set: fuel, figure, how many are ahead -/
def jnth (s q : Int32) : Nat → Nat → Int32 → Int32
  | 0, _, _ => 0
  | k + 1, i, a => if jb s i = 0 then jnth s q k (i + 1) a else if a = q then nI i else jnth s q k (i + 1) (a + 1)
theorem k_nth (d : Nat) (sw : Bool) (f : Nat → Nat → Int32) (g : Nat → Nat → Int64) (n : Nat) (s q : Int32) (hn : f 1 4 = nI n) (hn10 : n ≤ 10) : CT (d + 1) 0 0 iX2_nth [.ref 53, .int s, .int q] (S sw f g) (QR (some (.int (jnth s q n 0 0))) (S sw f g)) := by
  refine CT.of rfl (Nat.le_of_ble_eq_true rfl) (fun X hX hR hN _ => ?_)
  have hX : Good X RX2 cX2_nth (d + 1) 0 0 := hX
  have hN : x_nl X = 5 := hN
  show WP X 0 0 0 [_, _, _, _, _] [] _
  refine wp_iconst (v := 0) hX (dk DX2_nth 0 rfl) (by decide) ?_
  refine wp_istore_n hX (dk DX2_nth 1 rfl) rfl rfl hN (Nat.le_of_ble_eq_true rfl) ?_
  show WP _ _ _ 2 [_, _, _, _, _] [] _
  refine wp_iconst (v := 0) hX (dk DX2_nth 2 rfl) (by decide) ?_
  refine wp_istore hX (dk DX2_nth 3 rfl) rfl hN (Nat.le_of_ble_eq_true rfl) ?_
  show WP _ _ _ 5 [_, _, _, _, _] [] _
  have lo : ∀ (m i : Nat) (a : Int32), i + m = n → jnth s q n 0 0 = jnth s q m i a → WP X 0 0 5 [some (.ref 53), some (.int s), some (.int q), some (.int a), some (.int (nI i))] [] (S sw f g) := by
    intro m
    induction m with
    | zero =>
      intro i a hi e
      refine wp_iload hX (dk DX2_nth 4 rfl) rfl ?_
      refine wp_aload_n hX (dk DX2_nth 5 rfl) rfl ?_
      refine w_getr hX flX2_24 (dk DX2_nth 6 rfl) rfl rfl ?_
      refine w_callV (As := []) lkX2_32 hX (dk DX2_nth 7 rfl) rfl rfl (by simp [Value.category]) hN (k_came d sw f g) ?_
      show WP _ _ _ 14 [_, _, _, _, _] [_, _] _
      refine wp_icmp_ge (tgt := 43) hX (dk DX2_nth 8 rfl) (by decide) (fun _ => ?_) (fun h_ => absurd ((by rw [hn]; exact nI_le (by omega) (by omega))) h_)
      refine wp_iconst (v := 0) hX (dk DX2_nth 21 rfl) (by decide) ?_
      exact wp_ireturn hX hR (dk DX2_nth 22 rfl) rfl (Nat.le_refl _) (Nat.le_refl _) (⟨by rw [e]; rfl, rfl⟩)
    | succ m ih =>
      intro i a hi e
      rw [show jnth s q (m + 1) i a = if jb s i = 0 then jnth s q m (i + 1) a else if a = q then nI i else jnth s q m (i + 1) (a + 1) from rfl] at e
      refine wp_iload hX (dk DX2_nth 4 rfl) rfl ?_
      refine wp_aload_n hX (dk DX2_nth 5 rfl) rfl ?_
      refine w_getr hX flX2_24 (dk DX2_nth 6 rfl) rfl rfl ?_
      refine w_callV (As := []) lkX2_32 hX (dk DX2_nth 7 rfl) rfl rfl (by simp [Value.category]) hN (k_came d sw f g) ?_
      show WP _ _ _ 14 [_, _, _, _, _] [_, _] _
      refine wp_icmp_ge (tgt := 43) hX (dk DX2_nth 8 rfl) (by decide) (fun h_ => absurd h_ ((by rw [hn]; exact nI_ge (by omega) (by omega)))) (fun _ => ?_)
      refine wp_iload_n hX (dk DX2_nth 9 rfl) rfl ?_
      refine wp_iload hX (dk DX2_nth 10 rfl) rfl ?_
      refine w_callS (As := [_, _]) lkX2_42 hX (dk DX2_nth 11 rfl) rfl (by decide) (k_holds d s (nI i) _) ?_
      show WP _ _ _ 23 [_, _, _, _, _] [_] _
      refine wp_if_eq (tgt := 37) hX (dk DX2_nth 12 rfl) (by decide) (fun h => ?_) (fun h => ?_)
      · refine wp_iinc hX (dk DX2_nth 19 rfl) rfl (nI_inc _) rfl hN ?_
        show WP _ _ _ 40 [_, _, _, _, _] [] _
        refine wp_goto (tgt := 5) hX (dk DX2_nth 20 rfl) (by decide) ?_
        -- to 5
        rw [if_pos h] at e
        exact ih (i + 1) a (by omega) e
      · refine wp_iload_n hX (dk DX2_nth 13 rfl) rfl ?_
        refine wp_iload_n hX (dk DX2_nth 14 rfl) rfl ?_
        rw [if_neg h] at e
        refine wp_icmp_ne (tgt := 34) hX (dk DX2_nth 15 rfl) (by decide) (fun h2 => ?_) (fun h2 => ?_)
        · refine wp_iinc hX (dk DX2_nth 18 rfl) rfl (i_inc _) rfl hN ?_
          show WP _ _ _ 37 [_, _, _, _, _] [] _
          refine wp_iinc hX (dk DX2_nth 19 rfl) rfl (nI_inc _) rfl hN ?_
          show WP _ _ _ 40 [_, _, _, _, _] [] _
          refine wp_goto (tgt := 5) hX (dk DX2_nth 20 rfl) (by decide) ?_
          -- to 5
          rw [if_neg h2] at e
          exact ih (i + 1) _ (by omega) e
        · refine wp_iload hX (dk DX2_nth 16 rfl) rfl ?_
          rw [if_pos h2] at e
          exact wp_ireturn hX hR (dk DX2_nth 17 rfl) rfl (Nat.le_refl _) (Nat.le_refl _) (⟨by rw [e], rfl⟩)
  exact lo n 0 0 (by omega) rfl
/-- with which figure to go on: fuel, figure, what is best (figure, sum, steps) -/
def jrn (sm sp : Nat → Int32) (s : Int32) (p : Nat) : Nat → Nat → Int32 × Int32 × Int32 → Int32 × Int32 × Int32
  | 0, _, b => b
  | k + 1, i, b => jrn sm sp s p k (i + 1) (if ¬ jb s i = 0 ∧ (b.2.1 < sm (p * 10 + i) ∨ (sm (p * 10 + i) = b.2.1 ∧ sp (p * 10 + i) < b.2.2)) then (nI i, sm (p * 10 + i), sp (p * 10 + i)) else b)
theorem ix10 (a b : Nat) : nI a * 10 + nI b = nI (a * 10 + b) := by rw [show (10 : Int32) = nI 10 from rfl, pk_mul, nI_add]
theorem k_richestNext (d : Nat) (sw : Bool) (f : Nat → Nat → Int32) (g : Nat → Nat → Int64) (n p : Nat) (s : Int32) (hn : f 1 4 = nI n) (hn10 : n ≤ 10) (hp : p ≤ 10) : CT (d + 1) 0 0 iX2_richestNext [.ref 53, .int s, .int (nI p)] (S sw f g) (QR (some (.int (if p < 10 then (jrn (f 55) (f 56) s p n 0 (-2, 0, 0)).1 else -2))) (S sw f g)) := by
  refine CT.of rfl (Nat.le_of_ble_eq_true rfl) (fun X hX hR hN _ => ?_)
  have hX : Good X RX2 cX2_richestNext (d + 1) 0 0 := hX
  have hN : x_nl X = 8 := hN
  show WP X 0 0 0 [_, _, _, _, _, _, _, _] [] _
  refine wp_bipush (v := -2) hX (dk DX2_richestNext 0 rfl) (by decide) ?_
  refine wp_istore_n hX (dk DX2_richestNext 1 rfl) rfl rfl hN (Nat.le_of_ble_eq_true rfl) ?_
  show WP _ _ _ 3 [_, _, _, _, _, _, _, _] [] _
  refine wp_iconst (v := 0) hX (dk DX2_richestNext 2 rfl) (by decide) ?_
  refine wp_istore hX (dk DX2_richestNext 3 rfl) rfl hN (Nat.le_of_ble_eq_true rfl) ?_
  show WP _ _ _ 6 [_, _, _, _, _, _, _, _] [] _
  refine wp_iconst (v := 0) hX (dk DX2_richestNext 4 rfl) (by decide) ?_
  refine wp_istore hX (dk DX2_richestNext 5 rfl) rfl hN (Nat.le_of_ble_eq_true rfl) ?_
  show WP _ _ _ 9 [_, _, _, _, _, _, _, _] [] _
  refine wp_iconst (v := 0) hX (dk DX2_richestNext 6 rfl) (by decide) ?_
  refine wp_istore hX (dk DX2_richestNext 7 rfl) rfl hN (Nat.le_of_ble_eq_true rfl) ?_
  show WP _ _ _ 12 [_, _, _, _, _, _, _, _] [] _
  by_cases hp10 : p < 10
  · rw [if_pos hp10] at hR
    have lo : ∀ (m i : Nat) (b : Int32 × Int32 × Int32) (z : Option Value), i + m = n → jrn (f 55) (f 56) s p n 0 (-2, 0, 0) = jrn (f 55) (f 56) s p m i b → WP X 0 0 12 [some (.ref 53), some (.int s), some (.int (nI p)), some (.int b.1), some (.int b.2.1), some (.int b.2.2), some (.int (nI i)), z] [] (S sw f g) := by
      intro m
      induction m with
      | zero =>
        intro i b z hi e
        refine wp_iload hX (dk DX2_richestNext 8 rfl) rfl ?_
        refine wp_aload_n hX (dk DX2_richestNext 9 rfl) rfl ?_
        refine w_getr hX flX2_24 (dk DX2_richestNext 10 rfl) rfl rfl ?_
        refine w_callV (As := []) lkX2_32 hX (dk DX2_richestNext 11 rfl) rfl rfl (by simp [Value.category]) hN (k_came d sw f g) ?_
        show WP _ _ _ 21 [_, _, _, _, _, _, _, _] [_, _] _
        refine wp_icmp_ge (tgt := 111) hX (dk DX2_richestNext 12 rfl) (by decide) (fun _ => ?_) (fun h_ => absurd ((by rw [hn]; exact nI_le (by omega) (by omega))) h_)
        refine wp_iload_n hX (dk DX2_richestNext 58 rfl) rfl ?_
        exact wp_ireturn hX hR (dk DX2_richestNext 59 rfl) rfl (Nat.le_refl _) (Nat.le_refl _) (⟨by rw [e]; rfl, rfl⟩)
      | succ m ih =>
        intro i b z hi e
        rw [show jrn (f 55) (f 56) s p (m + 1) i b = jrn (f 55) (f 56) s p m (i + 1) (if ¬ jb s i = 0 ∧ (b.2.1 < f 55 (p * 10 + i) ∨ (f 55 (p * 10 + i) = b.2.1 ∧ f 56 (p * 10 + i) < b.2.2)) then (nI i, f 55 (p * 10 + i), f 56 (p * 10 + i)) else b) from rfl] at e
        refine wp_iload hX (dk DX2_richestNext 8 rfl) rfl ?_
        refine wp_aload_n hX (dk DX2_richestNext 9 rfl) rfl ?_
        refine w_getr hX flX2_24 (dk DX2_richestNext 10 rfl) rfl rfl ?_
        refine w_callV (As := []) lkX2_32 hX (dk DX2_richestNext 11 rfl) rfl rfl (by simp [Value.category]) hN (k_came d sw f g) ?_
        show WP _ _ _ 21 [_, _, _, _, _, _, _, _] [_, _] _
        refine wp_icmp_ge (tgt := 111) hX (dk DX2_richestNext 12 rfl) (by decide) (fun h_ => absurd h_ ((by rw [hn]; exact nI_ge (by omega) (by omega)))) (fun _ => ?_)
        refine wp_iload_n hX (dk DX2_richestNext 13 rfl) rfl ?_
        refine wp_bipush (v := 10) hX (dk DX2_richestNext 14 rfl) (by decide) ?_
        refine wp_icmp_ge (tgt := 111) hX (dk DX2_richestNext 15 rfl) (by decide) (fun h_ => absurd h_ ((nI_ge (b := 10) hp10 (by omega)))) (fun _ => ?_)
        refine wp_iload_n hX (dk DX2_richestNext 16 rfl) rfl ?_
        refine wp_bipush (v := 10) hX (dk DX2_richestNext 17 rfl) (by decide) ?_
        refine wp_imul hX (dk DX2_richestNext 18 rfl) ?_
        refine wp_iload hX (dk DX2_richestNext 19 rfl) rfl ?_
        refine wp_iadd hX (dk DX2_richestNext 20 rfl) ?_
        rw [ix10]
        refine wp_istore hX (dk DX2_richestNext 21 rfl) rfl hN (Nat.le_of_ble_eq_true rfl) ?_
        show WP _ _ _ 39 [_, _, _, _, _, _, _, _] [] _
        refine wp_iload_n hX (dk DX2_richestNext 22 rfl) rfl ?_
        refine wp_iload hX (dk DX2_richestNext 23 rfl) rfl ?_
        refine w_callS (As := [_, _]) lkX2_42 hX (dk DX2_richestNext 24 rfl) rfl (by decide) (k_holds d s (nI i) _) ?_
        show WP _ _ _ 45 [_, _, _, _, _, _, _, _] [_] _
        refine wp_if_eq (tgt := 105) hX (dk DX2_richestNext 25 rfl) (by decide) (fun h1 => ?_) (fun h1 => ?_)
        · refine wp_iinc hX (dk DX2_richestNext 56 rfl) rfl (nI_inc _) rfl hN ?_
          show WP _ _ _ 108 [_, _, _, _, _, _, _, _] [] _
          refine wp_goto (tgt := 12) hX (dk DX2_richestNext 57 rfl) (by decide) ?_
          -- to 12
          rw [if_neg (fun q => q.1 h1)] at e
          exact ih (i + 1) b _ (by omega) e
        · refine wp_aload_n hX (dk DX2_richestNext 26 rfl) rfl ?_
          refine w_getr hX flX2_15 (dk DX2_richestNext 27 rfl) rfl rfl ?_
          refine wp_iload hX (dk DX2_richestNext 28 rfl) rfl ?_
          refine w_iald (j := _) hX (dk DX2_richestNext 29 rfl) rfl rfl (show _ < 100 by omega) ?_
          refine wp_iload hX (dk DX2_richestNext 30 rfl) rfl ?_
          refine wp_icmp_gt (tgt := 84) hX (dk DX2_richestNext 31 rfl) (by decide) (fun h2 => ?_) (fun h2 => ?_)
          · refine wp_iload hX (dk DX2_richestNext 44 rfl) rfl ?_
            refine wp_istore_n hX (dk DX2_richestNext 45 rfl) rfl rfl hN (Nat.le_of_ble_eq_true rfl) ?_
            show WP _ _ _ 87 [_, _, _, _, _, _, _, _] [] _
            refine wp_aload_n hX (dk DX2_richestNext 46 rfl) rfl ?_
            refine w_getr hX flX2_15 (dk DX2_richestNext 47 rfl) rfl rfl ?_
            refine wp_iload hX (dk DX2_richestNext 48 rfl) rfl ?_
            refine w_iald (j := _) hX (dk DX2_richestNext 49 rfl) rfl rfl (show _ < 100 by omega) ?_
            refine wp_istore hX (dk DX2_richestNext 50 rfl) rfl hN (Nat.le_of_ble_eq_true rfl) ?_
            show WP _ _ _ 96 [_, _, _, _, _, _, _, _] [] _
            refine wp_aload_n hX (dk DX2_richestNext 51 rfl) rfl ?_
            refine w_getr hX flX2_18 (dk DX2_richestNext 52 rfl) rfl rfl ?_
            refine wp_iload hX (dk DX2_richestNext 53 rfl) rfl ?_
            refine w_iald (j := _) hX (dk DX2_richestNext 54 rfl) rfl rfl (show _ < 100 by omega) ?_
            refine wp_istore hX (dk DX2_richestNext 55 rfl) rfl hN (Nat.le_of_ble_eq_true rfl) ?_
            show WP _ _ _ 105 [_, _, _, _, _, _, _, _] [] _
            refine wp_iinc hX (dk DX2_richestNext 56 rfl) rfl (nI_inc _) rfl hN ?_
            show WP _ _ _ 108 [_, _, _, _, _, _, _, _] [] _
            refine wp_goto (tgt := 12) hX (dk DX2_richestNext 57 rfl) (by decide) ?_
            -- to 12
            rw [if_pos ⟨h1, Or.inl h2⟩] at e
            exact ih (i + 1) _ _ (by omega) e
          · refine wp_aload_n hX (dk DX2_richestNext 32 rfl) rfl ?_
            refine w_getr hX flX2_15 (dk DX2_richestNext 33 rfl) rfl rfl ?_
            refine wp_iload hX (dk DX2_richestNext 34 rfl) rfl ?_
            refine w_iald (j := _) hX (dk DX2_richestNext 35 rfl) rfl rfl (show _ < 100 by omega) ?_
            refine wp_iload hX (dk DX2_richestNext 36 rfl) rfl ?_
            refine wp_icmp_ne (tgt := 105) hX (dk DX2_richestNext 37 rfl) (by decide) (fun h3 => ?_) (fun h3 => ?_)
            · refine wp_iinc hX (dk DX2_richestNext 56 rfl) rfl (nI_inc _) rfl hN ?_
              show WP _ _ _ 108 [_, _, _, _, _, _, _, _] [] _
              refine wp_goto (tgt := 12) hX (dk DX2_richestNext 57 rfl) (by decide) ?_
              -- to 12
              rw [if_neg (fun q => q.2.elim h2 (fun q => h3 q.1))] at e
              exact ih (i + 1) b _ (by omega) e
            · refine wp_aload_n hX (dk DX2_richestNext 38 rfl) rfl ?_
              refine w_getr hX flX2_18 (dk DX2_richestNext 39 rfl) rfl rfl ?_
              refine wp_iload hX (dk DX2_richestNext 40 rfl) rfl ?_
              refine w_iald (j := _) hX (dk DX2_richestNext 41 rfl) rfl rfl (show _ < 100 by omega) ?_
              refine wp_iload hX (dk DX2_richestNext 42 rfl) rfl ?_
              refine wp_icmp_ge (tgt := 105) hX (dk DX2_richestNext 43 rfl) (by decide) (fun h4 => ?_) (fun h4 => ?_)
              · refine wp_iinc hX (dk DX2_richestNext 56 rfl) rfl (nI_inc _) rfl hN ?_
                show WP _ _ _ 108 [_, _, _, _, _, _, _, _] [] _
                refine wp_goto (tgt := 12) hX (dk DX2_richestNext 57 rfl) (by decide) ?_
                -- to 12
                rw [if_neg (fun q => q.2.elim h2 (fun q => Int32.not_lt.mpr h4 q.2))] at e
                exact ih (i + 1) b _ (by omega) e
              · refine wp_iload hX (dk DX2_richestNext 44 rfl) rfl ?_
                refine wp_istore_n hX (dk DX2_richestNext 45 rfl) rfl rfl hN (Nat.le_of_ble_eq_true rfl) ?_
                show WP _ _ _ 87 [_, _, _, _, _, _, _, _] [] _
                refine wp_aload_n hX (dk DX2_richestNext 46 rfl) rfl ?_
                refine w_getr hX flX2_15 (dk DX2_richestNext 47 rfl) rfl rfl ?_
                refine wp_iload hX (dk DX2_richestNext 48 rfl) rfl ?_
                refine w_iald (j := _) hX (dk DX2_richestNext 49 rfl) rfl rfl (show _ < 100 by omega) ?_
                refine wp_istore hX (dk DX2_richestNext 50 rfl) rfl hN (Nat.le_of_ble_eq_true rfl) ?_
                show WP _ _ _ 96 [_, _, _, _, _, _, _, _] [] _
                refine wp_aload_n hX (dk DX2_richestNext 51 rfl) rfl ?_
                refine w_getr hX flX2_18 (dk DX2_richestNext 52 rfl) rfl rfl ?_
                refine wp_iload hX (dk DX2_richestNext 53 rfl) rfl ?_
                refine w_iald (j := _) hX (dk DX2_richestNext 54 rfl) rfl rfl (show _ < 100 by omega) ?_
                refine wp_istore hX (dk DX2_richestNext 55 rfl) rfl hN (Nat.le_of_ble_eq_true rfl) ?_
                show WP _ _ _ 105 [_, _, _, _, _, _, _, _] [] _
                refine wp_iinc hX (dk DX2_richestNext 56 rfl) rfl (nI_inc _) rfl hN ?_
                show WP _ _ _ 108 [_, _, _, _, _, _, _, _] [] _
                refine wp_goto (tgt := 12) hX (dk DX2_richestNext 57 rfl) (by decide) ?_
                -- to 12
                rw [if_pos ⟨h1, Or.inr ⟨h3, Int32.not_le.mp h4⟩⟩] at e
                exact ih (i + 1) _ _ (by omega) e
    exact lo n 0 (-2, 0, 0) none (by omega) rfl
  · obtain rfl : p = 10 := by omega
    rw [if_neg hp10] at hR
    have out : WP X 0 0 111 [some (.ref 53), some (.int s), some (.int (nI 10)), some (.int (-2)), some (.int 0), some (.int 0), some (.int 0), none] [] (S sw f g) := by
      refine wp_iload_n hX (dk DX2_richestNext 58 rfl) rfl ?_
      exact wp_ireturn hX hR (dk DX2_richestNext 59 rfl) rfl (Nat.le_refl _) (Nat.le_refl _) (⟨rfl, rfl⟩)
    refine wp_iload hX (dk DX2_richestNext 8 rfl) rfl ?_
    refine wp_aload_n hX (dk DX2_richestNext 9 rfl) rfl ?_
    refine w_getr hX flX2_24 (dk DX2_richestNext 10 rfl) rfl rfl ?_
    refine w_callV (As := []) lkX2_32 hX (dk DX2_richestNext 11 rfl) rfl rfl (by simp [Value.category]) hN (k_came d sw f g) ?_
    show WP _ _ _ 21 [_, _, _, _, _, _, _, _] [_, _] _
    refine wp_icmp_ge (tgt := 111) hX (dk DX2_richestNext 12 rfl) (by decide) (fun h => ?_) (fun h => ?_)
    · exact out
    · refine wp_iload_n hX (dk DX2_richestNext 13 rfl) rfl ?_
      refine wp_bipush (v := 10) hX (dk DX2_richestNext 14 rfl) (by decide) ?_
      refine wp_icmp_ge (tgt := 111) hX (dk DX2_richestNext 15 rfl) (by decide) (fun _ => ?_) (fun h_ => absurd ((by decide)) h_)
      exact out
end
section
/-! ===== Int32 by its bits: bt x i ===== -/
def bt (x : Int32) (i : Nat) : Bool := x.toBitVec.getLsbD i
theorem b_ext {x y : Int32} (h : ∀ i, i < 32 → bt x i = bt y i) : x = y := Int32.toBitVec_inj.mp (BitVec.eq_of_getLsbD_eq (fun i hi => h i hi))
theorem b_or (x y : Int32) (i : Nat) : bt (x ||| y) i = (bt x i || bt y i) := by unfold bt; rw [Int32.toBitVec_or, BitVec.getLsbD_or]
theorem b_and (x y : Int32) (i : Nat) : bt (x &&& y) i = (bt x i && bt y i) := by unfold bt; rw [Int32.toBitVec_and, BitVec.getLsbD_and]
theorem b_xor (x y : Int32) (i : Nat) : bt (x ^^^ y) i = (bt x i ^^ bt y i) := by unfold bt; rw [Int32.toBitVec_xor, BitVec.getLsbD_xor]
theorem b_big {x : Int32} {i : Nat} (h : 32 ≤ i) : bt x i = false := BitVec.getLsbD_of_ge _ _ h
theorem b_255 (i : Nat) : bt 255 i = decide (i < 8) := by
  rcases Nat.lt_or_ge i 32 with h | h
  · exact (by decide +kernel : ∀ i, i < 32 → bt 255 i = decide (i < 8)) i h
  · rw [b_big h, decide_eq_false (by omega)]
theorem b_65535 (i : Nat) : bt 65535 i = decide (i < 16) := by
  rcases Nat.lt_or_ge i 32 with h | h
  · exact (by decide +kernel : ∀ i, i < 32 → bt 65535 i = decide (i < 16)) i h
  · rw [b_big h, decide_eq_false (by omega)]
theorem b_m1 : ∀ i, i < 32 → bt (-1) i = true := by decide +kernel
theorem b_0 (i : Nat) : bt 0 i = false := BitVec.getLsbD_zero
theorem s_l : ∀ n, n < 32 → ((nI n &&& 31).toBitVec.smod 32).toNat = n := by decide +kernel
theorem s_u : ∀ n, n < 32 → (((nI n).toUInt32 &&& Int32.toUInt32 31).toBitVec % 32).toNat = n := by decide +kernel
theorem b_shl (n : Nat) (hn : n < 32) (x : Int32) {i : Nat} (hi : i < 32) : bt (x <<< (nI n &&& 31)) i = (decide (n ≤ i) && bt x (i - n)) := by
  unfold bt
  rw [Int32.toBitVec_shiftLeft]
  show (x.toBitVec <<< ((nI n &&& 31).toBitVec.smod 32).toNat).getLsbD i = _
  rw [s_l n hn, BitVec.getLsbD_shiftLeft]
  rcases Nat.lt_or_ge i n with h | h
  · simp [h, Nat.not_le.mpr h]
  · simp [hi, h, Nat.not_lt.mpr h]
theorem b_ushr (n : Nat) (hn : n < 32) (x : Int32) (i : Nat) : bt ((x.toUInt32 >>> ((nI n).toUInt32 &&& Int32.toUInt32 31)).toInt32) i = bt x (n + i) := by
  show (x.toUInt32 >>> ((nI n).toUInt32 &&& Int32.toUInt32 31)).toBitVec.getLsbD i = x.toUInt32.toBitVec.getLsbD (n + i)
  rw [UInt32.toBitVec_shiftRight]
  show (x.toUInt32.toBitVec >>> (((nI n).toUInt32 &&& Int32.toUInt32 31).toBitVec % 32).toNat).getLsbD i = _
  rw [s_u n hn, BitVec.getLsbD_ushiftRight]
theorem b_sshr (n : Nat) (hn : n < 32) (x : Int32) {i : Nat} (hi : i < 32) : bt (x >>> (nI n &&& 31)) i = if n + i < 32 then bt x (n + i) else bt x 31 := by
  unfold bt
  rw [Int32.toBitVec_shiftRight]
  show (x.toBitVec.sshiftRight ((nI n &&& 31).toBitVec.smod 32).toNat).getLsbD i = _
  rw [s_l n hn, BitVec.getLsbD_sshiftRight, BitVec.msb_eq_getLsbD_last]
  simp [hi]
/-! bits of sets -/
theorem bt_one (i : Nat) : bt 1 i = decide (i = 0) := by
  by_cases h : i < 32
  · have : ∀ i, i < 32 → bt 1 i = decide (i = 0) := by decide +kernel
    exact this i h
  · rw [b_big (by omega)]
    simp; omega
theorem bt_and1 (y : Int32) : (y &&& 1 = 1) ↔ bt y 0 = true := by
  constructor
  · intro h
    have h1 : bt (y &&& 1) 0 = bt 1 0 := by rw [h]
    rw [b_and, bt_one] at h1
    simpa using h1
  · intro h
    apply b_ext
    intro i hi
    rw [b_and, bt_one]
    by_cases h0 : i = 0
    · subst h0; simp [h]
    · simp [h0]
theorem jb_bt (s : Int32) {i : Nat} (hi : i < 32) : jb s i = if bt s i then 1 else 0 := by
  unfold jb jbit
  have h : (s >>> (nI i &&& 31)) &&& 1 = 1 ↔ bt s i = true := by
    rw [bt_and1, b_sshr i hi s (by omega), if_pos (by omega)]
    simp
  by_cases c : bt s i = true
  · rw [if_pos (h.mpr c), if_pos c]
  · rw [if_neg (fun q => c (h.mp q)), if_neg c]
theorem jb_ne (s : Int32) {i : Nat} (hi : i < 32) : (¬ jb s i = 0) ↔ bt s i = true := by
  rw [jb_bt s hi]
  cases bt s i <;> decide
theorem jb_eq (s : Int32) {i : Nat} (hi : i < 32) : (jb s i = 0) ↔ bt s i = false := by
  rw [jb_bt s hi]
  cases bt s i <;> decide
theorem bt_bit {k i : Nat} (hk : k < 32) (hi : i < 32) : bt ((1 : Int32) <<< (nI k &&& 31)) i = decide (i = k) := by
  rw [b_shl k hk 1 hi, bt_one]
  by_cases h : i = k
  · subst h; simp
  · by_cases h2 : k ≤ i
    · have : ¬ i - k = 0 := by omega
      simp [h, h2, this]
    · simp [h, h2]
theorem bt_jbs (q : Nat → Int32) : ∀ (n i : Nat), n ≤ 32 → i < 32 → bt (jbs q n) i = decide (i < n ∧ ¬ q i = 0)
  | 0, i, _, _ => by rw [jbs, b_0]; simp
  | n + 1, i, hn, hi => by
    have ih := bt_jbs q n i (by omega) hi
    rw [jbs]
    split
    · next h =>
      rw [ih]
      by_cases c : i = n
      · subst c; simp [h]
      · have : i < n ↔ i < n + 1 := by omega
        simp [this]
    · next h =>
      rw [b_or, ih, bt_bit (by omega) hi]
      by_cases c : i = n
      · subst c; simp [h]
      · have : i < n ↔ i < n + 1 := by omega
        simp [c, this]
theorem bt_not (s : Int32) {i : Nat} (hi : i < 32) : bt (s ^^^ (-1)) i = !bt s i := by
  rw [b_xor, b_m1 i hi]
  cases bt s i <;> rfl
theorem bt_all_aux : ∀ n, n < 31 → ∀ i, i < 32 → bt (((1 : Int32) <<< (nI n &&& 31)) - 1) i = decide (i < n) := by decide +kernel
theorem bt_all {n i : Nat} (hn : n < 31) (hi : i < 32) : bt (jall (nI n)) i = decide (i < n) := bt_all_aux n hn i hi
theorem bt_any (b : Nat → Int32) (x : Int32) : ∀ (n i : Nat), n ≤ 32 → (bt (jany b x n) i = true ↔ ∃ k, k < n ∧ bt x k = true ∧ bt (b k) i = true)
  | 0, i, _ => by rw [jany, b_0]; simp
  | n + 1, i, hn => by
    have ih := bt_any b x n i (by omega)
    rw [jany]
    split
    · next h =>
      rw [jb_eq x (by omega)] at h
      rw [ih]
      constructor
      · rintro ⟨k, h1, h2⟩; exact ⟨k, by omega, h2⟩
      · rintro ⟨k, h1, h2, h3⟩
        by_cases c : k = n
        · subst c; rw [h] at h2; cases h2
        · exact ⟨k, by omega, h2, h3⟩
    · next h =>
      rw [jb_ne x (by omega)] at h
      rw [b_or, Bool.or_eq_true, ih]
      constructor
      · rintro (⟨k, h1, h2⟩ | h1)
        · exact ⟨k, by omega, h2⟩
        · exact ⟨n, by omega, h, h1⟩
      · rintro ⟨k, h1, h2, h3⟩
        by_cases c : k = n
        · subst c; exact Or.inr h3
        · exact Or.inl ⟨k, by omega, h2, h3⟩
end
section
/-! ROWS: measure, play, draw -/
theorem jct_lt {s x : Int32} (h : ¬ jct s x = 0) : jpc s < jpc x := by
  unfold jct jcan at h
  split at h
  · next c => exact c.1
  · exact absurd rfl h
/-- who is in the set below i has fewer cells -/
theorem stk.cut {f : Nat → Nat → Int32} {n : Nat} {sh : Nat → Int32} (h : stk f n sh) {i j : Nat} (hi : i < n) (hj : j < 32) : bt (f 4 i) j = decide (j < n ∧ ¬ jct (sh j) (sh i) = 0) := by
  rw [h.2.1 i hi, bt_jbs _ n j (by have := h.1.2.1; omega) hj]
theorem stk.lt {f : Nat → Nat → Int32} {n : Nat} {sh : Nat → Int32} (h : stk f n sh) {i j : Nat} (hi : i < n) (hj : j < n) (hb : bt (f 4 i) j = true) : jpc (sh j) < jpc (sh i) := by
  have := h.1.2.1
  rw [h.cut hi (by omega)] at hb
  exact jct_lt (of_decide_eq_true hb).2
theorem jmx_cong {r q : Nat → Int32} {s : Int32} : ∀ (n : Nat), n ≤ 32 → (∀ k, k < n → bt s k = true → r k = q k) → jmx r s n = jmx q s n
  | 0, _, _ => rfl
  | n + 1, hn, h => by
    rw [jmx, jmx, jmx_cong n (by omega) (fun k hk => h k (by omega))]
    by_cases c : jb s n = 0
    · rw [if_pos c, if_pos c]
    · rw [if_neg c, if_neg c, h n (by omega) ((jb_ne s (by omega)).mp c)]
/-- how long the longest row from each figure is -/
def lenOk (r B : Nat → Int32) (al : Int32) (n : Nat) (i : Nat) : Prop := r i = if jb al i = 0 then 0 else 1 + jmx r (B i) n
theorem k_measure (d : Nat) (sw : Bool) (f : Nat → Nat → Int32) (g : Nat → Nat → Int64) (n : Nat) (sh : Nat → Int32) (al : Int32) (hs : stk f n sh) : CT (d + 2) 0 0 iX2_measure [.ref 53, .int al] (S sw f g) (QS (fun r sw2 f2 g2 => r = none ∧ sw2 = sw ∧ g2 = g ∧ (∀ b, b ≠ 54 → f2 b = f b) ∧ ∀ i, i < n → lenOk (f2 54) (f 4) al n i)) := by
  have hn := hs.1.1
  have hn10 := hs.1.2.1
  obtain ⟨π, p1, p2, p3⟩ := hs.2.2
  refine CT.of rfl (Nat.le_of_ble_eq_true rfl) (fun X hX hR hN _ => ?_)
  have hX : Good X RX2 cX2_measure (d + 2) 0 0 := hX
  have hN : x_nl X = 4 := hN
  show WP X 0 0 0 [_, _, _, _] [] _
  refine wp_iconst (v := 0) hX (dk DX2_measure 0 rfl) (by decide) ?_
  refine wp_istore_n hX (dk DX2_measure 1 rfl) rfl rfl hN (Nat.le_of_ble_eq_true rfl) ?_
  show WP _ _ _ 2 [_, _, _, _] [] _
  have lo : ∀ (m i : Nat) (f2 : Nat → Nat → Int32) (z : Option Value), i + m = n → (∀ b, b ≠ 54 → f2 b = f b) → (∀ p, p < i → lenOk (f2 54) (f 4) al n (π p)) → WP X 0 0 2 [some (.ref 53), some (.int al), some (.int (nI i)), z] [] (S sw f2 g) := by
    intro m
    induction m with
    | zero =>
      intro i f2 z hi hf hl
      obtain rfl : i = n := by omega
      refine wp_iload_n hX (dk DX2_measure 2 rfl) rfl ?_
      refine wp_aload_n hX (dk DX2_measure 3 rfl) rfl ?_
      refine w_getr hX flX2_24 (dk DX2_measure 4 rfl) rfl rfl ?_
      refine w_callV (As := []) lkX2_32 hX (dk DX2_measure 5 rfl) rfl rfl (by simp [Value.category]) hN (k_came (d + 1) sw f2 g) ?_
      show WP _ _ _ 10 [_, _, _, _] [_, _] _
      refine wp_icmp_ge (tgt := 60) hX (dk DX2_measure 6 rfl) (by decide) (fun _ => ?_) (fun h_ => absurd ((by rw [hf 1 (by decide), hn]; exact nI_le (by omega) (by omega))) h_)
      refine wp_return hX hR (dk DX2_measure 32 rfl) (Nat.le_refl _) (Nat.le_refl _) ⟨sw, f2, g, rfl, rfl, rfl, rfl, hf, fun a ha => ?_⟩
      obtain ⟨p, hp, rfl⟩ := p2 a ha
      exact hl p hp
    | succ m ih =>
      intro i f2 z hi hf hl
      obtain ⟨e5, ha⟩ := p1 i (by omega)
      obtain ⟨a, hadef⟩ : ∃ a, a = π i := ⟨_, rfl⟩
      rw [← hadef] at e5 ha
      -- the new row
      have key : ∀ v : Int32, v = (if jb al a = 0 then 0 else 1 + jmx (f2 54) (f 4 a) n) → WP X 0 0 54 [some (.ref 53), some (.int al), some (.int (nI i)), some (.int (nI a))] [] (S sw (u2 f2 54 a v) g) := by
        intro v hv
        refine wp_iinc hX (dk DX2_measure 30 rfl) rfl (nI_inc _) rfl hN ?_
        show WP _ _ _ 57 [_, _, _, _] [] _
        refine wp_goto (tgt := 2) hX (dk DX2_measure 31 rfl) (by decide) ?_
        -- to 2
        refine ih (i + 1) _ _ (by omega) (fun b hb => by rw [u2_ne _ _ _ hb]; exact hf b hb) (fun p hp => ?_)
        have own : lenOk (u2 f2 54 a v 54) (f 4) al n a := by
          unfold lenOk
          rw [u2_at, hv]
          have : jmx (u2 f2 54 a v 54) (f 4 a) n = jmx (f2 54) (f 4 a) n := jmx_cong n (by omega) (fun k hk hb => u2_off _ _ _ (fun e => by
            subst e
            exact Int32.lt_irrefl (hs.lt ha hk hb)))
          rw [← hv, this]
          exact hv
        by_cases c : π p = a
        · rw [c]; exact own
        · have hp2 : p < i := by
            by_cases c2 : p = i
            · subst c2; exact absurd hadef.symm c
            · omega
          have old := hl p hp2
          have hpn := (p1 p (by omega)).2
          unfold lenOk at old ⊢
          rw [u2_off _ _ _ c, old]
          have : jmx (u2 f2 54 a v 54) (f 4 (π p)) n = jmx (f2 54) (f 4 (π p)) n := jmx_cong n (by omega) (fun k hk hb => u2_off _ _ _ (fun e => by
            subst e
            have h1 := hs.lt hpn hk hb
            have h2 := p3 p i hp2 (by omega)
            rw [← hadef] at h2
            exact Int32.lt_irrefl (Int32.lt_of_lt_of_le h1 h2)))
          rw [this]
      refine wp_iload_n hX (dk DX2_measure 2 rfl) rfl ?_
      refine wp_aload_n hX (dk DX2_measure 3 rfl) rfl ?_
      refine w_getr hX flX2_24 (dk DX2_measure 4 rfl) rfl rfl ?_
      refine w_callV (As := []) lkX2_32 hX (dk DX2_measure 5 rfl) rfl rfl (by simp [Value.category]) hN (k_came (d + 1) sw f2 g) ?_
      show WP _ _ _ 10 [_, _, _, _] [_, _] _
      refine wp_icmp_ge (tgt := 60) hX (dk DX2_measure 6 rfl) (by decide) (fun h_ => absurd h_ ((by rw [hf 1 (by decide), hn]; exact nI_ge (by omega) (by omega)))) (fun _ => ?_)
      refine wp_aload_n hX (dk DX2_measure 7 rfl) rfl ?_
      refine w_getr hX flX2_24 (dk DX2_measure 8 rfl) rfl rfl ?_
      refine wp_iload_n hX (dk DX2_measure 9 rfl) rfl ?_
      refine w_callV (As := [_]) lkX2_38 hX (dk DX2_measure 10 rfl) rfl rfl (by decide) hN (k_bySize (d + 1) sw f2 g i (by omega)) ?_
      show WP _ _ _ 21 [_, _, _, _] [_] _
      rw [hf 5 (by decide), e5]
      refine wp_istore_n hX (dk DX2_measure 11 rfl) rfl rfl hN (Nat.le_of_ble_eq_true rfl) ?_
      show WP _ _ _ 22 [_, _, _, _] [] _
      refine wp_aload_n hX (dk DX2_measure 12 rfl) rfl ?_
      refine w_getr hX flX2_9 (dk DX2_measure 13 rfl) rfl rfl ?_
      refine wp_iload_n hX (dk DX2_measure 14 rfl) rfl ?_
      refine wp_iload_n hX (dk DX2_measure 15 rfl) rfl ?_
      refine wp_iload_n hX (dk DX2_measure 16 rfl) rfl ?_
      refine w_callS (As := [_, _]) lkX2_42 hX (dk DX2_measure 17 rfl) rfl (by simp [Value.category]) (k_holds (d + 1) al (nI a) _) ?_
      show WP _ _ _ 32 [_, _, _, _] [_, _, _] _
      refine wp_if_eq (tgt := 52) hX (dk DX2_measure 18 rfl) (by decide) (fun h => ?_) (fun h => ?_)
      · refine wp_iconst (v := 0) hX (dk DX2_measure 28 rfl) (by decide) ?_
        refine w_iast (j := _) hX (dk DX2_measure 29 rfl) rfl rfl (show _ < 10 by omega) ?_
        exact key _ (by rw [if_pos h])
      · refine wp_iconst (v := 1) hX (dk DX2_measure 19 rfl) (by decide) ?_
        refine wp_aload_n hX (dk DX2_measure 20 rfl) rfl ?_
        refine wp_aload_n hX (dk DX2_measure 21 rfl) rfl ?_
        refine w_getr hX flX2_24 (dk DX2_measure 22 rfl) rfl rfl ?_
        refine wp_iload_n hX (dk DX2_measure 23 rfl) rfl ?_
        refine w_callV (As := [_]) lkX2_46 hX (dk DX2_measure 24 rfl) rfl rfl (by simp [Value.category]) hN (k_outOf (d + 1) sw f2 g a (by omega)) ?_
        show WP _ _ _ 45 [_, _, _, _] [_, _, _, _, _] _
        rw [hf 4 (by decide)]
        refine w_callV (As := [_]) lkX2_49 hX (dk DX2_measure 25 rfl) rfl rfl (by simp [Value.category]) hN (k_longestOf d sw f2 g n (f 4 a) (by rw [hf 1 (by decide)]; exact hn) hn10) ?_
        show WP _ _ _ 48 [_, _, _, _] [_, _, _, _] _
        refine wp_iadd hX (dk DX2_measure 26 rfl) ?_
        refine wp_goto (tgt := 53) hX (dk DX2_measure 27 rfl) (by decide) ?_
        -- to 53
        refine w_iast (j := _) hX (dk DX2_measure 29 rfl) rfl rfl (show _ < 10 by omega) ?_
        exact key _ (by rw [if_neg h])
  exact lo n 0 f none (by omega) (fun _ _ => rfl) (fun p hp => absurd hp (by omega))
theorem stk.at54 {f f2 : Nat → Nat → Int32} {n : Nat} {sh : Nat → Int32} (h : stk f n sh) (he : ∀ b, b ≠ 54 → f2 b = f b) : stk f2 n sh := h.same (fun b hb _ => he b (by unfold inSt at hb; omega))
theorem k_longestWithout (d : Nat) (sw : Bool) (f : Nat → Nat → Int32) (g : Nat → Nat → Int64) (n i : Nat) (sh : Nat → Int32) (s : Int32) (hs : stk f n sh) : CT (d + 3) 0 0 iX2_longestWithout [.ref 53, .int s, .int (nI i)] (S sw f g) (QS (fun r sw2 f2 g2 => sw2 = sw ∧ g2 = g ∧ (∀ b, b ≠ 54 → f2 b = f b) ∧ (∀ k, k < n → lenOk (f2 54) (f 4) (jall (nI n) &&& (((1 : Int32) <<< (nI i &&& 31)) ^^^ (-1))) n k) ∧ r = some (.int (jmx (f2 54) s n)))) := by
  refine CT.of rfl (Nat.le_of_ble_eq_true rfl) (fun X hX hR hN _ => ?_)
  have hX : Good X RX2 cX2_longestWithout (d + 3) 0 0 := hX
  have hN : x_nl X = 3 := hN
  show WP X 0 0 0 [_, _, _] [] _
  refine wp_aload_n hX (dk DX2_longestWithout 0 rfl) rfl ?_
  refine wp_aload_n hX (dk DX2_longestWithout 1 rfl) rfl ?_
  refine w_getr hX flX2_24 (dk DX2_longestWithout 2 rfl) rfl rfl ?_
  refine w_callV (As := []) lkX2_61 hX (dk DX2_longestWithout 3 rfl) rfl rfl (by simp [Value.category]) hN (k_all (d + 2) sw f g) ?_
  show WP _ _ _ 8 [_, _, _] [_, _] _
  rw [hs.1.1]
  refine wp_iconst (v := 1) hX (dk DX2_longestWithout 4 rfl) (by decide) ?_
  refine wp_iload_n hX (dk DX2_longestWithout 5 rfl) rfl ?_
  refine wp_ishl hX (dk DX2_longestWithout 6 rfl) ?_
  refine wp_iconst (v := -1) hX (dk DX2_longestWithout 7 rfl) (by decide) ?_
  refine wp_ixor hX (dk DX2_longestWithout 8 rfl) ?_
  refine wp_iand hX (dk DX2_longestWithout 9 rfl) ?_
  refine w_callVQ (As := [_]) lkX2_64 hX (dk DX2_longestWithout 10 rfl) rfl rfl (by decide) hN (k_measure d sw f g n sh _ hs) (fun v_ sw_ f_ g_ hq_ => ?_)
  obtain ⟨rfl, rfl, rfl, hf, hl⟩ := hq_
  show WP _ _ _ 17 [_, _, _] [] _
  refine wp_aload_n hX (dk DX2_longestWithout 11 rfl) rfl ?_
  refine wp_iload_n hX (dk DX2_longestWithout 12 rfl) rfl ?_
  refine w_callV (As := [_]) lkX2_49 hX (dk DX2_longestWithout 13 rfl) rfl rfl (by decide) hN (k_longestOf (d + 1) sw_ f_ g_ n s (by rw [hf 1 (by decide)]; exact hs.1.1) hs.1.2.1) ?_
  show WP _ _ _ 22 [_, _, _] [_] _
  exact wp_ireturn hX hR (dk DX2_longestWithout 14 rfl) rfl (Nat.le_refl _) (Nat.le_refl _) (⟨_, _, _, rfl, rfl, rfl, hf, hl, rfl⟩)
/-- over or under figure i -/
def jou (B : Nat → Int32) (n i : Nat) : Int32 := jbs (fun k => jbit (B k) (nI i)) n ||| B i
theorem k_longestWith0 (d : Nat) (sw : Bool) (f : Nat → Nat → Int32) (g : Nat → Nat → Int64) (n i j : Nat) (sh : Nat → Int32) (s : Int32) (hs : stk f n sh) (hi : i < n) (hj : j < n) (hno : ¬ (¬ jb s i = 0 ∧ ¬ jb s j = 0 ∧ ¬ jb (jou (f 4) n i) j = 0)) : CT (d + 3) 0 0 iX2_longestWith [.ref 53, .int s, .int (nI i), .int (nI j)] (S sw f g) (QR (some (.int (-2))) (S sw f g)) := by
  have hn10 := hs.1.2.1
  refine CT.of rfl (Nat.le_of_ble_eq_true rfl) (fun X hX hR hN _ => ?_)
  have hX : Good X RX2 cX2_longestWith (d + 3) 0 0 := hX
  have hN : x_nl X = 6 := hN
  show WP X 0 0 0 [_, _, _, _, _, _] [] _
  have out : WP X 0 0 44 [some (.ref 53), some (.int s), some (.int (nI i)), some (.int (nI j)), some (.int (jou (f 4) n i)), none] [] (S sw f g) := by
    refine wp_bipush (v := -2) hX (dk DX2_longestWith 22 rfl) (by decide) ?_
    exact wp_ireturn hX hR (dk DX2_longestWith 23 rfl) rfl (Nat.le_refl _) (Nat.le_refl _) (⟨rfl, rfl⟩)
  refine wp_aload_n hX (dk DX2_longestWith 0 rfl) rfl ?_
  refine w_getr hX flX2_24 (dk DX2_longestWith 1 rfl) rfl rfl ?_
  refine wp_iload_n hX (dk DX2_longestWith 2 rfl) rfl ?_
  refine w_callV (As := [_]) lkX2_68 hX (dk DX2_longestWith 3 rfl) rfl rfl (by decide) hN (k_above (d + 1) sw f g n (nI i) hs.1.1 hn10) ?_
  show WP _ _ _ 8 [_, _, _, _, _, _] [_] _
  refine wp_aload_n hX (dk DX2_longestWith 4 rfl) rfl ?_
  refine w_getr hX flX2_24 (dk DX2_longestWith 5 rfl) rfl rfl ?_
  refine wp_iload_n hX (dk DX2_longestWith 6 rfl) rfl ?_
  refine w_callV (As := [_]) lkX2_46 hX (dk DX2_longestWith 7 rfl) rfl rfl (by simp [Value.category]) hN (k_outOf (d + 2) sw f g i (by omega)) ?_
  show WP _ _ _ 16 [_, _, _, _, _, _] [_, _] _
  refine wp_ior hX (dk DX2_longestWith 8 rfl) ?_
  refine wp_istore hX (dk DX2_longestWith 9 rfl) rfl hN (Nat.le_of_ble_eq_true rfl) ?_
  show WP _ _ _ 19 [_, _, _, _, _, _] [] _
  refine wp_iload_n hX (dk DX2_longestWith 10 rfl) rfl ?_
  refine wp_iload_n hX (dk DX2_longestWith 11 rfl) rfl ?_
  refine w_callS (As := [_, _]) lkX2_42 hX (dk DX2_longestWith 12 rfl) rfl (by decide) (k_holds (d + 2) s (nI i) _) ?_
  show WP _ _ _ 24 [_, _, _, _, _, _] [_] _
  refine wp_if_eq (tgt := 44) hX (dk DX2_longestWith 13 rfl) (by decide) (fun h1 => ?_) (fun h1 => ?_)
  · exact out
  · refine wp_iload_n hX (dk DX2_longestWith 14 rfl) rfl ?_
    refine wp_iload_n hX (dk DX2_longestWith 15 rfl) rfl ?_
    refine w_callS (As := [_, _]) lkX2_42 hX (dk DX2_longestWith 16 rfl) rfl (by decide) (k_holds (d + 2) s (nI j) _) ?_
    show WP _ _ _ 32 [_, _, _, _, _, _] [_] _
    refine wp_if_eq (tgt := 44) hX (dk DX2_longestWith 17 rfl) (by decide) (fun h2 => ?_) (fun h2 => ?_)
    · exact out
    · refine wp_iload hX (dk DX2_longestWith 18 rfl) rfl ?_
      refine wp_iload_n hX (dk DX2_longestWith 19 rfl) rfl ?_
      refine w_callS (As := [_, _]) lkX2_42 hX (dk DX2_longestWith 20 rfl) rfl (by decide) (k_holds (d + 2) (jou (f 4) n i) (nI j) _) ?_
      show WP _ _ _ 41 [_, _, _, _, _, _] [_] _
      refine wp_if_ne (tgt := 47) hX (dk DX2_longestWith 21 rfl) (by decide) (fun h3 => ?_) (fun h3 => ?_)
      · exact absurd ⟨h1, h2, h3⟩ hno
      · exact out
theorem k_longestWith (d : Nat) (sw : Bool) (f : Nat → Nat → Int32) (g : Nat → Nat → Int64) (n i j : Nat) (sh : Nat → Int32) (s : Int32) (hs : stk f n sh) (hi : i < n) (hj : j < n) (h1 : ¬ jb s i = 0) (h2 : ¬ jb s j = 0) (h3 : ¬ jb (jou (f 4) n i) j = 0) : CT (d + 3) 0 0 iX2_longestWith [.ref 53, .int s, .int (nI i), .int (nI j)] (S sw f g) (QS (fun r sw2 f2 g2 => sw2 = sw ∧ g2 = g ∧ (∀ b, b ≠ 54 → f2 b = f b) ∧ (∀ k, k < n → lenOk (f2 54) (f 4) ((jou (f 4) n i &&& jou (f 4) n j) ||| (((1 : Int32) <<< (nI i &&& 31)) ||| ((1 : Int32) <<< (nI j &&& 31)))) n k) ∧ r = some (.int (jmx (f2 54) s n)))) := by
  have hn10 := hs.1.2.1
  refine CT.of rfl (Nat.le_of_ble_eq_true rfl) (fun X hX hR hN _ => ?_)
  have hX : Good X RX2 cX2_longestWith (d + 3) 0 0 := hX
  have hN : x_nl X = 6 := hN
  show WP X 0 0 0 [_, _, _, _, _, _] [] _
  refine wp_aload_n hX (dk DX2_longestWith 0 rfl) rfl ?_
  refine w_getr hX flX2_24 (dk DX2_longestWith 1 rfl) rfl rfl ?_
  refine wp_iload_n hX (dk DX2_longestWith 2 rfl) rfl ?_
  refine w_callV (As := [_]) lkX2_68 hX (dk DX2_longestWith 3 rfl) rfl rfl (by decide) hN (k_above (d + 1) sw f g n (nI i) hs.1.1 hn10) ?_
  show WP _ _ _ 8 [_, _, _, _, _, _] [_] _
  refine wp_aload_n hX (dk DX2_longestWith 4 rfl) rfl ?_
  refine w_getr hX flX2_24 (dk DX2_longestWith 5 rfl) rfl rfl ?_
  refine wp_iload_n hX (dk DX2_longestWith 6 rfl) rfl ?_
  refine w_callV (As := [_]) lkX2_46 hX (dk DX2_longestWith 7 rfl) rfl rfl (by simp [Value.category]) hN (k_outOf (d + 2) sw f g i (by omega)) ?_
  show WP _ _ _ 16 [_, _, _, _, _, _] [_, _] _
  refine wp_ior hX (dk DX2_longestWith 8 rfl) ?_
  refine wp_istore hX (dk DX2_longestWith 9 rfl) rfl hN (Nat.le_of_ble_eq_true rfl) ?_
  show WP _ _ _ 19 [_, _, _, _, _, _] [] _
  refine wp_iload_n hX (dk DX2_longestWith 10 rfl) rfl ?_
  refine wp_iload_n hX (dk DX2_longestWith 11 rfl) rfl ?_
  refine w_callS (As := [_, _]) lkX2_42 hX (dk DX2_longestWith 12 rfl) rfl (by decide) (k_holds (d + 2) s (nI i) _) ?_
  show WP _ _ _ 24 [_, _, _, _, _, _] [_] _
  refine wp_if_eq (tgt := 44) hX (dk DX2_longestWith 13 rfl) (by decide) (fun h_ => absurd h_ (h1)) (fun _ => ?_)
  refine wp_iload_n hX (dk DX2_longestWith 14 rfl) rfl ?_
  refine wp_iload_n hX (dk DX2_longestWith 15 rfl) rfl ?_
  refine w_callS (As := [_, _]) lkX2_42 hX (dk DX2_longestWith 16 rfl) rfl (by decide) (k_holds (d + 2) s (nI j) _) ?_
  show WP _ _ _ 32 [_, _, _, _, _, _] [_] _
  refine wp_if_eq (tgt := 44) hX (dk DX2_longestWith 17 rfl) (by decide) (fun h_ => absurd h_ (h2)) (fun _ => ?_)
  refine wp_iload hX (dk DX2_longestWith 18 rfl) rfl ?_
  refine wp_iload_n hX (dk DX2_longestWith 19 rfl) rfl ?_
  refine w_callS (As := [_, _]) lkX2_42 hX (dk DX2_longestWith 20 rfl) rfl (by decide) (k_holds (d + 2) (jou (f 4) n i) (nI j) _) ?_
  show WP _ _ _ 41 [_, _, _, _, _, _] [_] _
  refine wp_if_ne (tgt := 47) hX (dk DX2_longestWith 21 rfl) (by decide) (fun _ => ?_) (fun h_ => absurd h_ (h3))
  refine wp_iconst (v := 1) hX (dk DX2_longestWith 24 rfl) (by decide) ?_
  refine wp_iload_n hX (dk DX2_longestWith 25 rfl) rfl ?_
  refine wp_ishl hX (dk DX2_longestWith 26 rfl) ?_
  refine wp_iconst (v := 1) hX (dk DX2_longestWith 27 rfl) (by decide) ?_
  refine wp_iload_n hX (dk DX2_longestWith 28 rfl) rfl ?_
  refine wp_ishl hX (dk DX2_longestWith 29 rfl) ?_
  refine wp_ior hX (dk DX2_longestWith 30 rfl) ?_
  refine wp_istore hX (dk DX2_longestWith 31 rfl) rfl hN (Nat.le_of_ble_eq_true rfl) ?_
  show WP _ _ _ 56 [_, _, _, _, _, _] [] _
  refine wp_aload_n hX (dk DX2_longestWith 32 rfl) rfl ?_
  refine wp_iload hX (dk DX2_longestWith 33 rfl) rfl ?_
  refine wp_aload_n hX (dk DX2_longestWith 34 rfl) rfl ?_
  refine w_getr hX flX2_24 (dk DX2_longestWith 35 rfl) rfl rfl ?_
  refine wp_iload_n hX (dk DX2_longestWith 36 rfl) rfl ?_
  refine w_callV (As := [_]) lkX2_68 hX (dk DX2_longestWith 37 rfl) rfl rfl (by simp [Value.category]) hN (k_above (d + 1) sw f g n (nI j) hs.1.1 hn10) ?_
  show WP _ _ _ 67 [_, _, _, _, _, _] [_, _, _] _
  refine wp_aload_n hX (dk DX2_longestWith 38 rfl) rfl ?_
  refine w_getr hX flX2_24 (dk DX2_longestWith 39 rfl) rfl rfl ?_
  refine wp_iload_n hX (dk DX2_longestWith 40 rfl) rfl ?_
  refine w_callV (As := [_]) lkX2_46 hX (dk DX2_longestWith 41 rfl) rfl rfl (by simp [Value.category]) hN (k_outOf (d + 2) sw f g j (by omega)) ?_
  show WP _ _ _ 75 [_, _, _, _, _, _] [_, _, _, _] _
  refine wp_ior hX (dk DX2_longestWith 42 rfl) ?_
  refine wp_iand hX (dk DX2_longestWith 43 rfl) ?_
  refine wp_iload hX (dk DX2_longestWith 44 rfl) rfl ?_
  refine wp_ior hX (dk DX2_longestWith 45 rfl) ?_
  refine w_callVQ (As := [_]) lkX2_64 hX (dk DX2_longestWith 46 rfl) rfl rfl (by decide) hN (k_measure d sw f g n sh _ hs) (fun v_ sw_ f_ g_ hq_ => ?_)
  obtain ⟨rfl, rfl, rfl, hf, hl⟩ := hq_
  show WP _ _ _ 83 [_, _, _, _, _, _] [] _
  refine wp_aload_n hX (dk DX2_longestWith 47 rfl) rfl ?_
  refine wp_iload_n hX (dk DX2_longestWith 48 rfl) rfl ?_
  refine w_callV (As := [_]) lkX2_49 hX (dk DX2_longestWith 49 rfl) rfl rfl (by decide) hN (k_longestOf (d + 1) sw_ f_ g_ n s (by rw [hf 1 (by decide)]; exact hs.1.1) hs.1.2.1) ?_
  show WP _ _ _ 88 [_, _, _, _, _, _] [_] _
  exact wp_ireturn hX hR (dk DX2_longestWith 50 rfl) rfl (Nat.le_refl _) (Nat.le_refl _) (⟨_, _, _, rfl, rfl, rfl, hf, hl, rfl⟩)
theorem jcm_cong {r q : Nat → Int32} {s : Int32} : ∀ (n : Nat), n ≤ 32 → (∀ k, k < n → bt s k = true → r k = q k) → jcm r s n = jcm q s n
  | 0, _, _ => rfl
  | n + 1, hn, h => by
    rw [jcm, jcm, jcm_cong n (by omega) (fun k hk => h k (by omega))]
    by_cases c : jb s n = 0
    · rw [if_pos c, if_pos c]
    · rw [if_neg c, if_neg c, h n (by omega) ((jb_ne s (by omega)).mp c)]
theorem jcf_cong {r q : Nat → Int32} {s : Int32} : ∀ (n : Nat), n ≤ 32 → (∀ k, k < n → bt s k = true → r k = q k) → jcf r s n = jcf q s n
  | 0, _, _ => rfl
  | n + 1, hn, h => by
    rw [jcf, jcf, jcf_cong n (by omega) (fun k hk => h k (by omega))]
    by_cases c : jb s n = 0
    · rw [if_pos c, if_pos c]
    · rw [if_neg c, if_neg c, h n (by omega) ((jb_ne s (by omega)).mp c)]
theorem jcp_cong {r q : Nat → Int32} {s l m : Int32} {n : Nat} (hn : n ≤ 32) (h : ∀ k, k < n → bt s k = true → r k = q k) (hl : s &&& l = s &&& m) : jcp r s l n = jcp q s m n := by
  unfold jcp
  rw [hl, jcm_cong n hn h]
  congr 1
  exact jcf_cong n hn (fun k hk hb => h k hk (by rw [b_and, Bool.and_eq_true] at hb; exact hb.1))
/-- who is to cut out of i: how many cuts come, whether it loses -/
def plOk (c B : Nat → Int32) (l : Int32) (n i : Nat) : Prop := c i = jcp c (B i) l n ∧ (bt l i = true ↔ jfw (B i &&& l) n 0 = -2)
theorem k_play (d : Nat) (sw : Bool) (f : Nat → Nat → Int32) (g : Nat → Nat → Int64) (n : Nat) (sh : Nat → Int32) (hs : stk f n sh) : CT (d + 2) 0 0 iX2_play [.ref 53] (S sw f g) (QS (fun r sw2 f2 g2 => r = none ∧ sw2 = sw ∧ g2 = g ∧ (∀ b, b ≠ 57 → b ≠ 53 → f2 b = f b) ∧ (∀ i, i < n → plOk (f2 57) (f 4) (f2 53 6) n i) ∧ ∀ i, n ≤ i → i < 32 → bt (f2 53 6) i = false)) := by
  have hn := hs.1.1
  have hn10 := hs.1.2.1
  obtain ⟨π, p1, p2, p3⟩ := hs.2.2
  refine CT.of rfl (Nat.le_of_ble_eq_true rfl) (fun X hX hR hN _ => ?_)
  have hX : Good X RX2 cX2_play (d + 2) 0 0 := hX
  have hN : x_nl X = 3 := hN
  show WP X 0 0 0 [_, _, _] [] _
  refine wp_aload_n hX (dk DX2_play 0 rfl) rfl ?_
  refine wp_iconst (v := 0) hX (dk DX2_play 1 rfl) (by decide) ?_
  refine w_puti hX fpX2_80 (dk DX2_play 2 rfl) rfl ?_
  refine wp_iconst (v := 0) hX (dk DX2_play 3 rfl) (by decide) ?_
  refine wp_istore_n hX (dk DX2_play 4 rfl) rfl rfl hN (Nat.le_of_ble_eq_true rfl) ?_
  show WP _ _ _ 7 [_, _, _] [] _
  have lo : ∀ (m i : Nat) (f2 : Nat → Nat → Int32) (z : Option Value), i + m = n → (∀ b, b ≠ 57 → b ≠ 53 → f2 b = f b) → (∀ p, p < i → plOk (f2 57) (f 4) (f2 53 6) n (π p)) → (∀ a, a < 32 → (∀ p, p < i → π p ≠ a) → bt (f2 53 6) a = false) → WP X 0 0 7 [some (.ref 53), some (.int (nI i)), z] [] (S sw f2 g) := by
    intro m
    induction m with
    | zero =>
      intro i f2 z hi hf hl hu
      obtain rfl : i = n := by omega
      refine wp_iload_n hX (dk DX2_play 5 rfl) rfl ?_
      refine wp_aload_n hX (dk DX2_play 6 rfl) rfl ?_
      refine w_getr hX flX2_24 (dk DX2_play 7 rfl) rfl rfl ?_
      refine w_callV (As := []) lkX2_32 hX (dk DX2_play 8 rfl) rfl rfl (by simp [Value.category]) hN (k_came (d + 1) sw f2 g) ?_
      show WP _ _ _ 15 [_, _, _] [_, _] _
      refine wp_icmp_ge (tgt := 80) hX (dk DX2_play 9 rfl) (by decide) (fun _ => ?_) (fun h_ => absurd ((by rw [hf 1 (by decide) (by decide), hn]; exact nI_le (by omega) (by omega))) h_)
      refine wp_return hX hR (dk DX2_play 43 rfl) (Nat.le_refl _) (Nat.le_refl _) ⟨sw, f2, g, rfl, rfl, rfl, rfl, hf, fun a ha => ?_, fun a h1 h2 => hu a h2 (fun p hp e => ?_)⟩
      · obtain ⟨p, hp, rfl⟩ := p2 a ha
        exact hl p hp
      · have := (p1 p hp).2
        omega
    | succ m ih =>
      intro i f2 z hi hf hl hu
      obtain ⟨e5, ha⟩ := p1 i (by omega)
      obtain ⟨a, hadef⟩ : ∃ a, a = π i := ⟨_, rfl⟩
      rw [← hadef] at e5 ha
      have nota : ∀ p, p ≤ i → ∀ k, k < n → bt (f 4 (π p)) k = true → k ≠ a := by
        intro p hp k hk hb e
        subst e
        have h1 := hs.lt (p1 p (by omega)).2 hk hb
        by_cases c : p = i
        · subst c; rw [← hadef] at h1; exact Int32.lt_irrefl h1
        · have h2 := p3 p i (by omega) (by omega)
          rw [← hadef] at h2
          exact Int32.lt_irrefl (Int32.lt_of_lt_of_le h1 h2)
      -- behind the two writes: v the cuts, l2 who loses
      have key : ∀ (f3 : Nat → Nat → Int32) (l2 : Int32), (∀ b, b ≠ 57 → b ≠ 53 → f3 b = f b) → f3 57 = u2 f2 57 a (jcp (f2 57) (f 4 a) (f2 53 6) n) 57 → f3 53 6 = l2 → (l2 = if jfw (f 4 a &&& f2 53 6) n 0 = -2 then f2 53 6 ||| ((1 : Int32) <<< (nI a &&& 31)) else f2 53 6) → WP X 0 0 74 [some (.ref 53), some (.int (nI i)), some (.int (nI a))] [] (S sw f3 g) := by
        intro f3 l2 hf3 h57 h53 hl2
        have bits : ∀ k, k < 32 → k ≠ a → bt l2 k = bt (f2 53 6) k := by
          intro k hk hka
          rw [hl2]
          split
          · rw [b_or, bt_bit (by omega) hk, decide_eq_false hka, Bool.or_false]
          · rfl
        have ands : ∀ p, p ≤ i → f 4 (π p) &&& l2 = f 4 (π p) &&& f2 53 6 := by
          intro p hp
          apply b_ext
          intro k hk
          rw [b_and, b_and]
          cases hb : bt (f 4 (π p)) k with
          | false => rfl
          | true =>
            have hkn : k < n := by
              rw [hs.cut (p1 p (by omega)).2 hk] at hb
              exact (of_decide_eq_true hb).1
            rw [bits k hk (nota p hp k hkn hb)]
        have rows : ∀ p, p ≤ i → ∀ k, k < n → bt (f 4 (π p)) k = true → f3 57 k = f2 57 k := by
          intro p hp k hk hb
          rw [h57, u2_off _ _ _ (nota p hp k hk hb)]
        have own : plOk (f3 57) (f 4) (f3 53 6) n a := by
          have e1 := ands i (by omega)
          have e2 := rows i (by omega)
          rw [← hadef] at e1 e2
          refine ⟨?_, ?_⟩
          · rw [h57, u2_at, h53, ← h57]
            exact (jcp_cong (by omega) e2 e1).symm
          · rw [h53, e1]
            by_cases c : jfw (f 4 a &&& f2 53 6) n 0 = -2
            · rw [if_pos c] at hl2
              rw [hl2, b_or, bt_bit (by omega) (by omega)]
              simp [c]
            · rw [if_neg c] at hl2
              rw [hl2]
              simp only [c, iff_false]
              by_cases c2 : ∃ p, p < i ∧ π p = a
              · obtain ⟨p, hp1, hp2⟩ := c2
                have := (hl p hp1).2
                rw [hp2] at this
                exact fun q => c (this.mp q)
              · rw [hu a (by omega) (fun p hp e => c2 ⟨p, hp, e⟩)]
                simp
        refine wp_iinc hX (dk DX2_play 41 rfl) rfl (nI_inc _) rfl hN ?_
        show WP _ _ _ 77 [_, _, _] [] _
        refine wp_goto (tgt := 7) hX (dk DX2_play 42 rfl) (by decide) ?_
        -- to 7
        refine ih (i + 1) f3 _ (by omega) hf3 (fun p hp => ?_) (fun k hk hkp => ?_)
        · by_cases c : π p = a
          · rw [c]; exact own
          · have hp2 : p < i := by
              by_cases c2 : p = i
              · subst c2; exact absurd hadef.symm c
              · omega
            have hpn := (p1 p (by omega)).2
            obtain ⟨o1, o2⟩ := hl p hp2
            refine ⟨?_, ?_⟩
            · rw [h53, jcp_cong (by omega) (rows p (by omega)) (ands p (by omega)), ← o1, h57, u2_off _ _ _ c]
            · rw [h53, ands p (by omega), bits _ (by omega) c]
              exact o2
        · rw [h53, bits k hk (fun e => hkp i (by omega) (by rw [← hadef, e]))]
          exact hu k hk (fun p hp => hkp p (by omega))
      refine wp_iload_n hX (dk DX2_play 5 rfl) rfl ?_
      refine wp_aload_n hX (dk DX2_play 6 rfl) rfl ?_
      refine w_getr hX flX2_24 (dk DX2_play 7 rfl) rfl rfl ?_
      refine w_callV (As := []) lkX2_32 hX (dk DX2_play 8 rfl) rfl rfl (by simp [Value.category]) hN (k_came (d + 1) sw f2 g) ?_
      show WP _ _ _ 15 [_, _, _] [_, _] _
      refine wp_icmp_ge (tgt := 80) hX (dk DX2_play 9 rfl) (by decide) (fun h_ => absurd h_ ((by rw [hf 1 (by decide) (by decide), hn]; exact nI_ge (by omega) (by omega)))) (fun _ => ?_)
      refine wp_aload_n hX (dk DX2_play 10 rfl) rfl ?_
      refine w_getr hX flX2_24 (dk DX2_play 11 rfl) rfl rfl ?_
      refine wp_iload_n hX (dk DX2_play 12 rfl) rfl ?_
      refine w_callV (As := [_]) lkX2_38 hX (dk DX2_play 13 rfl) rfl rfl (by decide) hN (k_bySize (d + 1) sw f2 g i (by omega)) ?_
      show WP _ _ _ 26 [_, _, _] [_] _
      rw [hf 5 (by decide) (by decide), e5]
      refine wp_istore_n hX (dk DX2_play 14 rfl) rfl rfl hN (Nat.le_of_ble_eq_true rfl) ?_
      show WP _ _ _ 27 [_, _, _] [] _
      refine wp_aload_n hX (dk DX2_play 15 rfl) rfl ?_
      refine w_getr hX flX2_21 (dk DX2_play 16 rfl) rfl rfl ?_
      refine wp_iload_n hX (dk DX2_play 17 rfl) rfl ?_
      refine wp_aload_n hX (dk DX2_play 18 rfl) rfl ?_
      refine wp_aload_n hX (dk DX2_play 19 rfl) rfl ?_
      refine w_getr hX flX2_24 (dk DX2_play 20 rfl) rfl rfl ?_
      refine wp_iload_n hX (dk DX2_play 21 rfl) rfl ?_
      refine w_callV (As := [_]) lkX2_46 hX (dk DX2_play 22 rfl) rfl rfl (by simp [Value.category]) hN (k_outOf (d + 1) sw f2 g a (by omega)) ?_
      show WP _ _ _ 41 [_, _, _] [_, _, _, _] _
      rw [hf 4 (by decide) (by decide)]
      refine w_callV (As := [_]) lkX2_84 hX (dk DX2_play 23 rfl) rfl rfl (by simp [Value.category]) hN (k_cutsPlayed d sw f2 g n (f 4 a) (by rw [hf 1 (by decide) (by decide)]; exact hn) hn10) ?_
      show WP _ _ _ 44 [_, _, _] [_, _, _] _
      refine w_iast (j := _) hX (dk DX2_play 24 rfl) rfl rfl (show _ < 10 by omega) ?_
      refine wp_aload_n hX (dk DX2_play 25 rfl) rfl ?_
      refine wp_aload_n hX (dk DX2_play 26 rfl) rfl ?_
      refine w_getr hX flX2_24 (dk DX2_play 27 rfl) rfl rfl ?_
      refine wp_iload_n hX (dk DX2_play 28 rfl) rfl ?_
      refine w_callV (As := [_]) lkX2_46 hX (dk DX2_play 29 rfl) rfl rfl (by simp [Value.category]) hN (k_outOf (d + 1) sw _ g a (by omega)) ?_
      show WP _ _ _ 54 [_, _, _] [_, _] _
      rw [show u2 f2 57 a (jcp (f2 57) (f 4 a) (f2 53 6) n) 4 a = f 4 a by rw [u2_ne _ _ _ (by decide), hf 4 (by decide) (by decide)]]
      refine w_callV (As := [_]) lkX2_87 hX (dk DX2_play 30 rfl) rfl rfl (by decide) hN (k_firstWinning d sw _ g n (f 4 a) (by rw [u2_ne _ _ _ (by decide), hf 1 (by decide) (by decide)]; exact hn) hn10) ?_
      show WP _ _ _ 57 [_, _, _] [_] _
      refine wp_bipush (v := -2) hX (dk DX2_play 31 rfl) (by decide) ?_
      rw [show u2 f2 57 a (jcp (f2 57) (f 4 a) (f2 53 6) n) 53 6 = f2 53 6 by rw [u2_ne _ _ _ (by decide)]]
      refine wp_icmp_ne (tgt := 74) hX (dk DX2_play 32 rfl) (by decide) (fun h => ?_) (fun h => ?_)
      · exact key _ (f2 53 6) (fun b h1 h2 => by rw [u2_ne _ _ _ h1]; exact hf b h1 h2) rfl (by rw [u2_ne _ _ _ (by decide)]) (by rw [if_neg h])
      · refine wp_aload_n hX (dk DX2_play 33 rfl) rfl ?_
        refine wp_dup hX (dk DX2_play 34 rfl) rfl ?_
        refine w_geti hX flX2_80 (dk DX2_play 35 rfl) (by decide) rfl ?_
        rw [show u2 f2 57 a (jcp (f2 57) (f 4 a) (f2 53 6) n) 53 6 = f2 53 6 by rw [u2_ne _ _ _ (by decide)]]
        refine wp_iconst (v := 1) hX (dk DX2_play 36 rfl) (by decide) ?_
        refine wp_iload_n hX (dk DX2_play 37 rfl) rfl ?_
        refine wp_ishl hX (dk DX2_play 38 rfl) ?_
        refine wp_ior hX (dk DX2_play 39 rfl) ?_
        refine w_puti hX fpX2_80 (dk DX2_play 40 rfl) rfl ?_
        exact key _ _ (fun b h1 h2 => by rw [u2_ne _ _ _ h2, u2_ne _ _ _ h1]; exact hf b h1 h2) (by rw [u2_ne _ _ _ (by decide)]) (u2_at _ _ _ _) (by rw [if_pos h])
  refine lo n 0 _ none (by omega) (fun b h1 h2 => u2_ne _ _ _ h2) (fun p hp => absurd hp (by omega)) (fun a ha _ => ?_)
  rw [u2_at, b_0]
end
section
/-! HELPS: switches -/
theorem wp_eqc {X : cxT} {cells slots pc : Nat} {ls : List (Option Value)} {st : List Value} {M : mM} {x : Int32} (c : Int32) (kt : x = c → WP X cells slots pc ls (.int x :: st) M) (kf : ¬ x = c → WP X cells slots pc ls (.int x :: st) M) : WP X cells slots pc ls (.int x :: st) M := by
  by_cases h : x = c
  · exact kt h
  · exact kf h
theorem ne_toI {x c : Int32} {k : Int} (h : ¬ x = c) (hc : c.toInt = k) : x.toInt ≠ k := fun e => h (Int32.toInt_inj.mp (e.trans hc.symm))
theorem ne_toI' {x c : Int32} {k : Int} (h : ¬ x = c) (hc : c.toInt = k) : ¬ k = x.toInt := fun e => ne_toI h hc e.symm
theorem lk_cons {a o k df : Int} {r : List (Int × Int)} (h : ¬ a = k) (t : Op.lookupswitch.offset r df k = df) : Op.lookupswitch.offset ((a, o) :: r) df k = df := by
  rw [Op.lookupswitch.offset_cons, if_neg h]; exact t
theorem lk_nil {k df : Int} : Op.lookupswitch.offset [] df k = df := rfl
theorem wp_tabAt {X : cxT} {own : String} {cc : ByteArray} {d C S cells slots pc : Nat} {ls : List (Option Value)} {st : List Value} {M : mM} {dflt lo hi : Int} {offs : Array Int} {len : Nat} {x c : Int32} {off : Int} {tgt : Nat} (hX : Good X own cc d C S) (hd : decode cc pc = .ok (.tableswitch dflt lo hi offs, len)) (hx : x = c) (h1 : ¬ c.toInt < lo) (h2 : ¬ hi < c.toInt) (ho : offs[(c.toInt - lo).toNat]? = some off) (ht : (pc : Int) + off = (tgt : Int)) (k : WP X cells slots tgt ls st M) : WP X cells slots pc ls (.int x :: st) M := by
  subst hx
  exact wp_tabIn hX hd h1 h2 ho ht k
theorem wp_lookAt {X : cxT} {own : String} {cc : ByteArray} {d C S cells slots pc : Nat} {ls : List (Option Value)} {st : List Value} {M : mM} {dflt : Int} {ps : Array (Int × Int)} {len : Nat} {x c : Int32} {off : Int} {tgt : Nat} (hX : Good X own cc d C S) (hd : decode cc pc = .ok (.lookupswitch dflt ps, len)) (hx : x = c) (hp : (ps.toList.zip (ps.toList.drop 1)).all (fun (a, next) => a.1 < next.1) = true) (ho : Op.lookupswitch.offset ps.toList dflt c.toInt = off) (ht : (pc : Int) + off = (tgt : Int)) (k : WP X cells slots tgt ls st M) : WP X cells slots pc ls (.int x :: st) M := by
  subst hx
  exact wp_lookup hX hd hp ho ht k
/-! THE LAW, abstract: words k: 0 to 5 names; 6 to 15 signs between two; 16 not, 17 minus; from 18 on a number k - 18 -/
def jop (k : Nat) (x y : Int32) : Int32 :=
  if k = 6 then (if x = 0 ∧ y = 0 then 0 else 1)
  else if k = 7 then (if x = 0 ∨ y = 0 then 0 else 1)
  else if k = 8 then (if x < y then 1 else 0)
  else if k = 9 then (if x = y then 1 else 0)
  else if k = 10 then (if y < x then 1 else 0)
  else if k = 11 then x + y
  else if k = 12 then x - y
  else if k = 13 then x * y
  else if k = 14 then (if y = 0 then 0 else x / y)
  else (if y = 0 then 0 else x - x / y * y)
def jst (nm : Nat → Int32) (k : Nat) (s : List Int32) : List Int32 :=
  if 18 ≤ k then nI (k - 18) :: s
  else if k < 6 then nm k :: s
  else if k = 17 then (match s with | x :: r => (-x) :: r | [] => [])
  else if k = 16 then (match s with | x :: r => (if x = 0 then 1 else 0) :: r | [] => [])
  else (match s with | y :: x :: r => jop k x y :: r | l => l)
def jev (nm : Nat → Int32) : List Nat → List Int32 → List Int32
  | [], s => s
  | k :: c, s => jev nm c (jst nm k s)
/-- the height of the stack behind a code, m at most on the way -/
def jhk : List Nat → Nat → Nat → Option Nat
  | [], h, _ => some h
  | k :: c, h, m => if k < 6 ∨ 18 ≤ k then (if h < m ∧ k < 10018 then jhk c (h + 1) m else none) else if k < 16 then (if 2 ≤ h then jhk c (h - 1) m else none) else (if 1 ≤ h then jhk c h m else none)
theorem jev_app (nm : Nat → Int32) : ∀ (a b : List Nat) (s : List Int32), jev nm (a ++ b) s = jev nm b (jev nm a s)
  | [], _, _ => rfl
  | k :: c, b, s => jev_app nm c b (jst nm k s)
theorem jhk_app : ∀ (a b : List Nat) (h m : Nat), jhk (a ++ b) h m = (jhk a h m).bind (fun q => jhk b q m)
  | [], _, _, _ => rfl
  | k :: c, b, h, m => by
    simp only [List.cons_append, jhk]
    split
    · split
      · exact jhk_app c b _ _
      · rfl
    · split
      · split
        · exact jhk_app c b _ _
        · rfl
      · split
        · exact jhk_app c b _ _
        · rfl
theorem jst_len (nm : Nat → Int32) (k h h2 m : Nat) (c : List Nat) (s : List Int32) (hs : s.length = h) (hh : jhk (k :: c) h m = some h2) : jhk c (jst nm k s).length m = some h2 := by
  subst hs
  simp only [jhk] at hh
  unfold jst
  split at hh
  · next q =>
    split at hh
    · rcases q with q | q
      · rw [if_neg (by omega), if_pos q]; exact hh
      · rw [if_pos q]; exact hh
    · cases hh
  · next q =>
    rw [if_neg (by omega), if_neg (by omega)]
    split at hh
    · next q2 =>
      rw [if_neg (by omega), if_neg (by omega)]
      split at hh
      · match s, hh with
        | y :: x :: r, hh => exact hh
        | [x], hh => simp at *
        | [], hh => simp at *
      · cases hh
    · next q2 =>
      split at hh
      · split
        · match s, hh with
          | x :: r, hh => exact hh
          | [], hh => simp at *
        · rw [if_pos (by omega)]
          match s, hh with
          | x :: r, hh => exact hh
          | [], hh => simp at *
      · cases hh
theorem jev_len (nm : Nat → Int32) : ∀ (c : List Nat) (s : List Int32) (h2 m : Nat), jhk c s.length m = some h2 → (jev nm c s).length = h2
  | [], s, h2, m, h => by cases h; rfl
  | k :: c, s, h2, m, h => jev_len nm c (jst nm k s) h2 m (jst_len nm k s.length h2 m c s rfl h)
/-- a code of one value, with at most b more on the stack -/
def jwf (b : Nat) (c : List Nat) : Prop := ∀ h m, h + b ≤ m → jhk c h m = some (h + 1)
/-- what a code of one value gives -/
def jvl (nm : Nat → Int32) (c : List Nat) : Int32 := (jev nm c []).headD 0
/-- what the lines give: of each what counts, what it gives -/
def jln (nm : Nat → Int32) : List (List Nat × List Nat) → Int32
  | [] => 0
  | (a, b) :: r => if ¬ a = [] ∧ jvl nm a = 0 then jln nm r else jvl nm b
def jnm (w fd a c n k : Int32) : Nat → Int32 := fun j => [w, fd, a, c, n, k].getD j 0
/-- what the law gives; no text: what the document says of that -/
def jlw (L : List (List Nat × List Nat)) (w fd a c n k : Int32) : Int32 := if L = [] then imx 0 (w - fd * a) else imx 0 (imn 9999 (jln (jnm w fd a c n k) L))
/-- a word in the class's code -/
def jtw (k : Nat) : Int32 :=
  if 18 ≤ k then nI (k - 18)
  else if k < 6 then -1000 - nI k
  else [0, 0, 0, 0, 0, 0, -124, -38, -60, -61, -62, -43, -45, -42, -47, -37, -4, -3].getD k 0
/-- a line in the class's code that begins at p -/
def jcl (a b : List Nat) (p : Nat) : List Int32 := if a = [] then b.map jtw ++ [-1] else a.map jtw ++ (-2 :: nI (p + a.length + b.length + 3) :: (b.map jtw ++ [-1]))
def jcd : List (List Nat × List Nat) → Nat → List Int32
  | [], _ => []
  | (a, b) :: r, p => jcl a b p ++ jcd r (p + (jcl a b p).length)
def jwl (l : List Nat × List Nat) : Prop := (l.1 = [] ∨ jwf 40 l.1) ∧ jwf 40 l.2
/-- the class's Rule holds the law L -/
def rlOk (f : Nat → Nat → Int32) (L : List (List Nat × List Nat)) : Prop := f 49 3 = nI (jcd L 0).length ∧ (jcd L 0).length ≤ 256 ∧ (∀ (j : Nat) (q : Int32), (jcd L 0)[j]? = some q → f 50 j = q) ∧ ∀ l ∈ L, jwl l
/-- the class's stack -/
def skO (r : Nat → Int32) : List Int32 → Prop
  | [] => True
  | x :: s => r s.length = x ∧ skO r s
def skF (f : Nat → Nat → Int32) (s : List Int32) : Prop := f 49 4 = nI s.length ∧ s.length ≤ 64 ∧ skO (f 52) s
/-- all but the stack is as it was -/
def rlS (f f2 : Nat → Nat → Int32) : Prop := (∀ b, b ≠ 49 → b ≠ 52 → f2 b = f b) ∧ ∀ i, i ≠ 4 → f2 49 i = f 49 i
theorem rlS.rf {f : Nat → Nat → Int32} : rlS f f := ⟨fun _ _ _ => rfl, fun _ _ => rfl⟩
theorem rlS.trans {f f2 f3 : Nat → Nat → Int32} (h : rlS f f2) (h2 : rlS f2 f3) : rlS f f3 := ⟨fun b g1 g2 => (h2.1 b g1 g2).trans (h.1 b g1 g2), fun i hi => (h2.2 i hi).trans (h.2 i hi)⟩
theorem skO_up {r r2 : Nat → Int32} : ∀ (s : List Int32), (∀ j, j < s.length → r2 j = r j) → skO r s → skO r2 s
  | [], _, _ => trivial
  | x :: s, h, ⟨h1, h2⟩ => ⟨(h _ (by simp)).trans h1, skO_up s (fun j hj => h j (by simp; omega)) h2⟩
theorem k_push (d : Nat) (sw : Bool) (f : Nat → Nat → Int32) (g : Nat → Nat → Int64) (s : List Int32) (v : Int32) (hs : skF f s) (hl : s.length < 64) : CT d 0 0 iX3_push [.ref 49, .int v] (S sw f g) (QS (fun r sw2 f2 g2 => r = none ∧ sw2 = sw ∧ g2 = g ∧ rlS f f2 ∧ skF f2 (v :: s))) := by
  obtain ⟨h1, h2, h3⟩ := hs
  refine CT.of rfl (Nat.le_of_ble_eq_true rfl) (fun X hX hR hN _ => ?_)
  have hX : Good X RX3 cX3_push d 0 0 := hX
  have hN : x_nl X = 2 := hN
  show WP X 0 0 0 [_, _] [] _
  refine wp_aload_n hX (dk DX3_push 0 rfl) rfl ?_
  refine w_geti hX flX3_60 (dk DX3_push 1 rfl) (by decide) rfl ?_
  refine wp_bipush (v := 64) hX (dk DX3_push 2 rfl) (by decide) ?_
  rw [h1]
  refine wp_icmp_ge (tgt := 29) hX (dk DX3_push 3 rfl) (by decide) (fun h_ => absurd h_ ((nI_ge (b := 64) (by omega) (by omega)))) (fun _ => ?_)
  refine wp_aload_n hX (dk DX3_push 4 rfl) rfl ?_
  refine w_getr hX flX3_18 (dk DX3_push 5 rfl) rfl rfl ?_
  refine wp_aload_n hX (dk DX3_push 6 rfl) rfl ?_
  refine w_geti hX flX3_60 (dk DX3_push 7 rfl) (by decide) rfl ?_
  rw [h1]
  refine wp_iload_n hX (dk DX3_push 8 rfl) rfl ?_
  refine w_iast (j := _) hX (dk DX3_push 9 rfl) rfl rfl (show _ < 64 by omega) ?_
  refine wp_aload_n hX (dk DX3_push 10 rfl) rfl ?_
  refine wp_dup hX (dk DX3_push 11 rfl) rfl ?_
  refine w_geti hX flX3_60 (dk DX3_push 12 rfl) (by decide) rfl ?_
  rw [show u2 f 52 s.length v 49 4 = nI s.length from h1]
  refine wp_iconst (v := 1) hX (dk DX3_push 13 rfl) (by decide) ?_
  refine wp_iadd hX (dk DX3_push 14 rfl) ?_
  rw [nI_1]
  refine w_puti hX fpX3_60 (dk DX3_push 15 rfl) rfl ?_
  refine wp_return hX hR (dk DX3_push 16 rfl) (Nat.le_refl _) (Nat.le_refl _) ⟨sw, _, g, rfl, rfl, rfl, rfl, ⟨fun c g1 g2 => by rw [u2_ne _ _ _ g1, u2_ne _ _ _ g2], fun i hi => by rw [u2_off _ _ _ hi, u2_ne _ _ _ (by decide)]⟩, ?_, ?_, ?_⟩
  · rw [u2_at]; simp
  · simp; omega
  · rw [u2_ne _ _ _ (by decide)]
    exact ⟨u2_at _ _ _ _, skO_up s (fun j hj => u2_off _ _ _ (by omega)) h3⟩
theorem k_pop (d : Nat) (sw : Bool) (f : Nat → Nat → Int32) (g : Nat → Nat → Int64) (s : List Int32) (v : Int32) (hs : skF f (v :: s)) : CT d 0 0 iX3_pop [.ref 49] (S sw f g) (QS (fun r sw2 f2 g2 => r = some (.int v) ∧ sw2 = sw ∧ g2 = g ∧ rlS f f2 ∧ skF f2 s)) := by
  obtain ⟨h1, h2, h3, h4⟩ := hs
  simp only [List.length_cons] at h1 h2
  refine CT.of rfl (Nat.le_of_ble_eq_true rfl) (fun X hX hR hN _ => ?_)
  have hX : Good X RX3 cX3_pop d 0 0 := hX
  have hN : x_nl X = 1 := hN
  show WP X 0 0 0 [_] [] _
  refine wp_aload_n hX (dk DX3_pop 0 rfl) rfl ?_
  refine w_geti hX flX3_60 (dk DX3_pop 1 rfl) (by decide) rfl ?_
  rw [h1]
  refine wp_if_gt (tgt := 9) hX (dk DX3_pop 2 rfl) (by decide) (fun _ => ?_) (fun h_ => absurd ((Int32.not_le.mp (nI_nle (by omega) (by omega)))) h_)
  refine wp_aload_n hX (dk DX3_pop 5 rfl) rfl ?_
  refine wp_dup hX (dk DX3_pop 6 rfl) rfl ?_
  refine w_geti hX flX3_60 (dk DX3_pop 7 rfl) (by decide) rfl ?_
  rw [h1]
  refine wp_iconst (v := 1) hX (dk DX3_pop 8 rfl) (by decide) ?_
  refine wp_isub hX (dk DX3_pop 9 rfl) ?_
  rw [nI_pred]
  refine w_puti hX fpX3_60 (dk DX3_pop 10 rfl) rfl ?_
  refine wp_aload_n hX (dk DX3_pop 11 rfl) rfl ?_
  refine w_getr hX flX3_18 (dk DX3_pop 12 rfl) rfl rfl ?_
  refine wp_aload_n hX (dk DX3_pop 13 rfl) rfl ?_
  refine w_geti hX flX3_60 (dk DX3_pop 14 rfl) (by decide) rfl ?_
  rw [u2_at]
  refine w_iald (j := _) hX (dk DX3_pop 15 rfl) rfl rfl (show _ < 64 by omega) ?_
  rw [u2_ne _ _ _ (by decide), h3]
  refine wp_ireturn hX hR (dk DX3_pop 16 rfl) rfl (Nat.le_refl _) (Nat.le_refl _) ⟨sw, _, g, rfl, rfl, rfl, rfl, ⟨fun c g1 g2 => by rw [u2_ne _ _ _ g1], fun i hi => u2_off _ _ _ hi⟩, u2_at _ _ _ _, by omega, ?_⟩
  rw [u2_ne _ _ _ (by decide)]
  exact h4
theorem k_truth (d : Nat) (x : Int32) (M : mM) : CT d 0 0 iX3_truth [.int x] M (QR (some (.int (if x = 0 then 0 else 1))) M) := by
  refine CT.of rfl (Nat.le_of_ble_eq_true rfl) (fun X hX hR hN _ => ?_)
  have hX : Good X RX3 cX3_truth d 0 0 := hX
  have hN : x_nl X = 1 := hN
  show WP X 0 0 0 [_] [] _
  refine wp_iload_n hX (dk DX3_truth 0 rfl) rfl ?_
  refine wp_if_eq (tgt := 8) hX (dk DX3_truth 1 rfl) (by decide) (fun h1 => ?_) (fun h1 => ?_)
  · refine wp_iconst (v := 0) hX (dk DX3_truth 4 rfl) (by decide) ?_
    exact wp_ireturn hX hR (dk DX3_truth 5 rfl) rfl (Nat.le_refl _) (Nat.le_refl _) (⟨by simp only [h1, if_true, if_false], rfl⟩)
  · refine wp_iconst (v := 1) hX (dk DX3_truth 2 rfl) (by decide) ?_
    refine wp_goto (tgt := 9) hX (dk DX3_truth 3 rfl) (by decide) ?_
    exact wp_ireturn hX hR (dk DX3_truth 5 rfl) rfl (Nat.le_refl _) (Nat.le_refl _) (⟨by simp only [h1, if_true, if_false], rfl⟩)
/-- a sign between two, by the class's number of it -/
def jsg (k : Nat) : Nat := [0, 0, 0, 0, 0, 0, 124, 38, 60, 61, 62, 43, 45, 42, 47, 37].getD k 0
theorem k_join (d : Nat) (sw : Bool) (f : Nat → Nat → Int32) (g : Nat → Nat → Int64) (k : Nat) (x y : Int32) (h6 : 6 ≤ k) (h16 : k < 16) : CT (d + 1) 0 0 iX3_join [.int (nI (jsg k)), .int x, .int y] (S sw f g) (QR (some (.int (jop k x y))) (S sw f g)) := by
  refine CT.of rfl (Nat.le_of_ble_eq_true rfl) (fun X hX hR hN _ => ?_)
  have hX : Good X RX3 cX3_join (d + 1) 0 0 := hX
  have hN : x_nl X = 3 := hN
  show WP X 0 0 0 [_, _, _] [] _
  have hk : k = 6 ∨ k = 7 ∨ k = 8 ∨ k = 9 ∨ k = 10 ∨ k = 11 ∨ k = 12 ∨ k = 13 ∨ k = 14 ∨ k = 15 := by omega
  refine wp_iload_n hX (dk DX3_join 0 rfl) rfl ?_
  rcases hk with rfl | rfl | rfl | rfl | rfl | rfl | rfl | rfl | rfl | rfl
  · refine wp_lookAt (c := 124) (off := 91) (tgt := 92) hX (dk DX3_join 1 rfl) (rfl) (by decide) (by decide) (by decide) ?_
    refine wp_iload_n hX (dk DX3_join 2 rfl) rfl ?_
    refine wp_if_ne (tgt := 100) hX (dk DX3_join 3 rfl) (by decide) (fun h93 => ?_) (fun h93 => ?_)
    · refine wp_iconst (v := 1) hX (dk DX3_join 6 rfl) (by decide) ?_
      refine wp_goto (tgt := 105) hX (dk DX3_join 7 rfl) (by decide) ?_
      refine w_callS (As := [_]) lkX3_73 hX (dk DX3_join 9 rfl) rfl (by decide) (k_truth d _ _) ?_
      show WP _ _ _ 108 [_, _, _] [_] _
      exact wp_ireturn hX hR (dk DX3_join 10 rfl) rfl (Nat.le_refl _) (Nat.le_refl _) (⟨by simp [jop, h93], rfl⟩)
    · refine wp_iload_n hX (dk DX3_join 4 rfl) rfl ?_
      refine wp_if_eq (tgt := 104) hX (dk DX3_join 5 rfl) (by decide) (fun h97 => ?_) (fun h97 => ?_)
      · refine wp_iconst (v := 0) hX (dk DX3_join 8 rfl) (by decide) ?_
        refine w_callS (As := [_]) lkX3_73 hX (dk DX3_join 9 rfl) rfl (by decide) (k_truth d _ _) ?_
        show WP _ _ _ 108 [_, _, _] [_] _
        exact wp_ireturn hX hR (dk DX3_join 10 rfl) rfl (Nat.le_refl _) (Nat.le_refl _) (⟨by simp [jop, h93, h97], rfl⟩)
      · refine wp_iconst (v := 1) hX (dk DX3_join 6 rfl) (by decide) ?_
        refine wp_goto (tgt := 105) hX (dk DX3_join 7 rfl) (by decide) ?_
        refine w_callS (As := [_]) lkX3_73 hX (dk DX3_join 9 rfl) rfl (by decide) (k_truth d _ _) ?_
        show WP _ _ _ 108 [_, _, _] [_] _
        exact wp_ireturn hX hR (dk DX3_join 10 rfl) rfl (Nat.le_refl _) (Nat.le_refl _) (⟨by simp [jop, h93, h97], rfl⟩)
  · refine wp_lookAt (c := 38) (off := 108) (tgt := 109) hX (dk DX3_join 1 rfl) (rfl) (by decide) (by decide) (by decide) ?_
    refine wp_iload_n hX (dk DX3_join 11 rfl) rfl ?_
    refine wp_if_eq (tgt := 121) hX (dk DX3_join 12 rfl) (by decide) (fun h110 => ?_) (fun h110 => ?_)
    · refine wp_iconst (v := 0) hX (dk DX3_join 17 rfl) (by decide) ?_
      refine w_callS (As := [_]) lkX3_73 hX (dk DX3_join 18 rfl) rfl (by decide) (k_truth d _ _) ?_
      show WP _ _ _ 125 [_, _, _] [_] _
      exact wp_ireturn hX hR (dk DX3_join 19 rfl) rfl (Nat.le_refl _) (Nat.le_refl _) (⟨by simp [jop, h110], rfl⟩)
    · refine wp_iload_n hX (dk DX3_join 13 rfl) rfl ?_
      refine wp_if_eq (tgt := 121) hX (dk DX3_join 14 rfl) (by decide) (fun h114 => ?_) (fun h114 => ?_)
      · refine wp_iconst (v := 0) hX (dk DX3_join 17 rfl) (by decide) ?_
        refine w_callS (As := [_]) lkX3_73 hX (dk DX3_join 18 rfl) rfl (by decide) (k_truth d _ _) ?_
        show WP _ _ _ 125 [_, _, _] [_] _
        exact wp_ireturn hX hR (dk DX3_join 19 rfl) rfl (Nat.le_refl _) (Nat.le_refl _) (⟨by simp [jop, h110, h114], rfl⟩)
      · refine wp_iconst (v := 1) hX (dk DX3_join 15 rfl) (by decide) ?_
        refine wp_goto (tgt := 122) hX (dk DX3_join 16 rfl) (by decide) ?_
        refine w_callS (As := [_]) lkX3_73 hX (dk DX3_join 18 rfl) rfl (by decide) (k_truth d _ _) ?_
        show WP _ _ _ 125 [_, _, _] [_] _
        exact wp_ireturn hX hR (dk DX3_join 19 rfl) rfl (Nat.le_refl _) (Nat.le_refl _) (⟨by simp [jop, h110, h114], rfl⟩)
  · refine wp_lookAt (c := 60) (off := 125) (tgt := 126) hX (dk DX3_join 1 rfl) (rfl) (by decide) (by decide) (by decide) ?_
    refine wp_iload_n hX (dk DX3_join 20 rfl) rfl ?_
    refine wp_iload_n hX (dk DX3_join 21 rfl) rfl ?_
    refine wp_icmp_ge (tgt := 135) hX (dk DX3_join 22 rfl) (by decide) (fun h128 => ?_) (fun h128 => ?_)
    · refine wp_iconst (v := 0) hX (dk DX3_join 25 rfl) (by decide) ?_
      refine w_callS (As := [_]) lkX3_73 hX (dk DX3_join 26 rfl) rfl (by decide) (k_truth d _ _) ?_
      show WP _ _ _ 139 [_, _, _] [_] _
      exact wp_ireturn hX hR (dk DX3_join 27 rfl) rfl (Nat.le_refl _) (Nat.le_refl _) (⟨by simp [jop, h128, ← Int32.not_le], rfl⟩)
    · refine wp_iconst (v := 1) hX (dk DX3_join 23 rfl) (by decide) ?_
      refine wp_goto (tgt := 136) hX (dk DX3_join 24 rfl) (by decide) ?_
      refine w_callS (As := [_]) lkX3_73 hX (dk DX3_join 26 rfl) rfl (by decide) (k_truth d _ _) ?_
      show WP _ _ _ 139 [_, _, _] [_] _
      exact wp_ireturn hX hR (dk DX3_join 27 rfl) rfl (Nat.le_refl _) (Nat.le_refl _) (⟨by simp [jop, h128, ← Int32.not_le], rfl⟩)
  · refine wp_lookAt (c := 61) (off := 139) (tgt := 140) hX (dk DX3_join 1 rfl) (rfl) (by decide) (by decide) (by decide) ?_
    refine wp_iload_n hX (dk DX3_join 28 rfl) rfl ?_
    refine wp_iload_n hX (dk DX3_join 29 rfl) rfl ?_
    refine wp_icmp_ne (tgt := 149) hX (dk DX3_join 30 rfl) (by decide) (fun h142 => ?_) (fun h142 => ?_)
    · refine wp_iconst (v := 0) hX (dk DX3_join 33 rfl) (by decide) ?_
      refine w_callS (As := [_]) lkX3_73 hX (dk DX3_join 34 rfl) rfl (by decide) (k_truth d _ _) ?_
      show WP _ _ _ 153 [_, _, _] [_] _
      exact wp_ireturn hX hR (dk DX3_join 35 rfl) rfl (Nat.le_refl _) (Nat.le_refl _) (⟨by simp [jop, h142], rfl⟩)
    · refine wp_iconst (v := 1) hX (dk DX3_join 31 rfl) (by decide) ?_
      refine wp_goto (tgt := 150) hX (dk DX3_join 32 rfl) (by decide) ?_
      refine w_callS (As := [_]) lkX3_73 hX (dk DX3_join 34 rfl) rfl (by decide) (k_truth d _ _) ?_
      show WP _ _ _ 153 [_, _, _] [_] _
      exact wp_ireturn hX hR (dk DX3_join 35 rfl) rfl (Nat.le_refl _) (Nat.le_refl _) (⟨by simp [jop, h142], rfl⟩)
  · refine wp_lookAt (c := 62) (off := 153) (tgt := 154) hX (dk DX3_join 1 rfl) (rfl) (by decide) (by decide) (by decide) ?_
    refine wp_iload_n hX (dk DX3_join 36 rfl) rfl ?_
    refine wp_iload_n hX (dk DX3_join 37 rfl) rfl ?_
    refine wp_icmp_le (tgt := 163) hX (dk DX3_join 38 rfl) (by decide) (fun h156 => ?_) (fun h156 => ?_)
    · refine wp_iconst (v := 0) hX (dk DX3_join 41 rfl) (by decide) ?_
      refine w_callS (As := [_]) lkX3_73 hX (dk DX3_join 42 rfl) rfl (by decide) (k_truth d _ _) ?_
      show WP _ _ _ 167 [_, _, _] [_] _
      exact wp_ireturn hX hR (dk DX3_join 43 rfl) rfl (Nat.le_refl _) (Nat.le_refl _) (⟨by simp [jop, h156, ← Int32.not_le], rfl⟩)
    · refine wp_iconst (v := 1) hX (dk DX3_join 39 rfl) (by decide) ?_
      refine wp_goto (tgt := 164) hX (dk DX3_join 40 rfl) (by decide) ?_
      refine w_callS (As := [_]) lkX3_73 hX (dk DX3_join 42 rfl) rfl (by decide) (k_truth d _ _) ?_
      show WP _ _ _ 167 [_, _, _] [_] _
      exact wp_ireturn hX hR (dk DX3_join 43 rfl) rfl (Nat.le_refl _) (Nat.le_refl _) (⟨by simp [jop, h156, ← Int32.not_le], rfl⟩)
  · refine wp_lookAt (c := 43) (off := 167) (tgt := 168) hX (dk DX3_join 1 rfl) (rfl) (by decide) (by decide) (by decide) ?_
    refine wp_iload_n hX (dk DX3_join 44 rfl) rfl ?_
    refine wp_iload_n hX (dk DX3_join 45 rfl) rfl ?_
    refine wp_iadd hX (dk DX3_join 46 rfl) ?_
    exact wp_ireturn hX hR (dk DX3_join 47 rfl) rfl (Nat.le_refl _) (Nat.le_refl _) (⟨rfl, rfl⟩)
  · refine wp_lookAt (c := 45) (off := 171) (tgt := 172) hX (dk DX3_join 1 rfl) (rfl) (by decide) (by decide) (by decide) ?_
    refine wp_iload_n hX (dk DX3_join 48 rfl) rfl ?_
    refine wp_iload_n hX (dk DX3_join 49 rfl) rfl ?_
    refine wp_isub hX (dk DX3_join 50 rfl) ?_
    exact wp_ireturn hX hR (dk DX3_join 51 rfl) rfl (Nat.le_refl _) (Nat.le_refl _) (⟨rfl, rfl⟩)
  · refine wp_lookAt (c := 42) (off := 175) (tgt := 176) hX (dk DX3_join 1 rfl) (rfl) (by decide) (by decide) (by decide) ?_
    refine wp_iload_n hX (dk DX3_join 52 rfl) rfl ?_
    refine wp_iload_n hX (dk DX3_join 53 rfl) rfl ?_
    refine wp_imul hX (dk DX3_join 54 rfl) ?_
    exact wp_ireturn hX hR (dk DX3_join 55 rfl) rfl (Nat.le_refl _) (Nat.le_refl _) (⟨rfl, rfl⟩)
  · refine wp_lookAt (c := 47) (off := 179) (tgt := 180) hX (dk DX3_join 1 rfl) (rfl) (by decide) (by decide) (by decide) ?_
    refine wp_iload_n hX (dk DX3_join 56 rfl) rfl ?_
    refine wp_if_ne (tgt := 188) hX (dk DX3_join 57 rfl) (by decide) (fun h181 => ?_) (fun h181 => ?_)
    · refine wp_iload_n hX (dk DX3_join_1 0 rfl) rfl ?_
      refine wp_iload_n hX (dk DX3_join_1 1 rfl) rfl ?_
      refine wp_idiv hX (dk DX3_join_1 2 rfl) h181 ?_
      exact wp_ireturn hX hR (dk DX3_join_1 3 rfl) rfl (Nat.le_refl _) (Nat.le_refl _) (⟨by simp [jop, h181], rfl⟩)
    · refine wp_iconst (v := 0) hX (dk DX3_join 58 rfl) (by decide) ?_
      refine wp_goto (tgt := 191) hX (dk DX3_join 59 rfl) (by decide) ?_
      exact wp_ireturn hX hR (dk DX3_join_1 3 rfl) rfl (Nat.le_refl _) (Nat.le_refl _) (⟨by simp [jop, h181], rfl⟩)
  · refine wp_lookAt (c := 37) (off := 191) (tgt := 192) hX (dk DX3_join 1 rfl) (rfl) (by decide) (by decide) (by decide) ?_
    refine wp_iload_n hX (dk DX3_join_1 4 rfl) rfl ?_
    refine wp_if_ne (tgt := 200) hX (dk DX3_join_1 5 rfl) (by decide) (fun h193 => ?_) (fun h193 => ?_)
    · refine wp_iload_n hX (dk DX3_join_1 8 rfl) rfl ?_
      refine wp_iload_n hX (dk DX3_join_1 9 rfl) rfl ?_
      refine wp_irem hX (dk DX3_join_1 10 rfl) h193 ?_
      exact wp_ireturn hX hR (dk DX3_join_1 11 rfl) rfl (Nat.le_refl _) (Nat.le_refl _) (⟨by simp [jop, h193], rfl⟩)
    · refine wp_iconst (v := 0) hX (dk DX3_join_1 6 rfl) (by decide) ?_
      refine wp_goto (tgt := 203) hX (dk DX3_join_1 7 rfl) (by decide) ?_
      exact wp_ireturn hX hR (dk DX3_join_1 11 rfl) rfl (Nat.le_refl _) (Nat.le_refl _) (⟨by simp [jop, h193], rfl⟩)
end
